theorem dX5_clear_33 : decode cX5_clear 33 = .ok (.istore 5, 2) := by decide +kernel
theorem dX5_clear_35 : decode cX5_clear 35 = .ok (.iload 5, 2) := by decide +kernel
theorem dX5_clear_37 : decode cX5_clear 37 = .ok (.bipush 30, 2) := by decide +kernel
theorem dX5_clear_39 : decode cX5_clear 39 = .ok (.if_icmp .ge 71, 3) := by decide +kernel
theorem dX5_clear_42 : decode cX5_clear 42 = .ok (.iload_n 2, 1) := by decide +kernel
theorem dX5_clear_43 : decode cX5_clear 43 = .ok (.iload 5, 2) := by decide +kernel
theorem dX5_clear_45 : decode cX5_clear 45 = .ok (.ishr, 1) := by decide +kernel
theorem dX5_clear_46 : decode cX5_clear 46 = .ok (.iconst 1, 1) := by decide +kernel
theorem dX5_clear_47 : decode cX5_clear 47 = .ok (.iand, 1) := by decide +kernel
theorem dX5_clear_48 : decode cX5_clear 48 = .ok (.iconst 1, 1) := by decide +kernel
theorem dX5_clear_49 : decode cX5_clear 49 = .ok (.if_icmp .ne 55, 3) := by decide +kernel
theorem dX5_clear_52 : decode cX5_clear 52 = .ok (.aload_n 0, 1) := by decide +kernel
theorem dX5_clear_53 : decode cX5_clear 53 = .ok (.getfield 7, 3) := by decide +kernel
theorem dX5_clear_56 : decode cX5_clear 56 = .ok (.iconst 2, 1) := by decide +kernel
theorem dX5_clear_57 : decode cX5_clear 57 = .ok (.iload_n 2, 1) := by decide +kernel
theorem dX5_clear_58 : decode cX5_clear 58 = .ok (.iconst 1, 1) := by decide +kernel
theorem dX5_clear_59 : decode cX5_clear 59 = .ok (.iload 5, 2) := by decide +kernel
theorem dX5_clear_61 : decode cX5_clear 61 = .ok (.ishl, 1) := by decide +kernel
theorem dX5_clear_62 : decode cX5_clear 62 = .ok (.iconst (-1), 1) := by decide +kernel
theorem dX5_clear_63 : decode cX5_clear 63 = .ok (.ixor, 1) := by decide +kernel
theorem dX5_clear_64 : decode cX5_clear 64 = .ok (.iand, 1) := by decide +kernel
theorem dX5_clear_65 : decode cX5_clear 65 = .ok (.iastore, 1) := by decide +kernel
theorem dX5_clear_66 : decode cX5_clear 66 = .ok (.aload_n 0, 1) := by decide +kernel
theorem dX5_clear_67 : decode cX5_clear 67 = .ok (.iconst (-1), 1) := by decide +kernel
theorem dX5_clear_68 : decode cX5_clear 68 = .ok (.iload_n 1, 1) := by decide +kernel
theorem dX5_clear_69 : decode cX5_clear 69 = .ok (.invokevirtual 162, 3) := by decide +kernel
theorem dX5_clear_72 : decode cX5_clear 72 = .ok (.istore 6, 2) := by decide +kernel
theorem dX5_clear_74 : decode cX5_clear 74 = .ok (.iload 6, 2) := by decide +kernel
theorem dX5_clear_76 : decode cX5_clear 76 = .ok (.iload 4, 2) := by decide +kernel
theorem dX5_clear_78 : decode cX5_clear 78 = .ok (.if_icmp .ge 8, 3) := by decide +kernel
theorem dX5_clear_81 : decode cX5_clear 81 = .ok (.iload 5, 2) := by decide +kernel
theorem dX5_clear_83 : decode cX5_clear 83 = .ok (.goto 4, 3) := by decide +kernel
theorem dX5_clear_86 : decode cX5_clear 86 = .ok (.iload_n 3, 1) := by decide +kernel
theorem dX5_clear_87 : decode cX5_clear 87 = .ok (.istore_n 3, 1) := by decide +kernel
theorem dX5_clear_88 : decode cX5_clear 88 = .ok (.iload 6, 2) := by decide +kernel
theorem dX5_clear_90 : decode cX5_clear 90 = .ok (.iload 4, 2) := by decide +kernel
theorem dX5_clear_92 : decode cX5_clear 92 = .ok (.if_icmp .ge 8, 3) := by decide +kernel
theorem dX5_clear_95 : decode cX5_clear 95 = .ok (.iload 6, 2) := by decide +kernel
theorem dX5_clear_97 : decode cX5_clear 97 = .ok (.goto 5, 3) := by decide +kernel
theorem dX5_clear_100 : decode cX5_clear 100 = .ok (.iload 4, 2) := by decide +kernel
theorem dX5_clear_102 : decode cX5_clear 102 = .ok (.istore 4, 2) := by decide +kernel
theorem dX5_clear_104 : decode cX5_clear 104 = .ok (.iinc 5 1, 3) := by decide +kernel
theorem dX5_clear_107 : decode cX5_clear 107 = .ok (.goto (-72), 3) := by decide +kernel
theorem dX5_clear_110 : decode cX5_clear 110 = .ok (.aload_n 0, 1) := by decide +kernel
theorem dX5_clear_111 : decode cX5_clear 111 = .ok (.getfield 7, 3) := by decide +kernel
theorem dX5_clear_114 : decode cX5_clear 114 = .ok (.iconst 2, 1) := by decide +kernel
theorem dX5_clear_115 : decode cX5_clear 115 = .ok (.iload_n 2, 1) := by decide +kernel
theorem dX5_clear_116 : decode cX5_clear 116 = .ok (.iastore, 1) := by decide +kernel
theorem dX5_clear_117 : decode cX5_clear 117 = .ok (.iload_n 3, 1) := by decide +kernel
theorem dX5_clear_118 : decode cX5_clear 118 = .ok (.ifCond .ge 12, 3) := by decide +kernel
theorem dX5_clear_121 : decode cX5_clear 121 = .ok (.aload_n 0, 1) := by decide +kernel
theorem dX5_clear_122 : decode cX5_clear 122 = .ok (.ldc 165, 2) := by decide +kernel
theorem dX5_clear_124 : decode cX5_clear 124 = .ok (.invokevirtual 66, 3) := by decide +kernel
theorem dX5_clear_127 : decode cX5_clear 127 = .ok (.goto 4, 3) := by decide +kernel
theorem dX5_clear_130 : decode cX5_clear 130 = .ok (.iload_n 3, 1) := by decide +kernel
theorem dX5_clear_131 : decode cX5_clear 131 = .ok (.ireturn, 1) := by decide +kernel
theorem dX5_nerve_0 : decode cX5_nerve 0 = .ok (.aload_n 0, 1) := by decide +kernel
theorem dX5_nerve_1 : decode cX5_nerve 1 = .ok (.iload_n 1, 1) := by decide +kernel
theorem dX5_nerve_2 : decode cX5_nerve 2 = .ok (.invokevirtual 69, 3) := by decide +kernel
theorem dX5_nerve_5 : decode cX5_nerve 5 = .ok (.ifCond .eq 10, 3) := by decide +kernel
theorem dX5_nerve_8 : decode cX5_nerve 8 = .ok (.iload_n 2, 1) := by decide +kernel
theorem dX5_nerve_9 : decode cX5_nerve 9 = .ok (.invokestatic 172, 3) := by decide +kernel
theorem dX5_nerve_12 : decode cX5_nerve 12 = .ok (.ifCond .ne 10, 3) := by decide +kernel
theorem dX5_nerve_15 : decode cX5_nerve 15 = .ok (.aload_n 0, 1) := by decide +kernel
theorem dX5_nerve_16 : decode cX5_nerve 16 = .ok (.ldc 41, 2) := by decide +kernel
theorem dX5_nerve_18 : decode cX5_nerve 18 = .ok (.invokevirtual 66, 3) := by decide +kernel
theorem dX5_nerve_21 : decode cX5_nerve 21 = .ok (.ireturn, 1) := by decide +kernel
theorem dX5_nerve_22 : decode cX5_nerve 22 = .ok (.iload_n 1, 1) := by decide +kernel
theorem dX5_nerve_23 : decode cX5_nerve 23 = .ok (.iconst 3, 1) := by decide +kernel
theorem dX5_nerve_24 : decode cX5_nerve 24 = .ok (.invokestatic 42, 3) := by decide +kernel
theorem dX5_nerve_27 : decode cX5_nerve 27 = .ok (.istore_n 3, 1) := by decide +kernel
theorem dX5_nerve_28 : decode cX5_nerve 28 = .ok (.aload_n 0, 1) := by decide +kernel
theorem dX5_nerve_29 : decode cX5_nerve 29 = .ok (.getfield 7, 3) := by decide +kernel
theorem dX5_nerve_32 : decode cX5_nerve 32 = .ok (.iload_n 3, 1) := by decide +kernel
theorem dX5_nerve_33 : decode cX5_nerve 33 = .ok (.iaload, 1) := by decide +kernel
theorem dX5_nerve_34 : decode cX5_nerve 34 = .ok (.istore 4, 2) := by decide +kernel
theorem dX5_nerve_36 : decode cX5_nerve 36 = .ok (.aload_n 0, 1) := by decide +kernel
theorem dX5_nerve_37 : decode cX5_nerve 37 = .ok (.iload_n 1, 1) := by decide +kernel
theorem dX5_nerve_38 : decode cX5_nerve 38 = .ok (.iconst 2, 1) := by decide +kernel
theorem dX5_nerve_39 : decode cX5_nerve 39 = .ok (.invokevirtual 54, 3) := by decide +kernel
theorem dX5_nerve_42 : decode cX5_nerve 42 = .ok (.istore 5, 2) := by decide +kernel
theorem dX5_nerve_44 : decode cX5_nerve 44 = .ok (.iconst (-1), 1) := by decide +kernel
theorem dX5_nerve_45 : decode cX5_nerve 45 = .ok (.istore 6, 2) := by decide +kernel
theorem dX5_nerve_47 : decode cX5_nerve 47 = .ok (.iconst 0, 1) := by decide +kernel
theorem dX5_nerve_48 : decode cX5_nerve 48 = .ok (.istore 7, 2) := by decide +kernel
theorem dX5_nerve_50 : decode cX5_nerve 50 = .ok (.iload 7, 2) := by decide +kernel
theorem dX5_nerve_52 : decode cX5_nerve 52 = .ok (.bipush 99, 2) := by decide +kernel
theorem dX5_nerve_54 : decode cX5_nerve 54 = .ok (.if_icmp .gt 45, 3) := by decide +kernel
theorem dX5_nerve_57 : decode cX5_nerve 57 = .ok (.iload 6, 2) := by decide +kernel
theorem dX5_nerve_59 : decode cX5_nerve 59 = .ok (.ifCond .ge 40, 3) := by decide +kernel
theorem dX5_nerve_62 : decode cX5_nerve 62 = .ok (.aload_n 0, 1) := by decide +kernel
theorem dX5_nerve_63 : decode cX5_nerve 63 = .ok (.getfield 7, 3) := by decide +kernel
theorem dX5_nerve_66 : decode cX5_nerve 66 = .ok (.iload_n 3, 1) := by decide +kernel
theorem dX5_nerve_67 : decode cX5_nerve 67 = .ok (.iload 7, 2) := by decide +kernel
theorem dX5_nerve_69 : decode cX5_nerve 69 = .ok (.iastore, 1) := by decide +kernel
theorem dX5_nerve_70 : decode cX5_nerve 70 = .ok (.aload_n 0, 1) := by decide +kernel
theorem dX5_nerve_71 : decode cX5_nerve 71 = .ok (.iload_n 1, 1) := by decide +kernel
theorem dX5_nerve_72 : decode cX5_nerve 72 = .ok (.iconst 2, 1) := by decide +kernel
theorem dX5_nerve_73 : decode cX5_nerve 73 = .ok (.invokestatic 42, 3) := by decide +kernel
theorem dX5_nerve_76 : decode cX5_nerve 76 = .ok (.iload_n 2, 1) := by decide +kernel
theorem dX5_nerve_77 : decode cX5_nerve 77 = .ok (.invokevirtual 162, 3) := by decide +kernel
theorem dX5_nerve_80 : decode cX5_nerve 80 = .ok (.iload 5, 2) := by decide +kernel
theorem dX5_nerve_82 : decode cX5_nerve 82 = .ok (.if_icmp .ne 8, 3) := by decide +kernel
theorem dX5_nerve_85 : decode cX5_nerve 85 = .ok (.iload 7, 2) := by decide +kernel
theorem dX5_nerve_87 : decode cX5_nerve 87 = .ok (.goto 4, 3) := by decide +kernel
theorem dX5_nerve_90 : decode cX5_nerve 90 = .ok (.iconst (-1), 1) := by decide +kernel
theorem dX5_nerve_91 : decode cX5_nerve 91 = .ok (.istore 6, 2) := by decide +kernel
theorem dX5_nerve_93 : decode cX5_nerve 93 = .ok (.iinc 7 1, 3) := by decide +kernel
theorem dX5_nerve_96 : decode cX5_nerve 96 = .ok (.goto (-46), 3) := by decide +kernel
theorem dX5_nerve_99 : decode cX5_nerve 99 = .ok (.aload_n 0, 1) := by decide +kernel
theorem dX5_nerve_100 : decode cX5_nerve 100 = .ok (.getfield 7, 3) := by decide +kernel
theorem dX5_nerve_103 : decode cX5_nerve 103 = .ok (.iload_n 3, 1) := by decide +kernel
theorem dX5_nerve_104 : decode cX5_nerve 104 = .ok (.iload 4, 2) := by decide +kernel
theorem dX5_nerve_106 : decode cX5_nerve 106 = .ok (.iastore, 1) := by decide +kernel
theorem dX5_nerve_107 : decode cX5_nerve 107 = .ok (.iload 6, 2) := by decide +kernel
theorem dX5_nerve_109 : decode cX5_nerve 109 = .ok (.ifCond .ge 12, 3) := by decide +kernel
theorem dX5_nerve_112 : decode cX5_nerve 112 = .ok (.aload_n 0, 1) := by decide +kernel
theorem dX5_nerve_113 : decode cX5_nerve 113 = .ok (.ldc 165, 2) := by decide +kernel
theorem dX5_nerve_115 : decode cX5_nerve 115 = .ok (.invokevirtual 66, 3) := by decide +kernel
theorem dX5_nerve_118 : decode cX5_nerve 118 = .ok (.goto 5, 3) := by decide +kernel
theorem dX5_nerve_121 : decode cX5_nerve 121 = .ok (.iload 6, 2) := by decide +kernel
theorem dX5_nerve_123 : decode cX5_nerve 123 = .ok (.ireturn, 1) := by decide +kernel
theorem dX5_worst_0 : decode cX5_worst 0 = .ok (.iload_n 1, 1) := by decide +kernel
theorem dX5_worst_1 : decode cX5_worst 1 = .ok (.invokestatic 159, 3) := by decide +kernel
theorem dX5_worst_4 : decode cX5_worst 4 = .ok (.ifCond .ne 10, 3) := by decide +kernel
theorem dX5_worst_7 : decode cX5_worst 7 = .ok (.aload_n 0, 1) := by decide +kernel
theorem dX5_worst_8 : decode cX5_worst 8 = .ok (.ldc 41, 2) := by decide +kernel
theorem dX5_worst_10 : decode cX5_worst 10 = .ok (.invokevirtual 66, 3) := by decide +kernel
theorem dX5_worst_13 : decode cX5_worst 13 = .ok (.ireturn, 1) := by decide +kernel
theorem dX5_worst_14 : decode cX5_worst 14 = .ok (.aload_n 0, 1) := by decide +kernel
theorem dX5_worst_15 : decode cX5_worst 15 = .ok (.getfield 7, 3) := by decide +kernel
theorem dX5_worst_18 : decode cX5_worst 18 = .ok (.iconst 1, 1) := by decide +kernel
theorem dX5_worst_19 : decode cX5_worst 19 = .ok (.iaload, 1) := by decide +kernel
theorem dX5_worst_20 : decode cX5_worst 20 = .ok (.ifCond .ne 10, 3) := by decide +kernel
theorem dX5_worst_23 : decode cX5_worst 23 = .ok (.aload_n 0, 1) := by decide +kernel
theorem dX5_worst_24 : decode cX5_worst 24 = .ok (.ldc 165, 2) := by decide +kernel
theorem dX5_worst_26 : decode cX5_worst 26 = .ok (.invokevirtual 66, 3) := by decide +kernel
theorem dX5_worst_29 : decode cX5_worst 29 = .ok (.ireturn, 1) := by decide +kernel
theorem dX5_worst_30 : decode cX5_worst 30 = .ok (.aload_n 0, 1) := by decide +kernel
theorem dX5_worst_31 : decode cX5_worst 31 = .ok (.invokevirtual 153, 3) := by decide +kernel
theorem dX5_worst_34 : decode cX5_worst 34 = .ok (.aload_n 0, 1) := by decide +kernel
theorem dX5_worst_35 : decode cX5_worst 35 = .ok (.iload_n 1, 1) := by decide +kernel
theorem dX5_worst_36 : decode cX5_worst 36 = .ok (.invokevirtual 148, 3) := by decide +kernel
theorem dX5_worst_39 : decode cX5_worst 39 = .ok (.iconst 0, 1) := by decide +kernel
theorem dX5_worst_40 : decode cX5_worst 40 = .ok (.istore_n 2, 1) := by decide +kernel
theorem dX5_worst_41 : decode cX5_worst 41 = .ok (.iconst 1, 1) := by decide +kernel
theorem dX5_worst_42 : decode cX5_worst 42 = .ok (.istore_n 3, 1) := by decide +kernel
theorem dX5_worst_43 : decode cX5_worst 43 = .ok (.iload_n 3, 1) := by decide +kernel
theorem dX5_worst_44 : decode cX5_worst 44 = .ok (.aload_n 0, 1) := by decide +kernel
theorem dX5_worst_45 : decode cX5_worst 45 = .ok (.getfield 7, 3) := by decide +kernel
theorem dX5_worst_48 : decode cX5_worst 48 = .ok (.iconst 1, 1) := by decide +kernel
theorem dX5_worst_49 : decode cX5_worst 49 = .ok (.iaload, 1) := by decide +kernel
theorem dX5_worst_50 : decode cX5_worst 50 = .ok (.if_icmp .ge 30, 3) := by decide +kernel
theorem dX5_worst_53 : decode cX5_worst 53 = .ok (.aload_n 0, 1) := by decide +kernel
theorem dX5_worst_54 : decode cX5_worst 54 = .ok (.iload_n 3, 1) := by decide +kernel
theorem dX5_worst_55 : decode cX5_worst 55 = .ok (.iconst 2, 1) := by decide +kernel
theorem dX5_worst_56 : decode cX5_worst 56 = .ok (.invokevirtual 54, 3) := by decide +kernel
theorem dX5_worst_59 : decode cX5_worst 59 = .ok (.aload_n 0, 1) := by decide +kernel
theorem dX5_worst_60 : decode cX5_worst 60 = .ok (.iload_n 2, 1) := by decide +kernel
theorem dX5_worst_61 : decode cX5_worst 61 = .ok (.iconst 2, 1) := by decide +kernel
theorem dX5_worst_62 : decode cX5_worst 62 = .ok (.invokevirtual 54, 3) := by decide +kernel
theorem dX5_worst_65 : decode cX5_worst 65 = .ok (.if_icmp .le 7, 3) := by decide +kernel
theorem dX5_worst_68 : decode cX5_worst 68 = .ok (.iload_n 3, 1) := by decide +kernel
theorem dX5_worst_69 : decode cX5_worst 69 = .ok (.goto 4, 3) := by decide +kernel
theorem dX5_worst_72 : decode cX5_worst 72 = .ok (.iload_n 2, 1) := by decide +kernel
theorem dX5_worst_73 : decode cX5_worst 73 = .ok (.istore_n 2, 1) := by decide +kernel
theorem dX5_worst_74 : decode cX5_worst 74 = .ok (.iinc 3 1, 3) := by decide +kernel
theorem dX5_worst_77 : decode cX5_worst 77 = .ok (.goto (-34), 3) := by decide +kernel
theorem dX5_worst_80 : decode cX5_worst 80 = .ok (.aload_n 0, 1) := by decide +kernel
theorem dX5_worst_81 : decode cX5_worst 81 = .ok (.iload_n 2, 1) := by decide +kernel
theorem dX5_worst_82 : decode cX5_worst 82 = .ok (.invokevirtual 156, 3) := by decide +kernel
theorem dX5_worst_85 : decode cX5_worst 85 = .ok (.ireturn, 1) := by decide +kernel
theorem dX5_feed_0 : decode cX5_feed 0 = .ok (.iload_n 2, 1) := by decide +kernel
theorem dX5_feed_1 : decode cX5_feed 1 = .ok (.i2l, 1) := by decide +kernel
theorem dX5_feed_2 : decode cX5_feed 2 = .ok (.lconst 1, 1) := by decide +kernel
theorem dX5_feed_3 : decode cX5_feed 3 = .ok (.ldc2_w 119, 3) := by decide +kernel
theorem dX5_feed_6 : decode cX5_feed 6 = .ok (.invokestatic 46, 3) := by decide +kernel
theorem dX5_feed_9 : decode cX5_feed 9 = .ok (.ifCond .ne 10, 3) := by decide +kernel
theorem dX5_feed_12 : decode cX5_feed 12 = .ok (.aload_n 0, 1) := by decide +kernel
theorem dX5_feed_13 : decode cX5_feed 13 = .ok (.ldc 41, 2) := by decide +kernel
theorem dX5_feed_15 : decode cX5_feed 15 = .ok (.invokevirtual 66, 3) := by decide +kernel
theorem dX5_feed_18 : decode cX5_feed 18 = .ok (.ireturn, 1) := by decide +kernel
theorem dX5_feed_19 : decode cX5_feed 19 = .ok (.aload_n 0, 1) := by decide +kernel
theorem dX5_feed_20 : decode cX5_feed 20 = .ok (.getfield 183, 3) := by decide +kernel
theorem dX5_feed_23 : decode cX5_feed 23 = .ok (.iload_n 2, 1) := by decide +kernel
theorem dX5_feed_24 : decode cX5_feed 24 = .ok (.iadd, 1) := by decide +kernel
theorem dX5_feed_25 : decode cX5_feed 25 = .ok (.bipush 120, 2) := by decide +kernel
theorem dX5_feed_27 : decode cX5_feed 27 = .ok (.if_icmp .le 10, 3) := by decide +kernel
theorem dX5_feed_30 : decode cX5_feed 30 = .ok (.aload_n 0, 1) := by decide +kernel
theorem dX5_feed_31 : decode cX5_feed 31 = .ok (.ldc 110, 2) := by decide +kernel
theorem dX5_feed_33 : decode cX5_feed 33 = .ok (.invokevirtual 66, 3) := by decide +kernel
theorem dX5_feed_36 : decode cX5_feed 36 = .ok (.ireturn, 1) := by decide +kernel
theorem dX5_feed_37 : decode cX5_feed 37 = .ok (.iload_n 2, 1) := by decide +kernel
theorem dX5_feed_38 : decode cX5_feed 38 = .ok (.iconst 1, 1) := by decide +kernel
theorem dX5_feed_39 : decode cX5_feed 39 = .ok (.isub, 1) := by decide +kernel
theorem dX5_feed_40 : decode cX5_feed 40 = .ok (.istore_n 3, 1) := by decide +kernel
theorem dX5_feed_41 : decode cX5_feed 41 = .ok (.iload_n 3, 1) := by decide +kernel
theorem dX5_feed_42 : decode cX5_feed 42 = .ok (.ifCond .lt 38, 3) := by decide +kernel
theorem dX5_feed_45 : decode cX5_feed 45 = .ok (.aload_n 0, 1) := by decide +kernel
theorem dX5_feed_46 : decode cX5_feed 46 = .ok (.getfield 25, 3) := by decide +kernel
theorem dX5_feed_49 : decode cX5_feed 49 = .ok (.aload_n 0, 1) := by decide +kernel
theorem dX5_feed_50 : decode cX5_feed 50 = .ok (.getfield 183, 3) := by decide +kernel
theorem dX5_feed_53 : decode cX5_feed 53 = .ok (.iload_n 1, 1) := by decide +kernel
theorem dX5_feed_54 : decode cX5_feed 54 = .ok (.bipush 8, 2) := by decide +kernel
theorem dX5_feed_56 : decode cX5_feed 56 = .ok (.iload_n 3, 1) := by decide +kernel
theorem dX5_feed_57 : decode cX5_feed 57 = .ok (.imul, 1) := by decide +kernel
theorem dX5_feed_58 : decode cX5_feed 58 = .ok (.ishr, 1) := by decide +kernel
theorem dX5_feed_59 : decode cX5_feed 59 = .ok (.sipush 255, 3) := by decide +kernel
theorem dX5_feed_62 : decode cX5_feed 62 = .ok (.iand, 1) := by decide +kernel
theorem dX5_feed_63 : decode cX5_feed 63 = .ok (.iastore, 1) := by decide +kernel
theorem dX5_feed_64 : decode cX5_feed 64 = .ok (.aload_n 0, 1) := by decide +kernel
theorem dX5_feed_65 : decode cX5_feed 65 = .ok (.dup, 1) := by decide +kernel
theorem dX5_feed_66 : decode cX5_feed 66 = .ok (.getfield 183, 3) := by decide +kernel
theorem dX5_feed_69 : decode cX5_feed 69 = .ok (.iconst 1, 1) := by decide +kernel
theorem dX5_feed_70 : decode cX5_feed 70 = .ok (.iadd, 1) := by decide +kernel
theorem dX5_feed_71 : decode cX5_feed 71 = .ok (.putfield 183, 3) := by decide +kernel
theorem dX5_feed_74 : decode cX5_feed 74 = .ok (.iinc 3 (-1), 3) := by decide +kernel
theorem dX5_feed_77 : decode cX5_feed 77 = .ok (.goto (-36), 3) := by decide +kernel
theorem dX5_feed_80 : decode cX5_feed 80 = .ok (.aload_n 0, 1) := by decide +kernel
theorem dX5_feed_81 : decode cX5_feed 81 = .ok (.getfield 183, 3) := by decide +kernel
theorem dX5_feed_84 : decode cX5_feed 84 = .ok (.ireturn, 1) := by decide +kernel
theorem dX5_wipe_0 : decode cX5_wipe 0 = .ok (.aload_n 0, 1) := by decide +kernel
theorem dX5_wipe_1 : decode cX5_wipe 1 = .ok (.getfield 183, 3) := by decide +kernel
theorem dX5_wipe_4 : decode cX5_wipe 4 = .ok (.istore_n 1, 1) := by decide +kernel
theorem dX5_wipe_5 : decode cX5_wipe 5 = .ok (.aload_n 0, 1) := by decide +kernel
theorem dX5_wipe_6 : decode cX5_wipe 6 = .ok (.iconst 0, 1) := by decide +kernel
theorem dX5_wipe_7 : decode cX5_wipe 7 = .ok (.putfield 183, 3) := by decide +kernel
theorem dX5_wipe_10 : decode cX5_wipe 10 = .ok (.iload_n 1, 1) := by decide +kernel
theorem dX5_wipe_11 : decode cX5_wipe 11 = .ok (.ireturn, 1) := by decide +kernel
theorem dX5_byteAt_0 : decode cX5_byteAt 0 = .ok (.iload_n 1, 1) := by decide +kernel
theorem dX5_byteAt_1 : decode cX5_byteAt 1 = .ok (.aload_n 0, 1) := by decide +kernel
theorem dX5_byteAt_2 : decode cX5_byteAt 2 = .ok (.getfield 183, 3) := by decide +kernel
theorem dX5_byteAt_5 : decode cX5_byteAt 5 = .ok (.if_icmp .ge 12, 3) := by decide +kernel
theorem dX5_byteAt_8 : decode cX5_byteAt 8 = .ok (.aload_n 0, 1) := by decide +kernel
theorem dX5_byteAt_9 : decode cX5_byteAt 9 = .ok (.getfield 25, 3) := by decide +kernel
theorem dX5_byteAt_12 : decode cX5_byteAt 12 = .ok (.iload_n 1, 1) := by decide +kernel
theorem dX5_byteAt_13 : decode cX5_byteAt 13 = .ok (.iaload, 1) := by decide +kernel
theorem dX5_byteAt_14 : decode cX5_byteAt 14 = .ok (.goto 4, 3) := by decide +kernel
theorem dX5_byteAt_17 : decode cX5_byteAt 17 = .ok (.iconst (-1), 1) := by decide +kernel
theorem dX5_byteAt_18 : decode cX5_byteAt 18 = .ok (.ireturn, 1) := by decide +kernel
theorem dX5_isLetter_0 : decode cX5_isLetter 0 = .ok (.iload_n 0, 1) := by decide +kernel
theorem dX5_isLetter_1 : decode cX5_isLetter 1 = .ok (.i2l, 1) := by decide +kernel
theorem dX5_isLetter_2 : decode cX5_isLetter 2 = .ok (.ldc2_w 186, 3) := by decide +kernel
theorem dX5_isLetter_5 : decode cX5_isLetter 5 = .ok (.ldc2_w 188, 3) := by decide +kernel
theorem dX5_isLetter_8 : decode cX5_isLetter 8 = .ok (.invokestatic 46, 3) := by decide +kernel
theorem dX5_isLetter_11 : decode cX5_isLetter 11 = .ok (.ireturn, 1) := by decide +kernel
theorem dX5_isDigit_0 : decode cX5_isDigit 0 = .ok (.iload_n 0, 1) := by decide +kernel
theorem dX5_isDigit_1 : decode cX5_isDigit 1 = .ok (.i2l, 1) := by decide +kernel
theorem dX5_isDigit_2 : decode cX5_isDigit 2 = .ok (.ldc2_w 190, 3) := by decide +kernel
theorem dX5_isDigit_5 : decode cX5_isDigit 5 = .ok (.ldc2_w 192, 3) := by decide +kernel
theorem dX5_isDigit_8 : decode cX5_isDigit 8 = .ok (.invokestatic 46, 3) := by decide +kernel
theorem dX5_isDigit_11 : decode cX5_isDigit 11 = .ok (.ireturn, 1) := by decide +kernel
theorem dX5_token_0 : decode cX5_token 0 = .ok (.aload_n 0, 1) := by decide +kernel
theorem dX5_token_1 : decode cX5_token 1 = .ok (.aload_n 0, 1) := by decide +kernel
theorem dX5_token_2 : decode cX5_token 2 = .ok (.getfield 194, 3) := by decide +kernel
theorem dX5_token_5 : decode cX5_token 5 = .ok (.putfield 197, 3) := by decide +kernel
theorem dX5_token_8 : decode cX5_token 8 = .ok (.aload_n 0, 1) := by decide +kernel
theorem dX5_token_9 : decode cX5_token 9 = .ok (.aload_n 0, 1) := by decide +kernel
theorem dX5_token_10 : decode cX5_token 10 = .ok (.getfield 197, 3) := by decide +kernel
theorem dX5_token_13 : decode cX5_token 13 = .ok (.invokevirtual 200, 3) := by decide +kernel
theorem dX5_token_16 : decode cX5_token 16 = .ok (.bipush 32, 2) := by decide +kernel
theorem dX5_token_18 : decode cX5_token 18 = .ok (.if_icmp .ne 16, 3) := by decide +kernel
theorem dX5_token_21 : decode cX5_token 21 = .ok (.aload_n 0, 1) := by decide +kernel
theorem dX5_token_22 : decode cX5_token 22 = .ok (.dup, 1) := by decide +kernel
theorem dX5_token_23 : decode cX5_token 23 = .ok (.getfield 197, 3) := by decide +kernel
theorem dX5_token_26 : decode cX5_token 26 = .ok (.iconst 1, 1) := by decide +kernel
theorem dX5_token_27 : decode cX5_token 27 = .ok (.iadd, 1) := by decide +kernel
theorem dX5_token_28 : decode cX5_token 28 = .ok (.putfield 197, 3) := by decide +kernel
theorem dX5_token_31 : decode cX5_token 31 = .ok (.goto (-23), 3) := by decide +kernel
theorem dX5_token_34 : decode cX5_token 34 = .ok (.aload_n 0, 1) := by decide +kernel
theorem dX5_token_35 : decode cX5_token 35 = .ok (.aload_n 0, 1) := by decide +kernel
theorem dX5_token_36 : decode cX5_token 36 = .ok (.getfield 197, 3) := by decide +kernel
theorem dX5_token_39 : decode cX5_token 39 = .ok (.invokevirtual 200, 3) := by decide +kernel
theorem dX5_token_42 : decode cX5_token 42 = .ok (.invokestatic 203, 3) := by decide +kernel
theorem dX5_token_45 : decode cX5_token 45 = .ok (.istore_n 1, 1) := by decide +kernel
theorem dX5_token_46 : decode cX5_token 46 = .ok (.aload_n 0, 1) := by decide +kernel
theorem dX5_token_47 : decode cX5_token 47 = .ok (.aload_n 0, 1) := by decide +kernel
theorem dX5_token_48 : decode cX5_token 48 = .ok (.getfield 197, 3) := by decide +kernel
theorem dX5_token_51 : decode cX5_token 51 = .ok (.invokevirtual 200, 3) := by decide +kernel
theorem dX5_token_54 : decode cX5_token 54 = .ok (.invokestatic 206, 3) := by decide +kernel
theorem dX5_token_57 : decode cX5_token 57 = .ok (.istore_n 2, 1) := by decide +kernel
theorem dX5_token_58 : decode cX5_token 58 = .ok (.aload_n 0, 1) := by decide +kernel
theorem dX5_token_59 : decode cX5_token 59 = .ok (.aload_n 0, 1) := by decide +kernel
theorem dX5_token_60 : decode cX5_token 60 = .ok (.getfield 197, 3) := by decide +kernel
theorem dX5_token_63 : decode cX5_token 63 = .ok (.aload_n 0, 1) := by decide +kernel
theorem dX5_token_64 : decode cX5_token 64 = .ok (.getfield 183, 3) := by decide +kernel
theorem dX5_token_67 : decode cX5_token 67 = .ok (.if_icmp .ge 12, 3) := by decide +kernel
theorem dX5_token_70 : decode cX5_token 70 = .ok (.aload_n 0, 1) := by decide +kernel
theorem dX5_token_71 : decode cX5_token 71 = .ok (.getfield 197, 3) := by decide +kernel
theorem dX5_token_74 : decode cX5_token 74 = .ok (.iconst 1, 1) := by decide +kernel
theorem dX5_token_75 : decode cX5_token 75 = .ok (.iadd, 1) := by decide +kernel
theorem dX5_token_76 : decode cX5_token 76 = .ok (.goto 7, 3) := by decide +kernel
theorem dX5_token_79 : decode cX5_token 79 = .ok (.aload_n 0, 1) := by decide +kernel
theorem dX5_token_80 : decode cX5_token 80 = .ok (.getfield 197, 3) := by decide +kernel
theorem dX5_token_83 : decode cX5_token 83 = .ok (.putfield 194, 3) := by decide +kernel
theorem dX5_token_86 : decode cX5_token 86 = .ok (.iload_n 1, 1) := by decide +kernel
theorem dX5_token_87 : decode cX5_token 87 = .ok (.ifCond .eq 17, 3) := by decide +kernel
theorem dX5_token_90 : decode cX5_token 90 = .ok (.aload_n 0, 1) := by decide +kernel
theorem dX5_token_91 : decode cX5_token 91 = .ok (.aload_n 0, 1) := by decide +kernel
theorem dX5_token_92 : decode cX5_token 92 = .ok (.getfield 194, 3) := by decide +kernel
theorem dX5_token_95 : decode cX5_token 95 = .ok (.invokevirtual 200, 3) := by decide +kernel
theorem dX5_token_98 : decode cX5_token 98 = .ok (.invokestatic 203, 3) := by decide +kernel
theorem dX5_token_101 : decode cX5_token 101 = .ok (.ifCond .ne 21, 3) := by decide +kernel
theorem dX5_token_104 : decode cX5_token 104 = .ok (.iload_n 2, 1) := by decide +kernel
theorem dX5_token_105 : decode cX5_token 105 = .ok (.ifCond .eq 30, 3) := by decide +kernel
theorem dX5_token_108 : decode cX5_token 108 = .ok (.aload_n 0, 1) := by decide +kernel
theorem dX5_token_109 : decode cX5_token 109 = .ok (.aload_n 0, 1) := by decide +kernel
theorem dX5_token_110 : decode cX5_token 110 = .ok (.getfield 194, 3) := by decide +kernel
theorem dX5_token_113 : decode cX5_token 113 = .ok (.invokevirtual 200, 3) := by decide +kernel
theorem dX5_token_116 : decode cX5_token 116 = .ok (.invokestatic 206, 3) := by decide +kernel
theorem dX5_token_119 : decode cX5_token 119 = .ok (.ifCond .eq 16, 3) := by decide +kernel
theorem dX5_token_122 : decode cX5_token 122 = .ok (.aload_n 0, 1) := by decide +kernel
theorem dX5_token_123 : decode cX5_token 123 = .ok (.dup, 1) := by decide +kernel
theorem dX5_token_124 : decode cX5_token 124 = .ok (.getfield 194, 3) := by decide +kernel
theorem dX5_token_127 : decode cX5_token 127 = .ok (.iconst 1, 1) := by decide +kernel
theorem dX5_token_128 : decode cX5_token 128 = .ok (.iadd, 1) := by decide +kernel
theorem dX5_token_129 : decode cX5_token 129 = .ok (.putfield 194, 3) := by decide +kernel
theorem dX5_token_132 : decode cX5_token 132 = .ok (.goto (-46), 3) := by decide +kernel
theorem dX5_token_135 : decode cX5_token 135 = .ok (.return_, 1) := by decide +kernel
theorem dX5_must_0 : decode cX5_must 0 = .ok (.aload_n 0, 1) := by decide +kernel
theorem dX5_must_1 : decode cX5_must 1 = .ok (.aload_n 0, 1) := by decide +kernel
theorem dX5_must_2 : decode cX5_must 2 = .ok (.getfield 209, 3) := by decide +kernel
theorem dX5_must_5 : decode cX5_must 5 = .ok (.ifCond .ne 7, 3) := by decide +kernel
theorem dX5_must_8 : decode cX5_must 8 = .ok (.iload_n 1, 1) := by decide +kernel
theorem dX5_must_9 : decode cX5_must 9 = .ok (.ifCond .ne 7, 3) := by decide +kernel
theorem dX5_must_12 : decode cX5_must 12 = .ok (.iconst 1, 1) := by decide +kernel
theorem dX5_must_13 : decode cX5_must 13 = .ok (.goto 4, 3) := by decide +kernel
theorem dX5_must_16 : decode cX5_must 16 = .ok (.iconst 0, 1) := by decide +kernel
theorem dX5_must_17 : decode cX5_must 17 = .ok (.putfield 209, 3) := by decide +kernel
theorem dX5_must_20 : decode cX5_must 20 = .ok (.aload_n 0, 1) := by decide +kernel
theorem dX5_must_21 : decode cX5_must 21 = .ok (.getfield 209, 3) := by decide +kernel
theorem dX5_must_24 : decode cX5_must 24 = .ok (.ifCond .ne 7, 3) := by decide +kernel
theorem dX5_must_27 : decode cX5_must 27 = .ok (.aload_n 0, 1) := by decide +kernel
theorem dX5_must_28 : decode cX5_must 28 = .ok (.invokevirtual 213, 3) := by decide +kernel
theorem dX5_must_31 : decode cX5_must 31 = .ok (.return_, 1) := by decide +kernel
theorem dX5_word_0 : decode cX5_word 0 = .ok (.lconst 0, 1) := by decide +kernel
theorem dX5_word_1 : decode cX5_word 1 = .ok (.lstore_n 1, 1) := by decide +kernel
theorem dX5_word_2 : decode cX5_word 2 = .ok (.aload_n 0, 1) := by decide +kernel
theorem dX5_word_3 : decode cX5_word 3 = .ok (.getfield 197, 3) := by decide +kernel
theorem dX5_word_6 : decode cX5_word 6 = .ok (.istore_n 3, 1) := by decide +kernel
theorem dX5_word_7 : decode cX5_word 7 = .ok (.iload_n 3, 1) := by decide +kernel
theorem dX5_word_8 : decode cX5_word 8 = .ok (.aload_n 0, 1) := by decide +kernel
theorem dX5_word_9 : decode cX5_word 9 = .ok (.getfield 194, 3) := by decide +kernel
theorem dX5_word_12 : decode cX5_word 12 = .ok (.if_icmp .ge 38, 3) := by decide +kernel
theorem dX5_word_15 : decode cX5_word 15 = .ok (.lload_n 1, 1) := by decide +kernel
theorem dX5_word_16 : decode cX5_word 16 = .ok (.ldc2_w 216, 3) := by decide +kernel
theorem dX5_word_19 : decode cX5_word 19 = .ok (.lcmp, 1) := by decide +kernel
theorem dX5_word_20 : decode cX5_word 20 = .ok (.ifCond .le 7, 3) := by decide +kernel
theorem dX5_word_23 : decode cX5_word 23 = .ok (.lload_n 1, 1) := by decide +kernel
theorem dX5_word_24 : decode cX5_word 24 = .ok (.goto 19, 3) := by decide +kernel
theorem dX5_word_27 : decode cX5_word 27 = .ok (.ldc2_w 218, 3) := by decide +kernel
theorem dX5_word_30 : decode cX5_word 30 = .ok (.lload_n 1, 1) := by decide +kernel
theorem dX5_word_31 : decode cX5_word 31 = .ok (.lmul, 1) := by decide +kernel
theorem dX5_word_32 : decode cX5_word 32 = .ok (.aload_n 0, 1) := by decide +kernel
theorem dX5_word_33 : decode cX5_word 33 = .ok (.getfield 25, 3) := by decide +kernel
theorem dX5_word_36 : decode cX5_word 36 = .ok (.iload_n 3, 1) := by decide +kernel
theorem dX5_word_37 : decode cX5_word 37 = .ok (.iaload, 1) := by decide +kernel
theorem dX5_word_38 : decode cX5_word 38 = .ok (.bipush 96, 2) := by decide +kernel
theorem dX5_word_40 : decode cX5_word 40 = .ok (.isub, 1) := by decide +kernel
theorem dX5_word_41 : decode cX5_word 41 = .ok (.i2l, 1) := by decide +kernel
theorem dX5_word_42 : decode cX5_word 42 = .ok (.ladd, 1) := by decide +kernel
theorem dX5_word_43 : decode cX5_word 43 = .ok (.lstore_n 1, 1) := by decide +kernel
theorem dX5_word_44 : decode cX5_word 44 = .ok (.iinc 3 1, 3) := by decide +kernel
theorem dX5_word_47 : decode cX5_word 47 = .ok (.goto (-40), 3) := by decide +kernel
theorem dX5_word_50 : decode cX5_word 50 = .ok (.aload_n 0, 1) := by decide +kernel
theorem dX5_word_51 : decode cX5_word 51 = .ok (.getfield 209, 3) := by decide +kernel
theorem dX5_word_54 : decode cX5_word 54 = .ok (.ifCond .ne 17, 3) := by decide +kernel
theorem dX5_word_57 : decode cX5_word 57 = .ok (.aload_n 0, 1) := by decide +kernel
theorem dX5_word_58 : decode cX5_word 58 = .ok (.aload_n 0, 1) := by decide +kernel
theorem dX5_word_59 : decode cX5_word 59 = .ok (.getfield 197, 3) := by decide +kernel
theorem dX5_word_62 : decode cX5_word 62 = .ok (.invokevirtual 200, 3) := by decide +kernel
theorem dX5_word_65 : decode cX5_word 65 = .ok (.invokestatic 203, 3) := by decide +kernel
theorem dX5_word_68 : decode cX5_word 68 = .ok (.ifCond .ne 7, 3) := by decide +kernel
theorem dX5_word_71 : decode cX5_word 71 = .ok (.lconst 0, 1) := by decide +kernel
theorem dX5_word_72 : decode cX5_word 72 = .ok (.goto 4, 3) := by decide +kernel
theorem dX5_word_75 : decode cX5_word 75 = .ok (.lload_n 1, 1) := by decide +kernel
theorem dX5_word_76 : decode cX5_word 76 = .ok (.lreturn, 1) := by decide +kernel
theorem dX5_number_0 : decode cX5_number 0 = .ok (.aload_n 0, 1) := by decide +kernel
theorem dX5_number_1 : decode cX5_number 1 = .ok (.getfield 209, 3) := by decide +kernel
theorem dX5_number_4 : decode cX5_number 4 = .ok (.ifCond .eq 4, 3) := by decide +kernel
theorem dX5_number_7 : decode cX5_number 7 = .ok (.return_, 1) := by decide +kernel
theorem dX5_number_8 : decode cX5_number 8 = .ok (.aload_n 0, 1) := by decide +kernel
theorem dX5_number_9 : decode cX5_number 9 = .ok (.aload_n 0, 1) := by decide +kernel
theorem dX5_number_10 : decode cX5_number 10 = .ok (.getfield 197, 3) := by decide +kernel
theorem dX5_number_13 : decode cX5_number 13 = .ok (.invokevirtual 200, 3) := by decide +kernel
theorem dX5_number_16 : decode cX5_number 16 = .ok (.invokestatic 206, 3) := by decide +kernel
theorem dX5_number_19 : decode cX5_number 19 = .ok (.istore_n 3, 1) := by decide +kernel
theorem dX5_number_20 : decode cX5_number 20 = .ok (.iconst 0, 1) := by decide +kernel
theorem dX5_number_21 : decode cX5_number 21 = .ok (.istore 4, 2) := by decide +kernel
theorem dX5_number_23 : decode cX5_number 23 = .ok (.aload_n 0, 1) := by decide +kernel
theorem dX5_number_24 : decode cX5_number 24 = .ok (.getfield 197, 3) := by decide +kernel
theorem dX5_number_27 : decode cX5_number 27 = .ok (.istore 5, 2) := by decide +kernel
theorem dX5_number_29 : decode cX5_number 29 = .ok (.iload 5, 2) := by decide +kernel
theorem dX5_number_31 : decode cX5_number 31 = .ok (.aload_n 0, 1) := by decide +kernel
theorem dX5_number_32 : decode cX5_number 32 = .ok (.getfield 194, 3) := by decide +kernel
theorem dX5_number_35 : decode cX5_number 35 = .ok (.if_icmp .ge 44, 3) := by decide +kernel
theorem dX5_number_38 : decode cX5_number 38 = .ok (.iload_n 3, 1) := by decide +kernel
theorem dX5_number_39 : decode cX5_number 39 = .ok (.ifCond .eq 40, 3) := by decide +kernel
theorem dX5_number_42 : decode cX5_number 42 = .ok (.iload 4, 2) := by decide +kernel
theorem dX5_number_44 : decode cX5_number 44 = .ok (.sipush 999, 3) := by decide +kernel
theorem dX5_number_47 : decode cX5_number 47 = .ok (.if_icmp .le 8, 3) := by decide +kernel
theorem dX5_number_50 : decode cX5_number 50 = .ok (.iload 4, 2) := by decide +kernel
theorem dX5_number_52 : decode cX5_number 52 = .ok (.goto 19, 3) := by decide +kernel
theorem dX5_number_55 : decode cX5_number 55 = .ok (.bipush 10, 2) := by decide +kernel
theorem dX5_number_57 : decode cX5_number 57 = .ok (.iload 4, 2) := by decide +kernel
theorem dX5_number_59 : decode cX5_number 59 = .ok (.imul, 1) := by decide +kernel
theorem dX5_number_60 : decode cX5_number 60 = .ok (.aload_n 0, 1) := by decide +kernel
theorem dX5_number_61 : decode cX5_number 61 = .ok (.getfield 25, 3) := by decide +kernel
theorem dX5_number_64 : decode cX5_number 64 = .ok (.iload 5, 2) := by decide +kernel
theorem dX5_number_66 : decode cX5_number 66 = .ok (.iaload, 1) := by decide +kernel
theorem dX5_number_67 : decode cX5_number 67 = .ok (.iadd, 1) := by decide +kernel
theorem dX5_number_68 : decode cX5_number 68 = .ok (.bipush 48, 2) := by decide +kernel
theorem dX5_number_70 : decode cX5_number 70 = .ok (.isub, 1) := by decide +kernel
theorem dX5_number_71 : decode cX5_number 71 = .ok (.istore 4, 2) := by decide +kernel
theorem dX5_number_73 : decode cX5_number 73 = .ok (.iinc 5 1, 3) := by decide +kernel
theorem dX5_number_76 : decode cX5_number 76 = .ok (.goto (-47), 3) := by decide +kernel
theorem dX5_number_79 : decode cX5_number 79 = .ok (.aload_n 0, 1) := by decide +kernel
theorem dX5_number_80 : decode cX5_number 80 = .ok (.iload 4, 2) := by decide +kernel
theorem dX5_number_82 : decode cX5_number 82 = .ok (.putfield 220, 3) := by decide +kernel
theorem dX5_number_85 : decode cX5_number 85 = .ok (.aload_n 0, 1) := by decide +kernel
theorem dX5_number_86 : decode cX5_number 86 = .ok (.iload_n 3, 1) := by decide +kernel
theorem dX5_number_87 : decode cX5_number 87 = .ok (.ifCond .eq 20, 3) := by decide +kernel
theorem dX5_number_90 : decode cX5_number 90 = .ok (.iload 4, 2) := by decide +kernel
theorem dX5_number_92 : decode cX5_number 92 = .ok (.i2l, 1) := by decide +kernel
theorem dX5_number_93 : decode cX5_number 93 = .ok (.iload_n 1, 1) := by decide +kernel
theorem dX5_number_94 : decode cX5_number 94 = .ok (.i2l, 1) := by decide +kernel
theorem dX5_number_95 : decode cX5_number 95 = .ok (.iload_n 2, 1) := by decide +kernel
theorem dX5_number_96 : decode cX5_number 96 = .ok (.i2l, 1) := by decide +kernel
theorem dX5_number_97 : decode cX5_number 97 = .ok (.invokestatic 46, 3) := by decide +kernel
theorem dX5_number_100 : decode cX5_number 100 = .ok (.ifCond .eq 7, 3) := by decide +kernel
theorem dX5_number_103 : decode cX5_number 103 = .ok (.iconst 1, 1) := by decide +kernel
theorem dX5_number_104 : decode cX5_number 104 = .ok (.goto 4, 3) := by decide +kernel
theorem dX5_number_107 : decode cX5_number 107 = .ok (.iconst 0, 1) := by decide +kernel
theorem dX5_number_108 : decode cX5_number 108 = .ok (.invokevirtual 223, 3) := by decide +kernel
theorem dX5_number_111 : decode cX5_number 111 = .ok (.return_, 1) := by decide +kernel
theorem dX5_kindHere_0 : decode cX5_kindHere 0 = .ok (.aload_n 0, 1) := by decide +kernel
theorem dX5_kindHere_1 : decode cX5_kindHere 1 = .ok (.invokevirtual 227, 3) := by decide +kernel
theorem dX5_kindHere_4 : decode cX5_kindHere 4 = .ok (.lstore_n 1, 1) := by decide +kernel
theorem dX5_kindHere_5 : decode cX5_kindHere 5 = .ok (.lload_n 1, 1) := by decide +kernel
theorem dX5_kindHere_6 : decode cX5_kindHere 6 = .ok (.ldc2_w 231, 3) := by decide +kernel
theorem dX5_kindHere_9 : decode cX5_kindHere 9 = .ok (.lcmp, 1) := by decide +kernel
theorem dX5_kindHere_10 : decode cX5_kindHere 10 = .ok (.ifCond .ne 7, 3) := by decide +kernel
theorem dX5_kindHere_13 : decode cX5_kindHere 13 = .ok (.iconst 0, 1) := by decide +kernel
theorem dX5_kindHere_14 : decode cX5_kindHere 14 = .ok (.goto 64, 3) := by decide +kernel
theorem dX5_kindHere_17 : decode cX5_kindHere 17 = .ok (.lload_n 1, 1) := by decide +kernel
theorem dX5_kindHere_18 : decode cX5_kindHere 18 = .ok (.ldc2_w 233, 3) := by decide +kernel
theorem dX5_kindHere_21 : decode cX5_kindHere 21 = .ok (.lcmp, 1) := by decide +kernel
theorem dX5_kindHere_22 : decode cX5_kindHere 22 = .ok (.ifCond .ne 7, 3) := by decide +kernel
theorem dX5_kindHere_25 : decode cX5_kindHere 25 = .ok (.iconst 1, 1) := by decide +kernel
theorem dX5_kindHere_26 : decode cX5_kindHere 26 = .ok (.goto 52, 3) := by decide +kernel
theorem dX5_kindHere_29 : decode cX5_kindHere 29 = .ok (.lload_n 1, 1) := by decide +kernel
theorem dX5_kindHere_30 : decode cX5_kindHere 30 = .ok (.ldc2_w 235, 3) := by decide +kernel
theorem dX5_kindHere_33 : decode cX5_kindHere 33 = .ok (.lcmp, 1) := by decide +kernel
theorem dX5_kindHere_34 : decode cX5_kindHere 34 = .ok (.ifCond .ne 7, 3) := by decide +kernel
theorem dX5_kindHere_37 : decode cX5_kindHere 37 = .ok (.iconst 2, 1) := by decide +kernel
theorem dX5_kindHere_38 : decode cX5_kindHere 38 = .ok (.goto 40, 3) := by decide +kernel
theorem dX5_kindHere_41 : decode cX5_kindHere 41 = .ok (.lload_n 1, 1) := by decide +kernel
theorem dX5_kindHere_42 : decode cX5_kindHere 42 = .ok (.ldc2_w 237, 3) := by decide +kernel
theorem dX5_kindHere_45 : decode cX5_kindHere 45 = .ok (.lcmp, 1) := by decide +kernel
theorem dX5_kindHere_46 : decode cX5_kindHere 46 = .ok (.ifCond .ne 7, 3) := by decide +kernel
theorem dX5_kindHere_49 : decode cX5_kindHere 49 = .ok (.iconst 3, 1) := by decide +kernel
theorem dX5_kindHere_50 : decode cX5_kindHere 50 = .ok (.goto 28, 3) := by decide +kernel
theorem dX5_kindHere_53 : decode cX5_kindHere 53 = .ok (.lload_n 1, 1) := by decide +kernel
theorem dX5_kindHere_54 : decode cX5_kindHere 54 = .ok (.ldc2_w 239, 3) := by decide +kernel
theorem dX5_kindHere_57 : decode cX5_kindHere 57 = .ok (.lcmp, 1) := by decide +kernel
theorem dX5_kindHere_58 : decode cX5_kindHere 58 = .ok (.ifCond .ne 7, 3) := by decide +kernel
theorem dX5_kindHere_61 : decode cX5_kindHere 61 = .ok (.iconst 4, 1) := by decide +kernel
theorem dX5_kindHere_62 : decode cX5_kindHere 62 = .ok (.goto 16, 3) := by decide +kernel
theorem dX5_kindHere_65 : decode cX5_kindHere 65 = .ok (.lload_n 1, 1) := by decide +kernel
theorem dX5_kindHere_66 : decode cX5_kindHere 66 = .ok (.ldc2_w 241, 3) := by decide +kernel
theorem dX5_kindHere_69 : decode cX5_kindHere 69 = .ok (.lcmp, 1) := by decide +kernel
theorem dX5_kindHere_70 : decode cX5_kindHere 70 = .ok (.ifCond .ne 7, 3) := by decide +kernel
theorem dX5_kindHere_73 : decode cX5_kindHere 73 = .ok (.iconst 5, 1) := by decide +kernel
theorem dX5_kindHere_74 : decode cX5_kindHere 74 = .ok (.goto 4, 3) := by decide +kernel
theorem dX5_kindHere_77 : decode cX5_kindHere 77 = .ok (.iconst (-1), 1) := by decide +kernel
theorem dX5_kindHere_78 : decode cX5_kindHere 78 = .ok (.ireturn, 1) := by decide +kernel
theorem dX5_walkerItem_0 : decode cX5_walkerItem 0 = .ok (.aload_n 0, 1) := by decide +kernel
theorem dX5_walkerItem_1 : decode cX5_walkerItem 1 = .ok (.aload_n 0, 1) := by decide +kernel
theorem dX5_walkerItem_2 : decode cX5_walkerItem 2 = .ok (.getfield 7, 3) := by decide +kernel
theorem dX5_walkerItem_5 : decode cX5_walkerItem 5 = .ok (.iconst 1, 1) := by decide +kernel
theorem dX5_walkerItem_6 : decode cX5_walkerItem 6 = .ok (.iaload, 1) := by decide +kernel
theorem dX5_walkerItem_7 : decode cX5_walkerItem 7 = .ok (.bipush 8, 2) := by decide +kernel
theorem dX5_walkerItem_9 : decode cX5_walkerItem 9 = .ok (.if_icmp .ge 7, 3) := by decide +kernel
theorem dX5_walkerItem_12 : decode cX5_walkerItem 12 = .ok (.iconst 1, 1) := by decide +kernel
theorem dX5_walkerItem_13 : decode cX5_walkerItem 13 = .ok (.goto 4, 3) := by decide +kernel
theorem dX5_walkerItem_16 : decode cX5_walkerItem 16 = .ok (.iconst 0, 1) := by decide +kernel
theorem dX5_walkerItem_17 : decode cX5_walkerItem 17 = .ok (.invokevirtual 223, 3) := by decide +kernel
theorem dX5_walkerItem_20 : decode cX5_walkerItem 20 = .ok (.aload_n 0, 1) := by decide +kernel
theorem dX5_walkerItem_21 : decode cX5_walkerItem 21 = .ok (.getfield 209, 3) := by decide +kernel
theorem dX5_walkerItem_24 : decode cX5_walkerItem 24 = .ok (.ifCond .eq 4, 3) := by decide +kernel
theorem dX5_walkerItem_27 : decode cX5_walkerItem 27 = .ok (.return_, 1) := by decide +kernel
theorem dX5_walkerItem_28 : decode cX5_walkerItem 28 = .ok (.aload_n 0, 1) := by decide +kernel
theorem dX5_walkerItem_29 : decode cX5_walkerItem 29 = .ok (.iload_n 1, 1) := by decide +kernel
theorem dX5_walkerItem_30 : decode cX5_walkerItem 30 = .ok (.invokevirtual 111, 3) := by decide +kernel
theorem dX5_walkerItem_33 : decode cX5_walkerItem 33 = .ok (.istore_n 2, 1) := by decide +kernel
theorem dX5_walkerItem_34 : decode cX5_walkerItem 34 = .ok (.aload_n 0, 1) := by decide +kernel
theorem dX5_walkerItem_35 : decode cX5_walkerItem 35 = .ok (.invokevirtual 227, 3) := by decide +kernel
theorem dX5_walkerItem_38 : decode cX5_walkerItem 38 = .ok (.ldc2_w 243, 3) := by decide +kernel
theorem dX5_walkerItem_41 : decode cX5_walkerItem 41 = .ok (.lcmp, 1) := by decide +kernel
theorem dX5_walkerItem_42 : decode cX5_walkerItem 42 = .ok (.ifCond .ne 29, 3) := by decide +kernel
theorem dX5_walkerItem_45 : decode cX5_walkerItem 45 = .ok (.aload_n 0, 1) := by decide +kernel
theorem dX5_walkerItem_46 : decode cX5_walkerItem 46 = .ok (.iconst 1, 1) := by decide +kernel
theorem dX5_walkerItem_47 : decode cX5_walkerItem 47 = .ok (.invokevirtual 223, 3) := by decide +kernel
theorem dX5_walkerItem_50 : decode cX5_walkerItem 50 = .ok (.aload_n 0, 1) := by decide +kernel
theorem dX5_walkerItem_51 : decode cX5_walkerItem 51 = .ok (.iconst 0, 1) := by decide +kernel
theorem dX5_walkerItem_52 : decode cX5_walkerItem 52 = .ok (.bipush 99, 2) := by decide +kernel
theorem dX5_walkerItem_54 : decode cX5_walkerItem 54 = .ok (.invokevirtual 245, 3) := by decide +kernel
theorem dX5_walkerItem_57 : decode cX5_walkerItem 57 = .ok (.aload_n 0, 1) := by decide +kernel
theorem dX5_walkerItem_58 : decode cX5_walkerItem 58 = .ok (.getfield 7, 3) := by decide +kernel
theorem dX5_walkerItem_61 : decode cX5_walkerItem 61 = .ok (.iload_n 2, 1) := by decide +kernel
theorem dX5_walkerItem_62 : decode cX5_walkerItem 62 = .ok (.iconst 3, 1) := by decide +kernel
theorem dX5_walkerItem_63 : decode cX5_walkerItem 63 = .ok (.invokestatic 42, 3) := by decide +kernel
theorem dX5_walkerItem_66 : decode cX5_walkerItem 66 = .ok (.aload_n 0, 1) := by decide +kernel
theorem dX5_walkerItem_67 : decode cX5_walkerItem 67 = .ok (.getfield 220, 3) := by decide +kernel
theorem dX5_walkerItem_70 : decode cX5_walkerItem 70 = .ok (.iastore, 1) := by decide +kernel
theorem dX5_walkerItem_71 : decode cX5_walkerItem 71 = .ok (.return_, 1) := by decide +kernel
theorem dX5_rootItem_0 : decode cX5_rootItem 0 = .ok (.aload_n 0, 1) := by decide +kernel
theorem dX5_rootItem_1 : decode cX5_rootItem 1 = .ok (.iconst 1, 1) := by decide +kernel
theorem dX5_rootItem_2 : decode cX5_rootItem 2 = .ok (.invokevirtual 223, 3) := by decide +kernel
theorem dX5_rootItem_5 : decode cX5_rootItem 5 = .ok (.aload_n 0, 1) := by decide +kernel
theorem dX5_rootItem_6 : decode cX5_rootItem 6 = .ok (.iconst 0, 1) := by decide +kernel
theorem dX5_rootItem_7 : decode cX5_rootItem 7 = .ok (.bipush 29, 2) := by decide +kernel
theorem dX5_rootItem_9 : decode cX5_rootItem 9 = .ok (.invokevirtual 245, 3) := by decide +kernel
theorem dX5_rootItem_12 : decode cX5_rootItem 12 = .ok (.iconst 1, 1) := by decide +kernel
theorem dX5_rootItem_13 : decode cX5_rootItem 13 = .ok (.aload_n 0, 1) := by decide +kernel
theorem dX5_rootItem_14 : decode cX5_rootItem 14 = .ok (.getfield 220, 3) := by decide +kernel
theorem dX5_rootItem_17 : decode cX5_rootItem 17 = .ok (.ishl, 1) := by decide +kernel
theorem dX5_rootItem_18 : decode cX5_rootItem 18 = .ok (.istore_n 2, 1) := by decide +kernel
theorem dX5_rootItem_19 : decode cX5_rootItem 19 = .ok (.aload_n 0, 1) := by decide +kernel
theorem dX5_rootItem_20 : decode cX5_rootItem 20 = .ok (.getfield 209, 3) := by decide +kernel
theorem dX5_rootItem_23 : decode cX5_rootItem 23 = .ok (.ifCond .ne 34, 3) := by decide +kernel
theorem dX5_rootItem_26 : decode cX5_rootItem 26 = .ok (.aload_n 0, 1) := by decide +kernel
theorem dX5_rootItem_27 : decode cX5_rootItem 27 = .ok (.getfield 7, 3) := by decide +kernel
theorem dX5_rootItem_30 : decode cX5_rootItem 30 = .ok (.iconst 2, 1) := by decide +kernel
theorem dX5_rootItem_31 : decode cX5_rootItem 31 = .ok (.iload_n 1, 1) := by decide +kernel
theorem dX5_rootItem_32 : decode cX5_rootItem 32 = .ok (.ifCond .eq 14, 3) := by decide +kernel
theorem dX5_rootItem_35 : decode cX5_rootItem 35 = .ok (.aload_n 0, 1) := by decide +kernel
theorem dX5_rootItem_36 : decode cX5_rootItem 36 = .ok (.getfield 7, 3) := by decide +kernel
theorem dX5_rootItem_39 : decode cX5_rootItem 39 = .ok (.iconst 2, 1) := by decide +kernel
theorem dX5_rootItem_40 : decode cX5_rootItem 40 = .ok (.iaload, 1) := by decide +kernel
theorem dX5_rootItem_41 : decode cX5_rootItem 41 = .ok (.iload_n 2, 1) := by decide +kernel
theorem dX5_rootItem_42 : decode cX5_rootItem 42 = .ok (.ior, 1) := by decide +kernel
theorem dX5_rootItem_43 : decode cX5_rootItem 43 = .ok (.goto 13, 3) := by decide +kernel
theorem dX5_rootItem_46 : decode cX5_rootItem 46 = .ok (.aload_n 0, 1) := by decide +kernel
theorem dX5_rootItem_47 : decode cX5_rootItem 47 = .ok (.getfield 7, 3) := by decide +kernel
theorem dX5_rootItem_50 : decode cX5_rootItem 50 = .ok (.iconst 2, 1) := by decide +kernel
theorem dX5_rootItem_51 : decode cX5_rootItem 51 = .ok (.iaload, 1) := by decide +kernel
theorem dX5_rootItem_52 : decode cX5_rootItem 52 = .ok (.iload_n 2, 1) := by decide +kernel
theorem dX5_rootItem_53 : decode cX5_rootItem 53 = .ok (.iconst (-1), 1) := by decide +kernel
theorem dX5_rootItem_54 : decode cX5_rootItem 54 = .ok (.ixor, 1) := by decide +kernel
theorem dX5_rootItem_55 : decode cX5_rootItem 55 = .ok (.iand, 1) := by decide +kernel
theorem dX5_rootItem_56 : decode cX5_rootItem 56 = .ok (.iastore, 1) := by decide +kernel
theorem dX5_rootItem_57 : decode cX5_rootItem 57 = .ok (.return_, 1) := by decide +kernel
theorem dX5_toldItem_0 : decode cX5_toldItem 0 = .ok (.aload_n 0, 1) := by decide +kernel
theorem dX5_toldItem_1 : decode cX5_toldItem 1 = .ok (.iconst 1, 1) := by decide +kernel
theorem dX5_toldItem_2 : decode cX5_toldItem 2 = .ok (.invokevirtual 223, 3) := by decide +kernel
theorem dX5_toldItem_5 : decode cX5_toldItem 5 = .ok (.aload_n 0, 1) := by decide +kernel
theorem dX5_toldItem_6 : decode cX5_toldItem 6 = .ok (.iconst 0, 1) := by decide +kernel
theorem dX5_toldItem_7 : decode cX5_toldItem 7 = .ok (.iload_n 2, 1) := by decide +kernel
theorem dX5_toldItem_8 : decode cX5_toldItem 8 = .ok (.invokevirtual 245, 3) := by decide +kernel
theorem dX5_toldItem_11 : decode cX5_toldItem 11 = .ok (.aload_n 0, 1) := by decide +kernel
theorem dX5_toldItem_12 : decode cX5_toldItem 12 = .ok (.getfield 7, 3) := by decide +kernel
theorem dX5_toldItem_15 : decode cX5_toldItem 15 = .ok (.iload_n 1, 1) := by decide +kernel
theorem dX5_toldItem_16 : decode cX5_toldItem 16 = .ok (.aload_n 0, 1) := by decide +kernel
theorem dX5_toldItem_17 : decode cX5_toldItem 17 = .ok (.getfield 209, 3) := by decide +kernel
theorem dX5_toldItem_20 : decode cX5_toldItem 20 = .ok (.ifCond .eq 12, 3) := by decide +kernel
theorem dX5_toldItem_23 : decode cX5_toldItem 23 = .ok (.aload_n 0, 1) := by decide +kernel
theorem dX5_toldItem_24 : decode cX5_toldItem 24 = .ok (.getfield 7, 3) := by decide +kernel
theorem dX5_toldItem_27 : decode cX5_toldItem 27 = .ok (.iload_n 1, 1) := by decide +kernel
theorem dX5_toldItem_28 : decode cX5_toldItem 28 = .ok (.iaload, 1) := by decide +kernel
theorem dX5_toldItem_29 : decode cX5_toldItem 29 = .ok (.goto 7, 3) := by decide +kernel
theorem dX5_toldItem_32 : decode cX5_toldItem 32 = .ok (.aload_n 0, 1) := by decide +kernel
theorem dX5_toldItem_33 : decode cX5_toldItem 33 = .ok (.getfield 220, 3) := by decide +kernel
theorem dX5_toldItem_36 : decode cX5_toldItem 36 = .ok (.iastore, 1) := by decide +kernel
theorem dX5_toldItem_37 : decode cX5_toldItem 37 = .ok (.return_, 1) := by decide +kernel
theorem dX5_numberHere_0 : decode cX5_numberHere 0 = .ok (.iconst 0, 1) := by decide +kernel
theorem dX5_numberHere_1 : decode cX5_numberHere 1 = .ok (.istore_n 1, 1) := by decide +kernel
theorem dX5_numberHere_2 : decode cX5_numberHere 2 = .ok (.aload_n 0, 1) := by decide +kernel
theorem dX5_numberHere_3 : decode cX5_numberHere 3 = .ok (.getfield 197, 3) := by decide +kernel
theorem dX5_numberHere_6 : decode cX5_numberHere 6 = .ok (.istore_n 2, 1) := by decide +kernel
theorem dX5_numberHere_7 : decode cX5_numberHere 7 = .ok (.iload_n 2, 1) := by decide +kernel
theorem dX5_numberHere_8 : decode cX5_numberHere 8 = .ok (.aload_n 0, 1) := by decide +kernel
theorem dX5_numberHere_9 : decode cX5_numberHere 9 = .ok (.getfield 194, 3) := by decide +kernel
theorem dX5_numberHere_12 : decode cX5_numberHere 12 = .ok (.if_icmp .ge 34, 3) := by decide +kernel
theorem dX5_numberHere_15 : decode cX5_numberHere 15 = .ok (.iload_n 1, 1) := by decide +kernel
theorem dX5_numberHere_16 : decode cX5_numberHere 16 = .ok (.bipush 99, 2) := by decide +kernel
theorem dX5_numberHere_18 : decode cX5_numberHere 18 = .ok (.if_icmp .le 7, 3) := by decide +kernel
theorem dX5_numberHere_21 : decode cX5_numberHere 21 = .ok (.iload_n 1, 1) := by decide +kernel
theorem dX5_numberHere_22 : decode cX5_numberHere 22 = .ok (.goto 17, 3) := by decide +kernel
theorem dX5_numberHere_25 : decode cX5_numberHere 25 = .ok (.bipush 10, 2) := by decide +kernel
theorem dX5_numberHere_27 : decode cX5_numberHere 27 = .ok (.iload_n 1, 1) := by decide +kernel
theorem dX5_numberHere_28 : decode cX5_numberHere 28 = .ok (.imul, 1) := by decide +kernel
theorem dX5_numberHere_29 : decode cX5_numberHere 29 = .ok (.aload_n 0, 1) := by decide +kernel
theorem dX5_numberHere_30 : decode cX5_numberHere 30 = .ok (.getfield 25, 3) := by decide +kernel
theorem dX5_numberHere_33 : decode cX5_numberHere 33 = .ok (.iload_n 2, 1) := by decide +kernel
theorem dX5_numberHere_34 : decode cX5_numberHere 34 = .ok (.iaload, 1) := by decide +kernel
theorem dX5_numberHere_35 : decode cX5_numberHere 35 = .ok (.iadd, 1) := by decide +kernel
theorem dX5_numberHere_36 : decode cX5_numberHere 36 = .ok (.bipush 48, 2) := by decide +kernel
theorem dX5_numberHere_38 : decode cX5_numberHere 38 = .ok (.isub, 1) := by decide +kernel
theorem dX5_numberHere_39 : decode cX5_numberHere 39 = .ok (.istore_n 1, 1) := by decide +kernel
theorem dX5_numberHere_40 : decode cX5_numberHere 40 = .ok (.iinc 2 1, 3) := by decide +kernel
theorem dX5_numberHere_43 : decode cX5_numberHere 43 = .ok (.goto (-36), 3) := by decide +kernel
theorem dX5_numberHere_46 : decode cX5_numberHere 46 = .ok (.aload_n 0, 1) := by decide +kernel
theorem dX5_numberHere_47 : decode cX5_numberHere 47 = .ok (.aload_n 0, 1) := by decide +kernel
theorem dX5_numberHere_48 : decode cX5_numberHere 48 = .ok (.getfield 197, 3) := by decide +kernel
theorem dX5_numberHere_51 : decode cX5_numberHere 51 = .ok (.invokevirtual 200, 3) := by decide +kernel
theorem dX5_numberHere_54 : decode cX5_numberHere 54 = .ok (.invokestatic 206, 3) := by decide +kernel
theorem dX5_numberHere_57 : decode cX5_numberHere 57 = .ok (.ifCond .eq 13, 3) := by decide +kernel
theorem dX5_numberHere_60 : decode cX5_numberHere 60 = .ok (.iload_n 1, 1) := by decide +kernel
theorem dX5_numberHere_61 : decode cX5_numberHere 61 = .ok (.bipush 8, 2) := by decide +kernel
theorem dX5_numberHere_63 : decode cX5_numberHere 63 = .ok (.if_icmp .ge 7, 3) := by decide +kernel
theorem dX5_numberHere_66 : decode cX5_numberHere 66 = .ok (.iload_n 1, 1) := by decide +kernel
theorem dX5_numberHere_67 : decode cX5_numberHere 67 = .ok (.goto 4, 3) := by decide +kernel
theorem dX5_numberHere_70 : decode cX5_numberHere 70 = .ok (.iconst (-1), 1) := by decide +kernel
theorem dX5_numberHere_71 : decode cX5_numberHere 71 = .ok (.ireturn, 1) := by decide +kernel
theorem dX5_swapItem_0 : decode cX5_swapItem 0 = .ok (.aload_n 0, 1) := by decide +kernel
theorem dX5_swapItem_1 : decode cX5_swapItem 1 = .ok (.iconst 1, 1) := by decide +kernel
theorem dX5_swapItem_2 : decode cX5_swapItem 2 = .ok (.invokevirtual 223, 3) := by decide +kernel
theorem dX5_swapItem_5 : decode cX5_swapItem 5 = .ok (.aload_n 0, 1) := by decide +kernel
theorem dX5_swapItem_6 : decode cX5_swapItem 6 = .ok (.invokevirtual 248, 3) := by decide +kernel
theorem dX5_swapItem_9 : decode cX5_swapItem 9 = .ok (.istore_n 1, 1) := by decide +kernel
theorem dX5_swapItem_10 : decode cX5_swapItem 10 = .ok (.aload_n 0, 1) := by decide +kernel
theorem dX5_swapItem_11 : decode cX5_swapItem 11 = .ok (.aload_n 0, 1) := by decide +kernel
theorem dX5_swapItem_12 : decode cX5_swapItem 12 = .ok (.iload_n 1, 1) := by decide +kernel
theorem dX5_swapItem_13 : decode cX5_swapItem 13 = .ok (.invokevirtual 69, 3) := by decide +kernel
theorem dX5_swapItem_16 : decode cX5_swapItem 16 = .ok (.invokevirtual 223, 3) := by decide +kernel
theorem dX5_swapItem_19 : decode cX5_swapItem 19 = .ok (.aload_n 0, 1) := by decide +kernel
theorem dX5_swapItem_20 : decode cX5_swapItem 20 = .ok (.invokevirtual 248, 3) := by decide +kernel
theorem dX5_swapItem_23 : decode cX5_swapItem 23 = .ok (.istore_n 2, 1) := by decide +kernel
theorem dX5_swapItem_24 : decode cX5_swapItem 24 = .ok (.aload_n 0, 1) := by decide +kernel
theorem dX5_swapItem_25 : decode cX5_swapItem 25 = .ok (.aload_n 0, 1) := by decide +kernel
theorem dX5_swapItem_26 : decode cX5_swapItem 26 = .ok (.iload_n 2, 1) := by decide +kernel
theorem dX5_swapItem_27 : decode cX5_swapItem 27 = .ok (.invokevirtual 69, 3) := by decide +kernel
theorem dX5_swapItem_30 : decode cX5_swapItem 30 = .ok (.ifCond .eq 12, 3) := by decide +kernel
theorem dX5_swapItem_33 : decode cX5_swapItem 33 = .ok (.iload_n 2, 1) := by decide +kernel
theorem dX5_swapItem_34 : decode cX5_swapItem 34 = .ok (.iload_n 1, 1) := by decide +kernel
theorem dX5_swapItem_35 : decode cX5_swapItem 35 = .ok (.if_icmp .eq 7, 3) := by decide +kernel
theorem dX5_swapItem_38 : decode cX5_swapItem 38 = .ok (.iconst 1, 1) := by decide +kernel
theorem dX5_swapItem_39 : decode cX5_swapItem 39 = .ok (.goto 4, 3) := by decide +kernel
theorem dX5_swapItem_42 : decode cX5_swapItem 42 = .ok (.iconst 0, 1) := by decide +kernel
theorem dX5_swapItem_43 : decode cX5_swapItem 43 = .ok (.invokevirtual 223, 3) := by decide +kernel
theorem dX5_swapItem_46 : decode cX5_swapItem 46 = .ok (.aload_n 0, 1) := by decide +kernel
theorem dX5_swapItem_47 : decode cX5_swapItem 47 = .ok (.getfield 209, 3) := by decide +kernel
theorem dX5_swapItem_50 : decode cX5_swapItem 50 = .ok (.ifCond .ne 9, 3) := by decide +kernel
theorem dX5_swapItem_53 : decode cX5_swapItem 53 = .ok (.aload_n 0, 1) := by decide +kernel
theorem dX5_swapItem_54 : decode cX5_swapItem 54 = .ok (.iload_n 1, 1) := by decide +kernel
theorem dX5_swapItem_55 : decode cX5_swapItem 55 = .ok (.iload_n 2, 1) := by decide +kernel
theorem dX5_swapItem_56 : decode cX5_swapItem 56 = .ok (.invokevirtual 125, 3) := by decide +kernel
theorem dX5_swapItem_59 : decode cX5_swapItem 59 = .ok (.return_, 1) := by decide +kernel
theorem dX5_item_0 : decode cX5_item 0 = .ok (.aload_n 0, 1) := by decide +kernel
theorem dX5_item_1 : decode cX5_item 1 = .ok (.invokevirtual 251, 3) := by decide +kernel
theorem dX5_item_4 : decode cX5_item 4 = .ok (.istore_n 1, 1) := by decide +kernel
theorem dX5_item_5 : decode cX5_item 5 = .ok (.aload_n 0, 1) := by decide +kernel
theorem dX5_item_6 : decode cX5_item 6 = .ok (.invokevirtual 227, 3) := by decide +kernel
theorem dX5_item_9 : decode cX5_item 9 = .ok (.lstore_n 2, 1) := by decide +kernel
theorem dX5_item_10 : decode cX5_item 10 = .ok (.iload_n 1, 1) := by decide +kernel
theorem dX5_item_11 : decode cX5_item 11 = .ok (.ifCond .lt 11, 3) := by decide +kernel
theorem dX5_item_14 : decode cX5_item 14 = .ok (.aload_n 0, 1) := by decide +kernel
theorem dX5_item_15 : decode cX5_item 15 = .ok (.iload_n 1, 1) := by decide +kernel
theorem dX5_item_16 : decode cX5_item 16 = .ok (.invokevirtual 254, 3) := by decide +kernel
theorem dX5_item_19 : decode cX5_item 19 = .ok (.goto 101, 3) := by decide +kernel
theorem dX5_item_22 : decode cX5_item 22 = .ok (.lload_n 2, 1) := by decide +kernel
theorem dX5_item_23 : decode cX5_item 23 = .ok (.ldc2_w 257, 3) := by decide +kernel
theorem dX5_item_26 : decode cX5_item 26 = .ok (.lcmp, 1) := by decide +kernel
theorem dX5_item_27 : decode cX5_item 27 = .ok (.ifCond .eq 11, 3) := by decide +kernel
theorem dX5_item_30 : decode cX5_item 30 = .ok (.lload_n 2, 1) := by decide +kernel
theorem dX5_item_31 : decode cX5_item 31 = .ok (.ldc2_w 259, 3) := by decide +kernel
theorem dX5_item_34 : decode cX5_item 34 = .ok (.lcmp, 1) := by decide +kernel
theorem dX5_item_35 : decode cX5_item 35 = .ok (.ifCond .ne 23, 3) := by decide +kernel
theorem dX5_item_38 : decode cX5_item 38 = .ok (.aload_n 0, 1) := by decide +kernel
theorem dX5_item_39 : decode cX5_item 39 = .ok (.lload_n 2, 1) := by decide +kernel
theorem dX5_item_40 : decode cX5_item 40 = .ok (.ldc2_w 257, 3) := by decide +kernel
theorem dX5_item_43 : decode cX5_item 43 = .ok (.lcmp, 1) := by decide +kernel
theorem dX5_item_44 : decode cX5_item 44 = .ok (.ifCond .ne 7, 3) := by decide +kernel
theorem dX5_item_47 : decode cX5_item 47 = .ok (.iconst 1, 1) := by decide +kernel
theorem dX5_item_48 : decode cX5_item 48 = .ok (.goto 4, 3) := by decide +kernel
theorem dX5_item_51 : decode cX5_item 51 = .ok (.iconst 0, 1) := by decide +kernel
theorem dX5_item_52 : decode cX5_item 52 = .ok (.invokevirtual 261, 3) := by decide +kernel
theorem dX5_item_55 : decode cX5_item 55 = .ok (.goto 65, 3) := by decide +kernel
theorem dX5_item_58 : decode cX5_item 58 = .ok (.lload_n 2, 1) := by decide +kernel
theorem dX5_item_59 : decode cX5_item 59 = .ok (.ldc2_w 264, 3) := by decide +kernel
theorem dX5_item_62 : decode cX5_item 62 = .ok (.lcmp, 1) := by decide +kernel
theorem dX5_item_63 : decode cX5_item 63 = .ok (.ifCond .ne 19, 3) := by decide +kernel
theorem dX5_item_66 : decode cX5_item 66 = .ok (.aload_n 0, 1) := by decide +kernel
theorem dX5_item_67 : decode cX5_item 67 = .ok (.iconst 3, 1) := by decide +kernel
theorem dX5_item_68 : decode cX5_item 68 = .ok (.aload_n 0, 1) := by decide +kernel
theorem dX5_item_69 : decode cX5_item 69 = .ok (.getfield 7, 3) := by decide +kernel
theorem dX5_item_72 : decode cX5_item 72 = .ok (.iconst 1, 1) := by decide +kernel
theorem dX5_item_73 : decode cX5_item 73 = .ok (.iaload, 1) := by decide +kernel
theorem dX5_item_74 : decode cX5_item 74 = .ok (.iconst 1, 1) := by decide +kernel
theorem dX5_item_75 : decode cX5_item 75 = .ok (.isub, 1) := by decide +kernel
theorem dX5_item_76 : decode cX5_item 76 = .ok (.invokevirtual 266, 3) := by decide +kernel
theorem dX5_item_79 : decode cX5_item 79 = .ok (.goto 41, 3) := by decide +kernel
theorem dX5_item_82 : decode cX5_item 82 = .ok (.lload_n 2, 1) := by decide +kernel
theorem dX5_item_83 : decode cX5_item 83 = .ok (.ldc2_w 269, 3) := by decide +kernel
theorem dX5_item_86 : decode cX5_item 86 = .ok (.lcmp, 1) := by decide +kernel
theorem dX5_item_87 : decode cX5_item 87 = .ok (.ifCond .ne 13, 3) := by decide +kernel
theorem dX5_item_90 : decode cX5_item 90 = .ok (.aload_n 0, 1) := by decide +kernel
theorem dX5_item_91 : decode cX5_item 91 = .ok (.iconst 4, 1) := by decide +kernel
theorem dX5_item_92 : decode cX5_item 92 = .ok (.bipush 9, 2) := by decide +kernel
theorem dX5_item_94 : decode cX5_item 94 = .ok (.invokevirtual 266, 3) := by decide +kernel
theorem dX5_item_97 : decode cX5_item 97 = .ok (.goto 23, 3) := by decide +kernel
theorem dX5_item_100 : decode cX5_item 100 = .ok (.lload_n 2, 1) := by decide +kernel
theorem dX5_item_101 : decode cX5_item 101 = .ok (.ldc2_w 271, 3) := by decide +kernel
theorem dX5_item_104 : decode cX5_item 104 = .ok (.lcmp, 1) := by decide +kernel
theorem dX5_item_105 : decode cX5_item 105 = .ok (.ifCond .ne 10, 3) := by decide +kernel
theorem dX5_item_108 : decode cX5_item 108 = .ok (.aload_n 0, 1) := by decide +kernel
theorem dX5_item_109 : decode cX5_item 109 = .ok (.invokevirtual 273, 3) := by decide +kernel
theorem dX5_item_112 : decode cX5_item 112 = .ok (.goto 8, 3) := by decide +kernel
theorem dX5_item_115 : decode cX5_item 115 = .ok (.aload_n 0, 1) := by decide +kernel
theorem dX5_item_116 : decode cX5_item 116 = .ok (.iconst 0, 1) := by decide +kernel
theorem dX5_item_117 : decode cX5_item 117 = .ok (.invokevirtual 223, 3) := by decide +kernel
theorem dX5_item_120 : decode cX5_item 120 = .ok (.return_, 1) := by decide +kernel
theorem dX5_night_0 : decode cX5_night 0 = .ok (.aload_n 0, 1) := by decide +kernel
theorem dX5_night_1 : decode cX5_night 1 = .ok (.invokevirtual 276, 3) := by decide +kernel
theorem dX5_night_4 : decode cX5_night 4 = .ok (.aload_n 0, 1) := by decide +kernel
theorem dX5_night_5 : decode cX5_night 5 = .ok (.iconst 0, 1) := by decide +kernel
theorem dX5_night_6 : decode cX5_night 6 = .ok (.putfield 209, 3) := by decide +kernel
theorem dX5_night_9 : decode cX5_night 9 = .ok (.aload_n 0, 1) := by decide +kernel
theorem dX5_night_10 : decode cX5_night 10 = .ok (.iconst 0, 1) := by decide +kernel
theorem dX5_night_11 : decode cX5_night 11 = .ok (.putfield 194, 3) := by decide +kernel
theorem dX5_night_14 : decode cX5_night 14 = .ok (.aload_n 0, 1) := by decide +kernel
theorem dX5_night_15 : decode cX5_night 15 = .ok (.invokevirtual 213, 3) := by decide +kernel
theorem dX5_night_18 : decode cX5_night 18 = .ok (.iconst 1, 1) := by decide +kernel
theorem dX5_night_19 : decode cX5_night 19 = .ok (.istore_n 1, 1) := by decide +kernel
theorem dX5_night_20 : decode cX5_night 20 = .ok (.aload_n 0, 1) := by decide +kernel
theorem dX5_night_21 : decode cX5_night 21 = .ok (.invokevirtual 279, 3) := by decide +kernel
theorem dX5_night_24 : decode cX5_night 24 = .ok (.aload_n 0, 1) := by decide +kernel
theorem dX5_night_25 : decode cX5_night 25 = .ok (.getfield 209, 3) := by decide +kernel
theorem dX5_night_28 : decode cX5_night 28 = .ok (.ifCond .ne 31, 3) := by decide +kernel
theorem dX5_night_31 : decode cX5_night 31 = .ok (.aload_n 0, 1) := by decide +kernel
theorem dX5_night_32 : decode cX5_night 32 = .ok (.aload_n 0, 1) := by decide +kernel
theorem dX5_night_33 : decode cX5_night 33 = .ok (.getfield 197, 3) := by decide +kernel
theorem dX5_night_36 : decode cX5_night 36 = .ok (.invokevirtual 200, 3) := by decide +kernel
theorem dX5_night_39 : decode cX5_night 39 = .ok (.bipush 59, 2) := by decide +kernel
theorem dX5_night_41 : decode cX5_night 41 = .ok (.if_icmp .ne 18, 3) := by decide +kernel
theorem dX5_night_44 : decode cX5_night 44 = .ok (.aload_n 0, 1) := by decide +kernel
theorem dX5_night_45 : decode cX5_night 45 = .ok (.iconst 1, 1) := by decide +kernel
theorem dX5_night_46 : decode cX5_night 46 = .ok (.invokevirtual 223, 3) := by decide +kernel
theorem dX5_night_49 : decode cX5_night 49 = .ok (.aload_n 0, 1) := by decide +kernel
theorem dX5_night_50 : decode cX5_night 50 = .ok (.invokevirtual 279, 3) := by decide +kernel
theorem dX5_night_53 : decode cX5_night 53 = .ok (.iinc 1 1, 3) := by decide +kernel
theorem dX5_night_56 : decode cX5_night 56 = .ok (.goto (-32), 3) := by decide +kernel
theorem dX5_night_59 : decode cX5_night 59 = .ok (.aload_n 0, 1) := by decide +kernel
theorem dX5_night_60 : decode cX5_night 60 = .ok (.aload_n 0, 1) := by decide +kernel
theorem dX5_night_61 : decode cX5_night 61 = .ok (.getfield 209, 3) := by decide +kernel
theorem dX5_night_64 : decode cX5_night 64 = .ok (.ifCond .ne 14, 3) := by decide +kernel
theorem dX5_night_67 : decode cX5_night 67 = .ok (.aload_n 0, 1) := by decide +kernel
theorem dX5_night_68 : decode cX5_night 68 = .ok (.getfield 197, 3) := by decide +kernel
theorem dX5_night_71 : decode cX5_night 71 = .ok (.aload_n 0, 1) := by decide +kernel
theorem dX5_night_72 : decode cX5_night 72 = .ok (.getfield 183, 3) := by decide +kernel
theorem dX5_night_75 : decode cX5_night 75 = .ok (.if_icmp .ge 7, 3) := by decide +kernel
theorem dX5_night_78 : decode cX5_night 78 = .ok (.iconst 1, 1) := by decide +kernel
theorem dX5_night_79 : decode cX5_night 79 = .ok (.goto 4, 3) := by decide +kernel
theorem dX5_night_82 : decode cX5_night 82 = .ok (.iconst 0, 1) := by decide +kernel
theorem dX5_night_83 : decode cX5_night 83 = .ok (.putfield 209, 3) := by decide +kernel
theorem dX5_night_86 : decode cX5_night 86 = .ok (.aload_n 0, 1) := by decide +kernel
theorem dX5_night_87 : decode cX5_night 87 = .ok (.getfield 209, 3) := by decide +kernel
theorem dX5_night_90 : decode cX5_night 90 = .ok (.ifCond .eq 7, 3) := by decide +kernel
theorem dX5_night_93 : decode cX5_night 93 = .ok (.aload_n 0, 1) := by decide +kernel
theorem dX5_night_94 : decode cX5_night 94 = .ok (.invokevirtual 282, 3) := by decide +kernel
theorem dX5_night_97 : decode cX5_night 97 = .ok (.aload_n 0, 1) := by decide +kernel
theorem dX5_night_98 : decode cX5_night 98 = .ok (.iconst 0, 1) := by decide +kernel
theorem dX5_night_99 : decode cX5_night 99 = .ok (.putfield 183, 3) := by decide +kernel
theorem dX5_night_102 : decode cX5_night 102 = .ok (.aload_n 0, 1) := by decide +kernel
theorem dX5_night_103 : decode cX5_night 103 = .ok (.getfield 209, 3) := by decide +kernel
theorem dX5_night_106 : decode cX5_night 106 = .ok (.ifCond .eq 12, 3) := by decide +kernel
theorem dX5_night_109 : decode cX5_night 109 = .ok (.iconst (-1), 1) := by decide +kernel
theorem dX5_night_110 : decode cX5_night 110 = .ok (.aload_n 0, 1) := by decide +kernel
theorem dX5_night_111 : decode cX5_night 111 = .ok (.getfield 197, 3) := by decide +kernel
theorem dX5_night_114 : decode cX5_night 114 = .ok (.isub, 1) := by decide +kernel
theorem dX5_night_115 : decode cX5_night 115 = .ok (.goto 4, 3) := by decide +kernel
theorem dX5_night_118 : decode cX5_night 118 = .ok (.iload_n 1, 1) := by decide +kernel
theorem dX5_night_119 : decode cX5_night 119 = .ok (.ireturn, 1) := by decide +kernel
theorem dX5_isOne_0 : decode cX5_isOne 0 = .ok (.iload_n 0, 1) := by decide +kernel
theorem dX5_isOne_1 : decode cX5_isOne 1 = .ok (.i2l, 1) := by decide +kernel
theorem dX5_isOne_2 : decode cX5_isOne 2 = .ok (.lconst 0, 1) := by decide +kernel
theorem dX5_isOne_3 : decode cX5_isOne 3 = .ok (.ldc2_w 285, 3) := by decide +kernel
theorem dX5_isOne_6 : decode cX5_isOne 6 = .ok (.invokestatic 46, 3) := by decide +kernel
theorem dX5_isOne_9 : decode cX5_isOne 9 = .ok (.ireturn, 1) := by decide +kernel
theorem dX5_sheet_0 : decode cX5_sheet 0 = .ok (.iload_n 1, 1) := by decide +kernel
theorem dX5_sheet_1 : decode cX5_sheet 1 = .ok (.invokestatic 287, 3) := by decide +kernel
theorem dX5_sheet_4 : decode cX5_sheet 4 = .ok (.ifCond .eq 25, 3) := by decide +kernel
theorem dX5_sheet_7 : decode cX5_sheet 7 = .ok (.iload_n 2, 1) := by decide +kernel
theorem dX5_sheet_8 : decode cX5_sheet 8 = .ok (.ifCond .eq 28, 3) := by decide +kernel
theorem dX5_sheet_11 : decode cX5_sheet 11 = .ok (.iload_n 2, 1) := by decide +kernel
theorem dX5_sheet_12 : decode cX5_sheet 12 = .ok (.bipush 8, 2) := by decide +kernel
theorem dX5_sheet_14 : decode cX5_sheet 14 = .ok (.if_icmp .eq 22, 3) := by decide +kernel
theorem dX5_sheet_17 : decode cX5_sheet 17 = .ok (.iload_n 2, 1) := by decide +kernel
theorem dX5_sheet_18 : decode cX5_sheet 18 = .ok (.bipush 16, 2) := by decide +kernel
theorem dX5_sheet_20 : decode cX5_sheet 20 = .ok (.if_icmp .eq 16, 3) := by decide +kernel
theorem dX5_sheet_23 : decode cX5_sheet 23 = .ok (.iload_n 2, 1) := by decide +kernel
theorem dX5_sheet_24 : decode cX5_sheet 24 = .ok (.bipush 64, 2) := by decide +kernel
theorem dX5_sheet_26 : decode cX5_sheet 26 = .ok (.if_icmp .eq 10, 3) := by decide +kernel
theorem dX5_sheet_29 : decode cX5_sheet 29 = .ok (.aload_n 0, 1) := by decide +kernel
theorem dX5_sheet_30 : decode cX5_sheet 30 = .ok (.ldc 41, 2) := by decide +kernel
theorem dX5_sheet_32 : decode cX5_sheet 32 = .ok (.invokevirtual 66, 3) := by decide +kernel
theorem dX5_sheet_35 : decode cX5_sheet 35 = .ok (.ireturn, 1) := by decide +kernel
theorem dX5_sheet_36 : decode cX5_sheet 36 = .ok (.iload_n 3, 1) := by decide +kernel
theorem dX5_sheet_37 : decode cX5_sheet 37 = .ok (.ifCond .ge 11, 3) := by decide +kernel
theorem dX5_sheet_40 : decode cX5_sheet 40 = .ok (.aload_n 0, 1) := by decide +kernel
theorem dX5_sheet_41 : decode cX5_sheet 41 = .ok (.ldc_w 290, 3) := by decide +kernel
theorem dX5_sheet_44 : decode cX5_sheet 44 = .ok (.invokevirtual 66, 3) := by decide +kernel
theorem dX5_sheet_47 : decode cX5_sheet 47 = .ok (.ireturn, 1) := by decide +kernel
theorem dX5_sheet_48 : decode cX5_sheet 48 = .ok (.iload_n 3, 1) := by decide +kernel
theorem dX5_sheet_49 : decode cX5_sheet 49 = .ok (.bipush 40, 2) := by decide +kernel
theorem dX5_sheet_51 : decode cX5_sheet 51 = .ok (.if_icmp .le 10, 3) := by decide +kernel
theorem dX5_sheet_54 : decode cX5_sheet 54 = .ok (.aload_n 0, 1) := by decide +kernel
theorem dX5_sheet_55 : decode cX5_sheet 55 = .ok (.ldc 41, 2) := by decide +kernel
theorem dX5_sheet_57 : decode cX5_sheet 57 = .ok (.invokevirtual 66, 3) := by decide +kernel
theorem dX5_sheet_60 : decode cX5_sheet 60 = .ok (.ireturn, 1) := by decide +kernel
theorem dX5_sheet_61 : decode cX5_sheet 61 = .ok (.aload_n 0, 1) := by decide +kernel
theorem dX5_sheet_62 : decode cX5_sheet 62 = .ok (.getfield 28, 3) := by decide +kernel
theorem dX5_sheet_65 : decode cX5_sheet 65 = .ok (.iload_n 1, 1) := by decide +kernel
theorem dX5_sheet_66 : decode cX5_sheet 66 = .ok (.iload_n 2, 1) := by decide +kernel
theorem dX5_sheet_67 : decode cX5_sheet 67 = .ok (.iastore, 1) := by decide +kernel
theorem dX5_sheet_68 : decode cX5_sheet 68 = .ok (.aload_n 0, 1) := by decide +kernel
theorem dX5_sheet_69 : decode cX5_sheet 69 = .ok (.getfield 31, 3) := by decide +kernel
theorem dX5_sheet_72 : decode cX5_sheet 72 = .ok (.iload_n 1, 1) := by decide +kernel
theorem dX5_sheet_73 : decode cX5_sheet 73 = .ok (.iload_n 2, 1) := by decide +kernel
theorem dX5_sheet_74 : decode cX5_sheet 74 = .ok (.ifCond .ne 7, 3) := by decide +kernel
theorem dX5_sheet_77 : decode cX5_sheet 77 = .ok (.iconst 0, 1) := by decide +kernel
theorem dX5_sheet_78 : decode cX5_sheet 78 = .ok (.goto 4, 3) := by decide +kernel
theorem dX5_sheet_81 : decode cX5_sheet 81 = .ok (.iload_n 3, 1) := by decide +kernel
theorem dX5_sheet_82 : decode cX5_sheet 82 = .ok (.iastore, 1) := by decide +kernel
theorem dX5_sheet_83 : decode cX5_sheet 83 = .ok (.iconst 0, 1) := by decide +kernel
theorem dX5_sheet_84 : decode cX5_sheet 84 = .ok (.istore 4, 2) := by decide +kernel
theorem dX5_sheet_86 : decode cX5_sheet 86 = .ok (.iload 4, 2) := by decide +kernel
theorem dX5_sheet_88 : decode cX5_sheet 88 = .ok (.bipush 40, 2) := by decide +kernel
theorem dX5_sheet_90 : decode cX5_sheet 90 = .ok (.if_icmp .ge 22, 3) := by decide +kernel
theorem dX5_sheet_93 : decode cX5_sheet 93 = .ok (.aload_n 0, 1) := by decide +kernel
theorem dX5_sheet_94 : decode cX5_sheet 94 = .ok (.getfield 34, 3) := by decide +kernel
theorem dX5_sheet_97 : decode cX5_sheet 97 = .ok (.bipush 40, 2) := by decide +kernel
theorem dX5_sheet_99 : decode cX5_sheet 99 = .ok (.iload_n 1, 1) := by decide +kernel
theorem dX5_sheet_100 : decode cX5_sheet 100 = .ok (.imul, 1) := by decide +kernel
theorem dX5_sheet_101 : decode cX5_sheet 101 = .ok (.iload 4, 2) := by decide +kernel
theorem dX5_sheet_103 : decode cX5_sheet 103 = .ok (.iadd, 1) := by decide +kernel
theorem dX5_sheet_104 : decode cX5_sheet 104 = .ok (.lconst 0, 1) := by decide +kernel
theorem dX5_sheet_105 : decode cX5_sheet 105 = .ok (.lastore, 1) := by decide +kernel
theorem dX5_sheet_106 : decode cX5_sheet 106 = .ok (.iinc 4 1, 3) := by decide +kernel
theorem dX5_sheet_109 : decode cX5_sheet 109 = .ok (.goto (-23), 3) := by decide +kernel
theorem dX5_sheet_112 : decode cX5_sheet 112 = .ok (.aload_n 0, 1) := by decide +kernel
theorem dX5_sheet_113 : decode cX5_sheet 113 = .ok (.getfield 31, 3) := by decide +kernel
theorem dX5_sheet_116 : decode cX5_sheet 116 = .ok (.iload_n 1, 1) := by decide +kernel
theorem dX5_sheet_117 : decode cX5_sheet 117 = .ok (.iaload, 1) := by decide +kernel
theorem dX5_sheet_118 : decode cX5_sheet 118 = .ok (.ireturn, 1) := by decide +kernel
theorem dX5_narrowed_0 : decode cX5_narrowed 0 = .ok (.iload_n 0, 1) := by decide +kernel
theorem dX5_narrowed_1 : decode cX5_narrowed 1 = .ok (.bipush 8, 2) := by decide +kernel
theorem dX5_narrowed_3 : decode cX5_narrowed 3 = .ok (.if_icmp .ne 10, 3) := by decide +kernel
theorem dX5_narrowed_6 : decode cX5_narrowed 6 = .ok (.lload_n 1, 1) := by decide +kernel
theorem dX5_narrowed_7 : decode cX5_narrowed 7 = .ok (.l2i, 1) := by decide +kernel
theorem dX5_narrowed_8 : decode cX5_narrowed 8 = .ok (.i2b, 1) := by decide +kernel
theorem dX5_narrowed_9 : decode cX5_narrowed 9 = .ok (.i2l, 1) := by decide +kernel
theorem dX5_narrowed_10 : decode cX5_narrowed 10 = .ok (.goto 17, 3) := by decide +kernel
theorem dX5_narrowed_13 : decode cX5_narrowed 13 = .ok (.iload_n 0, 1) := by decide +kernel
theorem dX5_narrowed_14 : decode cX5_narrowed 14 = .ok (.bipush 16, 2) := by decide +kernel
theorem dX5_narrowed_16 : decode cX5_narrowed 16 = .ok (.if_icmp .ne 10, 3) := by decide +kernel
theorem dX5_narrowed_19 : decode cX5_narrowed 19 = .ok (.lload_n 1, 1) := by decide +kernel
theorem dX5_narrowed_20 : decode cX5_narrowed 20 = .ok (.l2i, 1) := by decide +kernel
theorem dX5_narrowed_21 : decode cX5_narrowed 21 = .ok (.i2s, 1) := by decide +kernel
theorem dX5_narrowed_22 : decode cX5_narrowed 22 = .ok (.i2l, 1) := by decide +kernel
theorem dX5_narrowed_23 : decode cX5_narrowed 23 = .ok (.goto 4, 3) := by decide +kernel
theorem dX5_narrowed_26 : decode cX5_narrowed 26 = .ok (.lload_n 1, 1) := by decide +kernel
theorem dX5_narrowed_27 : decode cX5_narrowed 27 = .ok (.lreturn, 1) := by decide +kernel
theorem dX5_wrongSheet_0 : decode cX5_wrongSheet 0 = .ok (.iload_n 1, 1) := by decide +kernel
theorem dX5_wrongSheet_1 : decode cX5_wrongSheet 1 = .ok (.invokestatic 287, 3) := by decide +kernel
theorem dX5_wrongSheet_4 : decode cX5_wrongSheet 4 = .ok (.ifCond .ne 8, 3) := by decide +kernel
theorem dX5_wrongSheet_7 : decode cX5_wrongSheet 7 = .ok (.ldc 41, 2) := by decide +kernel
theorem dX5_wrongSheet_9 : decode cX5_wrongSheet 9 = .ok (.goto 19, 3) := by decide +kernel
theorem dX5_wrongSheet_12 : decode cX5_wrongSheet 12 = .ok (.aload_n 0, 1) := by decide +kernel
theorem dX5_wrongSheet_13 : decode cX5_wrongSheet 13 = .ok (.getfield 28, 3) := by decide +kernel
theorem dX5_wrongSheet_16 : decode cX5_wrongSheet 16 = .ok (.iload_n 1, 1) := by decide +kernel
theorem dX5_wrongSheet_17 : decode cX5_wrongSheet 17 = .ok (.iaload, 1) := by decide +kernel
theorem dX5_wrongSheet_18 : decode cX5_wrongSheet 18 = .ok (.ifCond .ne 9, 3) := by decide +kernel
theorem dX5_wrongSheet_21 : decode cX5_wrongSheet 21 = .ok (.ldc_w 291, 3) := by decide +kernel
theorem dX5_wrongSheet_24 : decode cX5_wrongSheet 24 = .ok (.goto 4, 3) := by decide +kernel
theorem dX5_wrongSheet_27 : decode cX5_wrongSheet 27 = .ok (.iconst 0, 1) := by decide +kernel
theorem dX5_wrongSheet_28 : decode cX5_wrongSheet 28 = .ok (.ireturn, 1) := by decide +kernel
theorem dX5_write_0 : decode cX5_write 0 = .ok (.aload_n 0, 1) := by decide +kernel
theorem dX5_write_1 : decode cX5_write 1 = .ok (.iload_n 1, 1) := by decide +kernel
theorem dX5_write_2 : decode cX5_write 2 = .ok (.invokevirtual 292, 3) := by decide +kernel
theorem dX5_write_5 : decode cX5_write 5 = .ok (.istore 5, 2) := by decide +kernel
theorem dX5_write_7 : decode cX5_write 7 = .ok (.iload 5, 2) := by decide +kernel
theorem dX5_write_9 : decode cX5_write 9 = .ok (.ifCond .eq 11, 3) := by decide +kernel
theorem dX5_write_12 : decode cX5_write 12 = .ok (.aload_n 0, 1) := by decide +kernel
theorem dX5_write_13 : decode cX5_write 13 = .ok (.iload 5, 2) := by decide +kernel
theorem dX5_write_15 : decode cX5_write 15 = .ok (.invokevirtual 66, 3) := by decide +kernel
theorem dX5_write_18 : decode cX5_write 18 = .ok (.i2l, 1) := by decide +kernel
theorem dX5_write_19 : decode cX5_write 19 = .ok (.lreturn, 1) := by decide +kernel
theorem dX5_write_20 : decode cX5_write 20 = .ok (.iload_n 2, 1) := by decide +kernel
theorem dX5_write_21 : decode cX5_write 21 = .ok (.i2l, 1) := by decide +kernel
theorem dX5_write_22 : decode cX5_write 22 = .ok (.lconst 0, 1) := by decide +kernel
theorem dX5_write_23 : decode cX5_write 23 = .ok (.aload_n 0, 1) := by decide +kernel
theorem dX5_write_24 : decode cX5_write 24 = .ok (.getfield 31, 3) := by decide +kernel
theorem dX5_write_27 : decode cX5_write 27 = .ok (.iload_n 1, 1) := by decide +kernel
theorem dX5_write_28 : decode cX5_write 28 = .ok (.iaload, 1) := by decide +kernel
theorem dX5_write_29 : decode cX5_write 29 = .ok (.iconst 1, 1) := by decide +kernel
theorem dX5_write_30 : decode cX5_write 30 = .ok (.isub, 1) := by decide +kernel
theorem dX5_write_31 : decode cX5_write 31 = .ok (.i2l, 1) := by decide +kernel
theorem dX5_write_32 : decode cX5_write 32 = .ok (.invokestatic 46, 3) := by decide +kernel
theorem dX5_write_35 : decode cX5_write 35 = .ok (.ifCond .ne 11, 3) := by decide +kernel
theorem dX5_write_38 : decode cX5_write 38 = .ok (.aload_n 0, 1) := by decide +kernel
theorem dX5_write_39 : decode cX5_write 39 = .ok (.ldc 41, 2) := by decide +kernel
theorem dX5_write_41 : decode cX5_write 41 = .ok (.invokevirtual 66, 3) := by decide +kernel
theorem dX5_write_44 : decode cX5_write 44 = .ok (.i2l, 1) := by decide +kernel
theorem dX5_write_45 : decode cX5_write 45 = .ok (.lreturn, 1) := by decide +kernel
theorem dX5_write_46 : decode cX5_write 46 = .ok (.aload_n 0, 1) := by decide +kernel
theorem dX5_write_47 : decode cX5_write 47 = .ok (.getfield 34, 3) := by decide +kernel
theorem dX5_write_50 : decode cX5_write 50 = .ok (.bipush 40, 2) := by decide +kernel
theorem dX5_write_52 : decode cX5_write 52 = .ok (.iload_n 1, 1) := by decide +kernel
theorem dX5_write_53 : decode cX5_write 53 = .ok (.imul, 1) := by decide +kernel
theorem dX5_write_54 : decode cX5_write 54 = .ok (.iload_n 2, 1) := by decide +kernel
theorem dX5_write_55 : decode cX5_write 55 = .ok (.iadd, 1) := by decide +kernel
theorem dX5_write_56 : decode cX5_write 56 = .ok (.laload, 1) := by decide +kernel
theorem dX5_write_57 : decode cX5_write 57 = .ok (.lstore 6, 2) := by decide +kernel
theorem dX5_write_59 : decode cX5_write 59 = .ok (.aload_n 0, 1) := by decide +kernel
theorem dX5_write_60 : decode cX5_write 60 = .ok (.getfield 34, 3) := by decide +kernel
theorem dX5_write_63 : decode cX5_write 63 = .ok (.bipush 40, 2) := by decide +kernel
theorem dX5_write_65 : decode cX5_write 65 = .ok (.iload_n 1, 1) := by decide +kernel
theorem dX5_write_66 : decode cX5_write 66 = .ok (.imul, 1) := by decide +kernel
theorem dX5_write_67 : decode cX5_write 67 = .ok (.iload_n 2, 1) := by decide +kernel
theorem dX5_write_68 : decode cX5_write 68 = .ok (.iadd, 1) := by decide +kernel
theorem dX5_write_69 : decode cX5_write 69 = .ok (.aload_n 0, 1) := by decide +kernel
theorem dX5_write_70 : decode cX5_write 70 = .ok (.getfield 28, 3) := by decide +kernel
theorem dX5_write_73 : decode cX5_write 73 = .ok (.iload_n 1, 1) := by decide +kernel
theorem dX5_write_74 : decode cX5_write 74 = .ok (.iaload, 1) := by decide +kernel
theorem dX5_write_75 : decode cX5_write 75 = .ok (.lload_n 3, 1) := by decide +kernel
theorem dX5_write_76 : decode cX5_write 76 = .ok (.invokestatic 295, 3) := by decide +kernel
theorem dX5_write_79 : decode cX5_write 79 = .ok (.lastore, 1) := by decide +kernel
theorem dX5_write_80 : decode cX5_write 80 = .ok (.lload 6, 2) := by decide +kernel
theorem dX5_write_82 : decode cX5_write 82 = .ok (.lreturn, 1) := by decide +kernel
theorem dX5_copy_0 : decode cX5_copy 0 = .ok (.iload_n 1, 1) := by decide +kernel
theorem dX5_copy_1 : decode cX5_copy 1 = .ok (.invokestatic 287, 3) := by decide +kernel
theorem dX5_copy_4 : decode cX5_copy 4 = .ok (.ifCond .eq 10, 3) := by decide +kernel
theorem dX5_copy_7 : decode cX5_copy 7 = .ok (.iload_n 3, 1) := by decide +kernel
theorem dX5_copy_8 : decode cX5_copy 8 = .ok (.invokestatic 287, 3) := by decide +kernel
theorem dX5_copy_11 : decode cX5_copy 11 = .ok (.ifCond .ne 10, 3) := by decide +kernel
theorem dX5_copy_14 : decode cX5_copy 14 = .ok (.aload_n 0, 1) := by decide +kernel
theorem dX5_copy_15 : decode cX5_copy 15 = .ok (.ldc 41, 2) := by decide +kernel
theorem dX5_copy_17 : decode cX5_copy 17 = .ok (.invokevirtual 66, 3) := by decide +kernel
theorem dX5_copy_20 : decode cX5_copy 20 = .ok (.ireturn, 1) := by decide +kernel
theorem dX5_copy_21 : decode cX5_copy 21 = .ok (.aload_n 0, 1) := by decide +kernel
theorem dX5_copy_22 : decode cX5_copy 22 = .ok (.getfield 28, 3) := by decide +kernel
theorem dX5_copy_25 : decode cX5_copy 25 = .ok (.iload_n 1, 1) := by decide +kernel
theorem dX5_copy_26 : decode cX5_copy 26 = .ok (.iaload, 1) := by decide +kernel
theorem dX5_copy_27 : decode cX5_copy 27 = .ok (.ifCond .eq 12, 3) := by decide +kernel
theorem dX5_copy_30 : decode cX5_copy 30 = .ok (.aload_n 0, 1) := by decide +kernel
theorem dX5_copy_31 : decode cX5_copy 31 = .ok (.getfield 28, 3) := by decide +kernel
theorem dX5_copy_34 : decode cX5_copy 34 = .ok (.iload_n 3, 1) := by decide +kernel
theorem dX5_copy_35 : decode cX5_copy 35 = .ok (.iaload, 1) := by decide +kernel
theorem dX5_copy_36 : decode cX5_copy 36 = .ok (.ifCond .ne 11, 3) := by decide +kernel
theorem dX5_copy_39 : decode cX5_copy 39 = .ok (.aload_n 0, 1) := by decide +kernel
theorem dX5_copy_40 : decode cX5_copy 40 = .ok (.ldc_w 291, 3) := by decide +kernel
theorem dX5_copy_43 : decode cX5_copy 43 = .ok (.invokevirtual 66, 3) := by decide +kernel
theorem dX5_copy_46 : decode cX5_copy 46 = .ok (.ireturn, 1) := by decide +kernel
theorem dX5_copy_47 : decode cX5_copy 47 = .ok (.aload_n 0, 1) := by decide +kernel
theorem dX5_copy_48 : decode cX5_copy 48 = .ok (.getfield 28, 3) := by decide +kernel
theorem dX5_copy_51 : decode cX5_copy 51 = .ok (.iload_n 1, 1) := by decide +kernel
theorem dX5_copy_52 : decode cX5_copy 52 = .ok (.iaload, 1) := by decide +kernel
theorem dX5_copy_53 : decode cX5_copy 53 = .ok (.aload_n 0, 1) := by decide +kernel
theorem dX5_copy_54 : decode cX5_copy 54 = .ok (.getfield 28, 3) := by decide +kernel
theorem dX5_copy_57 : decode cX5_copy 57 = .ok (.iload_n 3, 1) := by decide +kernel
theorem dX5_copy_58 : decode cX5_copy 58 = .ok (.iaload, 1) := by decide +kernel
theorem dX5_copy_59 : decode cX5_copy 59 = .ok (.if_icmp .eq 10, 3) := by decide +kernel
theorem dX5_copy_62 : decode cX5_copy 62 = .ok (.aload_n 0, 1) := by decide +kernel
theorem dX5_copy_63 : decode cX5_copy 63 = .ok (.ldc 133, 2) := by decide +kernel
theorem dX5_copy_65 : decode cX5_copy 65 = .ok (.invokevirtual 66, 3) := by decide +kernel
theorem dX5_copy_68 : decode cX5_copy 68 = .ok (.ireturn, 1) := by decide +kernel
theorem dX5_copy_69 : decode cX5_copy 69 = .ok (.iload_n 2, 1) := by decide +kernel
theorem dX5_copy_70 : decode cX5_copy 70 = .ok (.ifCond .lt 40, 3) := by decide +kernel
theorem dX5_copy_73 : decode cX5_copy 73 = .ok (.iload 4, 2) := by decide +kernel
theorem dX5_copy_75 : decode cX5_copy 75 = .ok (.ifCond .lt 35, 3) := by decide +kernel
theorem dX5_copy_78 : decode cX5_copy 78 = .ok (.iload 5, 2) := by decide +kernel
theorem dX5_copy_80 : decode cX5_copy 80 = .ok (.ifCond .lt 30, 3) := by decide +kernel
theorem dX5_copy_83 : decode cX5_copy 83 = .ok (.iload 5, 2) := by decide +kernel
theorem dX5_copy_85 : decode cX5_copy 85 = .ok (.aload_n 0, 1) := by decide +kernel
theorem dX5_copy_86 : decode cX5_copy 86 = .ok (.getfield 31, 3) := by decide +kernel
theorem dX5_copy_89 : decode cX5_copy 89 = .ok (.iload_n 1, 1) := by decide +kernel
theorem dX5_copy_90 : decode cX5_copy 90 = .ok (.iaload, 1) := by decide +kernel
theorem dX5_copy_91 : decode cX5_copy 91 = .ok (.iload_n 2, 1) := by decide +kernel
theorem dX5_copy_92 : decode cX5_copy 92 = .ok (.isub, 1) := by decide +kernel
theorem dX5_copy_93 : decode cX5_copy 93 = .ok (.if_icmp .gt 17, 3) := by decide +kernel
theorem dX5_copy_96 : decode cX5_copy 96 = .ok (.iload 5, 2) := by decide +kernel
theorem dX5_copy_98 : decode cX5_copy 98 = .ok (.aload_n 0, 1) := by decide +kernel
theorem dX5_copy_99 : decode cX5_copy 99 = .ok (.getfield 31, 3) := by decide +kernel
theorem dX5_copy_102 : decode cX5_copy 102 = .ok (.iload_n 3, 1) := by decide +kernel
theorem dX5_copy_103 : decode cX5_copy 103 = .ok (.iaload, 1) := by decide +kernel
theorem dX5_copy_104 : decode cX5_copy 104 = .ok (.iload 4, 2) := by decide +kernel
theorem dX5_copy_106 : decode cX5_copy 106 = .ok (.isub, 1) := by decide +kernel
theorem dX5_copy_107 : decode cX5_copy 107 = .ok (.if_icmp .le 10, 3) := by decide +kernel
theorem dX5_copy_110 : decode cX5_copy 110 = .ok (.aload_n 0, 1) := by decide +kernel
theorem dX5_copy_111 : decode cX5_copy 111 = .ok (.ldc 41, 2) := by decide +kernel
theorem dX5_copy_113 : decode cX5_copy 113 = .ok (.invokevirtual 66, 3) := by decide +kernel
theorem dX5_copy_116 : decode cX5_copy 116 = .ok (.ireturn, 1) := by decide +kernel
theorem dX5_copy_117 : decode cX5_copy 117 = .ok (.iconst 0, 1) := by decide +kernel
theorem dX5_copy_118 : decode cX5_copy 118 = .ok (.istore 6, 2) := by decide +kernel
theorem dX5_copy_120 : decode cX5_copy 120 = .ok (.iload 6, 2) := by decide +kernel
theorem dX5_copy_122 : decode cX5_copy 122 = .ok (.iload 5, 2) := by decide +kernel
theorem dX5_copy_124 : decode cX5_copy 124 = .ok (.if_icmp .ge 30, 3) := by decide +kernel
theorem dX5_copy_127 : decode cX5_copy 127 = .ok (.aload_n 0, 1) := by decide +kernel
theorem dX5_copy_128 : decode cX5_copy 128 = .ok (.getfield 38, 3) := by decide +kernel
theorem dX5_copy_131 : decode cX5_copy 131 = .ok (.iload 6, 2) := by decide +kernel
theorem dX5_copy_133 : decode cX5_copy 133 = .ok (.aload_n 0, 1) := by decide +kernel
theorem dX5_copy_134 : decode cX5_copy 134 = .ok (.getfield 34, 3) := by decide +kernel
theorem dX5_copy_137 : decode cX5_copy 137 = .ok (.bipush 40, 2) := by decide +kernel
theorem dX5_copy_139 : decode cX5_copy 139 = .ok (.iload_n 1, 1) := by decide +kernel
theorem dX5_copy_140 : decode cX5_copy 140 = .ok (.imul, 1) := by decide +kernel
theorem dX5_copy_141 : decode cX5_copy 141 = .ok (.iload_n 2, 1) := by decide +kernel
theorem dX5_copy_142 : decode cX5_copy 142 = .ok (.iadd, 1) := by decide +kernel
theorem dX5_copy_143 : decode cX5_copy 143 = .ok (.iload 6, 2) := by decide +kernel
theorem dX5_copy_145 : decode cX5_copy 145 = .ok (.iadd, 1) := by decide +kernel
theorem dX5_copy_146 : decode cX5_copy 146 = .ok (.laload, 1) := by decide +kernel
theorem dX5_copy_147 : decode cX5_copy 147 = .ok (.lastore, 1) := by decide +kernel
theorem dX5_copy_148 : decode cX5_copy 148 = .ok (.iinc 6 1, 3) := by decide +kernel
theorem dX5_copy_151 : decode cX5_copy 151 = .ok (.goto (-31), 3) := by decide +kernel
theorem dX5_copy_154 : decode cX5_copy 154 = .ok (.iconst 0, 1) := by decide +kernel
theorem dX5_copy_155 : decode cX5_copy 155 = .ok (.istore 6, 2) := by decide +kernel
theorem dX5_copy_157 : decode cX5_copy 157 = .ok (.iload 6, 2) := by decide +kernel
theorem dX5_copy_159 : decode cX5_copy 159 = .ok (.iload 5, 2) := by decide +kernel
theorem dX5_copy_161 : decode cX5_copy 161 = .ok (.if_icmp .ge 31, 3) := by decide +kernel
theorem dX5_copy_164 : decode cX5_copy 164 = .ok (.aload_n 0, 1) := by decide +kernel
theorem dX5_copy_165 : decode cX5_copy 165 = .ok (.getfield 34, 3) := by decide +kernel
theorem dX5_copy_168 : decode cX5_copy 168 = .ok (.bipush 40, 2) := by decide +kernel
theorem dX5_copy_170 : decode cX5_copy 170 = .ok (.iload_n 3, 1) := by decide +kernel
theorem dX5_copy_171 : decode cX5_copy 171 = .ok (.imul, 1) := by decide +kernel
theorem dX5_copy_172 : decode cX5_copy 172 = .ok (.iload 4, 2) := by decide +kernel
theorem dX5_copy_174 : decode cX5_copy 174 = .ok (.iadd, 1) := by decide +kernel
theorem dX5_copy_175 : decode cX5_copy 175 = .ok (.iload 6, 2) := by decide +kernel
theorem dX5_copy_177 : decode cX5_copy 177 = .ok (.iadd, 1) := by decide +kernel
theorem dX5_copy_178 : decode cX5_copy 178 = .ok (.aload_n 0, 1) := by decide +kernel
theorem dX5_copy_179 : decode cX5_copy 179 = .ok (.getfield 38, 3) := by decide +kernel
theorem dX5_copy_182 : decode cX5_copy 182 = .ok (.iload 6, 2) := by decide +kernel
theorem dX5_copy_184 : decode cX5_copy 184 = .ok (.laload, 1) := by decide +kernel
theorem dX5_copy_185 : decode cX5_copy 185 = .ok (.lastore, 1) := by decide +kernel
theorem dX5_copy_186 : decode cX5_copy 186 = .ok (.iinc 6 1, 3) := by decide +kernel
theorem dX5_copy_189 : decode cX5_copy 189 = .ok (.goto (-32), 3) := by decide +kernel
theorem dX5_copy_192 : decode cX5_copy 192 = .ok (.iload 5, 2) := by decide +kernel
theorem dX5_copy_194 : decode cX5_copy 194 = .ok (.ireturn, 1) := by decide +kernel
theorem dX5_lays_0 : decode cX5_lays 0 = .ok (.aload_n 0, 1) := by decide +kernel
theorem dX5_lays_1 : decode cX5_lays 1 = .ok (.iload_n 1, 1) := by decide +kernel
theorem dX5_lays_2 : decode cX5_lays 2 = .ok (.invokevirtual 292, 3) := by decide +kernel
theorem dX5_lays_5 : decode cX5_lays 5 = .ok (.istore_n 2, 1) := by decide +kernel
theorem dX5_lays_6 : decode cX5_lays 6 = .ok (.iload_n 2, 1) := by decide +kernel
theorem dX5_lays_7 : decode cX5_lays 7 = .ok (.ifCond .eq 9, 3) := by decide +kernel
theorem dX5_lays_10 : decode cX5_lays 10 = .ok (.aload_n 0, 1) := by decide +kernel
theorem dX5_lays_11 : decode cX5_lays 11 = .ok (.iload_n 2, 1) := by decide +kernel
theorem dX5_lays_12 : decode cX5_lays 12 = .ok (.invokevirtual 66, 3) := by decide +kernel
theorem dX5_lays_15 : decode cX5_lays 15 = .ok (.ireturn, 1) := by decide +kernel
theorem dX5_lays_16 : decode cX5_lays 16 = .ok (.iconst 0, 1) := by decide +kernel
theorem dX5_lays_17 : decode cX5_lays 17 = .ok (.istore_n 3, 1) := by decide +kernel
theorem dX5_lays_18 : decode cX5_lays 18 = .ok (.iconst 0, 1) := by decide +kernel
theorem dX5_lays_19 : decode cX5_lays 19 = .ok (.istore 4, 2) := by decide +kernel
theorem dX5_lays_21 : decode cX5_lays 21 = .ok (.iload 4, 2) := by decide +kernel
theorem dX5_lays_23 : decode cX5_lays 23 = .ok (.aload_n 0, 1) := by decide +kernel
theorem dX5_lays_24 : decode cX5_lays 24 = .ok (.getfield 31, 3) := by decide +kernel
theorem dX5_lays_27 : decode cX5_lays 27 = .ok (.iload_n 1, 1) := by decide +kernel
theorem dX5_lays_28 : decode cX5_lays 28 = .ok (.iaload, 1) := by decide +kernel
theorem dX5_lays_29 : decode cX5_lays 29 = .ok (.if_icmp .ge 93, 3) := by decide +kernel
theorem dX5_lays_32 : decode cX5_lays 32 = .ok (.iload 4, 2) := by decide +kernel
theorem dX5_lays_34 : decode cX5_lays 34 = .ok (.aload_n 0, 1) := by decide +kernel
theorem dX5_lays_35 : decode cX5_lays 35 = .ok (.getfield 7, 3) := by decide +kernel
theorem dX5_lays_38 : decode cX5_lays 38 = .ok (.iconst 1, 1) := by decide +kernel
theorem dX5_lays_39 : decode cX5_lays 39 = .ok (.iaload, 1) := by decide +kernel
theorem dX5_lays_40 : decode cX5_lays 40 = .ok (.if_icmp .ge 82, 3) := by decide +kernel
theorem dX5_lays_43 : decode cX5_lays 43 = .ok (.aload_n 0, 1) := by decide +kernel
theorem dX5_lays_44 : decode cX5_lays 44 = .ok (.getfield 34, 3) := by decide +kernel
theorem dX5_lays_47 : decode cX5_lays 47 = .ok (.bipush 40, 2) := by decide +kernel
theorem dX5_lays_49 : decode cX5_lays 49 = .ok (.iload_n 1, 1) := by decide +kernel
theorem dX5_lays_50 : decode cX5_lays 50 = .ok (.imul, 1) := by decide +kernel
theorem dX5_lays_51 : decode cX5_lays 51 = .ok (.iload 4, 2) := by decide +kernel
theorem dX5_lays_53 : decode cX5_lays 53 = .ok (.iadd, 1) := by decide +kernel
theorem dX5_lays_54 : decode cX5_lays 54 = .ok (.laload, 1) := by decide +kernel
theorem dX5_lays_55 : decode cX5_lays 55 = .ok (.lconst 0, 1) := by decide +kernel
theorem dX5_lays_56 : decode cX5_lays 56 = .ok (.ldc2_w 123, 3) := by decide +kernel
theorem dX5_lays_59 : decode cX5_lays 59 = .ok (.invokestatic 46, 3) := by decide +kernel
theorem dX5_lays_62 : decode cX5_lays 62 = .ok (.istore 5, 2) := by decide +kernel
theorem dX5_lays_64 : decode cX5_lays 64 = .ok (.aload_n 0, 1) := by decide +kernel
theorem dX5_lays_65 : decode cX5_lays 65 = .ok (.getfield 7, 3) := by decide +kernel
theorem dX5_lays_68 : decode cX5_lays 68 = .ok (.iload 4, 2) := by decide +kernel
theorem dX5_lays_70 : decode cX5_lays 70 = .ok (.iconst 3, 1) := by decide +kernel
theorem dX5_lays_71 : decode cX5_lays 71 = .ok (.invokestatic 42, 3) := by decide +kernel
theorem dX5_lays_74 : decode cX5_lays 74 = .ok (.iload 5, 2) := by decide +kernel
theorem dX5_lays_76 : decode cX5_lays 76 = .ok (.ifCond .eq 19, 3) := by decide +kernel
theorem dX5_lays_79 : decode cX5_lays 79 = .ok (.aload_n 0, 1) := by decide +kernel
theorem dX5_lays_80 : decode cX5_lays 80 = .ok (.getfield 34, 3) := by decide +kernel
theorem dX5_lays_83 : decode cX5_lays 83 = .ok (.bipush 40, 2) := by decide +kernel
theorem dX5_lays_85 : decode cX5_lays 85 = .ok (.iload_n 1, 1) := by decide +kernel
theorem dX5_lays_86 : decode cX5_lays 86 = .ok (.imul, 1) := by decide +kernel
theorem dX5_lays_87 : decode cX5_lays 87 = .ok (.iload 4, 2) := by decide +kernel
theorem dX5_lays_89 : decode cX5_lays 89 = .ok (.iadd, 1) := by decide +kernel
theorem dX5_lays_90 : decode cX5_lays 90 = .ok (.laload, 1) := by decide +kernel
theorem dX5_lays_91 : decode cX5_lays 91 = .ok (.l2i, 1) := by decide +kernel
theorem dX5_lays_92 : decode cX5_lays 92 = .ok (.goto 10, 3) := by decide +kernel
theorem dX5_lays_95 : decode cX5_lays 95 = .ok (.aload_n 0, 1) := by decide +kernel
theorem dX5_lays_96 : decode cX5_lays 96 = .ok (.iload 4, 2) := by decide +kernel
theorem dX5_lays_98 : decode cX5_lays 98 = .ok (.iconst 3, 1) := by decide +kernel
theorem dX5_lays_99 : decode cX5_lays 99 = .ok (.invokevirtual 54, 3) := by decide +kernel
theorem dX5_lays_102 : decode cX5_lays 102 = .ok (.iastore, 1) := by decide +kernel
theorem dX5_lays_103 : decode cX5_lays 103 = .ok (.iload_n 3, 1) := by decide +kernel
theorem dX5_lays_104 : decode cX5_lays 104 = .ok (.iload 5, 2) := by decide +kernel
theorem dX5_lays_106 : decode cX5_lays 106 = .ok (.ifCond .eq 7, 3) := by decide +kernel
theorem dX5_lays_109 : decode cX5_lays 109 = .ok (.iconst 1, 1) := by decide +kernel
theorem dX5_lays_110 : decode cX5_lays 110 = .ok (.goto 4, 3) := by decide +kernel
theorem dX5_lays_113 : decode cX5_lays 113 = .ok (.iconst 0, 1) := by decide +kernel
theorem dX5_lays_114 : decode cX5_lays 114 = .ok (.iadd, 1) := by decide +kernel
theorem dX5_lays_115 : decode cX5_lays 115 = .ok (.istore_n 3, 1) := by decide +kernel
theorem dX5_lays_116 : decode cX5_lays 116 = .ok (.iinc 4 1, 3) := by decide +kernel
theorem dX5_lays_119 : decode cX5_lays 119 = .ok (.goto (-98), 3) := by decide +kernel
theorem dX5_lays_122 : decode cX5_lays 122 = .ok (.iload_n 3, 1) := by decide +kernel
theorem dX5_lays_123 : decode cX5_lays 123 = .ok (.ireturn, 1) := by decide +kernel
theorem dX5_book_0 : decode cX5_book 0 = .ok (.aload_n 0, 1) := by decide +kernel
theorem dX5_book_1 : decode cX5_book 1 = .ok (.iload_n 1, 1) := by decide +kernel
theorem dX5_book_2 : decode cX5_book 2 = .ok (.invokevirtual 292, 3) := by decide +kernel
theorem dX5_book_5 : decode cX5_book 5 = .ok (.istore_n 3, 1) := by decide +kernel
theorem dX5_book_6 : decode cX5_book 6 = .ok (.iload_n 3, 1) := by decide +kernel
theorem dX5_book_7 : decode cX5_book 7 = .ok (.ifCond .eq 9, 3) := by decide +kernel
theorem dX5_book_10 : decode cX5_book 10 = .ok (.aload_n 0, 1) := by decide +kernel
theorem dX5_book_11 : decode cX5_book 11 = .ok (.iload_n 3, 1) := by decide +kernel
theorem dX5_book_12 : decode cX5_book 12 = .ok (.invokevirtual 66, 3) := by decide +kernel
theorem dX5_book_15 : decode cX5_book 15 = .ok (.ireturn, 1) := by decide +kernel
theorem dX5_book_16 : decode cX5_book 16 = .ok (.aload_n 0, 1) := by decide +kernel
theorem dX5_book_17 : decode cX5_book 17 = .ok (.iload_n 2, 1) := by decide +kernel
theorem dX5_book_18 : decode cX5_book 18 = .ok (.invokevirtual 69, 3) := by decide +kernel
theorem dX5_book_21 : decode cX5_book 21 = .ok (.ifCond .ne 10, 3) := by decide +kernel
theorem dX5_book_24 : decode cX5_book 24 = .ok (.aload_n 0, 1) := by decide +kernel
theorem dX5_book_25 : decode cX5_book 25 = .ok (.ldc 41, 2) := by decide +kernel
theorem dX5_book_27 : decode cX5_book 27 = .ok (.invokevirtual 66, 3) := by decide +kernel
theorem dX5_book_30 : decode cX5_book 30 = .ok (.ireturn, 1) := by decide +kernel
theorem dX5_book_31 : decode cX5_book 31 = .ok (.aload_n 0, 1) := by decide +kernel
theorem dX5_book_32 : decode cX5_book 32 = .ok (.invokevirtual 153, 3) := by decide +kernel
theorem dX5_book_35 : decode cX5_book 35 = .ok (.iconst 0, 1) := by decide +kernel
theorem dX5_book_36 : decode cX5_book 36 = .ok (.istore 4, 2) := by decide +kernel
theorem dX5_book_38 : decode cX5_book 38 = .ok (.iload 4, 2) := by decide +kernel
theorem dX5_book_40 : decode cX5_book 40 = .ok (.aload_n 0, 1) := by decide +kernel
theorem dX5_book_41 : decode cX5_book 41 = .ok (.getfield 31, 3) := by decide +kernel
theorem dX5_book_44 : decode cX5_book 44 = .ok (.iload_n 1, 1) := by decide +kernel
theorem dX5_book_45 : decode cX5_book 45 = .ok (.iaload, 1) := by decide +kernel
theorem dX5_book_46 : decode cX5_book 46 = .ok (.if_icmp .ge 41, 3) := by decide +kernel
theorem dX5_book_49 : decode cX5_book 49 = .ok (.aload_n 0, 1) := by decide +kernel
theorem dX5_book_50 : decode cX5_book 50 = .ok (.getfield 34, 3) := by decide +kernel
theorem dX5_book_53 : decode cX5_book 53 = .ok (.bipush 40, 2) := by decide +kernel
theorem dX5_book_55 : decode cX5_book 55 = .ok (.iload_n 1, 1) := by decide +kernel
theorem dX5_book_56 : decode cX5_book 56 = .ok (.imul, 1) := by decide +kernel
theorem dX5_book_57 : decode cX5_book 57 = .ok (.iload 4, 2) := by decide +kernel
theorem dX5_book_59 : decode cX5_book 59 = .ok (.iadd, 1) := by decide +kernel
theorem dX5_book_60 : decode cX5_book 60 = .ok (.aload_n 0, 1) := by decide +kernel
theorem dX5_book_61 : decode cX5_book 61 = .ok (.getfield 28, 3) := by decide +kernel
theorem dX5_book_64 : decode cX5_book 64 = .ok (.iload_n 1, 1) := by decide +kernel
theorem dX5_book_65 : decode cX5_book 65 = .ok (.iaload, 1) := by decide +kernel
theorem dX5_book_66 : decode cX5_book 66 = .ok (.aload_n 0, 1) := by decide +kernel
theorem dX5_book_67 : decode cX5_book 67 = .ok (.iload_n 2, 1) := by decide +kernel
theorem dX5_book_68 : decode cX5_book 68 = .ok (.iconst 2, 1) := by decide +kernel
theorem dX5_book_69 : decode cX5_book 69 = .ok (.invokevirtual 54, 3) := by decide +kernel
theorem dX5_book_72 : decode cX5_book 72 = .ok (.i2l, 1) := by decide +kernel
theorem dX5_book_73 : decode cX5_book 73 = .ok (.invokestatic 295, 3) := by decide +kernel
theorem dX5_book_76 : decode cX5_book 76 = .ok (.lastore, 1) := by decide +kernel
theorem dX5_book_77 : decode cX5_book 77 = .ok (.aload_n 0, 1) := by decide +kernel
theorem dX5_book_78 : decode cX5_book 78 = .ok (.invokevirtual 141, 3) := by decide +kernel
theorem dX5_book_81 : decode cX5_book 81 = .ok (.iinc 4 1, 3) := by decide +kernel
theorem dX5_book_84 : decode cX5_book 84 = .ok (.goto (-46), 3) := by decide +kernel
theorem dX5_book_87 : decode cX5_book 87 = .ok (.aload_n 0, 1) := by decide +kernel
theorem dX5_book_88 : decode cX5_book 88 = .ok (.aload_n 0, 1) := by decide +kernel
theorem dX5_book_89 : decode cX5_book 89 = .ok (.getfield 31, 3) := by decide +kernel
theorem dX5_book_92 : decode cX5_book 92 = .ok (.iload_n 1, 1) := by decide +kernel
theorem dX5_book_93 : decode cX5_book 93 = .ok (.iaload, 1) := by decide +kernel
theorem dX5_book_94 : decode cX5_book 94 = .ok (.invokevirtual 156, 3) := by decide +kernel
theorem dX5_book_97 : decode cX5_book 97 = .ok (.ireturn, 1) := by decide +kernel
theorem dX5_isBook_0 : decode cX5_isBook 0 = .ok (.iconst 0, 1) := by decide +kernel
theorem dX5_isBook_1 : decode cX5_isBook 1 = .ok (.istore_n 3, 1) := by decide +kernel
theorem dX5_isBook_2 : decode cX5_isBook 2 = .ok (.iload_n 3, 1) := by decide +kernel
theorem dX5_isBook_3 : decode cX5_isBook 3 = .ok (.aload_n 0, 1) := by decide +kernel
theorem dX5_isBook_4 : decode cX5_isBook 4 = .ok (.getfield 31, 3) := by decide +kernel
theorem dX5_isBook_7 : decode cX5_isBook 7 = .ok (.iload_n 1, 1) := by decide +kernel
theorem dX5_isBook_8 : decode cX5_isBook 8 = .ok (.iaload, 1) := by decide +kernel
theorem dX5_isBook_9 : decode cX5_isBook 9 = .ok (.if_icmp .ge 37, 3) := by decide +kernel
theorem dX5_isBook_12 : decode cX5_isBook 12 = .ok (.aload_n 0, 1) := by decide +kernel
theorem dX5_isBook_13 : decode cX5_isBook 13 = .ok (.getfield 34, 3) := by decide +kernel
theorem dX5_isBook_16 : decode cX5_isBook 16 = .ok (.bipush 40, 2) := by decide +kernel
theorem dX5_isBook_18 : decode cX5_isBook 18 = .ok (.iload_n 1, 1) := by decide +kernel
theorem dX5_isBook_19 : decode cX5_isBook 19 = .ok (.imul, 1) := by decide +kernel
theorem dX5_isBook_20 : decode cX5_isBook 20 = .ok (.iload_n 3, 1) := by decide +kernel
theorem dX5_isBook_21 : decode cX5_isBook 21 = .ok (.iadd, 1) := by decide +kernel
theorem dX5_isBook_22 : decode cX5_isBook 22 = .ok (.laload, 1) := by decide +kernel
theorem dX5_isBook_23 : decode cX5_isBook 23 = .ok (.aload_n 0, 1) := by decide +kernel
theorem dX5_isBook_24 : decode cX5_isBook 24 = .ok (.iload_n 2, 1) := by decide +kernel
theorem dX5_isBook_25 : decode cX5_isBook 25 = .ok (.iconst 2, 1) := by decide +kernel
theorem dX5_isBook_26 : decode cX5_isBook 26 = .ok (.invokevirtual 54, 3) := by decide +kernel
theorem dX5_isBook_29 : decode cX5_isBook 29 = .ok (.i2l, 1) := by decide +kernel
theorem dX5_isBook_30 : decode cX5_isBook 30 = .ok (.lcmp, 1) := by decide +kernel
theorem dX5_isBook_31 : decode cX5_isBook 31 = .ok (.ifCond .eq 5, 3) := by decide +kernel
theorem dX5_isBook_34 : decode cX5_isBook 34 = .ok (.iconst 0, 1) := by decide +kernel
theorem dX5_isBook_35 : decode cX5_isBook 35 = .ok (.ireturn, 1) := by decide +kernel
theorem dX5_isBook_36 : decode cX5_isBook 36 = .ok (.aload_n 0, 1) := by decide +kernel
theorem dX5_isBook_37 : decode cX5_isBook 37 = .ok (.invokevirtual 141, 3) := by decide +kernel
theorem dX5_isBook_40 : decode cX5_isBook 40 = .ok (.iinc 3 1, 3) := by decide +kernel
theorem dX5_isBook_43 : decode cX5_isBook 43 = .ok (.goto (-41), 3) := by decide +kernel
theorem dX5_isBook_46 : decode cX5_isBook 46 = .ok (.iconst 1, 1) := by decide +kernel
theorem dX5_isBook_47 : decode cX5_isBook 47 = .ok (.ireturn, 1) := by decide +kernel
theorem dX5_read_0 : decode cX5_read 0 = .ok (.aload_n 0, 1) := by decide +kernel
theorem dX5_read_1 : decode cX5_read 1 = .ok (.iload_n 1, 1) := by decide +kernel
theorem dX5_read_2 : decode cX5_read 2 = .ok (.invokevirtual 292, 3) := by decide +kernel
theorem dX5_read_5 : decode cX5_read 5 = .ok (.istore_n 3, 1) := by decide +kernel
theorem dX5_read_6 : decode cX5_read 6 = .ok (.iload_n 3, 1) := by decide +kernel
theorem dX5_read_7 : decode cX5_read 7 = .ok (.ifCond .eq 9, 3) := by decide +kernel
theorem dX5_read_10 : decode cX5_read 10 = .ok (.aload_n 0, 1) := by decide +kernel
theorem dX5_read_11 : decode cX5_read 11 = .ok (.iload_n 3, 1) := by decide +kernel
theorem dX5_read_12 : decode cX5_read 12 = .ok (.invokevirtual 66, 3) := by decide +kernel
theorem dX5_read_15 : decode cX5_read 15 = .ok (.ireturn, 1) := by decide +kernel
theorem dX5_read_16 : decode cX5_read 16 = .ok (.aload_n 0, 1) := by decide +kernel
theorem dX5_read_17 : decode cX5_read 17 = .ok (.iload_n 2, 1) := by decide +kernel
theorem dX5_read_18 : decode cX5_read 18 = .ok (.invokevirtual 69, 3) := by decide +kernel
theorem dX5_read_21 : decode cX5_read 21 = .ok (.ifCond .ne 10, 3) := by decide +kernel
theorem dX5_read_24 : decode cX5_read 24 = .ok (.aload_n 0, 1) := by decide +kernel
theorem dX5_read_25 : decode cX5_read 25 = .ok (.ldc 41, 2) := by decide +kernel
theorem dX5_read_27 : decode cX5_read 27 = .ok (.invokevirtual 66, 3) := by decide +kernel
theorem dX5_read_30 : decode cX5_read 30 = .ok (.ireturn, 1) := by decide +kernel
theorem dX5_read_31 : decode cX5_read 31 = .ok (.aload_n 0, 1) := by decide +kernel
theorem dX5_read_32 : decode cX5_read 32 = .ok (.invokevirtual 153, 3) := by decide +kernel
theorem dX5_read_35 : decode cX5_read 35 = .ok (.iconst 0, 1) := by decide +kernel
theorem dX5_read_36 : decode cX5_read 36 = .ok (.istore 4, 2) := by decide +kernel
theorem dX5_read_38 : decode cX5_read 38 = .ok (.iconst 0, 1) := by decide +kernel
theorem dX5_read_39 : decode cX5_read 39 = .ok (.istore 5, 2) := by decide +kernel
theorem dX5_read_41 : decode cX5_read 41 = .ok (.iload 5, 2) := by decide +kernel
theorem dX5_read_43 : decode cX5_read 43 = .ok (.bipush 60, 2) := by decide +kernel
theorem dX5_read_45 : decode cX5_read 45 = .ok (.if_icmp .ge 58, 3) := by decide +kernel
theorem dX5_read_48 : decode cX5_read 48 = .ok (.aload_n 0, 1) := by decide +kernel
theorem dX5_read_49 : decode cX5_read 49 = .ok (.getfield 7, 3) := by decide +kernel
theorem dX5_read_52 : decode cX5_read 52 = .ok (.iload_n 2, 1) := by decide +kernel
theorem dX5_read_53 : decode cX5_read 53 = .ok (.iconst 0, 1) := by decide +kernel
theorem dX5_read_54 : decode cX5_read 54 = .ok (.invokestatic 42, 3) := by decide +kernel
theorem dX5_read_57 : decode cX5_read 57 = .ok (.iload 5, 2) := by decide +kernel
theorem dX5_read_59 : decode cX5_read 59 = .ok (.bipush 10, 2) := by decide +kernel
theorem dX5_read_61 : decode cX5_read 61 = .ok (.idiv, 1) := by decide +kernel
theorem dX5_read_62 : decode cX5_read 62 = .ok (.iastore, 1) := by decide +kernel
theorem dX5_read_63 : decode cX5_read 63 = .ok (.aload_n 0, 1) := by decide +kernel
theorem dX5_read_64 : decode cX5_read 64 = .ok (.getfield 7, 3) := by decide +kernel
theorem dX5_read_67 : decode cX5_read 67 = .ok (.iconst 4, 1) := by decide +kernel
theorem dX5_read_68 : decode cX5_read 68 = .ok (.iload 5, 2) := by decide +kernel
theorem dX5_read_70 : decode cX5_read 70 = .ok (.bipush 10, 2) := by decide +kernel
theorem dX5_read_72 : decode cX5_read 72 = .ok (.irem, 1) := by decide +kernel
theorem dX5_read_73 : decode cX5_read 73 = .ok (.iastore, 1) := by decide +kernel
theorem dX5_read_74 : decode cX5_read 74 = .ok (.aload_n 0, 1) := by decide +kernel
theorem dX5_read_75 : decode cX5_read 75 = .ok (.iload 4, 2) := by decide +kernel
theorem dX5_read_77 : decode cX5_read 77 = .ok (.aload_n 0, 1) := by decide +kernel
theorem dX5_read_78 : decode cX5_read 78 = .ok (.iload_n 1, 1) := by decide +kernel
theorem dX5_read_79 : decode cX5_read 79 = .ok (.iload_n 2, 1) := by decide +kernel
theorem dX5_read_80 : decode cX5_read 80 = .ok (.invokevirtual 299, 3) := by decide +kernel
theorem dX5_read_83 : decode cX5_read 83 = .ok (.ifCond .eq 7, 3) := by decide +kernel
theorem dX5_read_86 : decode cX5_read 86 = .ok (.iconst 1, 1) := by decide +kernel
theorem dX5_read_87 : decode cX5_read 87 = .ok (.goto 4, 3) := by decide +kernel
theorem dX5_read_90 : decode cX5_read 90 = .ok (.iconst 0, 1) := by decide +kernel
theorem dX5_read_91 : decode cX5_read 91 = .ok (.iadd, 1) := by decide +kernel
theorem dX5_read_92 : decode cX5_read 92 = .ok (.invokevirtual 156, 3) := by decide +kernel
theorem dX5_read_95 : decode cX5_read 95 = .ok (.istore 4, 2) := by decide +kernel
theorem dX5_read_97 : decode cX5_read 97 = .ok (.iinc 5 1, 3) := by decide +kernel
theorem dX5_read_100 : decode cX5_read 100 = .ok (.goto (-59), 3) := by decide +kernel
theorem dX5_read_103 : decode cX5_read 103 = .ok (.iload 4, 2) := by decide +kernel
theorem dX5_read_105 : decode cX5_read 105 = .ok (.ireturn, 1) := by decide +kernel
theorem dX5_image_0 : decode cX5_image 0 = .ok (.iconst 0, 1) := by decide +kernel
theorem dX5_image_1 : decode cX5_image 1 = .ok (.istore_n 1, 1) := by decide +kernel
theorem dX5_image_2 : decode cX5_image 2 = .ok (.iload_n 1, 1) := by decide +kernel
theorem dX5_image_3 : decode cX5_image 3 = .ok (.bipush 37, 2) := by decide +kernel
theorem dX5_image_5 : decode cX5_image 5 = .ok (.if_icmp .ge 21, 3) := by decide +kernel
theorem dX5_image_8 : decode cX5_image 8 = .ok (.aload_n 0, 1) := by decide +kernel
theorem dX5_image_9 : decode cX5_image 9 = .ok (.getfield 13, 3) := by decide +kernel
theorem dX5_image_12 : decode cX5_image 12 = .ok (.iload_n 1, 1) := by decide +kernel
theorem dX5_image_13 : decode cX5_image 13 = .ok (.aload_n 0, 1) := by decide +kernel
theorem dX5_image_14 : decode cX5_image 14 = .ok (.getfield 7, 3) := by decide +kernel
theorem dX5_image_17 : decode cX5_image 17 = .ok (.iload_n 1, 1) := by decide +kernel
theorem dX5_image_18 : decode cX5_image 18 = .ok (.iaload, 1) := by decide +kernel
theorem dX5_image_19 : decode cX5_image 19 = .ok (.iastore, 1) := by decide +kernel
theorem dX5_image_20 : decode cX5_image 20 = .ok (.iinc 1 1, 3) := by decide +kernel
theorem dX5_image_23 : decode cX5_image 23 = .ok (.goto (-21), 3) := by decide +kernel
theorem dX5_image_26 : decode cX5_image 26 = .ok (.aload_n 0, 1) := by decide +kernel
theorem dX5_image_27 : decode cX5_image 27 = .ok (.iconst 1, 1) := by decide +kernel
theorem dX5_image_28 : decode cX5_image 28 = .ok (.putfield 302, 3) := by decide +kernel
theorem dX5_image_31 : decode cX5_image 31 = .ok (.iconst 1, 1) := by decide +kernel
theorem dX5_image_32 : decode cX5_image 32 = .ok (.ireturn, 1) := by decide +kernel
theorem dX5_undo_0 : decode cX5_undo 0 = .ok (.aload_n 0, 1) := by decide +kernel
theorem dX5_undo_1 : decode cX5_undo 1 = .ok (.getfield 302, 3) := by decide +kernel
theorem dX5_undo_4 : decode cX5_undo 4 = .ok (.ifCond .ne 10, 3) := by decide +kernel
theorem dX5_undo_7 : decode cX5_undo 7 = .ok (.aload_n 0, 1) := by decide +kernel
theorem dX5_undo_8 : decode cX5_undo 8 = .ok (.ldc 165, 2) := by decide +kernel
theorem dX5_undo_10 : decode cX5_undo 10 = .ok (.invokevirtual 66, 3) := by decide +kernel
theorem dX5_undo_13 : decode cX5_undo 13 = .ok (.ireturn, 1) := by decide +kernel
theorem dX5_undo_14 : decode cX5_undo 14 = .ok (.iconst 0, 1) := by decide +kernel
theorem dX5_undo_15 : decode cX5_undo 15 = .ok (.istore_n 1, 1) := by decide +kernel
theorem dX5_undo_16 : decode cX5_undo 16 = .ok (.iload_n 1, 1) := by decide +kernel
theorem dX5_undo_17 : decode cX5_undo 17 = .ok (.bipush 37, 2) := by decide +kernel
theorem dX5_undo_19 : decode cX5_undo 19 = .ok (.if_icmp .ge 21, 3) := by decide +kernel
theorem dX5_undo_22 : decode cX5_undo 22 = .ok (.aload_n 0, 1) := by decide +kernel
theorem dX5_undo_23 : decode cX5_undo 23 = .ok (.getfield 7, 3) := by decide +kernel
theorem dX5_undo_26 : decode cX5_undo 26 = .ok (.iload_n 1, 1) := by decide +kernel
theorem dX5_undo_27 : decode cX5_undo 27 = .ok (.aload_n 0, 1) := by decide +kernel
theorem dX5_undo_28 : decode cX5_undo 28 = .ok (.getfield 13, 3) := by decide +kernel
theorem dX5_undo_31 : decode cX5_undo 31 = .ok (.iload_n 1, 1) := by decide +kernel
theorem dX5_undo_32 : decode cX5_undo 32 = .ok (.iaload, 1) := by decide +kernel
theorem dX5_undo_33 : decode cX5_undo 33 = .ok (.iastore, 1) := by decide +kernel
theorem dX5_undo_34 : decode cX5_undo 34 = .ok (.iinc 1 1, 3) := by decide +kernel
theorem dX5_undo_37 : decode cX5_undo 37 = .ok (.goto (-21), 3) := by decide +kernel
theorem dX5_undo_40 : decode cX5_undo 40 = .ok (.aload_n 0, 1) := by decide +kernel
theorem dX5_undo_41 : decode cX5_undo 41 = .ok (.getfield 7, 3) := by decide +kernel
theorem dX5_undo_44 : decode cX5_undo 44 = .ok (.iconst 1, 1) := by decide +kernel
theorem dX5_undo_45 : decode cX5_undo 45 = .ok (.iaload, 1) := by decide +kernel
theorem dX5_undo_46 : decode cX5_undo 46 = .ok (.ireturn, 1) := by decide +kernel
theorem dX5_tear_0 : decode cX5_tear 0 = .ok (.aload_n 0, 1) := by decide +kernel
theorem dX5_tear_1 : decode cX5_tear 1 = .ok (.getfield 302, 3) := by decide +kernel
theorem dX5_tear_4 : decode cX5_tear 4 = .ok (.ifCond .eq 7, 3) := by decide +kernel
theorem dX5_tear_7 : decode cX5_tear 7 = .ok (.iconst 1, 1) := by decide +kernel
theorem dX5_tear_8 : decode cX5_tear 8 = .ok (.goto 4, 3) := by decide +kernel
theorem dX5_tear_11 : decode cX5_tear 11 = .ok (.iconst 0, 1) := by decide +kernel
theorem dX5_tear_12 : decode cX5_tear 12 = .ok (.istore_n 1, 1) := by decide +kernel
theorem dX5_tear_13 : decode cX5_tear 13 = .ok (.aload_n 0, 1) := by decide +kernel
theorem dX5_tear_14 : decode cX5_tear 14 = .ok (.iconst 0, 1) := by decide +kernel
theorem dX5_tear_15 : decode cX5_tear 15 = .ok (.putfield 302, 3) := by decide +kernel
theorem dX5_tear_18 : decode cX5_tear 18 = .ok (.iload_n 1, 1) := by decide +kernel
theorem dX5_tear_19 : decode cX5_tear 19 = .ok (.ireturn, 1) := by decide +kernel
theorem dX5_rootsMany_0 : decode cX5_rootsMany 0 = .ok (.iconst 0, 1) := by decide +kernel
theorem dX5_rootsMany_1 : decode cX5_rootsMany 1 = .ok (.istore_n 1, 1) := by decide +kernel
theorem dX5_rootsMany_2 : decode cX5_rootsMany 2 = .ok (.iconst 0, 1) := by decide +kernel
theorem dX5_rootsMany_3 : decode cX5_rootsMany 3 = .ok (.istore_n 2, 1) := by decide +kernel
theorem dX5_rootsMany_4 : decode cX5_rootsMany 4 = .ok (.iload_n 2, 1) := by decide +kernel
theorem dX5_rootsMany_5 : decode cX5_rootsMany 5 = .ok (.bipush 30, 2) := by decide +kernel
theorem dX5_rootsMany_7 : decode cX5_rootsMany 7 = .ok (.if_icmp .ge 22, 3) := by decide +kernel
theorem dX5_rootsMany_10 : decode cX5_rootsMany 10 = .ok (.iload_n 1, 1) := by decide +kernel
theorem dX5_rootsMany_11 : decode cX5_rootsMany 11 = .ok (.aload_n 0, 1) := by decide +kernel
theorem dX5_rootsMany_12 : decode cX5_rootsMany 12 = .ok (.getfield 7, 3) := by decide +kernel
theorem dX5_rootsMany_15 : decode cX5_rootsMany 15 = .ok (.iconst 2, 1) := by decide +kernel
theorem dX5_rootsMany_16 : decode cX5_rootsMany 16 = .ok (.iaload, 1) := by decide +kernel
theorem dX5_rootsMany_17 : decode cX5_rootsMany 17 = .ok (.iload_n 2, 1) := by decide +kernel
theorem dX5_rootsMany_18 : decode cX5_rootsMany 18 = .ok (.ishr, 1) := by decide +kernel
theorem dX5_rootsMany_19 : decode cX5_rootsMany 19 = .ok (.iconst 1, 1) := by decide +kernel
theorem dX5_rootsMany_20 : decode cX5_rootsMany 20 = .ok (.iand, 1) := by decide +kernel
theorem dX5_rootsMany_21 : decode cX5_rootsMany 21 = .ok (.iadd, 1) := by decide +kernel
theorem dX5_rootsMany_22 : decode cX5_rootsMany 22 = .ok (.istore_n 1, 1) := by decide +kernel
theorem dX5_rootsMany_23 : decode cX5_rootsMany 23 = .ok (.iinc 2 1, 3) := by decide +kernel
theorem dX5_rootsMany_26 : decode cX5_rootsMany 26 = .ok (.goto (-22), 3) := by decide +kernel
theorem dX5_rootsMany_29 : decode cX5_rootsMany 29 = .ok (.iload_n 1, 1) := by decide +kernel
theorem dX5_rootsMany_30 : decode cX5_rootsMany 30 = .ok (.ireturn, 1) := by decide +kernel
theorem dX5_count_0 : decode cX5_count 0 = .ok (.iload_n 1, 1) := by decide +kernel
theorem dX5_count_1 : decode cX5_count 1 = .ok (.tableswitch 54 0 3 #[31, 38, 43, 48], 31) := by decide +kernel
theorem dX5_count_32 : decode cX5_count 32 = .ok (.aload_n 0, 1) := by decide +kernel
theorem dX5_count_33 : decode cX5_count 33 = .ok (.getfield 7, 3) := by decide +kernel
theorem dX5_count_36 : decode cX5_count 36 = .ok (.iconst 1, 1) := by decide +kernel
theorem dX5_count_37 : decode cX5_count 37 = .ok (.iaload, 1) := by decide +kernel
theorem dX5_count_38 : decode cX5_count 38 = .ok (.ireturn, 1) := by decide +kernel
theorem dX5_count_39 : decode cX5_count 39 = .ok (.aload_n 0, 1) := by decide +kernel
theorem dX5_count_40 : decode cX5_count 40 = .ok (.getfield 183, 3) := by decide +kernel
theorem dX5_count_43 : decode cX5_count 43 = .ok (.ireturn, 1) := by decide +kernel
theorem dX5_count_44 : decode cX5_count 44 = .ok (.aload_n 0, 1) := by decide +kernel
theorem dX5_count_45 : decode cX5_count 45 = .ok (.invokevirtual 305, 3) := by decide +kernel
theorem dX5_count_48 : decode cX5_count 48 = .ok (.ireturn, 1) := by decide +kernel
theorem dX5_count_49 : decode cX5_count 49 = .ok (.aload_n 0, 1) := by decide +kernel
theorem dX5_count_50 : decode cX5_count 50 = .ok (.iconst 3, 1) := by decide +kernel
theorem dX5_count_51 : decode cX5_count 51 = .ok (.invokevirtual 97, 3) := by decide +kernel
theorem dX5_count_54 : decode cX5_count 54 = .ok (.ireturn, 1) := by decide +kernel
theorem dX5_count_55 : decode cX5_count 55 = .ok (.aload_n 0, 1) := by decide +kernel
theorem dX5_count_56 : decode cX5_count 56 = .ok (.ldc 41, 2) := by decide +kernel
theorem dX5_count_58 : decode cX5_count 58 = .ok (.invokevirtual 66, 3) := by decide +kernel
theorem dX5_count_61 : decode cX5_count 61 = .ok (.ireturn, 1) := by decide +kernel
theorem dX5_status_0 : decode cX5_status 0 = .ok (.iload_n 1, 1) := by decide +kernel
theorem dX5_status_1 : decode cX5_status 1 = .ok (.i2l, 1) := by decide +kernel
theorem dX5_status_2 : decode cX5_status 2 = .ok (.ldc2_w 308, 3) := by decide +kernel
theorem dX5_status_5 : decode cX5_status 5 = .ok (.ldc2_w 310, 3) := by decide +kernel
theorem dX5_status_8 : decode cX5_status 8 = .ok (.invokestatic 46, 3) := by decide +kernel
theorem dX5_status_11 : decode cX5_status 11 = .ok (.ifCond .ne 10, 3) := by decide +kernel
theorem dX5_status_14 : decode cX5_status 14 = .ok (.aload_n 0, 1) := by decide +kernel
theorem dX5_status_15 : decode cX5_status 15 = .ok (.ldc 41, 2) := by decide +kernel
theorem dX5_status_17 : decode cX5_status 17 = .ok (.invokevirtual 66, 3) := by decide +kernel
theorem dX5_status_20 : decode cX5_status 20 = .ok (.ireturn, 1) := by decide +kernel
theorem dX5_status_21 : decode cX5_status 21 = .ok (.iconst 0, 1) := by decide +kernel
theorem dX5_status_22 : decode cX5_status 22 = .ok (.istore_n 2, 1) := by decide +kernel
theorem dX5_status_23 : decode cX5_status 23 = .ok (.iconst 0, 1) := by decide +kernel
theorem dX5_status_24 : decode cX5_status 24 = .ok (.istore_n 3, 1) := by decide +kernel
theorem dX5_status_25 : decode cX5_status 25 = .ok (.iload_n 3, 1) := by decide +kernel
theorem dX5_status_26 : decode cX5_status 26 = .ok (.bipush 7, 2) := by decide +kernel
theorem dX5_status_28 : decode cX5_status 28 = .ok (.if_icmp .ge 31, 3) := by decide +kernel
theorem dX5_status_31 : decode cX5_status 31 = .ok (.iload_n 2, 1) := by decide +kernel
theorem dX5_status_32 : decode cX5_status 32 = .ok (.iload_n 1, 1) := by decide +kernel
theorem dX5_status_33 : decode cX5_status 33 = .ok (.ifCond .lt 8, 3) := by decide +kernel
theorem dX5_status_36 : decode cX5_status 36 = .ok (.iload_n 3, 1) := by decide +kernel
theorem dX5_status_37 : decode cX5_status 37 = .ok (.iload_n 1, 1) := by decide +kernel
theorem dX5_status_38 : decode cX5_status 38 = .ok (.if_icmp .ne 12, 3) := by decide +kernel
theorem dX5_status_41 : decode cX5_status 41 = .ok (.aload_n 0, 1) := by decide +kernel
theorem dX5_status_42 : decode cX5_status 42 = .ok (.getfield 22, 3) := by decide +kernel
theorem dX5_status_45 : decode cX5_status 45 = .ok (.iload_n 3, 1) := by decide +kernel
theorem dX5_status_46 : decode cX5_status 46 = .ok (.iaload, 1) := by decide +kernel
theorem dX5_status_47 : decode cX5_status 47 = .ok (.goto 4, 3) := by decide +kernel
theorem dX5_status_50 : decode cX5_status 50 = .ok (.iconst 0, 1) := by decide +kernel
theorem dX5_status_51 : decode cX5_status 51 = .ok (.iadd, 1) := by decide +kernel
theorem dX5_status_52 : decode cX5_status 52 = .ok (.istore_n 2, 1) := by decide +kernel
theorem dX5_status_53 : decode cX5_status 53 = .ok (.iinc 3 1, 3) := by decide +kernel
theorem dX5_status_56 : decode cX5_status 56 = .ok (.goto (-31), 3) := by decide +kernel
theorem dX5_status_59 : decode cX5_status 59 = .ok (.iload_n 2, 1) := by decide +kernel
theorem dX5_status_60 : decode cX5_status 60 = .ok (.ireturn, 1) := by decide +kernel
