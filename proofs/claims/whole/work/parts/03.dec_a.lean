theorem dX0_init_0 : decode cX0_init 0 = .ok (.aload_n 0, 1) := by decide +kernel
theorem dX0_init_1 : decode cX0_init 1 = .ok (.invokespecial 3, 3) := by decide +kernel
theorem dX0_init_4 : decode cX0_init 4 = .ok (.aload_n 0, 1) := by decide +kernel
theorem dX0_init_5 : decode cX0_init 5 = .ok (.new 9, 3) := by decide +kernel
theorem dX0_init_8 : decode cX0_init 8 = .ok (.dup, 1) := by decide +kernel
theorem dX0_init_9 : decode cX0_init 9 = .ok (.invokespecial 11, 3) := by decide +kernel
theorem dX0_init_12 : decode cX0_init 12 = .ok (.putfield 12, 3) := by decide +kernel
theorem dX0_init_15 : decode cX0_init 15 = .ok (.return_, 1) := by decide +kernel
theorem dX0_tellTo_0 : decode cX0_tellTo 0 = .ok (.aload_n 0, 1) := by decide +kernel
theorem dX0_tellTo_1 : decode cX0_tellTo 1 = .ok (.iconst 0, 1) := by decide +kernel
theorem dX0_tellTo_2 : decode cX0_tellTo 2 = .ok (.putfield 18, 3) := by decide +kernel
theorem dX0_tellTo_5 : decode cX0_tellTo 5 = .ok (.iconst 1, 1) := by decide +kernel
theorem dX0_tellTo_6 : decode cX0_tellTo 6 = .ok (.istore_n 2, 1) := by decide +kernel
theorem dX0_tellTo_7 : decode cX0_tellTo 7 = .ok (.iload_n 2, 1) := by decide +kernel
theorem dX0_tellTo_8 : decode cX0_tellTo 8 = .ok (.bipush 120, 2) := by decide +kernel
theorem dX0_tellTo_10 : decode cX0_tellTo 10 = .ok (.if_icmp .gt 55, 3) := by decide +kernel
theorem dX0_tellTo_13 : decode cX0_tellTo 13 = .ok (.aload_n 0, 1) := by decide +kernel
theorem dX0_tellTo_14 : decode cX0_tellTo 14 = .ok (.invokevirtual 22, 3) := by decide +kernel
theorem dX0_tellTo_17 : decode cX0_tellTo 17 = .ok (.aload_n 0, 1) := by decide +kernel
theorem dX0_tellTo_18 : decode cX0_tellTo 18 = .ok (.aload_n 1, 1) := by decide +kernel
theorem dX0_tellTo_19 : decode cX0_tellTo 19 = .ok (.invokevirtual 25, 3) := by decide +kernel
theorem dX0_tellTo_22 : decode cX0_tellTo 22 = .ok (.ifCond .ne 10, 3) := by decide +kernel
theorem dX0_tellTo_25 : decode cX0_tellTo 25 = .ok (.iconst (-1), 1) := by decide +kernel
theorem dX0_tellTo_26 : decode cX0_tellTo 26 = .ok (.aload_n 0, 1) := by decide +kernel
theorem dX0_tellTo_27 : decode cX0_tellTo 27 = .ok (.getfield 29, 3) := by decide +kernel
theorem dX0_tellTo_30 : decode cX0_tellTo 30 = .ok (.isub, 1) := by decide +kernel
theorem dX0_tellTo_31 : decode cX0_tellTo 31 = .ok (.ireturn, 1) := by decide +kernel
theorem dX0_tellTo_32 : decode cX0_tellTo 32 = .ok (.aload_n 0, 1) := by decide +kernel
theorem dX0_tellTo_33 : decode cX0_tellTo 33 = .ok (.getfield 32, 3) := by decide +kernel
theorem dX0_tellTo_36 : decode cX0_tellTo 36 = .ok (.bipush 14, 2) := by decide +kernel
theorem dX0_tellTo_38 : decode cX0_tellTo 38 = .ok (.if_icmp .ne 5, 3) := by decide +kernel
theorem dX0_tellTo_41 : decode cX0_tellTo 41 = .ok (.iload_n 2, 1) := by decide +kernel
theorem dX0_tellTo_42 : decode cX0_tellTo 42 = .ok (.ireturn, 1) := by decide +kernel
theorem dX0_tellTo_43 : decode cX0_tellTo 43 = .ok (.aload_n 0, 1) := by decide +kernel
theorem dX0_tellTo_44 : decode cX0_tellTo 44 = .ok (.getfield 32, 3) := by decide +kernel
theorem dX0_tellTo_47 : decode cX0_tellTo 47 = .ok (.bipush 13, 2) := by decide +kernel
theorem dX0_tellTo_49 : decode cX0_tellTo 49 = .ok (.if_icmp .eq 10, 3) := by decide +kernel
theorem dX0_tellTo_52 : decode cX0_tellTo 52 = .ok (.iconst (-1), 1) := by decide +kernel
theorem dX0_tellTo_53 : decode cX0_tellTo 53 = .ok (.aload_n 0, 1) := by decide +kernel
theorem dX0_tellTo_54 : decode cX0_tellTo 54 = .ok (.getfield 29, 3) := by decide +kernel
theorem dX0_tellTo_57 : decode cX0_tellTo 57 = .ok (.isub, 1) := by decide +kernel
theorem dX0_tellTo_58 : decode cX0_tellTo 58 = .ok (.ireturn, 1) := by decide +kernel
theorem dX0_tellTo_59 : decode cX0_tellTo 59 = .ok (.iinc 2 1, 3) := by decide +kernel
theorem dX0_tellTo_62 : decode cX0_tellTo 62 = .ok (.goto (-55), 3) := by decide +kernel
theorem dX0_tellTo_65 : decode cX0_tellTo 65 = .ok (.iconst (-1), 1) := by decide +kernel
theorem dX0_tellTo_66 : decode cX0_tellTo 66 = .ok (.aload_n 0, 1) := by decide +kernel
theorem dX0_tellTo_67 : decode cX0_tellTo 67 = .ok (.getfield 29, 3) := by decide +kernel
theorem dX0_tellTo_70 : decode cX0_tellTo 70 = .ok (.isub, 1) := by decide +kernel
theorem dX0_tellTo_71 : decode cX0_tellTo 71 = .ok (.ireturn, 1) := by decide +kernel
theorem dX0_item_0 : decode cX0_item 0 = .ok (.aload_n 0, 1) := by decide +kernel
theorem dX0_item_1 : decode cX0_item 1 = .ok (.getfield 32, 3) := by decide +kernel
theorem dX0_item_4 : decode cX0_item 4 = .ok (.invokestatic 35, 3) := by decide +kernel
theorem dX0_item_7 : decode cX0_item 7 = .ok (.ifCond .eq 9, 3) := by decide +kernel
theorem dX0_item_10 : decode cX0_item 10 = .ok (.aload_n 0, 1) := by decide +kernel
theorem dX0_item_11 : decode cX0_item 11 = .ok (.aload_n 1, 1) := by decide +kernel
theorem dX0_item_12 : decode cX0_item 12 = .ok (.invokevirtual 39, 3) := by decide +kernel
theorem dX0_item_15 : decode cX0_item 15 = .ok (.ireturn, 1) := by decide +kernel
theorem dX0_item_16 : decode cX0_item 16 = .ok (.aload_n 0, 1) := by decide +kernel
theorem dX0_item_17 : decode cX0_item 17 = .ok (.getfield 32, 3) := by decide +kernel
theorem dX0_item_20 : decode cX0_item 20 = .ok (.tableswitch 68 7 11 #[36, 43, 50, 56, 62], 36) := by decide +kernel
theorem dX0_item_56 : decode cX0_item 56 = .ok (.aload_n 0, 1) := by decide +kernel
theorem dX0_item_57 : decode cX0_item 57 = .ok (.aload_n 1, 1) := by decide +kernel
theorem dX0_item_58 : decode cX0_item 58 = .ok (.iconst 1, 1) := by decide +kernel
theorem dX0_item_59 : decode cX0_item 59 = .ok (.invokevirtual 42, 3) := by decide +kernel
theorem dX0_item_62 : decode cX0_item 62 = .ok (.ireturn, 1) := by decide +kernel
theorem dX0_item_63 : decode cX0_item 63 = .ok (.aload_n 0, 1) := by decide +kernel
theorem dX0_item_64 : decode cX0_item 64 = .ok (.aload_n 1, 1) := by decide +kernel
theorem dX0_item_65 : decode cX0_item 65 = .ok (.iconst 0, 1) := by decide +kernel
theorem dX0_item_66 : decode cX0_item 66 = .ok (.invokevirtual 42, 3) := by decide +kernel
theorem dX0_item_69 : decode cX0_item 69 = .ok (.ireturn, 1) := by decide +kernel
theorem dX0_item_70 : decode cX0_item 70 = .ok (.aload_n 0, 1) := by decide +kernel
theorem dX0_item_71 : decode cX0_item 71 = .ok (.aload_n 1, 1) := by decide +kernel
theorem dX0_item_72 : decode cX0_item 72 = .ok (.invokevirtual 46, 3) := by decide +kernel
theorem dX0_item_75 : decode cX0_item 75 = .ok (.ireturn, 1) := by decide +kernel
theorem dX0_item_76 : decode cX0_item 76 = .ok (.aload_n 0, 1) := by decide +kernel
theorem dX0_item_77 : decode cX0_item 77 = .ok (.aload_n 1, 1) := by decide +kernel
theorem dX0_item_78 : decode cX0_item 78 = .ok (.invokevirtual 49, 3) := by decide +kernel
theorem dX0_item_81 : decode cX0_item 81 = .ok (.ireturn, 1) := by decide +kernel
theorem dX0_item_82 : decode cX0_item 82 = .ok (.aload_n 0, 1) := by decide +kernel
theorem dX0_item_83 : decode cX0_item 83 = .ok (.aload_n 1, 1) := by decide +kernel
theorem dX0_item_84 : decode cX0_item 84 = .ok (.invokevirtual 52, 3) := by decide +kernel
theorem dX0_item_87 : decode cX0_item 87 = .ok (.ireturn, 1) := by decide +kernel
theorem dX0_item_88 : decode cX0_item 88 = .ok (.iconst 0, 1) := by decide +kernel
theorem dX0_item_89 : decode cX0_item 89 = .ok (.ireturn, 1) := by decide +kernel
theorem dX0_kindItem_0 : decode cX0_kindItem 0 = .ok (.aload_n 1, 1) := by decide +kernel
theorem dX0_kindItem_1 : decode cX0_kindItem 1 = .ok (.invokevirtual 55, 3) := by decide +kernel
theorem dX0_kindItem_4 : decode cX0_kindItem 4 = .ok (.ifCond .eq 5, 3) := by decide +kernel
theorem dX0_kindItem_7 : decode cX0_kindItem 7 = .ok (.iconst 0, 1) := by decide +kernel
theorem dX0_kindItem_8 : decode cX0_kindItem 8 = .ok (.ireturn, 1) := by decide +kernel
theorem dX0_kindItem_9 : decode cX0_kindItem 9 = .ok (.aload_n 1, 1) := by decide +kernel
theorem dX0_kindItem_10 : decode cX0_kindItem 10 = .ok (.aload_n 0, 1) := by decide +kernel
theorem dX0_kindItem_11 : decode cX0_kindItem 11 = .ok (.getfield 32, 3) := by decide +kernel
theorem dX0_kindItem_14 : decode cX0_kindItem 14 = .ok (.invokevirtual 61, 3) := by decide +kernel
theorem dX0_kindItem_17 : decode cX0_kindItem 17 = .ok (.aload_n 0, 1) := by decide +kernel
theorem dX0_kindItem_18 : decode cX0_kindItem 18 = .ok (.invokevirtual 22, 3) := by decide +kernel
theorem dX0_kindItem_21 : decode cX0_kindItem 21 = .ok (.aload_n 0, 1) := by decide +kernel
theorem dX0_kindItem_22 : decode cX0_kindItem 22 = .ok (.getfield 32, 3) := by decide +kernel
theorem dX0_kindItem_25 : decode cX0_kindItem 25 = .ok (.bipush 6, 2) := by decide +kernel
theorem dX0_kindItem_27 : decode cX0_kindItem 27 = .ok (.if_icmp .eq 5, 3) := by decide +kernel
theorem dX0_kindItem_30 : decode cX0_kindItem 30 = .ok (.iconst 1, 1) := by decide +kernel
theorem dX0_kindItem_31 : decode cX0_kindItem 31 = .ok (.ireturn, 1) := by decide +kernel
theorem dX0_kindItem_32 : decode cX0_kindItem 32 = .ok (.aload_n 0, 1) := by decide +kernel
theorem dX0_kindItem_33 : decode cX0_kindItem 33 = .ok (.bipush 99, 2) := by decide +kernel
theorem dX0_kindItem_35 : decode cX0_kindItem 35 = .ok (.invokevirtual 65, 3) := by decide +kernel
theorem dX0_kindItem_38 : decode cX0_kindItem 38 = .ok (.ifCond .ne 5, 3) := by decide +kernel
theorem dX0_kindItem_41 : decode cX0_kindItem 41 = .ok (.iconst 0, 1) := by decide +kernel
theorem dX0_kindItem_42 : decode cX0_kindItem 42 = .ok (.ireturn, 1) := by decide +kernel
theorem dX0_kindItem_43 : decode cX0_kindItem 43 = .ok (.aload_n 1, 1) := by decide +kernel
theorem dX0_kindItem_44 : decode cX0_kindItem 44 = .ok (.getfield 68, 3) := by decide +kernel
theorem dX0_kindItem_47 : decode cX0_kindItem 47 = .ok (.aload_n 1, 1) := by decide +kernel
theorem dX0_kindItem_48 : decode cX0_kindItem 48 = .ok (.getfield 72, 3) := by decide +kernel
theorem dX0_kindItem_51 : decode cX0_kindItem 51 = .ok (.iconst 1, 1) := by decide +kernel
theorem dX0_kindItem_52 : decode cX0_kindItem 52 = .ok (.isub, 1) := by decide +kernel
theorem dX0_kindItem_53 : decode cX0_kindItem 53 = .ok (.aload_n 0, 1) := by decide +kernel
theorem dX0_kindItem_54 : decode cX0_kindItem 54 = .ok (.getfield 75, 3) := by decide +kernel
theorem dX0_kindItem_57 : decode cX0_kindItem 57 = .ok (.iastore, 1) := by decide +kernel
theorem dX0_kindItem_58 : decode cX0_kindItem 58 = .ok (.aload_n 0, 1) := by decide +kernel
theorem dX0_kindItem_59 : decode cX0_kindItem 59 = .ok (.invokevirtual 22, 3) := by decide +kernel
theorem dX0_kindItem_62 : decode cX0_kindItem 62 = .ok (.iconst 1, 1) := by decide +kernel
theorem dX0_kindItem_63 : decode cX0_kindItem 63 = .ok (.ireturn, 1) := by decide +kernel
theorem dX0_rootItem_0 : decode cX0_rootItem 0 = .ok (.aload_n 0, 1) := by decide +kernel
theorem dX0_rootItem_1 : decode cX0_rootItem 1 = .ok (.bipush 29, 2) := by decide +kernel
theorem dX0_rootItem_3 : decode cX0_rootItem 3 = .ok (.invokevirtual 65, 3) := by decide +kernel
theorem dX0_rootItem_6 : decode cX0_rootItem 6 = .ok (.ifCond .ne 5, 3) := by decide +kernel
theorem dX0_rootItem_9 : decode cX0_rootItem 9 = .ok (.iconst 0, 1) := by decide +kernel
theorem dX0_rootItem_10 : decode cX0_rootItem 10 = .ok (.ireturn, 1) := by decide +kernel
theorem dX0_rootItem_11 : decode cX0_rootItem 11 = .ok (.aload_n 1, 1) := by decide +kernel
theorem dX0_rootItem_12 : decode cX0_rootItem 12 = .ok (.aload_n 0, 1) := by decide +kernel
theorem dX0_rootItem_13 : decode cX0_rootItem 13 = .ok (.getfield 75, 3) := by decide +kernel
theorem dX0_rootItem_16 : decode cX0_rootItem 16 = .ok (.iload_n 2, 1) := by decide +kernel
theorem dX0_rootItem_17 : decode cX0_rootItem 17 = .ok (.invokevirtual 78, 3) := by decide +kernel
theorem dX0_rootItem_20 : decode cX0_rootItem 20 = .ok (.aload_n 0, 1) := by decide +kernel
theorem dX0_rootItem_21 : decode cX0_rootItem 21 = .ok (.invokevirtual 22, 3) := by decide +kernel
theorem dX0_rootItem_24 : decode cX0_rootItem 24 = .ok (.iconst 1, 1) := by decide +kernel
theorem dX0_rootItem_25 : decode cX0_rootItem 25 = .ok (.ireturn, 1) := by decide +kernel
theorem dX0_lanternItem_0 : decode cX0_lanternItem 0 = .ok (.aload_n 0, 1) := by decide +kernel
theorem dX0_lanternItem_1 : decode cX0_lanternItem 1 = .ok (.aload_n 1, 1) := by decide +kernel
theorem dX0_lanternItem_2 : decode cX0_lanternItem 2 = .ok (.getfield 72, 3) := by decide +kernel
theorem dX0_lanternItem_5 : decode cX0_lanternItem 5 = .ok (.iconst 1, 1) := by decide +kernel
theorem dX0_lanternItem_6 : decode cX0_lanternItem 6 = .ok (.isub, 1) := by decide +kernel
theorem dX0_lanternItem_7 : decode cX0_lanternItem 7 = .ok (.invokevirtual 65, 3) := by decide +kernel
theorem dX0_lanternItem_10 : decode cX0_lanternItem 10 = .ok (.ifCond .ne 5, 3) := by decide +kernel
theorem dX0_lanternItem_13 : decode cX0_lanternItem 13 = .ok (.iconst 0, 1) := by decide +kernel
theorem dX0_lanternItem_14 : decode cX0_lanternItem 14 = .ok (.ireturn, 1) := by decide +kernel
theorem dX0_lanternItem_15 : decode cX0_lanternItem 15 = .ok (.aload_n 1, 1) := by decide +kernel
theorem dX0_lanternItem_16 : decode cX0_lanternItem 16 = .ok (.aload_n 0, 1) := by decide +kernel
theorem dX0_lanternItem_17 : decode cX0_lanternItem 17 = .ok (.getfield 75, 3) := by decide +kernel
theorem dX0_lanternItem_20 : decode cX0_lanternItem 20 = .ok (.putfield 82, 3) := by decide +kernel
theorem dX0_lanternItem_23 : decode cX0_lanternItem 23 = .ok (.aload_n 0, 1) := by decide +kernel
theorem dX0_lanternItem_24 : decode cX0_lanternItem 24 = .ok (.invokevirtual 22, 3) := by decide +kernel
theorem dX0_lanternItem_27 : decode cX0_lanternItem 27 = .ok (.iconst 1, 1) := by decide +kernel
theorem dX0_lanternItem_28 : decode cX0_lanternItem 28 = .ok (.ireturn, 1) := by decide +kernel
theorem dX0_brightItem_0 : decode cX0_brightItem 0 = .ok (.aload_n 0, 1) := by decide +kernel
theorem dX0_brightItem_1 : decode cX0_brightItem 1 = .ok (.bipush 9, 2) := by decide +kernel
theorem dX0_brightItem_3 : decode cX0_brightItem 3 = .ok (.invokevirtual 65, 3) := by decide +kernel
theorem dX0_brightItem_6 : decode cX0_brightItem 6 = .ok (.ifCond .ne 5, 3) := by decide +kernel
theorem dX0_brightItem_9 : decode cX0_brightItem 9 = .ok (.iconst 0, 1) := by decide +kernel
theorem dX0_brightItem_10 : decode cX0_brightItem 10 = .ok (.ireturn, 1) := by decide +kernel
theorem dX0_brightItem_11 : decode cX0_brightItem 11 = .ok (.aload_n 1, 1) := by decide +kernel
theorem dX0_brightItem_12 : decode cX0_brightItem 12 = .ok (.aload_n 0, 1) := by decide +kernel
theorem dX0_brightItem_13 : decode cX0_brightItem 13 = .ok (.getfield 75, 3) := by decide +kernel
theorem dX0_brightItem_16 : decode cX0_brightItem 16 = .ok (.putfield 85, 3) := by decide +kernel
theorem dX0_brightItem_19 : decode cX0_brightItem 19 = .ok (.aload_n 0, 1) := by decide +kernel
theorem dX0_brightItem_20 : decode cX0_brightItem 20 = .ok (.invokevirtual 22, 3) := by decide +kernel
theorem dX0_brightItem_23 : decode cX0_brightItem 23 = .ok (.iconst 1, 1) := by decide +kernel
theorem dX0_brightItem_24 : decode cX0_brightItem 24 = .ok (.ireturn, 1) := by decide +kernel
theorem dX0_swapItem_0 : decode cX0_swapItem 0 = .ok (.aload_n 0, 1) := by decide +kernel
theorem dX0_swapItem_1 : decode cX0_swapItem 1 = .ok (.aload_n 1, 1) := by decide +kernel
theorem dX0_swapItem_2 : decode cX0_swapItem 2 = .ok (.getfield 72, 3) := by decide +kernel
theorem dX0_swapItem_5 : decode cX0_swapItem 5 = .ok (.iconst 1, 1) := by decide +kernel
theorem dX0_swapItem_6 : decode cX0_swapItem 6 = .ok (.isub, 1) := by decide +kernel
theorem dX0_swapItem_7 : decode cX0_swapItem 7 = .ok (.invokevirtual 65, 3) := by decide +kernel
theorem dX0_swapItem_10 : decode cX0_swapItem 10 = .ok (.ifCond .ne 5, 3) := by decide +kernel
theorem dX0_swapItem_13 : decode cX0_swapItem 13 = .ok (.iconst 0, 1) := by decide +kernel
theorem dX0_swapItem_14 : decode cX0_swapItem 14 = .ok (.ireturn, 1) := by decide +kernel
theorem dX0_swapItem_15 : decode cX0_swapItem 15 = .ok (.aload_n 0, 1) := by decide +kernel
theorem dX0_swapItem_16 : decode cX0_swapItem 16 = .ok (.getfield 75, 3) := by decide +kernel
theorem dX0_swapItem_19 : decode cX0_swapItem 19 = .ok (.istore_n 2, 1) := by decide +kernel
theorem dX0_swapItem_20 : decode cX0_swapItem 20 = .ok (.aload_n 0, 1) := by decide +kernel
theorem dX0_swapItem_21 : decode cX0_swapItem 21 = .ok (.aload_n 1, 1) := by decide +kernel
theorem dX0_swapItem_22 : decode cX0_swapItem 22 = .ok (.getfield 72, 3) := by decide +kernel
theorem dX0_swapItem_25 : decode cX0_swapItem 25 = .ok (.iconst 1, 1) := by decide +kernel
theorem dX0_swapItem_26 : decode cX0_swapItem 26 = .ok (.isub, 1) := by decide +kernel
theorem dX0_swapItem_27 : decode cX0_swapItem 27 = .ok (.invokevirtual 65, 3) := by decide +kernel
theorem dX0_swapItem_30 : decode cX0_swapItem 30 = .ok (.ifCond .eq 11, 3) := by decide +kernel
theorem dX0_swapItem_33 : decode cX0_swapItem 33 = .ok (.aload_n 0, 1) := by decide +kernel
theorem dX0_swapItem_34 : decode cX0_swapItem 34 = .ok (.getfield 75, 3) := by decide +kernel
theorem dX0_swapItem_37 : decode cX0_swapItem 37 = .ok (.iload_n 2, 1) := by decide +kernel
theorem dX0_swapItem_38 : decode cX0_swapItem 38 = .ok (.if_icmp .ne 5, 3) := by decide +kernel
theorem dX0_swapItem_41 : decode cX0_swapItem 41 = .ok (.iconst 0, 1) := by decide +kernel
theorem dX0_swapItem_42 : decode cX0_swapItem 42 = .ok (.ireturn, 1) := by decide +kernel
theorem dX0_swapItem_43 : decode cX0_swapItem 43 = .ok (.aload_n 1, 1) := by decide +kernel
theorem dX0_swapItem_44 : decode cX0_swapItem 44 = .ok (.iload_n 2, 1) := by decide +kernel
theorem dX0_swapItem_45 : decode cX0_swapItem 45 = .ok (.aload_n 0, 1) := by decide +kernel
theorem dX0_swapItem_46 : decode cX0_swapItem 46 = .ok (.getfield 75, 3) := by decide +kernel
theorem dX0_swapItem_49 : decode cX0_swapItem 49 = .ok (.invokevirtual 88, 3) := by decide +kernel
theorem dX0_swapItem_52 : decode cX0_swapItem 52 = .ok (.aload_n 0, 1) := by decide +kernel
theorem dX0_swapItem_53 : decode cX0_swapItem 53 = .ok (.invokevirtual 22, 3) := by decide +kernel
theorem dX0_swapItem_56 : decode cX0_swapItem 56 = .ok (.iconst 1, 1) := by decide +kernel
theorem dX0_swapItem_57 : decode cX0_swapItem 57 = .ok (.ireturn, 1) := by decide +kernel
theorem dX0_nextIsNumber_0 : decode cX0_nextIsNumber 0 = .ok (.aload_n 0, 1) := by decide +kernel
theorem dX0_nextIsNumber_1 : decode cX0_nextIsNumber 1 = .ok (.aload_n 0, 1) := by decide +kernel
theorem dX0_nextIsNumber_2 : decode cX0_nextIsNumber 2 = .ok (.invokevirtual 92, 3) := by decide +kernel
theorem dX0_nextIsNumber_5 : decode cX0_nextIsNumber 5 = .ok (.putfield 29, 3) := by decide +kernel
theorem dX0_nextIsNumber_8 : decode cX0_nextIsNumber 8 = .ok (.aload_n 0, 1) := by decide +kernel
theorem dX0_nextIsNumber_9 : decode cX0_nextIsNumber 9 = .ok (.getfield 12, 3) := by decide +kernel
theorem dX0_nextIsNumber_12 : decode cX0_nextIsNumber 12 = .ok (.aload_n 0, 1) := by decide +kernel
theorem dX0_nextIsNumber_13 : decode cX0_nextIsNumber 13 = .ok (.getfield 29, 3) := by decide +kernel
theorem dX0_nextIsNumber_16 : decode cX0_nextIsNumber 16 = .ok (.invokevirtual 96, 3) := by decide +kernel
theorem dX0_nextIsNumber_19 : decode cX0_nextIsNumber 19 = .ok (.invokestatic 100, 3) := by decide +kernel
theorem dX0_nextIsNumber_22 : decode cX0_nextIsNumber 22 = .ok (.ifCond .ne 5, 3) := by decide +kernel
theorem dX0_nextIsNumber_25 : decode cX0_nextIsNumber 25 = .ok (.iconst 0, 1) := by decide +kernel
theorem dX0_nextIsNumber_26 : decode cX0_nextIsNumber 26 = .ok (.ireturn, 1) := by decide +kernel
theorem dX0_nextIsNumber_27 : decode cX0_nextIsNumber 27 = .ok (.aload_n 0, 1) := by decide +kernel
theorem dX0_nextIsNumber_28 : decode cX0_nextIsNumber 28 = .ok (.invokevirtual 103, 3) := by decide +kernel
theorem dX0_nextIsNumber_31 : decode cX0_nextIsNumber 31 = .ok (.aload_n 0, 1) := by decide +kernel
theorem dX0_nextIsNumber_32 : decode cX0_nextIsNumber 32 = .ok (.getfield 75, 3) := by decide +kernel
theorem dX0_nextIsNumber_35 : decode cX0_nextIsNumber 35 = .ok (.iload_n 1, 1) := by decide +kernel
theorem dX0_nextIsNumber_36 : decode cX0_nextIsNumber 36 = .ok (.if_icmp .gt 7, 3) := by decide +kernel
theorem dX0_nextIsNumber_39 : decode cX0_nextIsNumber 39 = .ok (.iconst 1, 1) := by decide +kernel
theorem dX0_nextIsNumber_40 : decode cX0_nextIsNumber 40 = .ok (.goto 4, 3) := by decide +kernel
theorem dX0_nextIsNumber_43 : decode cX0_nextIsNumber 43 = .ok (.iconst 0, 1) := by decide +kernel
theorem dX0_nextIsNumber_44 : decode cX0_nextIsNumber 44 = .ok (.ireturn, 1) := by decide +kernel
theorem dX0_next_0 : decode cX0_next 0 = .ok (.aload_n 0, 1) := by decide +kernel
theorem dX0_next_1 : decode cX0_next 1 = .ok (.aload_n 0, 1) := by decide +kernel
theorem dX0_next_2 : decode cX0_next 2 = .ok (.invokevirtual 92, 3) := by decide +kernel
theorem dX0_next_5 : decode cX0_next 5 = .ok (.putfield 29, 3) := by decide +kernel
theorem dX0_next_8 : decode cX0_next 8 = .ok (.aload_n 0, 1) := by decide +kernel
theorem dX0_next_9 : decode cX0_next 9 = .ok (.aload_n 0, 1) := by decide +kernel
theorem dX0_next_10 : decode cX0_next 10 = .ok (.getfield 29, 3) := by decide +kernel
theorem dX0_next_13 : decode cX0_next 13 = .ok (.iconst 1, 1) := by decide +kernel
theorem dX0_next_14 : decode cX0_next 14 = .ok (.iadd, 1) := by decide +kernel
theorem dX0_next_15 : decode cX0_next 15 = .ok (.putfield 18, 3) := by decide +kernel
theorem dX0_next_18 : decode cX0_next 18 = .ok (.aload_n 0, 1) := by decide +kernel
theorem dX0_next_19 : decode cX0_next 19 = .ok (.getfield 12, 3) := by decide +kernel
theorem dX0_next_22 : decode cX0_next 22 = .ok (.aload_n 0, 1) := by decide +kernel
theorem dX0_next_23 : decode cX0_next 23 = .ok (.getfield 29, 3) := by decide +kernel
theorem dX0_next_26 : decode cX0_next 26 = .ok (.invokevirtual 96, 3) := by decide +kernel
theorem dX0_next_29 : decode cX0_next 29 = .ok (.istore_n 1, 1) := by decide +kernel
theorem dX0_next_30 : decode cX0_next 30 = .ok (.aload_n 0, 1) := by decide +kernel
theorem dX0_next_31 : decode cX0_next 31 = .ok (.getfield 29, 3) := by decide +kernel
theorem dX0_next_34 : decode cX0_next 34 = .ok (.aload_n 0, 1) := by decide +kernel
theorem dX0_next_35 : decode cX0_next 35 = .ok (.getfield 12, 3) := by decide +kernel
theorem dX0_next_38 : decode cX0_next 38 = .ok (.getfield 106, 3) := by decide +kernel
theorem dX0_next_41 : decode cX0_next 41 = .ok (.if_icmp .lt 12, 3) := by decide +kernel
theorem dX0_next_44 : decode cX0_next 44 = .ok (.aload_n 0, 1) := by decide +kernel
theorem dX0_next_45 : decode cX0_next 45 = .ok (.bipush 14, 2) := by decide +kernel
theorem dX0_next_47 : decode cX0_next 47 = .ok (.putfield 32, 3) := by decide +kernel
theorem dX0_next_50 : decode cX0_next 50 = .ok (.goto 52, 3) := by decide +kernel
theorem dX0_next_53 : decode cX0_next 53 = .ok (.iload_n 1, 1) := by decide +kernel
theorem dX0_next_54 : decode cX0_next 54 = .ok (.bipush 59, 2) := by decide +kernel
theorem dX0_next_56 : decode cX0_next 56 = .ok (.if_icmp .ne 12, 3) := by decide +kernel
theorem dX0_next_59 : decode cX0_next 59 = .ok (.aload_n 0, 1) := by decide +kernel
theorem dX0_next_60 : decode cX0_next 60 = .ok (.bipush 13, 2) := by decide +kernel
theorem dX0_next_62 : decode cX0_next 62 = .ok (.putfield 32, 3) := by decide +kernel
theorem dX0_next_65 : decode cX0_next 65 = .ok (.goto 37, 3) := by decide +kernel
theorem dX0_next_68 : decode cX0_next 68 = .ok (.iload_n 1, 1) := by decide +kernel
theorem dX0_next_69 : decode cX0_next 69 = .ok (.invokestatic 100, 3) := by decide +kernel
theorem dX0_next_72 : decode cX0_next 72 = .ok (.ifCond .eq 10, 3) := by decide +kernel
theorem dX0_next_75 : decode cX0_next 75 = .ok (.aload_n 0, 1) := by decide +kernel
theorem dX0_next_76 : decode cX0_next 76 = .ok (.invokevirtual 103, 3) := by decide +kernel
theorem dX0_next_79 : decode cX0_next 79 = .ok (.goto 23, 3) := by decide +kernel
theorem dX0_next_82 : decode cX0_next 82 = .ok (.iload_n 1, 1) := by decide +kernel
theorem dX0_next_83 : decode cX0_next 83 = .ok (.invokestatic 109, 3) := by decide +kernel
theorem dX0_next_86 : decode cX0_next 86 = .ok (.ifCond .eq 10, 3) := by decide +kernel
theorem dX0_next_89 : decode cX0_next 89 = .ok (.aload_n 0, 1) := by decide +kernel
theorem dX0_next_90 : decode cX0_next 90 = .ok (.invokevirtual 112, 3) := by decide +kernel
theorem dX0_next_93 : decode cX0_next 93 = .ok (.goto 9, 3) := by decide +kernel
theorem dX0_next_96 : decode cX0_next 96 = .ok (.aload_n 0, 1) := by decide +kernel
theorem dX0_next_97 : decode cX0_next 97 = .ok (.bipush 15, 2) := by decide +kernel
theorem dX0_next_99 : decode cX0_next 99 = .ok (.putfield 32, 3) := by decide +kernel
theorem dX0_next_102 : decode cX0_next 102 = .ok (.return_, 1) := by decide +kernel
theorem dX0_behindBlanks_0 : decode cX0_behindBlanks 0 = .ok (.aload_n 0, 1) := by decide +kernel
theorem dX0_behindBlanks_1 : decode cX0_behindBlanks 1 = .ok (.getfield 18, 3) := by decide +kernel
theorem dX0_behindBlanks_4 : decode cX0_behindBlanks 4 = .ok (.istore_n 1, 1) := by decide +kernel
theorem dX0_behindBlanks_5 : decode cX0_behindBlanks 5 = .ok (.iload_n 1, 1) := by decide +kernel
theorem dX0_behindBlanks_6 : decode cX0_behindBlanks 6 = .ok (.aload_n 0, 1) := by decide +kernel
theorem dX0_behindBlanks_7 : decode cX0_behindBlanks 7 = .ok (.getfield 12, 3) := by decide +kernel
theorem dX0_behindBlanks_10 : decode cX0_behindBlanks 10 = .ok (.getfield 106, 3) := by decide +kernel
theorem dX0_behindBlanks_13 : decode cX0_behindBlanks 13 = .ok (.if_icmp .ge 22, 3) := by decide +kernel
theorem dX0_behindBlanks_16 : decode cX0_behindBlanks 16 = .ok (.aload_n 0, 1) := by decide +kernel
theorem dX0_behindBlanks_17 : decode cX0_behindBlanks 17 = .ok (.getfield 12, 3) := by decide +kernel
theorem dX0_behindBlanks_20 : decode cX0_behindBlanks 20 = .ok (.iload_n 1, 1) := by decide +kernel
theorem dX0_behindBlanks_21 : decode cX0_behindBlanks 21 = .ok (.invokevirtual 96, 3) := by decide +kernel
theorem dX0_behindBlanks_24 : decode cX0_behindBlanks 24 = .ok (.bipush 32, 2) := by decide +kernel
theorem dX0_behindBlanks_26 : decode cX0_behindBlanks 26 = .ok (.if_icmp .ne 9, 3) := by decide +kernel
theorem dX0_behindBlanks_29 : decode cX0_behindBlanks 29 = .ok (.iinc 1 1, 3) := by decide +kernel
theorem dX0_behindBlanks_32 : decode cX0_behindBlanks 32 = .ok (.goto (-27), 3) := by decide +kernel
theorem dX0_behindBlanks_35 : decode cX0_behindBlanks 35 = .ok (.iload_n 1, 1) := by decide +kernel
theorem dX0_behindBlanks_36 : decode cX0_behindBlanks 36 = .ok (.aload_n 0, 1) := by decide +kernel
theorem dX0_behindBlanks_37 : decode cX0_behindBlanks 37 = .ok (.getfield 12, 3) := by decide +kernel
theorem dX0_behindBlanks_40 : decode cX0_behindBlanks 40 = .ok (.getfield 106, 3) := by decide +kernel
theorem dX0_behindBlanks_43 : decode cX0_behindBlanks 43 = .ok (.invokestatic 115, 3) := by decide +kernel
theorem dX0_behindBlanks_46 : decode cX0_behindBlanks 46 = .ok (.ireturn, 1) := by decide +kernel
theorem dX0_takeNumber_0 : decode cX0_takeNumber 0 = .ok (.aload_n 0, 1) := by decide +kernel
theorem dX0_takeNumber_1 : decode cX0_takeNumber 1 = .ok (.bipush 12, 2) := by decide +kernel
theorem dX0_takeNumber_3 : decode cX0_takeNumber 3 = .ok (.putfield 32, 3) := by decide +kernel
theorem dX0_takeNumber_6 : decode cX0_takeNumber 6 = .ok (.aload_n 0, 1) := by decide +kernel
theorem dX0_takeNumber_7 : decode cX0_takeNumber 7 = .ok (.iconst 0, 1) := by decide +kernel
theorem dX0_takeNumber_8 : decode cX0_takeNumber 8 = .ok (.putfield 75, 3) := by decide +kernel
theorem dX0_takeNumber_11 : decode cX0_takeNumber 11 = .ok (.aload_n 0, 1) := by decide +kernel
theorem dX0_takeNumber_12 : decode cX0_takeNumber 12 = .ok (.getfield 29, 3) := by decide +kernel
theorem dX0_takeNumber_15 : decode cX0_takeNumber 15 = .ok (.istore_n 1, 1) := by decide +kernel
theorem dX0_takeNumber_16 : decode cX0_takeNumber 16 = .ok (.iload_n 1, 1) := by decide +kernel
theorem dX0_takeNumber_17 : decode cX0_takeNumber 17 = .ok (.aload_n 0, 1) := by decide +kernel
theorem dX0_takeNumber_18 : decode cX0_takeNumber 18 = .ok (.getfield 12, 3) := by decide +kernel
theorem dX0_takeNumber_21 : decode cX0_takeNumber 21 = .ok (.getfield 106, 3) := by decide +kernel
theorem dX0_takeNumber_24 : decode cX0_takeNumber 24 = .ok (.if_icmp .ge 52, 3) := by decide +kernel
theorem dX0_takeNumber_27 : decode cX0_takeNumber 27 = .ok (.aload_n 0, 1) := by decide +kernel
theorem dX0_takeNumber_28 : decode cX0_takeNumber 28 = .ok (.getfield 12, 3) := by decide +kernel
theorem dX0_takeNumber_31 : decode cX0_takeNumber 31 = .ok (.iload_n 1, 1) := by decide +kernel
theorem dX0_takeNumber_32 : decode cX0_takeNumber 32 = .ok (.invokevirtual 96, 3) := by decide +kernel
theorem dX0_takeNumber_35 : decode cX0_takeNumber 35 = .ok (.invokestatic 100, 3) := by decide +kernel
theorem dX0_takeNumber_38 : decode cX0_takeNumber 38 = .ok (.ifCond .eq 38, 3) := by decide +kernel
theorem dX0_takeNumber_41 : decode cX0_takeNumber 41 = .ok (.aload_n 0, 1) := by decide +kernel
theorem dX0_takeNumber_42 : decode cX0_takeNumber 42 = .ok (.bipush 10, 2) := by decide +kernel
theorem dX0_takeNumber_44 : decode cX0_takeNumber 44 = .ok (.aload_n 0, 1) := by decide +kernel
theorem dX0_takeNumber_45 : decode cX0_takeNumber 45 = .ok (.getfield 75, 3) := by decide +kernel
theorem dX0_takeNumber_48 : decode cX0_takeNumber 48 = .ok (.imul, 1) := by decide +kernel
theorem dX0_takeNumber_49 : decode cX0_takeNumber 49 = .ok (.aload_n 0, 1) := by decide +kernel
theorem dX0_takeNumber_50 : decode cX0_takeNumber 50 = .ok (.getfield 12, 3) := by decide +kernel
theorem dX0_takeNumber_53 : decode cX0_takeNumber 53 = .ok (.iload_n 1, 1) := by decide +kernel
theorem dX0_takeNumber_54 : decode cX0_takeNumber 54 = .ok (.invokevirtual 96, 3) := by decide +kernel
theorem dX0_takeNumber_57 : decode cX0_takeNumber 57 = .ok (.iadd, 1) := by decide +kernel
theorem dX0_takeNumber_58 : decode cX0_takeNumber 58 = .ok (.bipush 48, 2) := by decide +kernel
theorem dX0_takeNumber_60 : decode cX0_takeNumber 60 = .ok (.isub, 1) := by decide +kernel
theorem dX0_takeNumber_61 : decode cX0_takeNumber 61 = .ok (.sipush 1000, 3) := by decide +kernel
theorem dX0_takeNumber_64 : decode cX0_takeNumber 64 = .ok (.invokestatic 115, 3) := by decide +kernel
theorem dX0_takeNumber_67 : decode cX0_takeNumber 67 = .ok (.putfield 75, 3) := by decide +kernel
theorem dX0_takeNumber_70 : decode cX0_takeNumber 70 = .ok (.iinc 1 1, 3) := by decide +kernel
theorem dX0_takeNumber_73 : decode cX0_takeNumber 73 = .ok (.goto (-57), 3) := by decide +kernel
theorem dX0_takeNumber_76 : decode cX0_takeNumber 76 = .ok (.aload_n 0, 1) := by decide +kernel
theorem dX0_takeNumber_77 : decode cX0_takeNumber 77 = .ok (.iload_n 1, 1) := by decide +kernel
theorem dX0_takeNumber_78 : decode cX0_takeNumber 78 = .ok (.putfield 18, 3) := by decide +kernel
theorem dX0_takeNumber_81 : decode cX0_takeNumber 81 = .ok (.return_, 1) := by decide +kernel
theorem dX0_takeWord_0 : decode cX0_takeWord 0 = .ok (.aload_n 0, 1) := by decide +kernel
theorem dX0_takeWord_1 : decode cX0_takeWord 1 = .ok (.getfield 29, 3) := by decide +kernel
theorem dX0_takeWord_4 : decode cX0_takeWord 4 = .ok (.istore_n 1, 1) := by decide +kernel
theorem dX0_takeWord_5 : decode cX0_takeWord 5 = .ok (.iload_n 1, 1) := by decide +kernel
theorem dX0_takeWord_6 : decode cX0_takeWord 6 = .ok (.aload_n 0, 1) := by decide +kernel
theorem dX0_takeWord_7 : decode cX0_takeWord 7 = .ok (.getfield 12, 3) := by decide +kernel
theorem dX0_takeWord_10 : decode cX0_takeWord 10 = .ok (.getfield 106, 3) := by decide +kernel
theorem dX0_takeWord_13 : decode cX0_takeWord 13 = .ok (.if_icmp .ge 23, 3) := by decide +kernel
theorem dX0_takeWord_16 : decode cX0_takeWord 16 = .ok (.aload_n 0, 1) := by decide +kernel
theorem dX0_takeWord_17 : decode cX0_takeWord 17 = .ok (.getfield 12, 3) := by decide +kernel
theorem dX0_takeWord_20 : decode cX0_takeWord 20 = .ok (.iload_n 1, 1) := by decide +kernel
theorem dX0_takeWord_21 : decode cX0_takeWord 21 = .ok (.invokevirtual 96, 3) := by decide +kernel
theorem dX0_takeWord_24 : decode cX0_takeWord 24 = .ok (.invokestatic 109, 3) := by decide +kernel
theorem dX0_takeWord_27 : decode cX0_takeWord 27 = .ok (.ifCond .eq 9, 3) := by decide +kernel
theorem dX0_takeWord_30 : decode cX0_takeWord 30 = .ok (.iinc 1 1, 3) := by decide +kernel
theorem dX0_takeWord_33 : decode cX0_takeWord 33 = .ok (.goto (-28), 3) := by decide +kernel
theorem dX0_takeWord_36 : decode cX0_takeWord 36 = .ok (.aload_n 0, 1) := by decide +kernel
theorem dX0_takeWord_37 : decode cX0_takeWord 37 = .ok (.iload_n 1, 1) := by decide +kernel
theorem dX0_takeWord_38 : decode cX0_takeWord 38 = .ok (.putfield 18, 3) := by decide +kernel
theorem dX0_takeWord_41 : decode cX0_takeWord 41 = .ok (.aload_n 0, 1) := by decide +kernel
theorem dX0_takeWord_42 : decode cX0_takeWord 42 = .ok (.bipush 15, 2) := by decide +kernel
theorem dX0_takeWord_44 : decode cX0_takeWord 44 = .ok (.putfield 32, 3) := by decide +kernel
theorem dX0_takeWord_47 : decode cX0_takeWord 47 = .ok (.iconst 0, 1) := by decide +kernel
theorem dX0_takeWord_48 : decode cX0_takeWord 48 = .ok (.istore_n 2, 1) := by decide +kernel
theorem dX0_takeWord_49 : decode cX0_takeWord 49 = .ok (.iload_n 2, 1) := by decide +kernel
theorem dX0_takeWord_50 : decode cX0_takeWord 50 = .ok (.bipush 12, 2) := by decide +kernel
theorem dX0_takeWord_52 : decode cX0_takeWord 52 = .ok (.if_icmp .ge 25, 3) := by decide +kernel
theorem dX0_takeWord_55 : decode cX0_takeWord 55 = .ok (.aload_n 0, 1) := by decide +kernel
theorem dX0_takeWord_56 : decode cX0_takeWord 56 = .ok (.iload_n 2, 1) := by decide +kernel
theorem dX0_takeWord_57 : decode cX0_takeWord 57 = .ok (.invokestatic 121, 3) := by decide +kernel
theorem dX0_takeWord_60 : decode cX0_takeWord 60 = .ok (.invokevirtual 125, 3) := by decide +kernel
theorem dX0_takeWord_63 : decode cX0_takeWord 63 = .ok (.ifCond .eq 8, 3) := by decide +kernel
theorem dX0_takeWord_66 : decode cX0_takeWord 66 = .ok (.aload_n 0, 1) := by decide +kernel
theorem dX0_takeWord_67 : decode cX0_takeWord 67 = .ok (.iload_n 2, 1) := by decide +kernel
theorem dX0_takeWord_68 : decode cX0_takeWord 68 = .ok (.putfield 32, 3) := by decide +kernel
theorem dX0_takeWord_71 : decode cX0_takeWord 71 = .ok (.iinc 2 1, 3) := by decide +kernel
theorem dX0_takeWord_74 : decode cX0_takeWord 74 = .ok (.goto (-25), 3) := by decide +kernel
theorem dX0_takeWord_77 : decode cX0_takeWord 77 = .ok (.return_, 1) := by decide +kernel
theorem dX0_isWord_0 : decode cX0_isWord 0 = .ok (.aload_n 1, 1) := by decide +kernel
theorem dX0_isWord_1 : decode cX0_isWord 1 = .ok (.invokevirtual 129, 3) := by decide +kernel
theorem dX0_isWord_4 : decode cX0_isWord 4 = .ok (.aload_n 0, 1) := by decide +kernel
theorem dX0_isWord_5 : decode cX0_isWord 5 = .ok (.getfield 18, 3) := by decide +kernel
theorem dX0_isWord_8 : decode cX0_isWord 8 = .ok (.aload_n 0, 1) := by decide +kernel
theorem dX0_isWord_9 : decode cX0_isWord 9 = .ok (.getfield 29, 3) := by decide +kernel
theorem dX0_isWord_12 : decode cX0_isWord 12 = .ok (.isub, 1) := by decide +kernel
theorem dX0_isWord_13 : decode cX0_isWord 13 = .ok (.if_icmp .eq 5, 3) := by decide +kernel
theorem dX0_isWord_16 : decode cX0_isWord 16 = .ok (.iconst 0, 1) := by decide +kernel
theorem dX0_isWord_17 : decode cX0_isWord 17 = .ok (.ireturn, 1) := by decide +kernel
theorem dX0_isWord_18 : decode cX0_isWord 18 = .ok (.iconst 0, 1) := by decide +kernel
theorem dX0_isWord_19 : decode cX0_isWord 19 = .ok (.istore_n 2, 1) := by decide +kernel
theorem dX0_isWord_20 : decode cX0_isWord 20 = .ok (.iload_n 2, 1) := by decide +kernel
theorem dX0_isWord_21 : decode cX0_isWord 21 = .ok (.aload_n 1, 1) := by decide +kernel
theorem dX0_isWord_22 : decode cX0_isWord 22 = .ok (.invokevirtual 129, 3) := by decide +kernel
theorem dX0_isWord_25 : decode cX0_isWord 25 = .ok (.if_icmp .ge 32, 3) := by decide +kernel
theorem dX0_isWord_28 : decode cX0_isWord 28 = .ok (.aload_n 1, 1) := by decide +kernel
theorem dX0_isWord_29 : decode cX0_isWord 29 = .ok (.iload_n 2, 1) := by decide +kernel
theorem dX0_isWord_30 : decode cX0_isWord 30 = .ok (.invokevirtual 133, 3) := by decide +kernel
theorem dX0_isWord_33 : decode cX0_isWord 33 = .ok (.aload_n 0, 1) := by decide +kernel
theorem dX0_isWord_34 : decode cX0_isWord 34 = .ok (.getfield 12, 3) := by decide +kernel
theorem dX0_isWord_37 : decode cX0_isWord 37 = .ok (.aload_n 0, 1) := by decide +kernel
theorem dX0_isWord_38 : decode cX0_isWord 38 = .ok (.getfield 29, 3) := by decide +kernel
theorem dX0_isWord_41 : decode cX0_isWord 41 = .ok (.iload_n 2, 1) := by decide +kernel
theorem dX0_isWord_42 : decode cX0_isWord 42 = .ok (.iadd, 1) := by decide +kernel
theorem dX0_isWord_43 : decode cX0_isWord 43 = .ok (.invokevirtual 96, 3) := by decide +kernel
theorem dX0_isWord_46 : decode cX0_isWord 46 = .ok (.if_icmp .eq 5, 3) := by decide +kernel
theorem dX0_isWord_49 : decode cX0_isWord 49 = .ok (.iconst 0, 1) := by decide +kernel
theorem dX0_isWord_50 : decode cX0_isWord 50 = .ok (.ireturn, 1) := by decide +kernel
theorem dX0_isWord_51 : decode cX0_isWord 51 = .ok (.iinc 2 1, 3) := by decide +kernel
theorem dX0_isWord_54 : decode cX0_isWord 54 = .ok (.goto (-34), 3) := by decide +kernel
theorem dX0_isWord_57 : decode cX0_isWord 57 = .ok (.iconst 1, 1) := by decide +kernel
theorem dX0_isWord_58 : decode cX0_isWord 58 = .ok (.ireturn, 1) := by decide +kernel
theorem dX0_textOf_0 : decode cX0_textOf 0 = .ok (.iload_n 0, 1) := by decide +kernel
theorem dX0_textOf_1 : decode cX0_textOf 1 = .ok (.tableswitch 99 0 11 #[63, 66, 69, 72, 75, 78, 81, 84, 87, 90, 93, 96], 63) := by decide +kernel
theorem dX0_textOf_64 : decode cX0_textOf 64 = .ok (.ldc 137, 2) := by decide +kernel
theorem dX0_textOf_66 : decode cX0_textOf 66 = .ok (.areturn, 1) := by decide +kernel
theorem dX0_textOf_67 : decode cX0_textOf 67 = .ok (.ldc 139, 2) := by decide +kernel
theorem dX0_textOf_69 : decode cX0_textOf 69 = .ok (.areturn, 1) := by decide +kernel
theorem dX0_textOf_70 : decode cX0_textOf 70 = .ok (.ldc 141, 2) := by decide +kernel
theorem dX0_textOf_72 : decode cX0_textOf 72 = .ok (.areturn, 1) := by decide +kernel
theorem dX0_textOf_73 : decode cX0_textOf 73 = .ok (.ldc 143, 2) := by decide +kernel
theorem dX0_textOf_75 : decode cX0_textOf 75 = .ok (.areturn, 1) := by decide +kernel
theorem dX0_textOf_76 : decode cX0_textOf 76 = .ok (.ldc 145, 2) := by decide +kernel
theorem dX0_textOf_78 : decode cX0_textOf 78 = .ok (.areturn, 1) := by decide +kernel
theorem dX0_textOf_79 : decode cX0_textOf 79 = .ok (.ldc 147, 2) := by decide +kernel
theorem dX0_textOf_81 : decode cX0_textOf 81 = .ok (.areturn, 1) := by decide +kernel
theorem dX0_textOf_82 : decode cX0_textOf 82 = .ok (.ldc 149, 2) := by decide +kernel
theorem dX0_textOf_84 : decode cX0_textOf 84 = .ok (.areturn, 1) := by decide +kernel
theorem dX0_textOf_85 : decode cX0_textOf 85 = .ok (.ldc 151, 2) := by decide +kernel
theorem dX0_textOf_87 : decode cX0_textOf 87 = .ok (.areturn, 1) := by decide +kernel
theorem dX0_textOf_88 : decode cX0_textOf 88 = .ok (.ldc 153, 2) := by decide +kernel
theorem dX0_textOf_90 : decode cX0_textOf 90 = .ok (.areturn, 1) := by decide +kernel
theorem dX0_textOf_91 : decode cX0_textOf 91 = .ok (.ldc 155, 2) := by decide +kernel
theorem dX0_textOf_93 : decode cX0_textOf 93 = .ok (.areturn, 1) := by decide +kernel
theorem dX0_textOf_94 : decode cX0_textOf 94 = .ok (.ldc 156, 2) := by decide +kernel
theorem dX0_textOf_96 : decode cX0_textOf 96 = .ok (.areturn, 1) := by decide +kernel
theorem dX0_textOf_97 : decode cX0_textOf 97 = .ok (.ldc 157, 2) := by decide +kernel
theorem dX0_textOf_99 : decode cX0_textOf 99 = .ok (.areturn, 1) := by decide +kernel
theorem dX0_textOf_100 : decode cX0_textOf 100 = .ok (.ldc 159, 2) := by decide +kernel
theorem dX0_textOf_102 : decode cX0_textOf 102 = .ok (.areturn, 1) := by decide +kernel
theorem dX0_isDigit_0 : decode cX0_isDigit 0 = .ok (.iload_n 0, 1) := by decide +kernel
theorem dX0_isDigit_1 : decode cX0_isDigit 1 = .ok (.bipush 48, 2) := by decide +kernel
theorem dX0_isDigit_3 : decode cX0_isDigit 3 = .ok (.if_icmp .lt 13, 3) := by decide +kernel
theorem dX0_isDigit_6 : decode cX0_isDigit 6 = .ok (.iload_n 0, 1) := by decide +kernel
theorem dX0_isDigit_7 : decode cX0_isDigit 7 = .ok (.bipush 57, 2) := by decide +kernel
theorem dX0_isDigit_9 : decode cX0_isDigit 9 = .ok (.if_icmp .gt 7, 3) := by decide +kernel
theorem dX0_isDigit_12 : decode cX0_isDigit 12 = .ok (.iconst 1, 1) := by decide +kernel
theorem dX0_isDigit_13 : decode cX0_isDigit 13 = .ok (.goto 4, 3) := by decide +kernel
theorem dX0_isDigit_16 : decode cX0_isDigit 16 = .ok (.iconst 0, 1) := by decide +kernel
theorem dX0_isDigit_17 : decode cX0_isDigit 17 = .ok (.ireturn, 1) := by decide +kernel
theorem dX0_isLetter_0 : decode cX0_isLetter 0 = .ok (.iload_n 0, 1) := by decide +kernel
theorem dX0_isLetter_1 : decode cX0_isLetter 1 = .ok (.bipush 97, 2) := by decide +kernel
theorem dX0_isLetter_3 : decode cX0_isLetter 3 = .ok (.if_icmp .lt 13, 3) := by decide +kernel
theorem dX0_isLetter_6 : decode cX0_isLetter 6 = .ok (.iload_n 0, 1) := by decide +kernel
theorem dX0_isLetter_7 : decode cX0_isLetter 7 = .ok (.bipush 122, 2) := by decide +kernel
theorem dX0_isLetter_9 : decode cX0_isLetter 9 = .ok (.if_icmp .gt 7, 3) := by decide +kernel
theorem dX0_isLetter_12 : decode cX0_isLetter 12 = .ok (.iconst 1, 1) := by decide +kernel
theorem dX0_isLetter_13 : decode cX0_isLetter 13 = .ok (.goto 4, 3) := by decide +kernel
theorem dX0_isLetter_16 : decode cX0_isLetter 16 = .ok (.iconst 0, 1) := by decide +kernel
theorem dX0_isLetter_17 : decode cX0_isLetter 17 = .ok (.ireturn, 1) := by decide +kernel
theorem dX1_init_0 : decode cX1_init 0 = .ok (.aload_n 0, 1) := by decide +kernel
theorem dX1_init_1 : decode cX1_init 1 = .ok (.invokespecial 3, 3) := by decide +kernel
theorem dX1_init_4 : decode cX1_init 4 = .ok (.aload_n 0, 1) := by decide +kernel
theorem dX1_init_5 : decode cX1_init 5 = .ok (.ldc 9, 2) := by decide +kernel
theorem dX1_init_7 : decode cX1_init 7 = .ok (.putfield 10, 3) := by decide +kernel
theorem dX1_init_10 : decode cX1_init 10 = .ok (.aload_n 0, 1) := by decide +kernel
theorem dX1_init_11 : decode cX1_init 11 = .ok (.iconst 3, 1) := by decide +kernel
theorem dX1_init_12 : decode cX1_init 12 = .ok (.putfield 16, 3) := by decide +kernel
theorem dX1_init_15 : decode cX1_init 15 = .ok (.aload_n 0, 1) := by decide +kernel
theorem dX1_init_16 : decode cX1_init 16 = .ok (.bipush 8, 2) := by decide +kernel
theorem dX1_init_18 : decode cX1_init 18 = .ok (.newarray .int, 2) := by decide +kernel
theorem dX1_init_20 : decode cX1_init 20 = .ok (.putfield 19, 3) := by decide +kernel
theorem dX1_init_23 : decode cX1_init 23 = .ok (.aload_n 0, 1) := by decide +kernel
theorem dX1_init_24 : decode cX1_init 24 = .ok (.bipush 8, 2) := by decide +kernel
theorem dX1_init_26 : decode cX1_init 26 = .ok (.newarray .int, 2) := by decide +kernel
theorem dX1_init_28 : decode cX1_init 28 = .ok (.putfield 23, 3) := by decide +kernel
theorem dX1_init_31 : decode cX1_init 31 = .ok (.aload_n 0, 1) := by decide +kernel
theorem dX1_init_32 : decode cX1_init 32 = .ok (.bipush 8, 2) := by decide +kernel
theorem dX1_init_34 : decode cX1_init 34 = .ok (.newarray .int, 2) := by decide +kernel
theorem dX1_init_36 : decode cX1_init 36 = .ok (.putfield 26, 3) := by decide +kernel
theorem dX1_init_39 : decode cX1_init 39 = .ok (.aload_n 0, 1) := by decide +kernel
theorem dX1_init_40 : decode cX1_init 40 = .ok (.bipush 8, 2) := by decide +kernel
theorem dX1_init_42 : decode cX1_init 42 = .ok (.newarray .int, 2) := by decide +kernel
theorem dX1_init_44 : decode cX1_init 44 = .ok (.putfield 29, 3) := by decide +kernel
theorem dX1_init_47 : decode cX1_init 47 = .ok (.return_, 1) := by decide +kernel
theorem dX1_takeFrom_0 : decode cX1_takeFrom 0 = .ok (.aload_n 0, 1) := by decide +kernel
theorem dX1_takeFrom_1 : decode cX1_takeFrom 1 = .ok (.aload_n 1, 1) := by decide +kernel
theorem dX1_takeFrom_2 : decode cX1_takeFrom 2 = .ok (.getfield 32, 3) := by decide +kernel
theorem dX1_takeFrom_5 : decode cX1_takeFrom 5 = .ok (.putfield 32, 3) := by decide +kernel
theorem dX1_takeFrom_8 : decode cX1_takeFrom 8 = .ok (.aload_n 0, 1) := by decide +kernel
theorem dX1_takeFrom_9 : decode cX1_takeFrom 9 = .ok (.aload_n 1, 1) := by decide +kernel
theorem dX1_takeFrom_10 : decode cX1_takeFrom 10 = .ok (.getfield 10, 3) := by decide +kernel
theorem dX1_takeFrom_13 : decode cX1_takeFrom 13 = .ok (.putfield 10, 3) := by decide +kernel
theorem dX1_takeFrom_16 : decode cX1_takeFrom 16 = .ok (.aload_n 0, 1) := by decide +kernel
theorem dX1_takeFrom_17 : decode cX1_takeFrom 17 = .ok (.aload_n 1, 1) := by decide +kernel
theorem dX1_takeFrom_18 : decode cX1_takeFrom 18 = .ok (.getfield 35, 3) := by decide +kernel
theorem dX1_takeFrom_21 : decode cX1_takeFrom 21 = .ok (.putfield 35, 3) := by decide +kernel
theorem dX1_takeFrom_24 : decode cX1_takeFrom 24 = .ok (.aload_n 0, 1) := by decide +kernel
theorem dX1_takeFrom_25 : decode cX1_takeFrom 25 = .ok (.aload_n 1, 1) := by decide +kernel
theorem dX1_takeFrom_26 : decode cX1_takeFrom 26 = .ok (.getfield 16, 3) := by decide +kernel
theorem dX1_takeFrom_29 : decode cX1_takeFrom 29 = .ok (.putfield 16, 3) := by decide +kernel
theorem dX1_takeFrom_32 : decode cX1_takeFrom 32 = .ok (.aload_n 0, 1) := by decide +kernel
theorem dX1_takeFrom_33 : decode cX1_takeFrom 33 = .ok (.aload_n 1, 1) := by decide +kernel
theorem dX1_takeFrom_34 : decode cX1_takeFrom 34 = .ok (.getfield 38, 3) := by decide +kernel
theorem dX1_takeFrom_37 : decode cX1_takeFrom 37 = .ok (.putfield 38, 3) := by decide +kernel
theorem dX1_takeFrom_40 : decode cX1_takeFrom 40 = .ok (.iconst 0, 1) := by decide +kernel
theorem dX1_takeFrom_41 : decode cX1_takeFrom 41 = .ok (.istore_n 2, 1) := by decide +kernel
theorem dX1_takeFrom_42 : decode cX1_takeFrom 42 = .ok (.iload_n 2, 1) := by decide +kernel
theorem dX1_takeFrom_43 : decode cX1_takeFrom 43 = .ok (.bipush 8, 2) := by decide +kernel
theorem dX1_takeFrom_45 : decode cX1_takeFrom 45 = .ok (.if_icmp .ge 57, 3) := by decide +kernel
theorem dX1_takeFrom_48 : decode cX1_takeFrom 48 = .ok (.aload_n 0, 1) := by decide +kernel
theorem dX1_takeFrom_49 : decode cX1_takeFrom 49 = .ok (.getfield 19, 3) := by decide +kernel
theorem dX1_takeFrom_52 : decode cX1_takeFrom 52 = .ok (.iload_n 2, 1) := by decide +kernel
theorem dX1_takeFrom_53 : decode cX1_takeFrom 53 = .ok (.aload_n 1, 1) := by decide +kernel
theorem dX1_takeFrom_54 : decode cX1_takeFrom 54 = .ok (.getfield 19, 3) := by decide +kernel
theorem dX1_takeFrom_57 : decode cX1_takeFrom 57 = .ok (.iload_n 2, 1) := by decide +kernel
theorem dX1_takeFrom_58 : decode cX1_takeFrom 58 = .ok (.iaload, 1) := by decide +kernel
theorem dX1_takeFrom_59 : decode cX1_takeFrom 59 = .ok (.iastore, 1) := by decide +kernel
theorem dX1_takeFrom_60 : decode cX1_takeFrom 60 = .ok (.aload_n 0, 1) := by decide +kernel
theorem dX1_takeFrom_61 : decode cX1_takeFrom 61 = .ok (.getfield 23, 3) := by decide +kernel
theorem dX1_takeFrom_64 : decode cX1_takeFrom 64 = .ok (.iload_n 2, 1) := by decide +kernel
theorem dX1_takeFrom_65 : decode cX1_takeFrom 65 = .ok (.aload_n 1, 1) := by decide +kernel
theorem dX1_takeFrom_66 : decode cX1_takeFrom 66 = .ok (.getfield 23, 3) := by decide +kernel
theorem dX1_takeFrom_69 : decode cX1_takeFrom 69 = .ok (.iload_n 2, 1) := by decide +kernel
theorem dX1_takeFrom_70 : decode cX1_takeFrom 70 = .ok (.iaload, 1) := by decide +kernel
theorem dX1_takeFrom_71 : decode cX1_takeFrom 71 = .ok (.iastore, 1) := by decide +kernel
theorem dX1_takeFrom_72 : decode cX1_takeFrom 72 = .ok (.aload_n 0, 1) := by decide +kernel
theorem dX1_takeFrom_73 : decode cX1_takeFrom 73 = .ok (.getfield 26, 3) := by decide +kernel
theorem dX1_takeFrom_76 : decode cX1_takeFrom 76 = .ok (.iload_n 2, 1) := by decide +kernel
theorem dX1_takeFrom_77 : decode cX1_takeFrom 77 = .ok (.aload_n 1, 1) := by decide +kernel
theorem dX1_takeFrom_78 : decode cX1_takeFrom 78 = .ok (.getfield 26, 3) := by decide +kernel
theorem dX1_takeFrom_81 : decode cX1_takeFrom 81 = .ok (.iload_n 2, 1) := by decide +kernel
theorem dX1_takeFrom_82 : decode cX1_takeFrom 82 = .ok (.iaload, 1) := by decide +kernel
theorem dX1_takeFrom_83 : decode cX1_takeFrom 83 = .ok (.iastore, 1) := by decide +kernel
theorem dX1_takeFrom_84 : decode cX1_takeFrom 84 = .ok (.aload_n 0, 1) := by decide +kernel
theorem dX1_takeFrom_85 : decode cX1_takeFrom 85 = .ok (.getfield 29, 3) := by decide +kernel
theorem dX1_takeFrom_88 : decode cX1_takeFrom 88 = .ok (.iload_n 2, 1) := by decide +kernel
theorem dX1_takeFrom_89 : decode cX1_takeFrom 89 = .ok (.aload_n 1, 1) := by decide +kernel
theorem dX1_takeFrom_90 : decode cX1_takeFrom 90 = .ok (.getfield 29, 3) := by decide +kernel
theorem dX1_takeFrom_93 : decode cX1_takeFrom 93 = .ok (.iload_n 2, 1) := by decide +kernel
theorem dX1_takeFrom_94 : decode cX1_takeFrom 94 = .ok (.iaload, 1) := by decide +kernel
theorem dX1_takeFrom_95 : decode cX1_takeFrom 95 = .ok (.iastore, 1) := by decide +kernel
theorem dX1_takeFrom_96 : decode cX1_takeFrom 96 = .ok (.iinc 2 1, 3) := by decide +kernel
theorem dX1_takeFrom_99 : decode cX1_takeFrom 99 = .ok (.goto (-57), 3) := by decide +kernel
theorem dX1_takeFrom_102 : decode cX1_takeFrom 102 = .ok (.return_, 1) := by decide +kernel
theorem dX1_has_0 : decode cX1_has 0 = .ok (.iload_n 1, 1) := by decide +kernel
theorem dX1_has_1 : decode cX1_has 1 = .ok (.ifCond .lt 15, 3) := by decide +kernel
theorem dX1_has_4 : decode cX1_has 4 = .ok (.iload_n 1, 1) := by decide +kernel
theorem dX1_has_5 : decode cX1_has 5 = .ok (.aload_n 0, 1) := by decide +kernel
theorem dX1_has_6 : decode cX1_has 6 = .ok (.getfield 38, 3) := by decide +kernel
theorem dX1_has_9 : decode cX1_has 9 = .ok (.if_icmp .ge 7, 3) := by decide +kernel
theorem dX1_has_12 : decode cX1_has 12 = .ok (.iconst 1, 1) := by decide +kernel
theorem dX1_has_13 : decode cX1_has 13 = .ok (.goto 4, 3) := by decide +kernel
theorem dX1_has_16 : decode cX1_has 16 = .ok (.iconst 0, 1) := by decide +kernel
theorem dX1_has_17 : decode cX1_has 17 = .ok (.ireturn, 1) := by decide +kernel
theorem dX1_isFull_0 : decode cX1_isFull 0 = .ok (.aload_n 0, 1) := by decide +kernel
theorem dX1_isFull_1 : decode cX1_isFull 1 = .ok (.getfield 38, 3) := by decide +kernel
theorem dX1_isFull_4 : decode cX1_isFull 4 = .ok (.bipush 8, 2) := by decide +kernel
theorem dX1_isFull_6 : decode cX1_isFull 6 = .ok (.if_icmp .lt 7, 3) := by decide +kernel
theorem dX1_isFull_9 : decode cX1_isFull 9 = .ok (.iconst 1, 1) := by decide +kernel
theorem dX1_isFull_10 : decode cX1_isFull 10 = .ok (.goto 4, 3) := by decide +kernel
theorem dX1_isFull_13 : decode cX1_isFull 13 = .ok (.iconst 0, 1) := by decide +kernel
theorem dX1_isFull_14 : decode cX1_isFull 14 = .ok (.ireturn, 1) := by decide +kernel
theorem dX1_add_0 : decode cX1_add 0 = .ok (.aload_n 0, 1) := by decide +kernel
theorem dX1_add_1 : decode cX1_add 1 = .ok (.invokevirtual 41, 3) := by decide +kernel
theorem dX1_add_4 : decode cX1_add 4 = .ok (.ifCond .eq 4, 3) := by decide +kernel
theorem dX1_add_7 : decode cX1_add 7 = .ok (.return_, 1) := by decide +kernel
theorem dX1_add_8 : decode cX1_add 8 = .ok (.aload_n 0, 1) := by decide +kernel
theorem dX1_add_9 : decode cX1_add 9 = .ok (.getfield 19, 3) := by decide +kernel
theorem dX1_add_12 : decode cX1_add 12 = .ok (.aload_n 0, 1) := by decide +kernel
theorem dX1_add_13 : decode cX1_add 13 = .ok (.getfield 38, 3) := by decide +kernel
theorem dX1_add_16 : decode cX1_add 16 = .ok (.iload_n 1, 1) := by decide +kernel
theorem dX1_add_17 : decode cX1_add 17 = .ok (.iastore, 1) := by decide +kernel
theorem dX1_add_18 : decode cX1_add 18 = .ok (.aload_n 0, 1) := by decide +kernel
theorem dX1_add_19 : decode cX1_add 19 = .ok (.getfield 23, 3) := by decide +kernel
theorem dX1_add_22 : decode cX1_add 22 = .ok (.aload_n 0, 1) := by decide +kernel
theorem dX1_add_23 : decode cX1_add 23 = .ok (.getfield 38, 3) := by decide +kernel
theorem dX1_add_26 : decode cX1_add 26 = .ok (.iconst 0, 1) := by decide +kernel
theorem dX1_add_27 : decode cX1_add 27 = .ok (.iastore, 1) := by decide +kernel
theorem dX1_add_28 : decode cX1_add 28 = .ok (.aload_n 0, 1) := by decide +kernel
theorem dX1_add_29 : decode cX1_add 29 = .ok (.getfield 26, 3) := by decide +kernel
theorem dX1_add_32 : decode cX1_add 32 = .ok (.aload_n 0, 1) := by decide +kernel
theorem dX1_add_33 : decode cX1_add 33 = .ok (.getfield 38, 3) := by decide +kernel
theorem dX1_add_36 : decode cX1_add 36 = .ok (.iconst 0, 1) := by decide +kernel
theorem dX1_add_37 : decode cX1_add 37 = .ok (.iastore, 1) := by decide +kernel
theorem dX1_add_38 : decode cX1_add 38 = .ok (.aload_n 0, 1) := by decide +kernel
theorem dX1_add_39 : decode cX1_add 39 = .ok (.getfield 29, 3) := by decide +kernel
theorem dX1_add_42 : decode cX1_add 42 = .ok (.aload_n 0, 1) := by decide +kernel
theorem dX1_add_43 : decode cX1_add 43 = .ok (.getfield 38, 3) := by decide +kernel
theorem dX1_add_46 : decode cX1_add 46 = .ok (.bipush 50, 2) := by decide +kernel
theorem dX1_add_48 : decode cX1_add 48 = .ok (.iastore, 1) := by decide +kernel
theorem dX1_add_49 : decode cX1_add 49 = .ok (.aload_n 0, 1) := by decide +kernel
theorem dX1_add_50 : decode cX1_add 50 = .ok (.dup, 1) := by decide +kernel
theorem dX1_add_51 : decode cX1_add 51 = .ok (.getfield 38, 3) := by decide +kernel
theorem dX1_add_54 : decode cX1_add 54 = .ok (.iconst 1, 1) := by decide +kernel
theorem dX1_add_55 : decode cX1_add 55 = .ok (.iadd, 1) := by decide +kernel
theorem dX1_add_56 : decode cX1_add 56 = .ok (.putfield 38, 3) := by decide +kernel
theorem dX1_add_59 : decode cX1_add 59 = .ok (.return_, 1) := by decide +kernel
theorem dX1_exchange_0 : decode cX1_exchange 0 = .ok (.aload_n 0, 1) := by decide +kernel
theorem dX1_exchange_1 : decode cX1_exchange 1 = .ok (.iload_n 1, 1) := by decide +kernel
theorem dX1_exchange_2 : decode cX1_exchange 2 = .ok (.invokevirtual 45, 3) := by decide +kernel
theorem dX1_exchange_5 : decode cX1_exchange 5 = .ok (.ifCond .eq 11, 3) := by decide +kernel
theorem dX1_exchange_8 : decode cX1_exchange 8 = .ok (.aload_n 0, 1) := by decide +kernel
theorem dX1_exchange_9 : decode cX1_exchange 9 = .ok (.iload_n 2, 1) := by decide +kernel
theorem dX1_exchange_10 : decode cX1_exchange 10 = .ok (.invokevirtual 45, 3) := by decide +kernel
theorem dX1_exchange_13 : decode cX1_exchange 13 = .ok (.ifCond .ne 4, 3) := by decide +kernel
theorem dX1_exchange_16 : decode cX1_exchange 16 = .ok (.return_, 1) := by decide +kernel
theorem dX1_exchange_17 : decode cX1_exchange 17 = .ok (.aload_n 0, 1) := by decide +kernel
theorem dX1_exchange_18 : decode cX1_exchange 18 = .ok (.getfield 19, 3) := by decide +kernel
theorem dX1_exchange_21 : decode cX1_exchange 21 = .ok (.iload_n 1, 1) := by decide +kernel
theorem dX1_exchange_22 : decode cX1_exchange 22 = .ok (.iload_n 2, 1) := by decide +kernel
theorem dX1_exchange_23 : decode cX1_exchange 23 = .ok (.invokestatic 49, 3) := by decide +kernel
theorem dX1_exchange_26 : decode cX1_exchange 26 = .ok (.aload_n 0, 1) := by decide +kernel
theorem dX1_exchange_27 : decode cX1_exchange 27 = .ok (.getfield 23, 3) := by decide +kernel
theorem dX1_exchange_30 : decode cX1_exchange 30 = .ok (.iload_n 1, 1) := by decide +kernel
theorem dX1_exchange_31 : decode cX1_exchange 31 = .ok (.iload_n 2, 1) := by decide +kernel
theorem dX1_exchange_32 : decode cX1_exchange 32 = .ok (.invokestatic 49, 3) := by decide +kernel
theorem dX1_exchange_35 : decode cX1_exchange 35 = .ok (.aload_n 0, 1) := by decide +kernel
theorem dX1_exchange_36 : decode cX1_exchange 36 = .ok (.getfield 26, 3) := by decide +kernel
theorem dX1_exchange_39 : decode cX1_exchange 39 = .ok (.iload_n 1, 1) := by decide +kernel
theorem dX1_exchange_40 : decode cX1_exchange 40 = .ok (.iload_n 2, 1) := by decide +kernel
theorem dX1_exchange_41 : decode cX1_exchange 41 = .ok (.invokestatic 49, 3) := by decide +kernel
theorem dX1_exchange_44 : decode cX1_exchange 44 = .ok (.aload_n 0, 1) := by decide +kernel
theorem dX1_exchange_45 : decode cX1_exchange 45 = .ok (.getfield 29, 3) := by decide +kernel
theorem dX1_exchange_48 : decode cX1_exchange 48 = .ok (.iload_n 1, 1) := by decide +kernel
theorem dX1_exchange_49 : decode cX1_exchange 49 = .ok (.iload_n 2, 1) := by decide +kernel
theorem dX1_exchange_50 : decode cX1_exchange 50 = .ok (.invokestatic 49, 3) := by decide +kernel
theorem dX1_exchange_53 : decode cX1_exchange 53 = .ok (.return_, 1) := by decide +kernel
theorem dX1_exchangeIn_0 : decode cX1_exchangeIn 0 = .ok (.aload_n 0, 1) := by decide +kernel
theorem dX1_exchangeIn_1 : decode cX1_exchangeIn 1 = .ok (.iload_n 1, 1) := by decide +kernel
theorem dX1_exchangeIn_2 : decode cX1_exchangeIn 2 = .ok (.iaload, 1) := by decide +kernel
theorem dX1_exchangeIn_3 : decode cX1_exchangeIn 3 = .ok (.istore_n 3, 1) := by decide +kernel
theorem dX1_exchangeIn_4 : decode cX1_exchangeIn 4 = .ok (.aload_n 0, 1) := by decide +kernel
theorem dX1_exchangeIn_5 : decode cX1_exchangeIn 5 = .ok (.iload_n 1, 1) := by decide +kernel
theorem dX1_exchangeIn_6 : decode cX1_exchangeIn 6 = .ok (.aload_n 0, 1) := by decide +kernel
theorem dX1_exchangeIn_7 : decode cX1_exchangeIn 7 = .ok (.iload_n 2, 1) := by decide +kernel
theorem dX1_exchangeIn_8 : decode cX1_exchangeIn 8 = .ok (.iaload, 1) := by decide +kernel
theorem dX1_exchangeIn_9 : decode cX1_exchangeIn 9 = .ok (.iastore, 1) := by decide +kernel
theorem dX1_exchangeIn_10 : decode cX1_exchangeIn 10 = .ok (.aload_n 0, 1) := by decide +kernel
theorem dX1_exchangeIn_11 : decode cX1_exchangeIn 11 = .ok (.iload_n 2, 1) := by decide +kernel
theorem dX1_exchangeIn_12 : decode cX1_exchangeIn 12 = .ok (.iload_n 3, 1) := by decide +kernel
theorem dX1_exchangeIn_13 : decode cX1_exchangeIn 13 = .ok (.iastore, 1) := by decide +kernel
theorem dX1_exchangeIn_14 : decode cX1_exchangeIn 14 = .ok (.return_, 1) := by decide +kernel
theorem dX1_setRoot_0 : decode cX1_setRoot 0 = .ok (.iload_n 2, 1) := by decide +kernel
theorem dX1_setRoot_1 : decode cX1_setRoot 1 = .ok (.ifCond .eq 18, 3) := by decide +kernel
theorem dX1_setRoot_4 : decode cX1_setRoot 4 = .ok (.aload_n 0, 1) := by decide +kernel
theorem dX1_setRoot_5 : decode cX1_setRoot 5 = .ok (.dup, 1) := by decide +kernel
theorem dX1_setRoot_6 : decode cX1_setRoot 6 = .ok (.getfield 10, 3) := by decide +kernel
theorem dX1_setRoot_9 : decode cX1_setRoot 9 = .ok (.iconst 1, 1) := by decide +kernel
theorem dX1_setRoot_10 : decode cX1_setRoot 10 = .ok (.iload_n 1, 1) := by decide +kernel
theorem dX1_setRoot_11 : decode cX1_setRoot 11 = .ok (.ishl, 1) := by decide +kernel
theorem dX1_setRoot_12 : decode cX1_setRoot 12 = .ok (.ior, 1) := by decide +kernel
theorem dX1_setRoot_13 : decode cX1_setRoot 13 = .ok (.putfield 10, 3) := by decide +kernel
theorem dX1_setRoot_16 : decode cX1_setRoot 16 = .ok (.goto 17, 3) := by decide +kernel
theorem dX1_setRoot_19 : decode cX1_setRoot 19 = .ok (.aload_n 0, 1) := by decide +kernel
theorem dX1_setRoot_20 : decode cX1_setRoot 20 = .ok (.dup, 1) := by decide +kernel
theorem dX1_setRoot_21 : decode cX1_setRoot 21 = .ok (.getfield 10, 3) := by decide +kernel
theorem dX1_setRoot_24 : decode cX1_setRoot 24 = .ok (.iconst 1, 1) := by decide +kernel
theorem dX1_setRoot_25 : decode cX1_setRoot 25 = .ok (.iload_n 1, 1) := by decide +kernel
theorem dX1_setRoot_26 : decode cX1_setRoot 26 = .ok (.ishl, 1) := by decide +kernel
theorem dX1_setRoot_27 : decode cX1_setRoot 27 = .ok (.iconst (-1), 1) := by decide +kernel
theorem dX1_setRoot_28 : decode cX1_setRoot 28 = .ok (.ixor, 1) := by decide +kernel
theorem dX1_setRoot_29 : decode cX1_setRoot 29 = .ok (.iand, 1) := by decide +kernel
theorem dX1_setRoot_30 : decode cX1_setRoot 30 = .ok (.putfield 10, 3) := by decide +kernel
theorem dX1_setRoot_33 : decode cX1_setRoot 33 = .ok (.return_, 1) := by decide +kernel
theorem dX1_paceOf_0 : decode cX1_paceOf 0 = .ok (.aload_n 0, 1) := by decide +kernel
theorem dX1_paceOf_1 : decode cX1_paceOf 1 = .ok (.getfield 32, 3) := by decide +kernel
theorem dX1_paceOf_4 : decode cX1_paceOf 4 = .ok (.iload_n 1, 1) := by decide +kernel
theorem dX1_paceOf_5 : decode cX1_paceOf 5 = .ok (.isub, 1) := by decide +kernel
theorem dX1_paceOf_6 : decode cX1_paceOf 6 = .ok (.bipush 30, 2) := by decide +kernel
theorem dX1_paceOf_8 : decode cX1_paceOf 8 = .ok (.invokestatic 53, 3) := by decide +kernel
theorem dX1_paceOf_11 : decode cX1_paceOf 11 = .ok (.ireturn, 1) := by decide +kernel
theorem dX1_litSet_0 : decode cX1_litSet 0 = .ok (.aload_n 0, 1) := by decide +kernel
theorem dX1_litSet_1 : decode cX1_litSet 1 = .ok (.aload_n 0, 1) := by decide +kernel
theorem dX1_litSet_2 : decode cX1_litSet 2 = .ok (.getfield 35, 3) := by decide +kernel
theorem dX1_litSet_5 : decode cX1_litSet 5 = .ok (.invokevirtual 45, 3) := by decide +kernel
theorem dX1_litSet_8 : decode cX1_litSet 8 = .ok (.ifCond .ne 5, 3) := by decide +kernel
theorem dX1_litSet_11 : decode cX1_litSet 11 = .ok (.iconst 0, 1) := by decide +kernel
theorem dX1_litSet_12 : decode cX1_litSet 12 = .ok (.ireturn, 1) := by decide +kernel
theorem dX1_litSet_13 : decode cX1_litSet 13 = .ok (.iconst 0, 1) := by decide +kernel
theorem dX1_litSet_14 : decode cX1_litSet 14 = .ok (.istore_n 1, 1) := by decide +kernel
theorem dX1_litSet_15 : decode cX1_litSet 15 = .ok (.iconst 0, 1) := by decide +kernel
theorem dX1_litSet_16 : decode cX1_litSet 16 = .ok (.istore_n 2, 1) := by decide +kernel
theorem dX1_litSet_17 : decode cX1_litSet 17 = .ok (.iload_n 2, 1) := by decide +kernel
theorem dX1_litSet_18 : decode cX1_litSet 18 = .ok (.aload_n 0, 1) := by decide +kernel
theorem dX1_litSet_19 : decode cX1_litSet 19 = .ok (.getfield 35, 3) := by decide +kernel
theorem dX1_litSet_22 : decode cX1_litSet 22 = .ok (.if_icmp .gt 28, 3) := by decide +kernel
theorem dX1_litSet_25 : decode cX1_litSet 25 = .ok (.aload_n 0, 1) := by decide +kernel
theorem dX1_litSet_26 : decode cX1_litSet 26 = .ok (.getfield 35, 3) := by decide +kernel
theorem dX1_litSet_29 : decode cX1_litSet 29 = .ok (.iload_n 2, 1) := by decide +kernel
theorem dX1_litSet_30 : decode cX1_litSet 30 = .ok (.isub, 1) := by decide +kernel
theorem dX1_litSet_31 : decode cX1_litSet 31 = .ok (.aload_n 0, 1) := by decide +kernel
theorem dX1_litSet_32 : decode cX1_litSet 32 = .ok (.getfield 16, 3) := by decide +kernel
theorem dX1_litSet_35 : decode cX1_litSet 35 = .ok (.if_icmp .gt 9, 3) := by decide +kernel
theorem dX1_litSet_38 : decode cX1_litSet 38 = .ok (.iload_n 1, 1) := by decide +kernel
theorem dX1_litSet_39 : decode cX1_litSet 39 = .ok (.iconst 1, 1) := by decide +kernel
theorem dX1_litSet_40 : decode cX1_litSet 40 = .ok (.iload_n 2, 1) := by decide +kernel
theorem dX1_litSet_41 : decode cX1_litSet 41 = .ok (.ishl, 1) := by decide +kernel
theorem dX1_litSet_42 : decode cX1_litSet 42 = .ok (.ior, 1) := by decide +kernel
theorem dX1_litSet_43 : decode cX1_litSet 43 = .ok (.istore_n 1, 1) := by decide +kernel
theorem dX1_litSet_44 : decode cX1_litSet 44 = .ok (.iinc 2 1, 3) := by decide +kernel
theorem dX1_litSet_47 : decode cX1_litSet 47 = .ok (.goto (-30), 3) := by decide +kernel
theorem dX1_litSet_50 : decode cX1_litSet 50 = .ok (.aload_n 0, 1) := by decide +kernel
theorem dX1_litSet_51 : decode cX1_litSet 51 = .ok (.getfield 16, 3) := by decide +kernel
theorem dX1_litSet_54 : decode cX1_litSet 54 = .ok (.istore_n 2, 1) := by decide +kernel
theorem dX1_litSet_55 : decode cX1_litSet 55 = .ok (.aload_n 0, 1) := by decide +kernel
theorem dX1_litSet_56 : decode cX1_litSet 56 = .ok (.getfield 35, 3) := by decide +kernel
theorem dX1_litSet_59 : decode cX1_litSet 59 = .ok (.iconst 1, 1) := by decide +kernel
theorem dX1_litSet_60 : decode cX1_litSet 60 = .ok (.iadd, 1) := by decide +kernel
theorem dX1_litSet_61 : decode cX1_litSet 61 = .ok (.istore_n 3, 1) := by decide +kernel
theorem dX1_litSet_62 : decode cX1_litSet 62 = .ok (.iload_n 3, 1) := by decide +kernel
theorem dX1_litSet_63 : decode cX1_litSet 63 = .ok (.aload_n 0, 1) := by decide +kernel
theorem dX1_litSet_64 : decode cX1_litSet 64 = .ok (.getfield 38, 3) := by decide +kernel
theorem dX1_litSet_67 : decode cX1_litSet 67 = .ok (.if_icmp .ge 37, 3) := by decide +kernel
theorem dX1_litSet_70 : decode cX1_litSet 70 = .ok (.iload_n 3, 1) := by decide +kernel
theorem dX1_litSet_71 : decode cX1_litSet 71 = .ok (.aload_n 0, 1) := by decide +kernel
theorem dX1_litSet_72 : decode cX1_litSet 72 = .ok (.getfield 35, 3) := by decide +kernel
theorem dX1_litSet_75 : decode cX1_litSet 75 = .ok (.isub, 1) := by decide +kernel
theorem dX1_litSet_76 : decode cX1_litSet 76 = .ok (.iload_n 2, 1) := by decide +kernel
theorem dX1_litSet_77 : decode cX1_litSet 77 = .ok (.if_icmp .gt 9, 3) := by decide +kernel
theorem dX1_litSet_80 : decode cX1_litSet 80 = .ok (.iload_n 1, 1) := by decide +kernel
theorem dX1_litSet_81 : decode cX1_litSet 81 = .ok (.iconst 1, 1) := by decide +kernel
theorem dX1_litSet_82 : decode cX1_litSet 82 = .ok (.iload_n 3, 1) := by decide +kernel
theorem dX1_litSet_83 : decode cX1_litSet 83 = .ok (.ishl, 1) := by decide +kernel
theorem dX1_litSet_84 : decode cX1_litSet 84 = .ok (.ior, 1) := by decide +kernel
theorem dX1_litSet_85 : decode cX1_litSet 85 = .ok (.istore_n 1, 1) := by decide +kernel
theorem dX1_litSet_86 : decode cX1_litSet 86 = .ok (.iload_n 2, 1) := by decide +kernel
theorem dX1_litSet_87 : decode cX1_litSet 87 = .ok (.aload_n 0, 1) := by decide +kernel
theorem dX1_litSet_88 : decode cX1_litSet 88 = .ok (.getfield 19, 3) := by decide +kernel
theorem dX1_litSet_91 : decode cX1_litSet 91 = .ok (.iload_n 3, 1) := by decide +kernel
theorem dX1_litSet_92 : decode cX1_litSet 92 = .ok (.iaload, 1) := by decide +kernel
theorem dX1_litSet_93 : decode cX1_litSet 93 = .ok (.invokestatic 59, 3) := by decide +kernel
theorem dX1_litSet_96 : decode cX1_litSet 96 = .ok (.isub, 1) := by decide +kernel
theorem dX1_litSet_97 : decode cX1_litSet 97 = .ok (.istore_n 2, 1) := by decide +kernel
theorem dX1_litSet_98 : decode cX1_litSet 98 = .ok (.iinc 3 1, 3) := by decide +kernel
theorem dX1_litSet_101 : decode cX1_litSet 101 = .ok (.goto (-39), 3) := by decide +kernel
theorem dX1_litSet_104 : decode cX1_litSet 104 = .ok (.iload_n 1, 1) := by decide +kernel
theorem dX1_litSet_105 : decode cX1_litSet 105 = .ok (.ireturn, 1) := by decide +kernel
theorem dX1_atRootSet_0 : decode cX1_atRootSet 0 = .ok (.iconst 0, 1) := by decide +kernel
theorem dX1_atRootSet_1 : decode cX1_atRootSet 1 = .ok (.istore_n 1, 1) := by decide +kernel
theorem dX1_atRootSet_2 : decode cX1_atRootSet 2 = .ok (.iconst 0, 1) := by decide +kernel
theorem dX1_atRootSet_3 : decode cX1_atRootSet 3 = .ok (.istore_n 2, 1) := by decide +kernel
theorem dX1_atRootSet_4 : decode cX1_atRootSet 4 = .ok (.iload_n 2, 1) := by decide +kernel
theorem dX1_atRootSet_5 : decode cX1_atRootSet 5 = .ok (.aload_n 0, 1) := by decide +kernel
theorem dX1_atRootSet_6 : decode cX1_atRootSet 6 = .ok (.getfield 38, 3) := by decide +kernel
theorem dX1_atRootSet_9 : decode cX1_atRootSet 9 = .ok (.if_icmp .ge 30, 3) := by decide +kernel
theorem dX1_atRootSet_12 : decode cX1_atRootSet 12 = .ok (.aload_n 0, 1) := by decide +kernel
theorem dX1_atRootSet_13 : decode cX1_atRootSet 13 = .ok (.getfield 10, 3) := by decide +kernel
theorem dX1_atRootSet_16 : decode cX1_atRootSet 16 = .ok (.aload_n 0, 1) := by decide +kernel
theorem dX1_atRootSet_17 : decode cX1_atRootSet 17 = .ok (.iload_n 2, 1) := by decide +kernel
theorem dX1_atRootSet_18 : decode cX1_atRootSet 18 = .ok (.invokevirtual 63, 3) := by decide +kernel
theorem dX1_atRootSet_21 : decode cX1_atRootSet 21 = .ok (.invokestatic 66, 3) := by decide +kernel
theorem dX1_atRootSet_24 : decode cX1_atRootSet 24 = .ok (.ifCond .eq 9, 3) := by decide +kernel
theorem dX1_atRootSet_27 : decode cX1_atRootSet 27 = .ok (.iload_n 1, 1) := by decide +kernel
theorem dX1_atRootSet_28 : decode cX1_atRootSet 28 = .ok (.iconst 1, 1) := by decide +kernel
theorem dX1_atRootSet_29 : decode cX1_atRootSet 29 = .ok (.iload_n 2, 1) := by decide +kernel
theorem dX1_atRootSet_30 : decode cX1_atRootSet 30 = .ok (.ishl, 1) := by decide +kernel
theorem dX1_atRootSet_31 : decode cX1_atRootSet 31 = .ok (.ior, 1) := by decide +kernel
theorem dX1_atRootSet_32 : decode cX1_atRootSet 32 = .ok (.istore_n 1, 1) := by decide +kernel
theorem dX1_atRootSet_33 : decode cX1_atRootSet 33 = .ok (.iinc 2 1, 3) := by decide +kernel
theorem dX1_atRootSet_36 : decode cX1_atRootSet 36 = .ok (.goto (-32), 3) := by decide +kernel
theorem dX1_atRootSet_39 : decode cX1_atRootSet 39 = .ok (.iload_n 1, 1) := by decide +kernel
theorem dX1_atRootSet_40 : decode cX1_atRootSet 40 = .ok (.ireturn, 1) := by decide +kernel
theorem dX1_heardSet_0 : decode cX1_heardSet 0 = .ok (.iconst 0, 1) := by decide +kernel
theorem dX1_heardSet_1 : decode cX1_heardSet 1 = .ok (.istore_n 1, 1) := by decide +kernel
theorem dX1_heardSet_2 : decode cX1_heardSet 2 = .ok (.iconst 0, 1) := by decide +kernel
theorem dX1_heardSet_3 : decode cX1_heardSet 3 = .ok (.istore_n 2, 1) := by decide +kernel
theorem dX1_heardSet_4 : decode cX1_heardSet 4 = .ok (.iload_n 2, 1) := by decide +kernel
theorem dX1_heardSet_5 : decode cX1_heardSet 5 = .ok (.aload_n 0, 1) := by decide +kernel
theorem dX1_heardSet_6 : decode cX1_heardSet 6 = .ok (.getfield 38, 3) := by decide +kernel
theorem dX1_heardSet_9 : decode cX1_heardSet 9 = .ok (.if_icmp .ge 20, 3) := by decide +kernel
theorem dX1_heardSet_12 : decode cX1_heardSet 12 = .ok (.iload_n 1, 1) := by decide +kernel
theorem dX1_heardSet_13 : decode cX1_heardSet 13 = .ok (.aload_n 0, 1) := by decide +kernel
theorem dX1_heardSet_14 : decode cX1_heardSet 14 = .ok (.getfield 23, 3) := by decide +kernel
theorem dX1_heardSet_17 : decode cX1_heardSet 17 = .ok (.iload_n 2, 1) := by decide +kernel
theorem dX1_heardSet_18 : decode cX1_heardSet 18 = .ok (.iaload, 1) := by decide +kernel
theorem dX1_heardSet_19 : decode cX1_heardSet 19 = .ok (.iload_n 2, 1) := by decide +kernel
theorem dX1_heardSet_20 : decode cX1_heardSet 20 = .ok (.ishl, 1) := by decide +kernel
theorem dX1_heardSet_21 : decode cX1_heardSet 21 = .ok (.ior, 1) := by decide +kernel
theorem dX1_heardSet_22 : decode cX1_heardSet 22 = .ok (.istore_n 1, 1) := by decide +kernel
theorem dX1_heardSet_23 : decode cX1_heardSet 23 = .ok (.iinc 2 1, 3) := by decide +kernel
theorem dX1_heardSet_26 : decode cX1_heardSet 26 = .ok (.goto (-22), 3) := by decide +kernel
theorem dX1_heardSet_29 : decode cX1_heardSet 29 = .ok (.iload_n 1, 1) := by decide +kernel
theorem dX1_heardSet_30 : decode cX1_heardSet 30 = .ok (.ireturn, 1) := by decide +kernel
theorem dX1_allStumbled_0 : decode cX1_allStumbled 0 = .ok (.iconst 0, 1) := by decide +kernel
theorem dX1_allStumbled_1 : decode cX1_allStumbled 1 = .ok (.istore_n 1, 1) := by decide +kernel
theorem dX1_allStumbled_2 : decode cX1_allStumbled 2 = .ok (.iconst 0, 1) := by decide +kernel
theorem dX1_allStumbled_3 : decode cX1_allStumbled 3 = .ok (.istore_n 2, 1) := by decide +kernel
theorem dX1_allStumbled_4 : decode cX1_allStumbled 4 = .ok (.iload_n 2, 1) := by decide +kernel
theorem dX1_allStumbled_5 : decode cX1_allStumbled 5 = .ok (.aload_n 0, 1) := by decide +kernel
theorem dX1_allStumbled_6 : decode cX1_allStumbled 6 = .ok (.getfield 38, 3) := by decide +kernel
theorem dX1_allStumbled_9 : decode cX1_allStumbled 9 = .ok (.if_icmp .ge 18, 3) := by decide +kernel
theorem dX1_allStumbled_12 : decode cX1_allStumbled 12 = .ok (.iload_n 1, 1) := by decide +kernel
theorem dX1_allStumbled_13 : decode cX1_allStumbled 13 = .ok (.aload_n 0, 1) := by decide +kernel
theorem dX1_allStumbled_14 : decode cX1_allStumbled 14 = .ok (.getfield 26, 3) := by decide +kernel
theorem dX1_allStumbled_17 : decode cX1_allStumbled 17 = .ok (.iload_n 2, 1) := by decide +kernel
theorem dX1_allStumbled_18 : decode cX1_allStumbled 18 = .ok (.iaload, 1) := by decide +kernel
theorem dX1_allStumbled_19 : decode cX1_allStumbled 19 = .ok (.iadd, 1) := by decide +kernel
theorem dX1_allStumbled_20 : decode cX1_allStumbled 20 = .ok (.istore_n 1, 1) := by decide +kernel
theorem dX1_allStumbled_21 : decode cX1_allStumbled 21 = .ok (.iinc 2 1, 3) := by decide +kernel
theorem dX1_allStumbled_24 : decode cX1_allStumbled 24 = .ok (.goto (-20), 3) := by decide +kernel
theorem dX1_allStumbled_27 : decode cX1_allStumbled 27 = .ok (.iload_n 1, 1) := by decide +kernel
theorem dX1_allStumbled_28 : decode cX1_allStumbled 28 = .ok (.ireturn, 1) := by decide +kernel
theorem dX1_allNerve_0 : decode cX1_allNerve 0 = .ok (.iconst 0, 1) := by decide +kernel
theorem dX1_allNerve_1 : decode cX1_allNerve 1 = .ok (.istore_n 1, 1) := by decide +kernel
theorem dX1_allNerve_2 : decode cX1_allNerve 2 = .ok (.iconst 0, 1) := by decide +kernel
theorem dX1_allNerve_3 : decode cX1_allNerve 3 = .ok (.istore_n 2, 1) := by decide +kernel
theorem dX1_allNerve_4 : decode cX1_allNerve 4 = .ok (.iload_n 2, 1) := by decide +kernel
theorem dX1_allNerve_5 : decode cX1_allNerve 5 = .ok (.aload_n 0, 1) := by decide +kernel
theorem dX1_allNerve_6 : decode cX1_allNerve 6 = .ok (.getfield 38, 3) := by decide +kernel
theorem dX1_allNerve_9 : decode cX1_allNerve 9 = .ok (.if_icmp .ge 18, 3) := by decide +kernel
theorem dX1_allNerve_12 : decode cX1_allNerve 12 = .ok (.iload_n 1, 1) := by decide +kernel
theorem dX1_allNerve_13 : decode cX1_allNerve 13 = .ok (.aload_n 0, 1) := by decide +kernel
theorem dX1_allNerve_14 : decode cX1_allNerve 14 = .ok (.getfield 29, 3) := by decide +kernel
theorem dX1_allNerve_17 : decode cX1_allNerve 17 = .ok (.iload_n 2, 1) := by decide +kernel
theorem dX1_allNerve_18 : decode cX1_allNerve 18 = .ok (.iaload, 1) := by decide +kernel
theorem dX1_allNerve_19 : decode cX1_allNerve 19 = .ok (.iadd, 1) := by decide +kernel
theorem dX1_allNerve_20 : decode cX1_allNerve 20 = .ok (.istore_n 1, 1) := by decide +kernel
theorem dX1_allNerve_21 : decode cX1_allNerve 21 = .ok (.iinc 2 1, 3) := by decide +kernel
theorem dX1_allNerve_24 : decode cX1_allNerve 24 = .ok (.goto (-20), 3) := by decide +kernel
theorem dX1_allNerve_27 : decode cX1_allNerve 27 = .ok (.iload_n 1, 1) := by decide +kernel
theorem dX1_allNerve_28 : decode cX1_allNerve 28 = .ok (.ireturn, 1) := by decide +kernel
theorem dX1_seeingSet_0 : decode cX1_seeingSet 0 = .ok (.aload_n 0, 1) := by decide +kernel
theorem dX1_seeingSet_1 : decode cX1_seeingSet 1 = .ok (.invokevirtual 70, 3) := by decide +kernel
theorem dX1_seeingSet_4 : decode cX1_seeingSet 4 = .ok (.istore_n 1, 1) := by decide +kernel
theorem dX1_seeingSet_5 : decode cX1_seeingSet 5 = .ok (.iconst 0, 1) := by decide +kernel
theorem dX1_seeingSet_6 : decode cX1_seeingSet 6 = .ok (.istore_n 2, 1) := by decide +kernel
theorem dX1_seeingSet_7 : decode cX1_seeingSet 7 = .ok (.iconst 0, 1) := by decide +kernel
theorem dX1_seeingSet_8 : decode cX1_seeingSet 8 = .ok (.istore_n 3, 1) := by decide +kernel
theorem dX1_seeingSet_9 : decode cX1_seeingSet 9 = .ok (.iload_n 3, 1) := by decide +kernel
theorem dX1_seeingSet_10 : decode cX1_seeingSet 10 = .ok (.aload_n 0, 1) := by decide +kernel
theorem dX1_seeingSet_11 : decode cX1_seeingSet 11 = .ok (.getfield 38, 3) := by decide +kernel
theorem dX1_seeingSet_14 : decode cX1_seeingSet 14 = .ok (.if_icmp .ge 28, 3) := by decide +kernel
theorem dX1_seeingSet_17 : decode cX1_seeingSet 17 = .ok (.aload_n 0, 1) := by decide +kernel
theorem dX1_seeingSet_18 : decode cX1_seeingSet 18 = .ok (.iload_n 3, 1) := by decide +kernel
theorem dX1_seeingSet_19 : decode cX1_seeingSet 19 = .ok (.iload_n 1, 1) := by decide +kernel
theorem dX1_seeingSet_20 : decode cX1_seeingSet 20 = .ok (.iload_n 3, 1) := by decide +kernel
theorem dX1_seeingSet_21 : decode cX1_seeingSet 21 = .ok (.invokestatic 66, 3) := by decide +kernel
theorem dX1_seeingSet_24 : decode cX1_seeingSet 24 = .ok (.invokevirtual 74, 3) := by decide +kernel
theorem dX1_seeingSet_27 : decode cX1_seeingSet 27 = .ok (.ifCond .eq 9, 3) := by decide +kernel
theorem dX1_seeingSet_30 : decode cX1_seeingSet 30 = .ok (.iload_n 2, 1) := by decide +kernel
theorem dX1_seeingSet_31 : decode cX1_seeingSet 31 = .ok (.iconst 1, 1) := by decide +kernel
theorem dX1_seeingSet_32 : decode cX1_seeingSet 32 = .ok (.iload_n 3, 1) := by decide +kernel
theorem dX1_seeingSet_33 : decode cX1_seeingSet 33 = .ok (.ishl, 1) := by decide +kernel
theorem dX1_seeingSet_34 : decode cX1_seeingSet 34 = .ok (.ior, 1) := by decide +kernel
theorem dX1_seeingSet_35 : decode cX1_seeingSet 35 = .ok (.istore_n 2, 1) := by decide +kernel
theorem dX1_seeingSet_36 : decode cX1_seeingSet 36 = .ok (.iinc 3 1, 3) := by decide +kernel
theorem dX1_seeingSet_39 : decode cX1_seeingSet 39 = .ok (.goto (-30), 3) := by decide +kernel
theorem dX1_seeingSet_42 : decode cX1_seeingSet 42 = .ok (.iload_n 2, 1) := by decide +kernel
theorem dX1_seeingSet_43 : decode cX1_seeingSet 43 = .ok (.ireturn, 1) := by decide +kernel
theorem dX1_sees_0 : decode cX1_sees 0 = .ok (.iload_n 2, 1) := by decide +kernel
theorem dX1_sees_1 : decode cX1_sees 1 = .ok (.ifCond .eq 20, 3) := by decide +kernel
theorem dX1_sees_4 : decode cX1_sees 4 = .ok (.iload_n 1, 1) := by decide +kernel
theorem dX1_sees_5 : decode cX1_sees 5 = .ok (.aload_n 0, 1) := by decide +kernel
theorem dX1_sees_6 : decode cX1_sees 6 = .ok (.getfield 35, 3) := by decide +kernel
theorem dX1_sees_9 : decode cX1_sees 9 = .ok (.isub, 1) := by decide +kernel
theorem dX1_sees_10 : decode cX1_sees 10 = .ok (.invokestatic 78, 3) := by decide +kernel
theorem dX1_sees_13 : decode cX1_sees 13 = .ok (.iconst 2, 1) := by decide +kernel
theorem dX1_sees_14 : decode cX1_sees 14 = .ok (.if_icmp .gt 7, 3) := by decide +kernel
theorem dX1_sees_17 : decode cX1_sees 17 = .ok (.iconst 1, 1) := by decide +kernel
theorem dX1_sees_18 : decode cX1_sees 18 = .ok (.goto 4, 3) := by decide +kernel
theorem dX1_sees_21 : decode cX1_sees 21 = .ok (.iconst 0, 1) := by decide +kernel
theorem dX1_sees_22 : decode cX1_sees 22 = .ok (.istore_n 3, 1) := by decide +kernel
theorem dX1_sees_23 : decode cX1_sees 23 = .ok (.aload_n 0, 1) := by decide +kernel
theorem dX1_sees_24 : decode cX1_sees 24 = .ok (.getfield 19, 3) := by decide +kernel
theorem dX1_sees_27 : decode cX1_sees 27 = .ok (.iload_n 1, 1) := by decide +kernel
theorem dX1_sees_28 : decode cX1_sees 28 = .ok (.iaload, 1) := by decide +kernel
theorem dX1_sees_29 : decode cX1_sees 29 = .ok (.tableswitch 77 1 5 #[35, 77, 37, 39, 57], 35) := by decide +kernel
theorem dX1_sees_64 : decode cX1_sees 64 = .ok (.iload_n 3, 1) := by decide +kernel
theorem dX1_sees_65 : decode cX1_sees 65 = .ok (.ireturn, 1) := by decide +kernel
theorem dX1_sees_66 : decode cX1_sees 66 = .ok (.iconst 1, 1) := by decide +kernel
theorem dX1_sees_67 : decode cX1_sees 67 = .ok (.ireturn, 1) := by decide +kernel
theorem dX1_sees_68 : decode cX1_sees 68 = .ok (.iload_n 3, 1) := by decide +kernel
theorem dX1_sees_69 : decode cX1_sees 69 = .ok (.ifCond .eq 15, 3) := by decide +kernel
theorem dX1_sees_72 : decode cX1_sees 72 = .ok (.aload_n 0, 1) := by decide +kernel
theorem dX1_sees_73 : decode cX1_sees 73 = .ok (.getfield 35, 3) := by decide +kernel
theorem dX1_sees_76 : decode cX1_sees 76 = .ok (.iload_n 1, 1) := by decide +kernel
theorem dX1_sees_77 : decode cX1_sees 77 = .ok (.if_icmp .eq 7, 3) := by decide +kernel
theorem dX1_sees_80 : decode cX1_sees 80 = .ok (.iconst 1, 1) := by decide +kernel
theorem dX1_sees_81 : decode cX1_sees 81 = .ok (.goto 4, 3) := by decide +kernel
theorem dX1_sees_84 : decode cX1_sees 84 = .ok (.iconst 0, 1) := by decide +kernel
theorem dX1_sees_85 : decode cX1_sees 85 = .ok (.ireturn, 1) := by decide +kernel
theorem dX1_sees_86 : decode cX1_sees 86 = .ok (.iload_n 2, 1) := by decide +kernel
theorem dX1_sees_87 : decode cX1_sees 87 = .ok (.ifCond .eq 17, 3) := by decide +kernel
theorem dX1_sees_90 : decode cX1_sees 90 = .ok (.aload_n 0, 1) := by decide +kernel
theorem dX1_sees_91 : decode cX1_sees 91 = .ok (.getfield 32, 3) := by decide +kernel
theorem dX1_sees_94 : decode cX1_sees 94 = .ok (.iconst 3, 1) := by decide +kernel
theorem dX1_sees_95 : decode cX1_sees 95 = .ok (.irem, 1) := by decide +kernel
theorem dX1_sees_96 : decode cX1_sees 96 = .ok (.iconst 2, 1) := by decide +kernel
theorem dX1_sees_97 : decode cX1_sees 97 = .ok (.if_icmp .eq 7, 3) := by decide +kernel
theorem dX1_sees_100 : decode cX1_sees 100 = .ok (.iconst 1, 1) := by decide +kernel
theorem dX1_sees_101 : decode cX1_sees 101 = .ok (.goto 4, 3) := by decide +kernel
theorem dX1_sees_104 : decode cX1_sees 104 = .ok (.iconst 0, 1) := by decide +kernel
theorem dX1_sees_105 : decode cX1_sees 105 = .ok (.ireturn, 1) := by decide +kernel
theorem dX1_sees_106 : decode cX1_sees 106 = .ok (.iload_n 2, 1) := by decide +kernel
theorem dX1_sees_107 : decode cX1_sees 107 = .ok (.ireturn, 1) := by decide +kernel
theorem dX1_heeds_0 : decode cX1_heeds 0 = .ok (.aload_n 0, 1) := by decide +kernel
theorem dX1_heeds_1 : decode cX1_heeds 1 = .ok (.getfield 19, 3) := by decide +kernel
theorem dX1_heeds_4 : decode cX1_heeds 4 = .ok (.iload_n 1, 1) := by decide +kernel
theorem dX1_heeds_5 : decode cX1_heeds 5 = .ok (.iaload, 1) := by decide +kernel
theorem dX1_heeds_6 : decode cX1_heeds 6 = .ok (.lookupswitch 30 #[(2, 26), (5, 28)], 26) := by decide +kernel
theorem dX1_heeds_32 : decode cX1_heeds 32 = .ok (.iconst 1, 1) := by decide +kernel
theorem dX1_heeds_33 : decode cX1_heeds 33 = .ok (.ireturn, 1) := by decide +kernel
theorem dX1_heeds_34 : decode cX1_heeds 34 = .ok (.iconst 0, 1) := by decide +kernel
theorem dX1_heeds_35 : decode cX1_heeds 35 = .ok (.ireturn, 1) := by decide +kernel
theorem dX1_heeds_36 : decode cX1_heeds 36 = .ok (.aload_n 0, 1) := by decide +kernel
theorem dX1_heeds_37 : decode cX1_heeds 37 = .ok (.getfield 29, 3) := by decide +kernel
theorem dX1_heeds_40 : decode cX1_heeds 40 = .ok (.iload_n 1, 1) := by decide +kernel
theorem dX1_heeds_41 : decode cX1_heeds 41 = .ok (.iaload, 1) := by decide +kernel
theorem dX1_heeds_42 : decode cX1_heeds 42 = .ok (.bipush 30, 2) := by decide +kernel
theorem dX1_heeds_44 : decode cX1_heeds 44 = .ok (.if_icmp .lt 7, 3) := by decide +kernel
theorem dX1_heeds_47 : decode cX1_heeds 47 = .ok (.iconst 1, 1) := by decide +kernel
theorem dX1_heeds_48 : decode cX1_heeds 48 = .ok (.goto 4, 3) := by decide +kernel
theorem dX1_heeds_51 : decode cX1_heeds 51 = .ok (.iconst 0, 1) := by decide +kernel
theorem dX1_heeds_52 : decode cX1_heeds 52 = .ok (.ireturn, 1) := by decide +kernel
theorem dX1_says_0 : decode cX1_says 0 = .ok (.aload_n 0, 1) := by decide +kernel
theorem dX1_says_1 : decode cX1_says 1 = .ok (.getfield 81, 3) := by decide +kernel
theorem dX1_says_4 : decode cX1_says 4 = .ok (.iload_n 1, 1) := by decide +kernel
theorem dX1_says_5 : decode cX1_says 5 = .ok (.invokestatic 66, 3) := by decide +kernel
theorem dX1_says_8 : decode cX1_says 8 = .ok (.istore_n 3, 1) := by decide +kernel
theorem dX1_says_9 : decode cX1_says 9 = .ok (.iload_n 3, 1) := by decide +kernel
theorem dX1_says_10 : decode cX1_says 10 = .ok (.ifCond .ne 11, 3) := by decide +kernel
theorem dX1_says_13 : decode cX1_says 13 = .ok (.iload_n 2, 1) := by decide +kernel
theorem dX1_says_14 : decode cX1_says 14 = .ok (.iload_n 1, 1) := by decide +kernel
theorem dX1_says_15 : decode cX1_says 15 = .ok (.invokestatic 66, 3) := by decide +kernel
theorem dX1_says_18 : decode cX1_says 18 = .ok (.ifCond .eq 7, 3) := by decide +kernel
theorem dX1_says_21 : decode cX1_says 21 = .ok (.iconst 1, 1) := by decide +kernel
theorem dX1_says_22 : decode cX1_says 22 = .ok (.goto 4, 3) := by decide +kernel
theorem dX1_says_25 : decode cX1_says 25 = .ok (.iconst 0, 1) := by decide +kernel
theorem dX1_says_26 : decode cX1_says 26 = .ok (.istore 4, 2) := by decide +kernel
theorem dX1_says_28 : decode cX1_says 28 = .ok (.iload 4, 2) := by decide +kernel
theorem dX1_says_30 : decode cX1_says 30 = .ok (.ifCond .ne 13, 3) := by decide +kernel
theorem dX1_says_33 : decode cX1_says 33 = .ok (.aload_n 0, 1) := by decide +kernel
theorem dX1_says_34 : decode cX1_says 34 = .ok (.getfield 23, 3) := by decide +kernel
theorem dX1_says_37 : decode cX1_says 37 = .ok (.iload_n 1, 1) := by decide +kernel
theorem dX1_says_38 : decode cX1_says 38 = .ok (.iaload, 1) := by decide +kernel
theorem dX1_says_39 : decode cX1_says 39 = .ok (.iconst 1, 1) := by decide +kernel
theorem dX1_says_40 : decode cX1_says 40 = .ok (.if_icmp .ne 7, 3) := by decide +kernel
theorem dX1_says_43 : decode cX1_says 43 = .ok (.iconst 1, 1) := by decide +kernel
theorem dX1_says_44 : decode cX1_says 44 = .ok (.goto 4, 3) := by decide +kernel
theorem dX1_says_47 : decode cX1_says 47 = .ok (.iconst 0, 1) := by decide +kernel
theorem dX1_says_48 : decode cX1_says 48 = .ok (.istore 5, 2) := by decide +kernel
theorem dX1_says_50 : decode cX1_says 50 = .ok (.aload_n 0, 1) := by decide +kernel
theorem dX1_says_51 : decode cX1_says 51 = .ok (.getfield 19, 3) := by decide +kernel
theorem dX1_says_54 : decode cX1_says 54 = .ok (.iload_n 1, 1) := by decide +kernel
theorem dX1_says_55 : decode cX1_says 55 = .ok (.iaload, 1) := by decide +kernel
theorem dX1_says_56 : decode cX1_says 56 = .ok (.tableswitch 65 1 5 #[36, 39, 65, 41, 63], 36) := by decide +kernel
theorem dX1_says_92 : decode cX1_says 92 = .ok (.iload 5, 2) := by decide +kernel
theorem dX1_says_94 : decode cX1_says 94 = .ok (.ireturn, 1) := by decide +kernel
theorem dX1_says_95 : decode cX1_says 95 = .ok (.iload_n 3, 1) := by decide +kernel
theorem dX1_says_96 : decode cX1_says 96 = .ok (.ireturn, 1) := by decide +kernel
theorem dX1_says_97 : decode cX1_says 97 = .ok (.iload 5, 2) := by decide +kernel
theorem dX1_says_99 : decode cX1_says 99 = .ok (.ifCond .eq 18, 3) := by decide +kernel
theorem dX1_says_102 : decode cX1_says 102 = .ok (.aload_n 0, 1) := by decide +kernel
theorem dX1_says_103 : decode cX1_says 103 = .ok (.getfield 29, 3) := by decide +kernel
theorem dX1_says_106 : decode cX1_says 106 = .ok (.iload_n 1, 1) := by decide +kernel
theorem dX1_says_107 : decode cX1_says 107 = .ok (.iaload, 1) := by decide +kernel
theorem dX1_says_108 : decode cX1_says 108 = .ok (.bipush 20, 2) := by decide +kernel
theorem dX1_says_110 : decode cX1_says 110 = .ok (.if_icmp .lt 7, 3) := by decide +kernel
theorem dX1_says_113 : decode cX1_says 113 = .ok (.iconst 1, 1) := by decide +kernel
theorem dX1_says_114 : decode cX1_says 114 = .ok (.goto 4, 3) := by decide +kernel
theorem dX1_says_117 : decode cX1_says 117 = .ok (.iconst 0, 1) := by decide +kernel
theorem dX1_says_118 : decode cX1_says 118 = .ok (.ireturn, 1) := by decide +kernel
theorem dX1_says_119 : decode cX1_says 119 = .ok (.iconst 0, 1) := by decide +kernel
theorem dX1_says_120 : decode cX1_says 120 = .ok (.ireturn, 1) := by decide +kernel
theorem dX1_says_121 : decode cX1_says 121 = .ok (.iload 4, 2) := by decide +kernel
theorem dX1_says_123 : decode cX1_says 123 = .ok (.ireturn, 1) := by decide +kernel
theorem dX1_isWarned_0 : decode cX1_isWarned 0 = .ok (.aload_n 0, 1) := by decide +kernel
theorem dX1_isWarned_1 : decode cX1_isWarned 1 = .ok (.getfield 23, 3) := by decide +kernel
theorem dX1_isWarned_4 : decode cX1_isWarned 4 = .ok (.iload_n 1, 1) := by decide +kernel
theorem dX1_isWarned_5 : decode cX1_isWarned 5 = .ok (.iaload, 1) := by decide +kernel
theorem dX1_isWarned_6 : decode cX1_isWarned 6 = .ok (.iconst 1, 1) := by decide +kernel
theorem dX1_isWarned_7 : decode cX1_isWarned 7 = .ok (.if_icmp .ne 15, 3) := by decide +kernel
theorem dX1_isWarned_10 : decode cX1_isWarned 10 = .ok (.aload_n 0, 1) := by decide +kernel
theorem dX1_isWarned_11 : decode cX1_isWarned 11 = .ok (.iload_n 1, 1) := by decide +kernel
theorem dX1_isWarned_12 : decode cX1_isWarned 12 = .ok (.invokevirtual 84, 3) := by decide +kernel
theorem dX1_isWarned_15 : decode cX1_isWarned 15 = .ok (.ifCond .eq 7, 3) := by decide +kernel
theorem dX1_isWarned_18 : decode cX1_isWarned 18 = .ok (.iconst 1, 1) := by decide +kernel
theorem dX1_isWarned_19 : decode cX1_isWarned 19 = .ok (.goto 4, 3) := by decide +kernel
theorem dX1_isWarned_22 : decode cX1_isWarned 22 = .ok (.iconst 0, 1) := by decide +kernel
theorem dX1_isWarned_23 : decode cX1_isWarned 23 = .ok (.ireturn, 1) := by decide +kernel
theorem dX1_goSteps_0 : decode cX1_goSteps 0 = .ok (.iconst 0, 1) := by decide +kernel
theorem dX1_goSteps_1 : decode cX1_goSteps 1 = .ok (.istore_n 2, 1) := by decide +kernel
theorem dX1_goSteps_2 : decode cX1_goSteps 2 = .ok (.iload_n 2, 1) := by decide +kernel
theorem dX1_goSteps_3 : decode cX1_goSteps 3 = .ok (.iload_n 1, 1) := by decide +kernel
theorem dX1_goSteps_4 : decode cX1_goSteps 4 = .ok (.if_icmp .ge 13, 3) := by decide +kernel
theorem dX1_goSteps_7 : decode cX1_goSteps 7 = .ok (.aload_n 0, 1) := by decide +kernel
theorem dX1_goSteps_8 : decode cX1_goSteps 8 = .ok (.invokevirtual 87, 3) := by decide +kernel
theorem dX1_goSteps_11 : decode cX1_goSteps 11 = .ok (.iinc 2 1, 3) := by decide +kernel
theorem dX1_goSteps_14 : decode cX1_goSteps 14 = .ok (.goto (-12), 3) := by decide +kernel
theorem dX1_goSteps_17 : decode cX1_goSteps 17 = .ok (.return_, 1) := by decide +kernel
theorem dX1_goStep_0 : decode cX1_goStep 0 = .ok (.aload_n 0, 1) := by decide +kernel
theorem dX1_goStep_1 : decode cX1_goStep 1 = .ok (.dup, 1) := by decide +kernel
theorem dX1_goStep_2 : decode cX1_goStep 2 = .ok (.getfield 32, 3) := by decide +kernel
theorem dX1_goStep_5 : decode cX1_goStep 5 = .ok (.iconst 1, 1) := by decide +kernel
theorem dX1_goStep_6 : decode cX1_goStep 6 = .ok (.iadd, 1) := by decide +kernel
theorem dX1_goStep_7 : decode cX1_goStep 7 = .ok (.putfield 32, 3) := by decide +kernel
theorem dX1_goStep_10 : decode cX1_goStep 10 = .ok (.aload_n 0, 1) := by decide +kernel
theorem dX1_goStep_11 : decode cX1_goStep 11 = .ok (.invokevirtual 90, 3) := by decide +kernel
theorem dX1_goStep_14 : decode cX1_goStep 14 = .ok (.istore_n 1, 1) := by decide +kernel
theorem dX1_goStep_15 : decode cX1_goStep 15 = .ok (.aload_n 0, 1) := by decide +kernel
theorem dX1_goStep_16 : decode cX1_goStep 16 = .ok (.invokevirtual 93, 3) := by decide +kernel
theorem dX1_goStep_19 : decode cX1_goStep 19 = .ok (.istore_n 2, 1) := by decide +kernel
theorem dX1_goStep_20 : decode cX1_goStep 20 = .ok (.aload_n 0, 1) := by decide +kernel
theorem dX1_goStep_21 : decode cX1_goStep 21 = .ok (.iload_n 1, 1) := by decide +kernel
theorem dX1_goStep_22 : decode cX1_goStep 22 = .ok (.iload_n 2, 1) := by decide +kernel
theorem dX1_goStep_23 : decode cX1_goStep 23 = .ok (.iconst (-1), 1) := by decide +kernel
theorem dX1_goStep_24 : decode cX1_goStep 24 = .ok (.ixor, 1) := by decide +kernel
theorem dX1_goStep_25 : decode cX1_goStep 25 = .ok (.iand, 1) := by decide +kernel
theorem dX1_goStep_26 : decode cX1_goStep 26 = .ok (.invokevirtual 96, 3) := by decide +kernel
theorem dX1_goStep_29 : decode cX1_goStep 29 = .ok (.aload_n 0, 1) := by decide +kernel
theorem dX1_goStep_30 : decode cX1_goStep 30 = .ok (.iload_n 1, 1) := by decide +kernel
theorem dX1_goStep_31 : decode cX1_goStep 31 = .ok (.iload_n 2, 1) := by decide +kernel
theorem dX1_goStep_32 : decode cX1_goStep 32 = .ok (.iand, 1) := by decide +kernel
theorem dX1_goStep_33 : decode cX1_goStep 33 = .ok (.invokevirtual 100, 3) := by decide +kernel
theorem dX1_goStep_36 : decode cX1_goStep 36 = .ok (.return_, 1) := by decide +kernel
theorem dX1_walk_0 : decode cX1_walk 0 = .ok (.aload_n 0, 1) := by decide +kernel
theorem dX1_walk_1 : decode cX1_walk 1 = .ok (.iconst 0, 1) := by decide +kernel
theorem dX1_walk_2 : decode cX1_walk 2 = .ok (.putfield 81, 3) := by decide +kernel
theorem dX1_walk_5 : decode cX1_walk 5 = .ok (.iconst 0, 1) := by decide +kernel
theorem dX1_walk_6 : decode cX1_walk 6 = .ok (.istore_n 2, 1) := by decide +kernel
theorem dX1_walk_7 : decode cX1_walk 7 = .ok (.iload_n 2, 1) := by decide +kernel
theorem dX1_walk_8 : decode cX1_walk 8 = .ok (.aload_n 0, 1) := by decide +kernel
theorem dX1_walk_9 : decode cX1_walk 9 = .ok (.getfield 38, 3) := by decide +kernel
theorem dX1_walk_12 : decode cX1_walk 12 = .ok (.if_icmp .ge 98, 3) := by decide +kernel
theorem dX1_walk_15 : decode cX1_walk 15 = .ok (.iload_n 1, 1) := by decide +kernel
theorem dX1_walk_16 : decode cX1_walk 16 = .ok (.iload_n 2, 1) := by decide +kernel
theorem dX1_walk_17 : decode cX1_walk 17 = .ok (.invokestatic 66, 3) := by decide +kernel
theorem dX1_walk_20 : decode cX1_walk 20 = .ok (.ifCond .eq 65, 3) := by decide +kernel
theorem dX1_walk_23 : decode cX1_walk 23 = .ok (.aload_n 0, 1) := by decide +kernel
theorem dX1_walk_24 : decode cX1_walk 24 = .ok (.iload_n 2, 1) := by decide +kernel
theorem dX1_walk_25 : decode cX1_walk 25 = .ok (.invokevirtual 103, 3) := by decide +kernel
theorem dX1_walk_28 : decode cX1_walk 28 = .ok (.ifCond .ne 57, 3) := by decide +kernel
theorem dX1_walk_31 : decode cX1_walk 31 = .ok (.aload_n 0, 1) := by decide +kernel
theorem dX1_walk_32 : decode cX1_walk 32 = .ok (.dup, 1) := by decide +kernel
theorem dX1_walk_33 : decode cX1_walk 33 = .ok (.getfield 81, 3) := by decide +kernel
theorem dX1_walk_36 : decode cX1_walk 36 = .ok (.iconst 1, 1) := by decide +kernel
theorem dX1_walk_37 : decode cX1_walk 37 = .ok (.iload_n 2, 1) := by decide +kernel
theorem dX1_walk_38 : decode cX1_walk 38 = .ok (.ishl, 1) := by decide +kernel
theorem dX1_walk_39 : decode cX1_walk 39 = .ok (.ior, 1) := by decide +kernel
theorem dX1_walk_40 : decode cX1_walk 40 = .ok (.putfield 81, 3) := by decide +kernel
theorem dX1_walk_43 : decode cX1_walk 43 = .ok (.aload_n 0, 1) := by decide +kernel
theorem dX1_walk_44 : decode cX1_walk 44 = .ok (.getfield 26, 3) := by decide +kernel
theorem dX1_walk_47 : decode cX1_walk 47 = .ok (.iload_n 2, 1) := by decide +kernel
theorem dX1_walk_48 : decode cX1_walk 48 = .ok (.aload_n 0, 1) := by decide +kernel
theorem dX1_walk_49 : decode cX1_walk 49 = .ok (.getfield 26, 3) := by decide +kernel
theorem dX1_walk_52 : decode cX1_walk 52 = .ok (.iload_n 2, 1) := by decide +kernel
theorem dX1_walk_53 : decode cX1_walk 53 = .ok (.iaload, 1) := by decide +kernel
theorem dX1_walk_54 : decode cX1_walk 54 = .ok (.iconst 1, 1) := by decide +kernel
theorem dX1_walk_55 : decode cX1_walk 55 = .ok (.iadd, 1) := by decide +kernel
theorem dX1_walk_56 : decode cX1_walk 56 = .ok (.sipush 9999, 3) := by decide +kernel
theorem dX1_walk_59 : decode cX1_walk 59 = .ok (.invokestatic 106, 3) := by decide +kernel
theorem dX1_walk_62 : decode cX1_walk 62 = .ok (.iastore, 1) := by decide +kernel
theorem dX1_walk_63 : decode cX1_walk 63 = .ok (.aload_n 0, 1) := by decide +kernel
theorem dX1_walk_64 : decode cX1_walk 64 = .ok (.getfield 29, 3) := by decide +kernel
theorem dX1_walk_67 : decode cX1_walk 67 = .ok (.iload_n 2, 1) := by decide +kernel
theorem dX1_walk_68 : decode cX1_walk 68 = .ok (.aload_n 0, 1) := by decide +kernel
theorem dX1_walk_69 : decode cX1_walk 69 = .ok (.getfield 29, 3) := by decide +kernel
theorem dX1_walk_72 : decode cX1_walk 72 = .ok (.iload_n 2, 1) := by decide +kernel
theorem dX1_walk_73 : decode cX1_walk 73 = .ok (.iaload, 1) := by decide +kernel
theorem dX1_walk_74 : decode cX1_walk 74 = .ok (.bipush 10, 2) := by decide +kernel
theorem dX1_walk_76 : decode cX1_walk 76 = .ok (.isub, 1) := by decide +kernel
theorem dX1_walk_77 : decode cX1_walk 77 = .ok (.iconst 0, 1) := by decide +kernel
theorem dX1_walk_78 : decode cX1_walk 78 = .ok (.invokestatic 109, 3) := by decide +kernel
theorem dX1_walk_81 : decode cX1_walk 81 = .ok (.iastore, 1) := by decide +kernel
theorem dX1_walk_82 : decode cX1_walk 82 = .ok (.goto 22, 3) := by decide +kernel
theorem dX1_walk_85 : decode cX1_walk 85 = .ok (.aload_n 0, 1) := by decide +kernel
theorem dX1_walk_86 : decode cX1_walk 86 = .ok (.getfield 29, 3) := by decide +kernel
theorem dX1_walk_89 : decode cX1_walk 89 = .ok (.iload_n 2, 1) := by decide +kernel
theorem dX1_walk_90 : decode cX1_walk 90 = .ok (.aload_n 0, 1) := by decide +kernel
theorem dX1_walk_91 : decode cX1_walk 91 = .ok (.getfield 29, 3) := by decide +kernel
theorem dX1_walk_94 : decode cX1_walk 94 = .ok (.iload_n 2, 1) := by decide +kernel
theorem dX1_walk_95 : decode cX1_walk 95 = .ok (.iaload, 1) := by decide +kernel
theorem dX1_walk_96 : decode cX1_walk 96 = .ok (.iconst 1, 1) := by decide +kernel
theorem dX1_walk_97 : decode cX1_walk 97 = .ok (.iadd, 1) := by decide +kernel
theorem dX1_walk_98 : decode cX1_walk 98 = .ok (.bipush 99, 2) := by decide +kernel
theorem dX1_walk_100 : decode cX1_walk 100 = .ok (.invokestatic 106, 3) := by decide +kernel
theorem dX1_walk_103 : decode cX1_walk 103 = .ok (.iastore, 1) := by decide +kernel
theorem dX1_walk_104 : decode cX1_walk 104 = .ok (.iinc 2 1, 3) := by decide +kernel
theorem dX1_walk_107 : decode cX1_walk 107 = .ok (.goto (-100), 3) := by decide +kernel
theorem dX1_walk_110 : decode cX1_walk 110 = .ok (.return_, 1) := by decide +kernel
theorem dX1_sayOn_0 : decode cX1_sayOn 0 = .ok (.iconst 0, 1) := by decide +kernel
theorem dX1_sayOn_1 : decode cX1_sayOn 1 = .ok (.istore_n 2, 1) := by decide +kernel
theorem dX1_sayOn_2 : decode cX1_sayOn 2 = .ok (.iconst 0, 1) := by decide +kernel
theorem dX1_sayOn_3 : decode cX1_sayOn 3 = .ok (.istore_n 3, 1) := by decide +kernel
theorem dX1_sayOn_4 : decode cX1_sayOn 4 = .ok (.iload_n 3, 1) := by decide +kernel
theorem dX1_sayOn_5 : decode cX1_sayOn 5 = .ok (.aload_n 0, 1) := by decide +kernel
theorem dX1_sayOn_6 : decode cX1_sayOn 6 = .ok (.getfield 38, 3) := by decide +kernel
theorem dX1_sayOn_9 : decode cX1_sayOn 9 = .ok (.if_icmp .ge 24, 3) := by decide +kernel
theorem dX1_sayOn_12 : decode cX1_sayOn 12 = .ok (.aload_n 0, 1) := by decide +kernel
theorem dX1_sayOn_13 : decode cX1_sayOn 13 = .ok (.iload_n 3, 1) := by decide +kernel
theorem dX1_sayOn_14 : decode cX1_sayOn 14 = .ok (.iload_n 1, 1) := by decide +kernel
theorem dX1_sayOn_15 : decode cX1_sayOn 15 = .ok (.invokevirtual 112, 3) := by decide +kernel
theorem dX1_sayOn_18 : decode cX1_sayOn 18 = .ok (.ifCond .eq 9, 3) := by decide +kernel
theorem dX1_sayOn_21 : decode cX1_sayOn 21 = .ok (.iload_n 2, 1) := by decide +kernel
theorem dX1_sayOn_22 : decode cX1_sayOn 22 = .ok (.iconst 1, 1) := by decide +kernel
theorem dX1_sayOn_23 : decode cX1_sayOn 23 = .ok (.iload_n 3, 1) := by decide +kernel
theorem dX1_sayOn_24 : decode cX1_sayOn 24 = .ok (.ishl, 1) := by decide +kernel
theorem dX1_sayOn_25 : decode cX1_sayOn 25 = .ok (.ior, 1) := by decide +kernel
theorem dX1_sayOn_26 : decode cX1_sayOn 26 = .ok (.istore_n 2, 1) := by decide +kernel
theorem dX1_sayOn_27 : decode cX1_sayOn 27 = .ok (.iinc 3 1, 3) := by decide +kernel
theorem dX1_sayOn_30 : decode cX1_sayOn 30 = .ok (.goto (-26), 3) := by decide +kernel
theorem dX1_sayOn_33 : decode cX1_sayOn 33 = .ok (.iconst 0, 1) := by decide +kernel
theorem dX1_sayOn_34 : decode cX1_sayOn 34 = .ok (.istore_n 3, 1) := by decide +kernel
theorem dX1_sayOn_35 : decode cX1_sayOn 35 = .ok (.iload_n 3, 1) := by decide +kernel
theorem dX1_sayOn_36 : decode cX1_sayOn 36 = .ok (.aload_n 0, 1) := by decide +kernel
theorem dX1_sayOn_37 : decode cX1_sayOn 37 = .ok (.getfield 38, 3) := by decide +kernel
theorem dX1_sayOn_40 : decode cX1_sayOn 40 = .ok (.if_icmp .ge 30, 3) := by decide +kernel
theorem dX1_sayOn_43 : decode cX1_sayOn 43 = .ok (.aload_n 0, 1) := by decide +kernel
theorem dX1_sayOn_44 : decode cX1_sayOn 44 = .ok (.getfield 23, 3) := by decide +kernel
theorem dX1_sayOn_47 : decode cX1_sayOn 47 = .ok (.iload_n 3, 1) := by decide +kernel
theorem dX1_sayOn_48 : decode cX1_sayOn 48 = .ok (.iload_n 2, 1) := by decide +kernel
theorem dX1_sayOn_49 : decode cX1_sayOn 49 = .ok (.iconst 1, 1) := by decide +kernel
theorem dX1_sayOn_50 : decode cX1_sayOn 50 = .ok (.ishl, 1) := by decide +kernel
theorem dX1_sayOn_51 : decode cX1_sayOn 51 = .ok (.iload_n 3, 1) := by decide +kernel
theorem dX1_sayOn_52 : decode cX1_sayOn 52 = .ok (.invokestatic 66, 3) := by decide +kernel
theorem dX1_sayOn_55 : decode cX1_sayOn 55 = .ok (.ifCond .eq 7, 3) := by decide +kernel
theorem dX1_sayOn_58 : decode cX1_sayOn 58 = .ok (.iconst 1, 1) := by decide +kernel
theorem dX1_sayOn_59 : decode cX1_sayOn 59 = .ok (.goto 4, 3) := by decide +kernel
theorem dX1_sayOn_62 : decode cX1_sayOn 62 = .ok (.iconst 0, 1) := by decide +kernel
theorem dX1_sayOn_63 : decode cX1_sayOn 63 = .ok (.iastore, 1) := by decide +kernel
theorem dX1_sayOn_64 : decode cX1_sayOn 64 = .ok (.iinc 3 1, 3) := by decide +kernel
theorem dX1_sayOn_67 : decode cX1_sayOn 67 = .ok (.goto (-32), 3) := by decide +kernel
theorem dX1_sayOn_70 : decode cX1_sayOn 70 = .ok (.return_, 1) := by decide +kernel
theorem dX2_init_0 : decode cX2_init 0 = .ok (.aload_n 0, 1) := by decide +kernel
theorem dX2_init_1 : decode cX2_init 1 = .ok (.invokespecial 3, 3) := by decide +kernel
theorem dX2_init_4 : decode cX2_init 4 = .ok (.aload_n 0, 1) := by decide +kernel
theorem dX2_init_5 : decode cX2_init 5 = .ok (.bipush 40, 2) := by decide +kernel
theorem dX2_init_7 : decode cX2_init 7 = .ok (.newarray .long, 2) := by decide +kernel
theorem dX2_init_9 : decode cX2_init 9 = .ok (.putfield 9, 3) := by decide +kernel
theorem dX2_init_12 : decode cX2_init 12 = .ok (.return_, 1) := by decide +kernel
theorem dX2_isMissing_0 : decode cX2_isMissing 0 = .ok (.aload_n 0, 1) := by decide +kernel
theorem dX2_isMissing_1 : decode cX2_isMissing 1 = .ok (.getfield 15, 3) := by decide +kernel
theorem dX2_isMissing_4 : decode cX2_isMissing 4 = .ok (.ifCond .ne 7, 3) := by decide +kernel
theorem dX2_isMissing_7 : decode cX2_isMissing 7 = .ok (.iconst 1, 1) := by decide +kernel
theorem dX2_isMissing_8 : decode cX2_isMissing 8 = .ok (.goto 4, 3) := by decide +kernel
theorem dX2_isMissing_11 : decode cX2_isMissing 11 = .ok (.iconst 0, 1) := by decide +kernel
theorem dX2_isMissing_12 : decode cX2_isMissing 12 = .ok (.ireturn, 1) := by decide +kernel
theorem dX2_renew_0 : decode cX2_renew 0 = .ok (.aload_n 0, 1) := by decide +kernel
theorem dX2_renew_1 : decode cX2_renew 1 = .ok (.iload_n 1, 1) := by decide +kernel
theorem dX2_renew_2 : decode cX2_renew 2 = .ok (.putfield 15, 3) := by decide +kernel
theorem dX2_renew_5 : decode cX2_renew 5 = .ok (.aload_n 0, 1) := by decide +kernel
theorem dX2_renew_6 : decode cX2_renew 6 = .ok (.iload_n 1, 1) := by decide +kernel
theorem dX2_renew_7 : decode cX2_renew 7 = .ok (.ifCond .ne 7, 3) := by decide +kernel
theorem dX2_renew_10 : decode cX2_renew 10 = .ok (.iconst 0, 1) := by decide +kernel
theorem dX2_renew_11 : decode cX2_renew 11 = .ok (.goto 4, 3) := by decide +kernel
theorem dX2_renew_14 : decode cX2_renew 14 = .ok (.iload_n 2, 1) := by decide +kernel
theorem dX2_renew_15 : decode cX2_renew 15 = .ok (.putfield 19, 3) := by decide +kernel
theorem dX2_renew_18 : decode cX2_renew 18 = .ok (.iconst 0, 1) := by decide +kernel
theorem dX2_renew_19 : decode cX2_renew 19 = .ok (.istore_n 3, 1) := by decide +kernel
theorem dX2_renew_20 : decode cX2_renew 20 = .ok (.iload_n 3, 1) := by decide +kernel
theorem dX2_renew_21 : decode cX2_renew 21 = .ok (.bipush 40, 2) := by decide +kernel
theorem dX2_renew_23 : decode cX2_renew 23 = .ok (.if_icmp .ge 16, 3) := by decide +kernel
theorem dX2_renew_26 : decode cX2_renew 26 = .ok (.aload_n 0, 1) := by decide +kernel
theorem dX2_renew_27 : decode cX2_renew 27 = .ok (.getfield 9, 3) := by decide +kernel
theorem dX2_renew_30 : decode cX2_renew 30 = .ok (.iload_n 3, 1) := by decide +kernel
theorem dX2_renew_31 : decode cX2_renew 31 = .ok (.lconst 0, 1) := by decide +kernel
theorem dX2_renew_32 : decode cX2_renew 32 = .ok (.lastore, 1) := by decide +kernel
theorem dX2_renew_33 : decode cX2_renew 33 = .ok (.iinc 3 1, 3) := by decide +kernel
theorem dX2_renew_36 : decode cX2_renew 36 = .ok (.goto (-16), 3) := by decide +kernel
theorem dX2_renew_39 : decode cX2_renew 39 = .ok (.return_, 1) := by decide +kernel
theorem dX2_spans_0 : decode cX2_spans 0 = .ok (.iload_n 1, 1) := by decide +kernel
theorem dX2_spans_1 : decode cX2_spans 1 = .ok (.ifCond .lt 29, 3) := by decide +kernel
theorem dX2_spans_4 : decode cX2_spans 4 = .ok (.iload_n 2, 1) := by decide +kernel
theorem dX2_spans_5 : decode cX2_spans 5 = .ok (.ifCond .lt 25, 3) := by decide +kernel
theorem dX2_spans_8 : decode cX2_spans 8 = .ok (.iload_n 2, 1) := by decide +kernel
theorem dX2_spans_9 : decode cX2_spans 9 = .ok (.aload_n 0, 1) := by decide +kernel
theorem dX2_spans_10 : decode cX2_spans 10 = .ok (.getfield 19, 3) := by decide +kernel
theorem dX2_spans_13 : decode cX2_spans 13 = .ok (.if_icmp .gt 17, 3) := by decide +kernel
theorem dX2_spans_16 : decode cX2_spans 16 = .ok (.iload_n 1, 1) := by decide +kernel
theorem dX2_spans_17 : decode cX2_spans 17 = .ok (.aload_n 0, 1) := by decide +kernel
theorem dX2_spans_18 : decode cX2_spans 18 = .ok (.getfield 19, 3) := by decide +kernel
theorem dX2_spans_21 : decode cX2_spans 21 = .ok (.iload_n 2, 1) := by decide +kernel
theorem dX2_spans_22 : decode cX2_spans 22 = .ok (.isub, 1) := by decide +kernel
theorem dX2_spans_23 : decode cX2_spans 23 = .ok (.if_icmp .gt 7, 3) := by decide +kernel
theorem dX2_spans_26 : decode cX2_spans 26 = .ok (.iconst 1, 1) := by decide +kernel
theorem dX2_spans_27 : decode cX2_spans 27 = .ok (.goto 4, 3) := by decide +kernel
theorem dX2_spans_30 : decode cX2_spans 30 = .ok (.iconst 0, 1) := by decide +kernel
theorem dX2_spans_31 : decode cX2_spans 31 = .ok (.ireturn, 1) := by decide +kernel
theorem dX2_put_0 : decode cX2_put 0 = .ok (.iload_n 1, 1) := by decide +kernel
theorem dX2_put_1 : decode cX2_put 1 = .ok (.ifCond .lt 22, 3) := by decide +kernel
theorem dX2_put_4 : decode cX2_put 4 = .ok (.iload_n 1, 1) := by decide +kernel
theorem dX2_put_5 : decode cX2_put 5 = .ok (.aload_n 0, 1) := by decide +kernel
theorem dX2_put_6 : decode cX2_put 6 = .ok (.getfield 19, 3) := by decide +kernel
theorem dX2_put_9 : decode cX2_put 9 = .ok (.if_icmp .ge 14, 3) := by decide +kernel
theorem dX2_put_12 : decode cX2_put 12 = .ok (.aload_n 0, 1) := by decide +kernel
theorem dX2_put_13 : decode cX2_put 13 = .ok (.getfield 9, 3) := by decide +kernel
theorem dX2_put_16 : decode cX2_put 16 = .ok (.iload_n 1, 1) := by decide +kernel
theorem dX2_put_17 : decode cX2_put 17 = .ok (.aload_n 0, 1) := by decide +kernel
theorem dX2_put_18 : decode cX2_put 18 = .ok (.lload_n 2, 1) := by decide +kernel
theorem dX2_put_19 : decode cX2_put 19 = .ok (.invokevirtual 22, 3) := by decide +kernel
theorem dX2_put_22 : decode cX2_put 22 = .ok (.lastore, 1) := by decide +kernel
theorem dX2_put_23 : decode cX2_put 23 = .ok (.return_, 1) := by decide +kernel
theorem dX2_cut_0 : decode cX2_cut 0 = .ok (.aload_n 0, 1) := by decide +kernel
theorem dX2_cut_1 : decode cX2_cut 1 = .ok (.getfield 15, 3) := by decide +kernel
theorem dX2_cut_4 : decode cX2_cut 4 = .ok (.lookupswitch 38 #[(8, 28), (16, 33)], 28) := by decide +kernel
theorem dX2_cut_32 : decode cX2_cut 32 = .ok (.lload_n 1, 1) := by decide +kernel
theorem dX2_cut_33 : decode cX2_cut 33 = .ok (.l2i, 1) := by decide +kernel
theorem dX2_cut_34 : decode cX2_cut 34 = .ok (.i2b, 1) := by decide +kernel
theorem dX2_cut_35 : decode cX2_cut 35 = .ok (.i2l, 1) := by decide +kernel
theorem dX2_cut_36 : decode cX2_cut 36 = .ok (.lreturn, 1) := by decide +kernel
theorem dX2_cut_37 : decode cX2_cut 37 = .ok (.lload_n 1, 1) := by decide +kernel
theorem dX2_cut_38 : decode cX2_cut 38 = .ok (.l2i, 1) := by decide +kernel
theorem dX2_cut_39 : decode cX2_cut 39 = .ok (.i2s, 1) := by decide +kernel
theorem dX2_cut_40 : decode cX2_cut 40 = .ok (.i2l, 1) := by decide +kernel
theorem dX2_cut_41 : decode cX2_cut 41 = .ok (.lreturn, 1) := by decide +kernel
theorem dX2_cut_42 : decode cX2_cut 42 = .ok (.lload_n 1, 1) := by decide +kernel
theorem dX2_cut_43 : decode cX2_cut 43 = .ok (.lreturn, 1) := by decide +kernel
theorem dX3_init_0 : decode cX3_init 0 = .ok (.aload_n 0, 1) := by decide +kernel
theorem dX3_init_1 : decode cX3_init 1 = .ok (.invokespecial 3, 3) := by decide +kernel
theorem dX3_init_4 : decode cX3_init 4 = .ok (.aload_n 0, 1) := by decide +kernel
theorem dX3_init_5 : decode cX3_init 5 = .ok (.bipush 120, 2) := by decide +kernel
theorem dX3_init_7 : decode cX3_init 7 = .ok (.newarray .byte, 2) := by decide +kernel
theorem dX3_init_9 : decode cX3_init 9 = .ok (.putfield 9, 3) := by decide +kernel
theorem dX3_init_12 : decode cX3_init 12 = .ok (.return_, 1) := by decide +kernel
theorem dX3_add_0 : decode cX3_add 0 = .ok (.aload_n 0, 1) := by decide +kernel
theorem dX3_add_1 : decode cX3_add 1 = .ok (.getfield 15, 3) := by decide +kernel
theorem dX3_add_4 : decode cX3_add 4 = .ok (.bipush 120, 2) := by decide +kernel
theorem dX3_add_6 : decode cX3_add 6 = .ok (.if_icmp .ge 23, 3) := by decide +kernel
theorem dX3_add_9 : decode cX3_add 9 = .ok (.aload_n 0, 1) := by decide +kernel
theorem dX3_add_10 : decode cX3_add 10 = .ok (.getfield 9, 3) := by decide +kernel
theorem dX3_add_13 : decode cX3_add 13 = .ok (.aload_n 0, 1) := by decide +kernel
theorem dX3_add_14 : decode cX3_add 14 = .ok (.getfield 15, 3) := by decide +kernel
theorem dX3_add_17 : decode cX3_add 17 = .ok (.iload_n 1, 1) := by decide +kernel
theorem dX3_add_18 : decode cX3_add 18 = .ok (.bastore, 1) := by decide +kernel
theorem dX3_add_19 : decode cX3_add 19 = .ok (.aload_n 0, 1) := by decide +kernel
theorem dX3_add_20 : decode cX3_add 20 = .ok (.dup, 1) := by decide +kernel
theorem dX3_add_21 : decode cX3_add 21 = .ok (.getfield 15, 3) := by decide +kernel
theorem dX3_add_24 : decode cX3_add 24 = .ok (.iconst 1, 1) := by decide +kernel
theorem dX3_add_25 : decode cX3_add 25 = .ok (.iadd, 1) := by decide +kernel
theorem dX3_add_26 : decode cX3_add 26 = .ok (.putfield 15, 3) := by decide +kernel
theorem dX3_add_29 : decode cX3_add 29 = .ok (.return_, 1) := by decide +kernel
theorem dX3_at_0 : decode cX3_at 0 = .ok (.iload_n 1, 1) := by decide +kernel
theorem dX3_at_1 : decode cX3_at 1 = .ok (.ifCond .lt 20, 3) := by decide +kernel
theorem dX3_at_4 : decode cX3_at 4 = .ok (.iload_n 1, 1) := by decide +kernel
theorem dX3_at_5 : decode cX3_at 5 = .ok (.aload_n 0, 1) := by decide +kernel
theorem dX3_at_6 : decode cX3_at 6 = .ok (.getfield 15, 3) := by decide +kernel
theorem dX3_at_9 : decode cX3_at 9 = .ok (.if_icmp .ge 12, 3) := by decide +kernel
theorem dX3_at_12 : decode cX3_at 12 = .ok (.aload_n 0, 1) := by decide +kernel
theorem dX3_at_13 : decode cX3_at 13 = .ok (.getfield 9, 3) := by decide +kernel
theorem dX3_at_16 : decode cX3_at 16 = .ok (.iload_n 1, 1) := by decide +kernel
theorem dX3_at_17 : decode cX3_at 17 = .ok (.baload, 1) := by decide +kernel
theorem dX3_at_18 : decode cX3_at 18 = .ok (.goto 4, 3) := by decide +kernel
theorem dX3_at_21 : decode cX3_at 21 = .ok (.iconst 0, 1) := by decide +kernel
theorem dX3_at_22 : decode cX3_at 22 = .ok (.ireturn, 1) := by decide +kernel
theorem dJ6_bitCount_0f7a4_0 : decode cJ6_bitCount_0f7a4 0 = .ok (.iload_n 0, 1) := by decide +kernel
theorem dJ6_bitCount_0f7a4_1 : decode cJ6_bitCount_0f7a4 1 = .ok (.iload_n 0, 1) := by decide +kernel
theorem dJ6_bitCount_0f7a4_2 : decode cJ6_bitCount_0f7a4 2 = .ok (.iconst 1, 1) := by decide +kernel
theorem dJ6_bitCount_0f7a4_3 : decode cJ6_bitCount_0f7a4 3 = .ok (.iushr, 1) := by decide +kernel
theorem dJ6_bitCount_0f7a4_4 : decode cJ6_bitCount_0f7a4 4 = .ok (.ldc_w 265, 3) := by decide +kernel
theorem dJ6_bitCount_0f7a4_7 : decode cJ6_bitCount_0f7a4 7 = .ok (.iand, 1) := by decide +kernel
theorem dJ6_bitCount_0f7a4_8 : decode cJ6_bitCount_0f7a4 8 = .ok (.isub, 1) := by decide +kernel
theorem dJ6_bitCount_0f7a4_9 : decode cJ6_bitCount_0f7a4 9 = .ok (.istore_n 0, 1) := by decide +kernel
theorem dJ6_bitCount_0f7a4_10 : decode cJ6_bitCount_0f7a4 10 = .ok (.iload_n 0, 1) := by decide +kernel
theorem dJ6_bitCount_0f7a4_11 : decode cJ6_bitCount_0f7a4 11 = .ok (.ldc_w 266, 3) := by decide +kernel
theorem dJ6_bitCount_0f7a4_14 : decode cJ6_bitCount_0f7a4 14 = .ok (.iand, 1) := by decide +kernel
theorem dJ6_bitCount_0f7a4_15 : decode cJ6_bitCount_0f7a4 15 = .ok (.iload_n 0, 1) := by decide +kernel
theorem dJ6_bitCount_0f7a4_16 : decode cJ6_bitCount_0f7a4 16 = .ok (.iconst 2, 1) := by decide +kernel
theorem dJ6_bitCount_0f7a4_17 : decode cJ6_bitCount_0f7a4 17 = .ok (.iushr, 1) := by decide +kernel
theorem dJ6_bitCount_0f7a4_18 : decode cJ6_bitCount_0f7a4 18 = .ok (.ldc_w 266, 3) := by decide +kernel
theorem dJ6_bitCount_0f7a4_21 : decode cJ6_bitCount_0f7a4 21 = .ok (.iand, 1) := by decide +kernel
theorem dJ6_bitCount_0f7a4_22 : decode cJ6_bitCount_0f7a4 22 = .ok (.iadd, 1) := by decide +kernel
theorem dJ6_bitCount_0f7a4_23 : decode cJ6_bitCount_0f7a4 23 = .ok (.istore_n 0, 1) := by decide +kernel
theorem dJ6_bitCount_0f7a4_24 : decode cJ6_bitCount_0f7a4 24 = .ok (.iload_n 0, 1) := by decide +kernel
theorem dJ6_bitCount_0f7a4_25 : decode cJ6_bitCount_0f7a4 25 = .ok (.iload_n 0, 1) := by decide +kernel
theorem dJ6_bitCount_0f7a4_26 : decode cJ6_bitCount_0f7a4 26 = .ok (.iconst 4, 1) := by decide +kernel
theorem dJ6_bitCount_0f7a4_27 : decode cJ6_bitCount_0f7a4 27 = .ok (.iushr, 1) := by decide +kernel
theorem dJ6_bitCount_0f7a4_28 : decode cJ6_bitCount_0f7a4 28 = .ok (.iadd, 1) := by decide +kernel
theorem dJ6_bitCount_0f7a4_29 : decode cJ6_bitCount_0f7a4 29 = .ok (.ldc_w 267, 3) := by decide +kernel
theorem dJ6_bitCount_0f7a4_32 : decode cJ6_bitCount_0f7a4 32 = .ok (.iand, 1) := by decide +kernel
theorem dJ6_bitCount_0f7a4_33 : decode cJ6_bitCount_0f7a4 33 = .ok (.istore_n 0, 1) := by decide +kernel
theorem dJ6_bitCount_0f7a4_34 : decode cJ6_bitCount_0f7a4 34 = .ok (.iload_n 0, 1) := by decide +kernel
theorem dJ6_bitCount_0f7a4_35 : decode cJ6_bitCount_0f7a4 35 = .ok (.iload_n 0, 1) := by decide +kernel
theorem dJ6_bitCount_0f7a4_36 : decode cJ6_bitCount_0f7a4 36 = .ok (.bipush 8, 2) := by decide +kernel
theorem dJ6_bitCount_0f7a4_38 : decode cJ6_bitCount_0f7a4 38 = .ok (.iushr, 1) := by decide +kernel
theorem dJ6_bitCount_0f7a4_39 : decode cJ6_bitCount_0f7a4 39 = .ok (.iadd, 1) := by decide +kernel
theorem dJ6_bitCount_0f7a4_40 : decode cJ6_bitCount_0f7a4 40 = .ok (.istore_n 0, 1) := by decide +kernel
theorem dJ6_bitCount_0f7a4_41 : decode cJ6_bitCount_0f7a4 41 = .ok (.iload_n 0, 1) := by decide +kernel
theorem dJ6_bitCount_0f7a4_42 : decode cJ6_bitCount_0f7a4 42 = .ok (.iload_n 0, 1) := by decide +kernel
theorem dJ6_bitCount_0f7a4_43 : decode cJ6_bitCount_0f7a4 43 = .ok (.bipush 16, 2) := by decide +kernel
theorem dJ6_bitCount_0f7a4_45 : decode cJ6_bitCount_0f7a4 45 = .ok (.iushr, 1) := by decide +kernel
theorem dJ6_bitCount_0f7a4_46 : decode cJ6_bitCount_0f7a4 46 = .ok (.iadd, 1) := by decide +kernel
theorem dJ6_bitCount_0f7a4_47 : decode cJ6_bitCount_0f7a4 47 = .ok (.istore_n 0, 1) := by decide +kernel
theorem dJ6_bitCount_0f7a4_48 : decode cJ6_bitCount_0f7a4 48 = .ok (.iload_n 0, 1) := by decide +kernel
theorem dJ6_bitCount_0f7a4_49 : decode cJ6_bitCount_0f7a4 49 = .ok (.bipush 63, 2) := by decide +kernel
theorem dJ6_bitCount_0f7a4_51 : decode cJ6_bitCount_0f7a4 51 = .ok (.iand, 1) := by decide +kernel
theorem dJ6_bitCount_0f7a4_52 : decode cJ6_bitCount_0f7a4 52 = .ok (.ireturn, 1) := by decide +kernel
theorem dJ9_floorMod_7cf53_0 : decode cJ9_floorMod_7cf53 0 = .ok (.iload_n 0, 1) := by decide +kernel
theorem dJ9_floorMod_7cf53_1 : decode cJ9_floorMod_7cf53 1 = .ok (.iload_n 1, 1) := by decide +kernel
theorem dJ9_floorMod_7cf53_2 : decode cJ9_floorMod_7cf53 2 = .ok (.irem, 1) := by decide +kernel
theorem dJ9_floorMod_7cf53_3 : decode cJ9_floorMod_7cf53 3 = .ok (.istore_n 2, 1) := by decide +kernel
theorem dJ9_floorMod_7cf53_4 : decode cJ9_floorMod_7cf53 4 = .ok (.iload_n 0, 1) := by decide +kernel
theorem dJ9_floorMod_7cf53_5 : decode cJ9_floorMod_7cf53 5 = .ok (.iload_n 1, 1) := by decide +kernel
theorem dJ9_floorMod_7cf53_6 : decode cJ9_floorMod_7cf53 6 = .ok (.ixor, 1) := by decide +kernel
theorem dJ9_floorMod_7cf53_7 : decode cJ9_floorMod_7cf53 7 = .ok (.ifCond .ge 11, 3) := by decide +kernel
theorem dJ9_floorMod_7cf53_10 : decode cJ9_floorMod_7cf53 10 = .ok (.iload_n 2, 1) := by decide +kernel
theorem dJ9_floorMod_7cf53_11 : decode cJ9_floorMod_7cf53 11 = .ok (.ifCond .eq 7, 3) := by decide +kernel
theorem dJ9_floorMod_7cf53_14 : decode cJ9_floorMod_7cf53 14 = .ok (.iload_n 2, 1) := by decide +kernel
theorem dJ9_floorMod_7cf53_15 : decode cJ9_floorMod_7cf53 15 = .ok (.iload_n 1, 1) := by decide +kernel
theorem dJ9_floorMod_7cf53_16 : decode cJ9_floorMod_7cf53 16 = .ok (.iadd, 1) := by decide +kernel
theorem dJ9_floorMod_7cf53_17 : decode cJ9_floorMod_7cf53 17 = .ok (.ireturn, 1) := by decide +kernel
theorem dJ9_floorMod_7cf53_18 : decode cJ9_floorMod_7cf53 18 = .ok (.iload_n 2, 1) := by decide +kernel
theorem dJ9_floorMod_7cf53_19 : decode cJ9_floorMod_7cf53 19 = .ok (.ireturn, 1) := by decide +kernel
theorem dJ9_abs_0f7a4_0 : decode cJ9_abs_0f7a4 0 = .ok (.iload_n 0, 1) := by decide +kernel
theorem dJ9_abs_0f7a4_1 : decode cJ9_abs_0f7a4 1 = .ok (.ifCond .ge 8, 3) := by decide +kernel
theorem dJ9_abs_0f7a4_4 : decode cJ9_abs_0f7a4 4 = .ok (.iload_n 0, 1) := by decide +kernel
theorem dJ9_abs_0f7a4_5 : decode cJ9_abs_0f7a4 5 = .ok (.ineg, 1) := by decide +kernel
theorem dJ9_abs_0f7a4_6 : decode cJ9_abs_0f7a4 6 = .ok (.goto 4, 3) := by decide +kernel
theorem dJ9_abs_0f7a4_9 : decode cJ9_abs_0f7a4 9 = .ok (.iload_n 0, 1) := by decide +kernel
theorem dJ9_abs_0f7a4_10 : decode cJ9_abs_0f7a4 10 = .ok (.ireturn, 1) := by decide +kernel
theorem dJ9_max_7cf53_0 : decode cJ9_max_7cf53 0 = .ok (.iload_n 0, 1) := by decide +kernel
theorem dJ9_max_7cf53_1 : decode cJ9_max_7cf53 1 = .ok (.iload_n 1, 1) := by decide +kernel
theorem dJ9_max_7cf53_2 : decode cJ9_max_7cf53 2 = .ok (.if_icmp .lt 7, 3) := by decide +kernel
theorem dJ9_max_7cf53_5 : decode cJ9_max_7cf53 5 = .ok (.iload_n 0, 1) := by decide +kernel
theorem dJ9_max_7cf53_6 : decode cJ9_max_7cf53 6 = .ok (.goto 4, 3) := by decide +kernel
theorem dJ9_max_7cf53_9 : decode cJ9_max_7cf53 9 = .ok (.iload_n 1, 1) := by decide +kernel
theorem dJ9_max_7cf53_10 : decode cJ9_max_7cf53 10 = .ok (.ireturn, 1) := by decide +kernel
theorem dJ9_min_7cf53_0 : decode cJ9_min_7cf53 0 = .ok (.iload_n 0, 1) := by decide +kernel
theorem dJ9_min_7cf53_1 : decode cJ9_min_7cf53 1 = .ok (.iload_n 1, 1) := by decide +kernel
theorem dJ9_min_7cf53_2 : decode cJ9_min_7cf53 2 = .ok (.if_icmp .gt 7, 3) := by decide +kernel
theorem dJ9_min_7cf53_5 : decode cJ9_min_7cf53 5 = .ok (.iload_n 0, 1) := by decide +kernel
theorem dJ9_min_7cf53_6 : decode cJ9_min_7cf53 6 = .ok (.goto 4, 3) := by decide +kernel
theorem dJ9_min_7cf53_9 : decode cJ9_min_7cf53 9 = .ok (.iload_n 1, 1) := by decide +kernel
theorem dJ9_min_7cf53_10 : decode cJ9_min_7cf53 10 = .ok (.ireturn, 1) := by decide +kernel
theorem dJ0_length_8abf5_0 : decode cJ0_length_8abf5 0 = .ok (.aload_n 0, 1) := by decide +kernel
theorem dJ0_length_8abf5_1 : decode cJ0_length_8abf5 1 = .ok (.getfield 9, 3) := by decide +kernel
theorem dJ0_length_8abf5_4 : decode cJ0_length_8abf5 4 = .ok (.arraylength, 1) := by decide +kernel
theorem dJ0_length_8abf5_5 : decode cJ0_length_8abf5 5 = .ok (.aload_n 0, 1) := by decide +kernel
theorem dJ0_length_8abf5_6 : decode cJ0_length_8abf5 6 = .ok (.invokevirtual 335, 3) := by decide +kernel
theorem dJ0_length_8abf5_9 : decode cJ0_length_8abf5 9 = .ok (.ishr, 1) := by decide +kernel
theorem dJ0_length_8abf5_10 : decode cJ0_length_8abf5 10 = .ok (.ireturn, 1) := by decide +kernel
theorem dJ0_charAt_5068e_0 : decode cJ0_charAt_5068e 0 = .ok (.aload_n 0, 1) := by decide +kernel
theorem dJ0_charAt_5068e_1 : decode cJ0_charAt_5068e 1 = .ok (.invokevirtual 492, 3) := by decide +kernel
theorem dJ0_charAt_5068e_4 : decode cJ0_charAt_5068e 4 = .ok (.ifCond .eq 12, 3) := by decide +kernel
theorem dJ0_charAt_5068e_7 : decode cJ0_charAt_5068e 7 = .ok (.aload_n 0, 1) := by decide +kernel
theorem dJ0_charAt_5068e_8 : decode cJ0_charAt_5068e 8 = .ok (.getfield 9, 3) := by decide +kernel
theorem dJ0_charAt_5068e_11 : decode cJ0_charAt_5068e 11 = .ok (.iload_n 1, 1) := by decide +kernel
theorem dJ0_charAt_5068e_12 : decode cJ0_charAt_5068e 12 = .ok (.invokestatic 495, 3) := by decide +kernel
theorem dJ0_charAt_5068e_15 : decode cJ0_charAt_5068e 15 = .ok (.ireturn, 1) := by decide +kernel
theorem dJ0_charAt_5068e_16 : decode cJ0_charAt_5068e 16 = .ok (.aload_n 0, 1) := by decide +kernel
theorem dJ0_charAt_5068e_17 : decode cJ0_charAt_5068e 17 = .ok (.getfield 9, 3) := by decide +kernel
theorem dJ0_charAt_5068e_20 : decode cJ0_charAt_5068e 20 = .ok (.iload_n 1, 1) := by decide +kernel
theorem dJ0_charAt_5068e_21 : decode cJ0_charAt_5068e 21 = .ok (.invokestatic 498, 3) := by decide +kernel
theorem dJ0_charAt_5068e_24 : decode cJ0_charAt_5068e 24 = .ok (.ireturn, 1) := by decide +kernel
theorem dJ0_coder_7d493_0 : decode cJ0_coder_7d493 0 = .ok (.getstatic 38, 3) := by decide +kernel
theorem dJ0_coder_7d493_3 : decode cJ0_coder_7d493 3 = .ok (.ifCond .eq 10, 3) := by decide +kernel
theorem dJ0_coder_7d493_6 : decode cJ0_coder_7d493 6 = .ok (.aload_n 0, 1) := by decide +kernel
theorem dJ0_coder_7d493_7 : decode cJ0_coder_7d493 7 = .ok (.getfield 15, 3) := by decide +kernel
theorem dJ0_coder_7d493_10 : decode cJ0_coder_7d493 10 = .ok (.goto 4, 3) := by decide +kernel
theorem dJ0_coder_7d493_13 : decode cJ0_coder_7d493 13 = .ok (.iconst 1, 1) := by decide +kernel
theorem dJ0_coder_7d493_14 : decode cJ0_coder_7d493 14 = .ok (.ireturn, 1) := by decide +kernel
theorem dJ0_isLatin1_aae02_0 : decode cJ0_isLatin1_aae02 0 = .ok (.getstatic 38, 3) := by decide +kernel
theorem dJ0_isLatin1_aae02_3 : decode cJ0_isLatin1_aae02 3 = .ok (.ifCond .eq 14, 3) := by decide +kernel
theorem dJ0_isLatin1_aae02_6 : decode cJ0_isLatin1_aae02 6 = .ok (.aload_n 0, 1) := by decide +kernel
theorem dJ0_isLatin1_aae02_7 : decode cJ0_isLatin1_aae02 7 = .ok (.getfield 15, 3) := by decide +kernel
theorem dJ0_isLatin1_aae02_10 : decode cJ0_isLatin1_aae02 10 = .ok (.ifCond .ne 7, 3) := by decide +kernel
theorem dJ0_isLatin1_aae02_13 : decode cJ0_isLatin1_aae02 13 = .ok (.iconst 1, 1) := by decide +kernel
theorem dJ0_isLatin1_aae02_14 : decode cJ0_isLatin1_aae02 14 = .ok (.goto 4, 3) := by decide +kernel
theorem dJ0_isLatin1_aae02_17 : decode cJ0_isLatin1_aae02 17 = .ok (.iconst 0, 1) := by decide +kernel
theorem dJ0_isLatin1_aae02_18 : decode cJ0_isLatin1_aae02 18 = .ok (.ireturn, 1) := by decide +kernel
theorem dJ0_checkIndex_df160_0 : decode cJ0_checkIndex_df160 0 = .ok (.iload_n 0, 1) := by decide +kernel
theorem dJ0_checkIndex_df160_1 : decode cJ0_checkIndex_df160 1 = .ok (.iload_n 1, 1) := by decide +kernel
theorem dJ0_checkIndex_df160_2 : decode cJ0_checkIndex_df160 2 = .ok (.getstatic 1053, 3) := by decide +kernel
theorem dJ0_checkIndex_df160_5 : decode cJ0_checkIndex_df160 5 = .ok (.invokestatic 1059, 3) := by decide +kernel
theorem dJ0_checkIndex_df160_8 : decode cJ0_checkIndex_df160 8 = .ok (.pop, 1) := by decide +kernel
theorem dJ0_checkIndex_df160_9 : decode cJ0_checkIndex_df160 9 = .ok (.return_, 1) := by decide +kernel
theorem dJ1_charAt_3b067_0 : decode cJ1_charAt_3b067 0 = .ok (.iload_n 1, 1) := by decide +kernel
theorem dJ1_charAt_3b067_1 : decode cJ1_charAt_3b067 1 = .ok (.aload_n 0, 1) := by decide +kernel
theorem dJ1_charAt_3b067_2 : decode cJ1_charAt_3b067 2 = .ok (.arraylength, 1) := by decide +kernel
theorem dJ1_charAt_3b067_3 : decode cJ1_charAt_3b067 3 = .ok (.invokestatic 9, 3) := by decide +kernel
theorem dJ1_charAt_3b067_6 : decode cJ1_charAt_3b067 6 = .ok (.aload_n 0, 1) := by decide +kernel
theorem dJ1_charAt_3b067_7 : decode cJ1_charAt_3b067 7 = .ok (.iload_n 1, 1) := by decide +kernel
theorem dJ1_charAt_3b067_8 : decode cJ1_charAt_3b067 8 = .ok (.baload, 1) := by decide +kernel
theorem dJ1_charAt_3b067_9 : decode cJ1_charAt_3b067 9 = .ok (.sipush 255, 3) := by decide +kernel
theorem dJ1_charAt_3b067_12 : decode cJ1_charAt_3b067 12 = .ok (.iand, 1) := by decide +kernel
theorem dJ1_charAt_3b067_13 : decode cJ1_charAt_3b067 13 = .ok (.i2c, 1) := by decide +kernel
theorem dJ1_charAt_3b067_14 : decode cJ1_charAt_3b067 14 = .ok (.ireturn, 1) := by decide +kernel
theorem dJ2_getChar_3b067_0 : decode cJ2_getChar_3b067 0 = .ok (.getstatic 44, 3) := by decide +kernel
theorem dJ2_getChar_3b067_3 : decode cJ2_getChar_3b067 3 = .ok (.ifCond .ne 25, 3) := by decide +kernel
theorem dJ2_getChar_3b067_6 : decode cJ2_getChar_3b067 6 = .ok (.iload_n 1, 1) := by decide +kernel
theorem dJ2_getChar_3b067_7 : decode cJ2_getChar_3b067 7 = .ok (.ifCond .lt 11, 3) := by decide +kernel
theorem dJ2_getChar_3b067_10 : decode cJ2_getChar_3b067 10 = .ok (.iload_n 1, 1) := by decide +kernel
theorem dJ2_getChar_3b067_11 : decode cJ2_getChar_3b067 11 = .ok (.aload_n 0, 1) := by decide +kernel
theorem dJ2_getChar_3b067_12 : decode cJ2_getChar_3b067 12 = .ok (.invokestatic 48, 3) := by decide +kernel
theorem dJ2_getChar_3b067_15 : decode cJ2_getChar_3b067 15 = .ok (.if_icmp .lt 13, 3) := by decide +kernel
theorem dJ2_getChar_3b067_18 : decode cJ2_getChar_3b067 18 = .ok (.new 52, 3) := by decide +kernel
theorem dJ2_getChar_3b067_21 : decode cJ2_getChar_3b067 21 = .ok (.dup, 1) := by decide +kernel
theorem dJ2_getChar_3b067_22 : decode cJ2_getChar_3b067 22 = .ok (.ldc 54, 2) := by decide +kernel
theorem dJ2_getChar_3b067_24 : decode cJ2_getChar_3b067 24 = .ok (.invokespecial 56, 3) := by decide +kernel
theorem dJ2_getChar_3b067_27 : decode cJ2_getChar_3b067 27 = .ok (.athrow, 1) := by decide +kernel
theorem dJ2_getChar_3b067_28 : decode cJ2_getChar_3b067 28 = .ok (.iload_n 1, 1) := by decide +kernel
theorem dJ2_getChar_3b067_29 : decode cJ2_getChar_3b067 29 = .ok (.iconst 1, 1) := by decide +kernel
theorem dJ2_getChar_3b067_30 : decode cJ2_getChar_3b067 30 = .ok (.ishl, 1) := by decide +kernel
theorem dJ2_getChar_3b067_31 : decode cJ2_getChar_3b067 31 = .ok (.istore_n 1, 1) := by decide +kernel
theorem dJ2_getChar_3b067_32 : decode cJ2_getChar_3b067 32 = .ok (.aload_n 0, 1) := by decide +kernel
theorem dJ2_getChar_3b067_33 : decode cJ2_getChar_3b067 33 = .ok (.iload_n 1, 1) := by decide +kernel
theorem dJ2_getChar_3b067_34 : decode cJ2_getChar_3b067 34 = .ok (.iinc 1 1, 3) := by decide +kernel
theorem dJ2_getChar_3b067_37 : decode cJ2_getChar_3b067 37 = .ok (.baload, 1) := by decide +kernel
theorem dJ2_getChar_3b067_38 : decode cJ2_getChar_3b067 38 = .ok (.sipush 255, 3) := by decide +kernel
theorem dJ2_getChar_3b067_41 : decode cJ2_getChar_3b067 41 = .ok (.iand, 1) := by decide +kernel
theorem dJ2_getChar_3b067_42 : decode cJ2_getChar_3b067 42 = .ok (.getstatic 59, 3) := by decide +kernel
theorem dJ2_getChar_3b067_45 : decode cJ2_getChar_3b067 45 = .ok (.ishl, 1) := by decide +kernel
theorem dJ2_getChar_3b067_46 : decode cJ2_getChar_3b067 46 = .ok (.aload_n 0, 1) := by decide +kernel
theorem dJ2_getChar_3b067_47 : decode cJ2_getChar_3b067 47 = .ok (.iload_n 1, 1) := by decide +kernel
theorem dJ2_getChar_3b067_48 : decode cJ2_getChar_3b067 48 = .ok (.baload, 1) := by decide +kernel
theorem dJ2_getChar_3b067_49 : decode cJ2_getChar_3b067 49 = .ok (.sipush 255, 3) := by decide +kernel
theorem dJ2_getChar_3b067_52 : decode cJ2_getChar_3b067 52 = .ok (.iand, 1) := by decide +kernel
theorem dJ2_getChar_3b067_53 : decode cJ2_getChar_3b067 53 = .ok (.getstatic 63, 3) := by decide +kernel
theorem dJ2_getChar_3b067_56 : decode cJ2_getChar_3b067 56 = .ok (.ishl, 1) := by decide +kernel
theorem dJ2_getChar_3b067_57 : decode cJ2_getChar_3b067 57 = .ok (.ior, 1) := by decide +kernel
theorem dJ2_getChar_3b067_58 : decode cJ2_getChar_3b067 58 = .ok (.i2c, 1) := by decide +kernel
theorem dJ2_getChar_3b067_59 : decode cJ2_getChar_3b067 59 = .ok (.ireturn, 1) := by decide +kernel
theorem dJ2_length_9d52b_0 : decode cJ2_length_9d52b 0 = .ok (.aload_n 0, 1) := by decide +kernel
theorem dJ2_length_9d52b_1 : decode cJ2_length_9d52b 1 = .ok (.arraylength, 1) := by decide +kernel
theorem dJ2_length_9d52b_2 : decode cJ2_length_9d52b 2 = .ok (.iconst 1, 1) := by decide +kernel
theorem dJ2_length_9d52b_3 : decode cJ2_length_9d52b 3 = .ok (.ishr, 1) := by decide +kernel
theorem dJ2_length_9d52b_4 : decode cJ2_length_9d52b 4 = .ok (.ireturn, 1) := by decide +kernel
theorem dJ2_charAt_3b067_0 : decode cJ2_charAt_3b067 0 = .ok (.iload_n 1, 1) := by decide +kernel
theorem dJ2_charAt_3b067_1 : decode cJ2_charAt_3b067 1 = .ok (.aload_n 0, 1) := by decide +kernel
theorem dJ2_charAt_3b067_2 : decode cJ2_charAt_3b067 2 = .ok (.invokestatic 67, 3) := by decide +kernel
theorem dJ2_charAt_3b067_5 : decode cJ2_charAt_3b067 5 = .ok (.aload_n 0, 1) := by decide +kernel
theorem dJ2_charAt_3b067_6 : decode cJ2_charAt_3b067 6 = .ok (.iload_n 1, 1) := by decide +kernel
theorem dJ2_charAt_3b067_7 : decode cJ2_charAt_3b067 7 = .ok (.invokestatic 71, 3) := by decide +kernel
theorem dJ2_charAt_3b067_10 : decode cJ2_charAt_3b067 10 = .ok (.ireturn, 1) := by decide +kernel
theorem dJ2_checkIndex_2214a_0 : decode cJ2_checkIndex_2214a 0 = .ok (.iload_n 0, 1) := by decide +kernel
theorem dJ2_checkIndex_2214a_1 : decode cJ2_checkIndex_2214a 1 = .ok (.aload_n 1, 1) := by decide +kernel
theorem dJ2_checkIndex_2214a_2 : decode cJ2_checkIndex_2214a 2 = .ok (.invokestatic 48, 3) := by decide +kernel
theorem dJ2_checkIndex_2214a_5 : decode cJ2_checkIndex_2214a 5 = .ok (.invokestatic 414, 3) := by decide +kernel
theorem dJ2_checkIndex_2214a_8 : decode cJ2_checkIndex_2214a 8 = .ok (.return_, 1) := by decide +kernel
theorem dJ3_checkIndex_8e157_0 : decode cJ3_checkIndex_8e157 0 = .ok (.iload_n 0, 1) := by decide +kernel
theorem dJ3_checkIndex_8e157_1 : decode cJ3_checkIndex_8e157 1 = .ok (.ifCond .lt 8, 3) := by decide +kernel
theorem dJ3_checkIndex_8e157_4 : decode cJ3_checkIndex_8e157 4 = .ok (.iload_n 0, 1) := by decide +kernel
theorem dJ3_checkIndex_8e157_5 : decode cJ3_checkIndex_8e157 5 = .ok (.iload_n 1, 1) := by decide +kernel
theorem dJ3_checkIndex_8e157_6 : decode cJ3_checkIndex_8e157 6 = .ok (.if_icmp .lt 10, 3) := by decide +kernel
theorem dJ3_checkIndex_8e157_9 : decode cJ3_checkIndex_8e157 9 = .ok (.aload_n 2, 1) := by decide +kernel
theorem dJ3_checkIndex_8e157_10 : decode cJ3_checkIndex_8e157 10 = .ok (.iload_n 0, 1) := by decide +kernel
theorem dJ3_checkIndex_8e157_11 : decode cJ3_checkIndex_8e157 11 = .ok (.iload_n 1, 1) := by decide +kernel
theorem dJ3_checkIndex_8e157_12 : decode cJ3_checkIndex_8e157 12 = .ok (.invokestatic 95, 3) := by decide +kernel
theorem dJ3_checkIndex_8e157_15 : decode cJ3_checkIndex_8e157 15 = .ok (.athrow, 1) := by decide +kernel
theorem dJ3_checkIndex_8e157_16 : decode cJ3_checkIndex_8e157 16 = .ok (.iload_n 0, 1) := by decide +kernel
theorem dJ3_checkIndex_8e157_17 : decode cJ3_checkIndex_8e157 17 = .ok (.ireturn, 1) := by decide +kernel
