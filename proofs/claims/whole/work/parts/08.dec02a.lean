theorem dX2_addBorder_0 : decode cX2_addBorder 0 = .ok (.aload_n 0, 1) := by decide +kernel
theorem dX2_addBorder_1 : decode cX2_addBorder 1 = .ok (.iload_n 1, 1) := by decide +kernel
theorem dX2_addBorder_2 : decode cX2_addBorder 2 = .ok (.invokevirtual 22, 3) := by decide +kernel
theorem dX2_addBorder_5 : decode cX2_addBorder 5 = .ok (.ifCond .eq 54, 3) := by decide +kernel
theorem dX2_addBorder_8 : decode cX2_addBorder 8 = .ok (.aload_n 0, 1) := by decide +kernel
theorem dX2_addBorder_9 : decode cX2_addBorder 9 = .ok (.iload_n 2, 1) := by decide +kernel
theorem dX2_addBorder_10 : decode cX2_addBorder 10 = .ok (.invokevirtual 22, 3) := by decide +kernel
theorem dX2_addBorder_13 : decode cX2_addBorder 13 = .ok (.ifCond .eq 46, 3) := by decide +kernel
theorem dX2_addBorder_16 : decode cX2_addBorder 16 = .ok (.aload_n 0, 1) := by decide +kernel
theorem dX2_addBorder_17 : decode cX2_addBorder 17 = .ok (.iload_n 1, 1) := by decide +kernel
theorem dX2_addBorder_18 : decode cX2_addBorder 18 = .ok (.iload_n 2, 1) := by decide +kernel
theorem dX2_addBorder_19 : decode cX2_addBorder 19 = .ok (.invokevirtual 26, 3) := by decide +kernel
theorem dX2_addBorder_22 : decode cX2_addBorder 22 = .ok (.ifCond .ne 37, 3) := by decide +kernel
theorem dX2_addBorder_25 : decode cX2_addBorder 25 = .ok (.aload_n 0, 1) := by decide +kernel
theorem dX2_addBorder_26 : decode cX2_addBorder 26 = .ok (.getfield 9, 3) := by decide +kernel
theorem dX2_addBorder_29 : decode cX2_addBorder 29 = .ok (.iload_n 1, 1) := by decide +kernel
theorem dX2_addBorder_30 : decode cX2_addBorder 30 = .ok (.dup2, 1) := by decide +kernel
theorem dX2_addBorder_31 : decode cX2_addBorder 31 = .ok (.iaload, 1) := by decide +kernel
theorem dX2_addBorder_32 : decode cX2_addBorder 32 = .ok (.iconst 1, 1) := by decide +kernel
theorem dX2_addBorder_33 : decode cX2_addBorder 33 = .ok (.iload_n 2, 1) := by decide +kernel
theorem dX2_addBorder_34 : decode cX2_addBorder 34 = .ok (.ishl, 1) := by decide +kernel
theorem dX2_addBorder_35 : decode cX2_addBorder 35 = .ok (.ior, 1) := by decide +kernel
theorem dX2_addBorder_36 : decode cX2_addBorder 36 = .ok (.iastore, 1) := by decide +kernel
theorem dX2_addBorder_37 : decode cX2_addBorder 37 = .ok (.aload_n 0, 1) := by decide +kernel
theorem dX2_addBorder_38 : decode cX2_addBorder 38 = .ok (.getfield 9, 3) := by decide +kernel
theorem dX2_addBorder_41 : decode cX2_addBorder 41 = .ok (.iload_n 2, 1) := by decide +kernel
theorem dX2_addBorder_42 : decode cX2_addBorder 42 = .ok (.dup2, 1) := by decide +kernel
theorem dX2_addBorder_43 : decode cX2_addBorder 43 = .ok (.iaload, 1) := by decide +kernel
theorem dX2_addBorder_44 : decode cX2_addBorder 44 = .ok (.iconst 1, 1) := by decide +kernel
theorem dX2_addBorder_45 : decode cX2_addBorder 45 = .ok (.iload_n 1, 1) := by decide +kernel
theorem dX2_addBorder_46 : decode cX2_addBorder 46 = .ok (.ishl, 1) := by decide +kernel
theorem dX2_addBorder_47 : decode cX2_addBorder 47 = .ok (.ior, 1) := by decide +kernel
theorem dX2_addBorder_48 : decode cX2_addBorder 48 = .ok (.iastore, 1) := by decide +kernel
theorem dX2_addBorder_49 : decode cX2_addBorder 49 = .ok (.aload_n 0, 1) := by decide +kernel
theorem dX2_addBorder_50 : decode cX2_addBorder 50 = .ok (.dup, 1) := by decide +kernel
theorem dX2_addBorder_51 : decode cX2_addBorder 51 = .ok (.getfield 19, 3) := by decide +kernel
theorem dX2_addBorder_54 : decode cX2_addBorder 54 = .ok (.iconst 1, 1) := by decide +kernel
theorem dX2_addBorder_55 : decode cX2_addBorder 55 = .ok (.iadd, 1) := by decide +kernel
theorem dX2_addBorder_56 : decode cX2_addBorder 56 = .ok (.putfield 19, 3) := by decide +kernel
theorem dX2_addBorder_59 : decode cX2_addBorder 59 = .ok (.return_, 1) := by decide +kernel
theorem dX2_areJoined_0 : decode cX2_areJoined 0 = .ok (.aload_n 0, 1) := by decide +kernel
theorem dX2_areJoined_1 : decode cX2_areJoined 1 = .ok (.iload_n 1, 1) := by decide +kernel
theorem dX2_areJoined_2 : decode cX2_areJoined 2 = .ok (.invokevirtual 22, 3) := by decide +kernel
theorem dX2_areJoined_5 : decode cX2_areJoined 5 = .ok (.ifCond .eq 28, 3) := by decide +kernel
theorem dX2_areJoined_8 : decode cX2_areJoined 8 = .ok (.aload_n 0, 1) := by decide +kernel
theorem dX2_areJoined_9 : decode cX2_areJoined 9 = .ok (.iload_n 2, 1) := by decide +kernel
theorem dX2_areJoined_10 : decode cX2_areJoined 10 = .ok (.invokevirtual 22, 3) := by decide +kernel
theorem dX2_areJoined_13 : decode cX2_areJoined 13 = .ok (.ifCond .eq 20, 3) := by decide +kernel
theorem dX2_areJoined_16 : decode cX2_areJoined 16 = .ok (.aload_n 0, 1) := by decide +kernel
theorem dX2_areJoined_17 : decode cX2_areJoined 17 = .ok (.getfield 9, 3) := by decide +kernel
theorem dX2_areJoined_20 : decode cX2_areJoined 20 = .ok (.iload_n 1, 1) := by decide +kernel
theorem dX2_areJoined_21 : decode cX2_areJoined 21 = .ok (.iaload, 1) := by decide +kernel
theorem dX2_areJoined_22 : decode cX2_areJoined 22 = .ok (.iload_n 2, 1) := by decide +kernel
theorem dX2_areJoined_23 : decode cX2_areJoined 23 = .ok (.ishr, 1) := by decide +kernel
theorem dX2_areJoined_24 : decode cX2_areJoined 24 = .ok (.iconst 1, 1) := by decide +kernel
theorem dX2_areJoined_25 : decode cX2_areJoined 25 = .ok (.iand, 1) := by decide +kernel
theorem dX2_areJoined_26 : decode cX2_areJoined 26 = .ok (.ifCond .eq 7, 3) := by decide +kernel
theorem dX2_areJoined_29 : decode cX2_areJoined 29 = .ok (.iconst 1, 1) := by decide +kernel
theorem dX2_areJoined_30 : decode cX2_areJoined 30 = .ok (.goto 4, 3) := by decide +kernel
theorem dX2_areJoined_33 : decode cX2_areJoined 33 = .ok (.iconst 0, 1) := by decide +kernel
theorem dX2_areJoined_34 : decode cX2_areJoined 34 = .ok (.ireturn, 1) := by decide +kernel
theorem dX2_bitsOfRow_0 : decode cX2_bitsOfRow 0 = .ok (.iload_n 2, 1) := by decide +kernel
theorem dX2_bitsOfRow_1 : decode cX2_bitsOfRow 1 = .ok (.bipush 10, 2) := by decide +kernel
theorem dX2_bitsOfRow_3 : decode cX2_bitsOfRow 3 = .ok (.irem, 1) := by decide +kernel
theorem dX2_bitsOfRow_4 : decode cX2_bitsOfRow 4 = .ok (.istore 4, 2) := by decide +kernel
theorem dX2_bitsOfRow_6 : decode cX2_bitsOfRow 6 = .ok (.iload 4, 2) := by decide +kernel
theorem dX2_bitsOfRow_8 : decode cX2_bitsOfRow 8 = .ok (.iload_n 1, 1) := by decide +kernel
theorem dX2_bitsOfRow_9 : decode cX2_bitsOfRow 9 = .ok (.if_icmp .eq 5, 3) := by decide +kernel
theorem dX2_bitsOfRow_12 : decode cX2_bitsOfRow 12 = .ok (.iconst 0, 1) := by decide +kernel
theorem dX2_bitsOfRow_13 : decode cX2_bitsOfRow 13 = .ok (.ireturn, 1) := by decide +kernel
theorem dX2_bitsOfRow_14 : decode cX2_bitsOfRow 14 = .ok (.iconst 1, 1) := by decide +kernel
theorem dX2_bitsOfRow_15 : decode cX2_bitsOfRow 15 = .ok (.iload_n 1, 1) := by decide +kernel
theorem dX2_bitsOfRow_16 : decode cX2_bitsOfRow 16 = .ok (.ishl, 1) := by decide +kernel
theorem dX2_bitsOfRow_17 : decode cX2_bitsOfRow 17 = .ok (.istore 5, 2) := by decide +kernel
theorem dX2_bitsOfRow_19 : decode cX2_bitsOfRow 19 = .ok (.iload_n 2, 1) := by decide +kernel
theorem dX2_bitsOfRow_20 : decode cX2_bitsOfRow 20 = .ok (.bipush 10, 2) := by decide +kernel
theorem dX2_bitsOfRow_22 : decode cX2_bitsOfRow 22 = .ok (.idiv, 1) := by decide +kernel
theorem dX2_bitsOfRow_23 : decode cX2_bitsOfRow 23 = .ok (.istore 6, 2) := by decide +kernel
theorem dX2_bitsOfRow_25 : decode cX2_bitsOfRow 25 = .ok (.iconst 1, 1) := by decide +kernel
theorem dX2_bitsOfRow_26 : decode cX2_bitsOfRow 26 = .ok (.istore 7, 2) := by decide +kernel
theorem dX2_bitsOfRow_28 : decode cX2_bitsOfRow 28 = .ok (.iload 7, 2) := by decide +kernel
theorem dX2_bitsOfRow_30 : decode cX2_bitsOfRow 30 = .ok (.iload_n 3, 1) := by decide +kernel
theorem dX2_bitsOfRow_31 : decode cX2_bitsOfRow 31 = .ok (.if_icmp .ge 59, 3) := by decide +kernel
theorem dX2_bitsOfRow_34 : decode cX2_bitsOfRow 34 = .ok (.iload 6, 2) := by decide +kernel
theorem dX2_bitsOfRow_36 : decode cX2_bitsOfRow 36 = .ok (.bipush 10, 2) := by decide +kernel
theorem dX2_bitsOfRow_38 : decode cX2_bitsOfRow 38 = .ok (.irem, 1) := by decide +kernel
theorem dX2_bitsOfRow_39 : decode cX2_bitsOfRow 39 = .ok (.istore 8, 2) := by decide +kernel
theorem dX2_bitsOfRow_41 : decode cX2_bitsOfRow 41 = .ok (.aload_n 0, 1) := by decide +kernel
theorem dX2_bitsOfRow_42 : decode cX2_bitsOfRow 42 = .ok (.iload 4, 2) := by decide +kernel
theorem dX2_bitsOfRow_44 : decode cX2_bitsOfRow 44 = .ok (.iload 8, 2) := by decide +kernel
theorem dX2_bitsOfRow_46 : decode cX2_bitsOfRow 46 = .ok (.invokevirtual 26, 3) := by decide +kernel
theorem dX2_bitsOfRow_49 : decode cX2_bitsOfRow 49 = .ok (.ifCond .eq 13, 3) := by decide +kernel
theorem dX2_bitsOfRow_52 : decode cX2_bitsOfRow 52 = .ok (.iload 5, 2) := by decide +kernel
theorem dX2_bitsOfRow_54 : decode cX2_bitsOfRow 54 = .ok (.iload 8, 2) := by decide +kernel
theorem dX2_bitsOfRow_56 : decode cX2_bitsOfRow 56 = .ok (.ishr, 1) := by decide +kernel
theorem dX2_bitsOfRow_57 : decode cX2_bitsOfRow 57 = .ok (.iconst 1, 1) := by decide +kernel
theorem dX2_bitsOfRow_58 : decode cX2_bitsOfRow 58 = .ok (.iand, 1) := by decide +kernel
theorem dX2_bitsOfRow_59 : decode cX2_bitsOfRow 59 = .ok (.ifCond .eq 5, 3) := by decide +kernel
theorem dX2_bitsOfRow_62 : decode cX2_bitsOfRow 62 = .ok (.iconst 0, 1) := by decide +kernel
theorem dX2_bitsOfRow_63 : decode cX2_bitsOfRow 63 = .ok (.ireturn, 1) := by decide +kernel
theorem dX2_bitsOfRow_64 : decode cX2_bitsOfRow 64 = .ok (.iload 5, 2) := by decide +kernel
theorem dX2_bitsOfRow_66 : decode cX2_bitsOfRow 66 = .ok (.iconst 1, 1) := by decide +kernel
theorem dX2_bitsOfRow_67 : decode cX2_bitsOfRow 67 = .ok (.iload 8, 2) := by decide +kernel
theorem dX2_bitsOfRow_69 : decode cX2_bitsOfRow 69 = .ok (.ishl, 1) := by decide +kernel
theorem dX2_bitsOfRow_70 : decode cX2_bitsOfRow 70 = .ok (.ior, 1) := by decide +kernel
theorem dX2_bitsOfRow_71 : decode cX2_bitsOfRow 71 = .ok (.istore 5, 2) := by decide +kernel
theorem dX2_bitsOfRow_73 : decode cX2_bitsOfRow 73 = .ok (.iload 8, 2) := by decide +kernel
theorem dX2_bitsOfRow_75 : decode cX2_bitsOfRow 75 = .ok (.istore 4, 2) := by decide +kernel
theorem dX2_bitsOfRow_77 : decode cX2_bitsOfRow 77 = .ok (.iload 6, 2) := by decide +kernel
theorem dX2_bitsOfRow_79 : decode cX2_bitsOfRow 79 = .ok (.bipush 10, 2) := by decide +kernel
theorem dX2_bitsOfRow_81 : decode cX2_bitsOfRow 81 = .ok (.idiv, 1) := by decide +kernel
theorem dX2_bitsOfRow_82 : decode cX2_bitsOfRow 82 = .ok (.istore 6, 2) := by decide +kernel
theorem dX2_bitsOfRow_84 : decode cX2_bitsOfRow 84 = .ok (.iinc 7 1, 3) := by decide +kernel
theorem dX2_bitsOfRow_87 : decode cX2_bitsOfRow 87 = .ok (.goto (-59), 3) := by decide +kernel
theorem dX2_bitsOfRow_90 : decode cX2_bitsOfRow 90 = .ok (.iload 6, 2) := by decide +kernel
theorem dX2_bitsOfRow_92 : decode cX2_bitsOfRow 92 = .ok (.ifCond .ne 8, 3) := by decide +kernel
theorem dX2_bitsOfRow_95 : decode cX2_bitsOfRow 95 = .ok (.iload 5, 2) := by decide +kernel
theorem dX2_bitsOfRow_97 : decode cX2_bitsOfRow 97 = .ok (.goto 4, 3) := by decide +kernel
theorem dX2_bitsOfRow_100 : decode cX2_bitsOfRow 100 = .ok (.iconst 0, 1) := by decide +kernel
theorem dX2_bitsOfRow_101 : decode cX2_bitsOfRow 101 = .ok (.ireturn, 1) := by decide +kernel
theorem dX2_clear_0 : decode cX2_clear 0 = .ok (.iconst 0, 1) := by decide +kernel
theorem dX2_clear_1 : decode cX2_clear 1 = .ok (.istore_n 1, 1) := by decide +kernel
theorem dX2_clear_2 : decode cX2_clear 2 = .ok (.iload_n 1, 1) := by decide +kernel
theorem dX2_clear_3 : decode cX2_clear 3 = .ok (.bipush 8, 2) := by decide +kernel
theorem dX2_clear_5 : decode cX2_clear 5 = .ok (.if_icmp .ge 16, 3) := by decide +kernel
theorem dX2_clear_8 : decode cX2_clear 8 = .ok (.aload_n 0, 1) := by decide +kernel
theorem dX2_clear_9 : decode cX2_clear 9 = .ok (.getfield 9, 3) := by decide +kernel
theorem dX2_clear_12 : decode cX2_clear 12 = .ok (.iload_n 1, 1) := by decide +kernel
theorem dX2_clear_13 : decode cX2_clear 13 = .ok (.iconst 0, 1) := by decide +kernel
theorem dX2_clear_14 : decode cX2_clear 14 = .ok (.iastore, 1) := by decide +kernel
theorem dX2_clear_15 : decode cX2_clear 15 = .ok (.iinc 1 1, 3) := by decide +kernel
theorem dX2_clear_18 : decode cX2_clear 18 = .ok (.goto (-16), 3) := by decide +kernel
theorem dX2_clear_21 : decode cX2_clear 21 = .ok (.aload_n 0, 1) := by decide +kernel
theorem dX2_clear_22 : decode cX2_clear 22 = .ok (.iconst 0, 1) := by decide +kernel
theorem dX2_clear_23 : decode cX2_clear 23 = .ok (.putfield 15, 3) := by decide +kernel
theorem dX2_clear_26 : decode cX2_clear 26 = .ok (.aload_n 0, 1) := by decide +kernel
theorem dX2_clear_27 : decode cX2_clear 27 = .ok (.iconst 0, 1) := by decide +kernel
theorem dX2_clear_28 : decode cX2_clear 28 = .ok (.putfield 19, 3) := by decide +kernel
theorem dX2_clear_31 : decode cX2_clear 31 = .ok (.return_, 1) := by decide +kernel
theorem dX2_has_0 : decode cX2_has 0 = .ok (.iload_n 1, 1) := by decide +kernel
theorem dX2_has_1 : decode cX2_has 1 = .ok (.ifCond .lt 15, 3) := by decide +kernel
theorem dX2_has_4 : decode cX2_has 4 = .ok (.iload_n 1, 1) := by decide +kernel
theorem dX2_has_5 : decode cX2_has 5 = .ok (.aload_n 0, 1) := by decide +kernel
theorem dX2_has_6 : decode cX2_has 6 = .ok (.getfield 15, 3) := by decide +kernel
theorem dX2_has_9 : decode cX2_has 9 = .ok (.if_icmp .ge 7, 3) := by decide +kernel
theorem dX2_has_12 : decode cX2_has 12 = .ok (.iconst 1, 1) := by decide +kernel
theorem dX2_has_13 : decode cX2_has 13 = .ok (.goto 4, 3) := by decide +kernel
theorem dX2_has_16 : decode cX2_has 16 = .ok (.iconst 0, 1) := by decide +kernel
theorem dX2_has_17 : decode cX2_has 17 = .ok (.ireturn, 1) := by decide +kernel
theorem dX2_shortestRow_0 : decode cX2_shortestRow 0 = .ok (.iconst 1, 1) := by decide +kernel
theorem dX2_shortestRow_1 : decode cX2_shortestRow 1 = .ok (.iload_n 1, 1) := by decide +kernel
theorem dX2_shortestRow_2 : decode cX2_shortestRow 2 = .ok (.ishl, 1) := by decide +kernel
theorem dX2_shortestRow_3 : decode cX2_shortestRow 3 = .ok (.istore 4, 2) := by decide +kernel
theorem dX2_shortestRow_5 : decode cX2_shortestRow 5 = .ok (.iconst 2, 1) := by decide +kernel
theorem dX2_shortestRow_6 : decode cX2_shortestRow 6 = .ok (.istore 5, 2) := by decide +kernel
theorem dX2_shortestRow_8 : decode cX2_shortestRow 8 = .ok (.iload 5, 2) := by decide +kernel
theorem dX2_shortestRow_10 : decode cX2_shortestRow 10 = .ok (.bipush 8, 2) := by decide +kernel
theorem dX2_shortestRow_12 : decode cX2_shortestRow 12 = .ok (.if_icmp .gt 71, 3) := by decide +kernel
theorem dX2_shortestRow_15 : decode cX2_shortestRow 15 = .ok (.iload 4, 2) := by decide +kernel
theorem dX2_shortestRow_17 : decode cX2_shortestRow 17 = .ok (.istore 6, 2) := by decide +kernel
theorem dX2_shortestRow_19 : decode cX2_shortestRow 19 = .ok (.iconst 0, 1) := by decide +kernel
theorem dX2_shortestRow_20 : decode cX2_shortestRow 20 = .ok (.istore 7, 2) := by decide +kernel
theorem dX2_shortestRow_22 : decode cX2_shortestRow 22 = .ok (.iload 7, 2) := by decide +kernel
theorem dX2_shortestRow_24 : decode cX2_shortestRow 24 = .ok (.aload_n 0, 1) := by decide +kernel
theorem dX2_shortestRow_25 : decode cX2_shortestRow 25 = .ok (.getfield 15, 3) := by decide +kernel
theorem dX2_shortestRow_28 : decode cX2_shortestRow 28 = .ok (.if_icmp .ge 33, 3) := by decide +kernel
theorem dX2_shortestRow_31 : decode cX2_shortestRow 31 = .ok (.iload 4, 2) := by decide +kernel
theorem dX2_shortestRow_33 : decode cX2_shortestRow 33 = .ok (.iload 7, 2) := by decide +kernel
theorem dX2_shortestRow_35 : decode cX2_shortestRow 35 = .ok (.ishr, 1) := by decide +kernel
theorem dX2_shortestRow_36 : decode cX2_shortestRow 36 = .ok (.iconst 1, 1) := by decide +kernel
theorem dX2_shortestRow_37 : decode cX2_shortestRow 37 = .ok (.iand, 1) := by decide +kernel
theorem dX2_shortestRow_38 : decode cX2_shortestRow 38 = .ok (.ifCond .eq 17, 3) := by decide +kernel
theorem dX2_shortestRow_41 : decode cX2_shortestRow 41 = .ok (.iload 6, 2) := by decide +kernel
theorem dX2_shortestRow_43 : decode cX2_shortestRow 43 = .ok (.aload_n 0, 1) := by decide +kernel
theorem dX2_shortestRow_44 : decode cX2_shortestRow 44 = .ok (.getfield 9, 3) := by decide +kernel
theorem dX2_shortestRow_47 : decode cX2_shortestRow 47 = .ok (.iload 7, 2) := by decide +kernel
theorem dX2_shortestRow_49 : decode cX2_shortestRow 49 = .ok (.iaload, 1) := by decide +kernel
theorem dX2_shortestRow_50 : decode cX2_shortestRow 50 = .ok (.iload_n 3, 1) := by decide +kernel
theorem dX2_shortestRow_51 : decode cX2_shortestRow 51 = .ok (.iand, 1) := by decide +kernel
theorem dX2_shortestRow_52 : decode cX2_shortestRow 52 = .ok (.ior, 1) := by decide +kernel
theorem dX2_shortestRow_53 : decode cX2_shortestRow 53 = .ok (.istore 6, 2) := by decide +kernel
theorem dX2_shortestRow_55 : decode cX2_shortestRow 55 = .ok (.iinc 7 1, 3) := by decide +kernel
theorem dX2_shortestRow_58 : decode cX2_shortestRow 58 = .ok (.goto (-36), 3) := by decide +kernel
theorem dX2_shortestRow_61 : decode cX2_shortestRow 61 = .ok (.iload 6, 2) := by decide +kernel
theorem dX2_shortestRow_63 : decode cX2_shortestRow 63 = .ok (.iload_n 2, 1) := by decide +kernel
theorem dX2_shortestRow_64 : decode cX2_shortestRow 64 = .ok (.ishr, 1) := by decide +kernel
theorem dX2_shortestRow_65 : decode cX2_shortestRow 65 = .ok (.iconst 1, 1) := by decide +kernel
theorem dX2_shortestRow_66 : decode cX2_shortestRow 66 = .ok (.iand, 1) := by decide +kernel
theorem dX2_shortestRow_67 : decode cX2_shortestRow 67 = .ok (.ifCond .eq 6, 3) := by decide +kernel
theorem dX2_shortestRow_70 : decode cX2_shortestRow 70 = .ok (.iload 5, 2) := by decide +kernel
theorem dX2_shortestRow_72 : decode cX2_shortestRow 72 = .ok (.ireturn, 1) := by decide +kernel
theorem dX2_shortestRow_73 : decode cX2_shortestRow 73 = .ok (.iload 6, 2) := by decide +kernel
theorem dX2_shortestRow_75 : decode cX2_shortestRow 75 = .ok (.istore 4, 2) := by decide +kernel
theorem dX2_shortestRow_77 : decode cX2_shortestRow 77 = .ok (.iinc 5 1, 3) := by decide +kernel
theorem dX2_shortestRow_80 : decode cX2_shortestRow 80 = .ok (.goto (-72), 3) := by decide +kernel
theorem dX2_shortestRow_83 : decode cX2_shortestRow 83 = .ok (.bipush (-2), 2) := by decide +kernel
theorem dX2_shortestRow_85 : decode cX2_shortestRow 85 = .ok (.ireturn, 1) := by decide +kernel
