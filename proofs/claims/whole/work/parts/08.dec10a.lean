theorem dX10_ask_0 : decode cX10_ask 0 = .ok (.aload_n 0, 1) := by decide +kernel
theorem dX10_ask_1 : decode cX10_ask 1 = .ok (.getfield 40, 3) := by decide +kernel
theorem dX10_ask_4 : decode cX10_ask 4 = .ok (.getfield 93, 3) := by decide +kernel
theorem dX10_ask_7 : decode cX10_ask 7 = .ok (.iload_n 1, 1) := by decide +kernel
theorem dX10_ask_8 : decode cX10_ask 8 = .ok (.invokevirtual 172, 3) := by decide +kernel
theorem dX10_ask_11 : decode cX10_ask 11 = .ok (.ifCond .eq 18, 3) := by decide +kernel
theorem dX10_ask_14 : decode cX10_ask 14 = .ok (.iload_n 3, 1) := by decide +kernel
theorem dX10_ask_15 : decode cX10_ask 15 = .ok (.iconst 2, 1) := by decide +kernel
theorem dX10_ask_16 : decode cX10_ask 16 = .ok (.if_icmp .lt 13, 3) := by decide +kernel
theorem dX10_ask_19 : decode cX10_ask 19 = .ok (.iload_n 3, 1) := by decide +kernel
theorem dX10_ask_20 : decode cX10_ask 20 = .ok (.bipush 6, 2) := by decide +kernel
theorem dX10_ask_22 : decode cX10_ask 22 = .ok (.if_icmp .gt 7, 3) := by decide +kernel
theorem dX10_ask_25 : decode cX10_ask 25 = .ok (.iload_n 2, 1) := by decide +kernel
theorem dX10_ask_26 : decode cX10_ask 26 = .ok (.ifCond .ge 5, 3) := by decide +kernel
theorem dX10_ask_29 : decode cX10_ask 29 = .ok (.iconst (-1), 1) := by decide +kernel
theorem dX10_ask_30 : decode cX10_ask 30 = .ok (.ireturn, 1) := by decide +kernel
theorem dX10_ask_31 : decode cX10_ask 31 = .ok (.aload_n 0, 1) := by decide +kernel
theorem dX10_ask_32 : decode cX10_ask 32 = .ok (.getfield 40, 3) := by decide +kernel
theorem dX10_ask_35 : decode cX10_ask 35 = .ok (.getfield 77, 3) := by decide +kernel
theorem dX10_ask_38 : decode cX10_ask 38 = .ok (.aload_n 0, 1) := by decide +kernel
theorem dX10_ask_39 : decode cX10_ask 39 = .ok (.getfield 40, 3) := by decide +kernel
theorem dX10_ask_42 : decode cX10_ask 42 = .ok (.getfield 93, 3) := by decide +kernel
theorem dX10_ask_45 : decode cX10_ask 45 = .ok (.getfield 180, 3) := by decide +kernel
theorem dX10_ask_48 : decode cX10_ask 48 = .ok (.iload_n 1, 1) := by decide +kernel
theorem dX10_ask_49 : decode cX10_ask 49 = .ok (.iaload, 1) := by decide +kernel
theorem dX10_ask_50 : decode cX10_ask 50 = .ok (.iload_n 2, 1) := by decide +kernel
theorem dX10_ask_51 : decode cX10_ask 51 = .ok (.iload_n 3, 1) := by decide +kernel
theorem dX10_ask_52 : decode cX10_ask 52 = .ok (.invokevirtual 263, 3) := by decide +kernel
theorem dX10_ask_55 : decode cX10_ask 55 = .ok (.istore 4, 2) := by decide +kernel
theorem dX10_ask_57 : decode cX10_ask 57 = .ok (.iload 4, 2) := by decide +kernel
theorem dX10_ask_59 : decode cX10_ask 59 = .ok (.ifCond .ne 5, 3) := by decide +kernel
theorem dX10_ask_62 : decode cX10_ask 62 = .ok (.iconst (-1), 1) := by decide +kernel
theorem dX10_ask_63 : decode cX10_ask 63 = .ok (.ireturn, 1) := by decide +kernel
theorem dX10_ask_64 : decode cX10_ask 64 = .ok (.aload_n 0, 1) := by decide +kernel
theorem dX10_ask_65 : decode cX10_ask 65 = .ok (.getfield 40, 3) := by decide +kernel
theorem dX10_ask_68 : decode cX10_ask 68 = .ok (.getfield 93, 3) := by decide +kernel
theorem dX10_ask_71 : decode cX10_ask 71 = .ok (.getfield 184, 3) := by decide +kernel
theorem dX10_ask_74 : decode cX10_ask 74 = .ok (.iload_n 1, 1) := by decide +kernel
theorem dX10_ask_75 : decode cX10_ask 75 = .ok (.iaload, 1) := by decide +kernel
theorem dX10_ask_76 : decode cX10_ask 76 = .ok (.iconst (-1), 1) := by decide +kernel
theorem dX10_ask_77 : decode cX10_ask 77 = .ok (.if_icmp .eq 6, 3) := by decide +kernel
theorem dX10_ask_80 : decode cX10_ask 80 = .ok (.bipush (-2), 2) := by decide +kernel
theorem dX10_ask_82 : decode cX10_ask 82 = .ok (.ireturn, 1) := by decide +kernel
theorem dX10_ask_83 : decode cX10_ask 83 = .ok (.aload_n 0, 1) := by decide +kernel
theorem dX10_ask_84 : decode cX10_ask 84 = .ok (.getfield 40, 3) := by decide +kernel
theorem dX10_ask_87 : decode cX10_ask 87 = .ok (.getfield 100, 3) := by decide +kernel
theorem dX10_ask_90 : decode cX10_ask 90 = .ok (.getfield 104, 3) := by decide +kernel
theorem dX10_ask_93 : decode cX10_ask 93 = .ok (.bipush 40, 2) := by decide +kernel
theorem dX10_ask_95 : decode cX10_ask 95 = .ok (.if_icmp .lt 6, 3) := by decide +kernel
theorem dX10_ask_98 : decode cX10_ask 98 = .ok (.bipush (-3), 2) := by decide +kernel
theorem dX10_ask_100 : decode cX10_ask 100 = .ok (.ireturn, 1) := by decide +kernel
theorem dX10_ask_101 : decode cX10_ask 101 = .ok (.aload_n 0, 1) := by decide +kernel
theorem dX10_ask_102 : decode cX10_ask 102 = .ok (.getfield 40, 3) := by decide +kernel
theorem dX10_ask_105 : decode cX10_ask 105 = .ok (.getfield 100, 3) := by decide +kernel
theorem dX10_ask_108 : decode cX10_ask 108 = .ok (.iload_n 1, 1) := by decide +kernel
theorem dX10_ask_109 : decode cX10_ask 109 = .ok (.iload_n 2, 1) := by decide +kernel
theorem dX10_ask_110 : decode cX10_ask 110 = .ok (.iload_n 3, 1) := by decide +kernel
theorem dX10_ask_111 : decode cX10_ask 111 = .ok (.iload 4, 2) := by decide +kernel
theorem dX10_ask_113 : decode cX10_ask 113 = .ok (.invokevirtual 266, 3) := by decide +kernel
theorem dX10_ask_116 : decode cX10_ask 116 = .ok (.istore 5, 2) := by decide +kernel
theorem dX10_ask_118 : decode cX10_ask 118 = .ok (.aload_n 0, 1) := by decide +kernel
theorem dX10_ask_119 : decode cX10_ask 119 = .ok (.getfield 40, 3) := by decide +kernel
theorem dX10_ask_122 : decode cX10_ask 122 = .ok (.getfield 93, 3) := by decide +kernel
theorem dX10_ask_125 : decode cX10_ask 125 = .ok (.getfield 184, 3) := by decide +kernel
theorem dX10_ask_128 : decode cX10_ask 128 = .ok (.iload_n 1, 1) := by decide +kernel
theorem dX10_ask_129 : decode cX10_ask 129 = .ok (.iload 5, 2) := by decide +kernel
theorem dX10_ask_131 : decode cX10_ask 131 = .ok (.iastore, 1) := by decide +kernel
theorem dX10_ask_132 : decode cX10_ask 132 = .ok (.aload_n 0, 1) := by decide +kernel
theorem dX10_ask_133 : decode cX10_ask 133 = .ok (.getfield 40, 3) := by decide +kernel
theorem dX10_ask_136 : decode cX10_ask 136 = .ok (.getfield 118, 3) := by decide +kernel
theorem dX10_ask_139 : decode cX10_ask 139 = .ok (.iconst 0, 1) := by decide +kernel
theorem dX10_ask_140 : decode cX10_ask 140 = .ok (.iload_n 1, 1) := by decide +kernel
theorem dX10_ask_141 : decode cX10_ask 141 = .ok (.iconst 0, 1) := by decide +kernel
theorem dX10_ask_142 : decode cX10_ask 142 = .ok (.invokevirtual 270, 3) := by decide +kernel
theorem dX10_ask_145 : decode cX10_ask 145 = .ok (.iload 5, 2) := by decide +kernel
theorem dX10_ask_147 : decode cX10_ask 147 = .ok (.ireturn, 1) := by decide +kernel
theorem dX10_assign_0 : decode cX10_assign 0 = .ok (.aload_n 0, 1) := by decide +kernel
theorem dX10_assign_1 : decode cX10_assign 1 = .ok (.getfield 33, 3) := by decide +kernel
theorem dX10_assign_4 : decode cX10_assign 4 = .ok (.aload_n 0, 1) := by decide +kernel
theorem dX10_assign_5 : decode cX10_assign 5 = .ok (.getfield 40, 3) := by decide +kernel
theorem dX10_assign_8 : decode cX10_assign 8 = .ok (.invokevirtual 225, 3) := by decide +kernel
theorem dX10_assign_11 : decode cX10_assign 11 = .ok (.aload_n 0, 1) := by decide +kernel
theorem dX10_assign_12 : decode cX10_assign 12 = .ok (.getfield 33, 3) := by decide +kernel
theorem dX10_assign_15 : decode cX10_assign 15 = .ok (.invokevirtual 229, 3) := by decide +kernel
theorem dX10_assign_18 : decode cX10_assign 18 = .ok (.iconst 0, 1) := by decide +kernel
theorem dX10_assign_19 : decode cX10_assign 19 = .ok (.istore_n 1, 1) := by decide +kernel
theorem dX10_assign_20 : decode cX10_assign 20 = .ok (.iconst 0, 1) := by decide +kernel
theorem dX10_assign_21 : decode cX10_assign 21 = .ok (.istore_n 2, 1) := by decide +kernel
theorem dX10_assign_22 : decode cX10_assign 22 = .ok (.iload_n 2, 1) := by decide +kernel
theorem dX10_assign_23 : decode cX10_assign 23 = .ok (.aload_n 0, 1) := by decide +kernel
theorem dX10_assign_24 : decode cX10_assign 24 = .ok (.getfield 33, 3) := by decide +kernel
theorem dX10_assign_27 : decode cX10_assign 27 = .ok (.getfield 246, 3) := by decide +kernel
theorem dX10_assign_30 : decode cX10_assign 30 = .ok (.if_icmp .ge 37, 3) := by decide +kernel
theorem dX10_assign_33 : decode cX10_assign 33 = .ok (.iload_n 1, 1) := by decide +kernel
theorem dX10_assign_34 : decode cX10_assign 34 = .ok (.aload_n 0, 1) := by decide +kernel
theorem dX10_assign_35 : decode cX10_assign 35 = .ok (.getfield 40, 3) := by decide +kernel
theorem dX10_assign_38 : decode cX10_assign 38 = .ok (.aload_n 0, 1) := by decide +kernel
theorem dX10_assign_39 : decode cX10_assign 39 = .ok (.getfield 33, 3) := by decide +kernel
theorem dX10_assign_42 : decode cX10_assign 42 = .ok (.getfield 277, 3) := by decide +kernel
theorem dX10_assign_45 : decode cX10_assign 45 = .ok (.iload_n 2, 1) := by decide +kernel
theorem dX10_assign_46 : decode cX10_assign 46 = .ok (.iaload, 1) := by decide +kernel
theorem dX10_assign_47 : decode cX10_assign 47 = .ok (.aload_n 0, 1) := by decide +kernel
theorem dX10_assign_48 : decode cX10_assign 48 = .ok (.getfield 33, 3) := by decide +kernel
theorem dX10_assign_51 : decode cX10_assign 51 = .ok (.getfield 279, 3) := by decide +kernel
theorem dX10_assign_54 : decode cX10_assign 54 = .ok (.iload_n 2, 1) := by decide +kernel
theorem dX10_assign_55 : decode cX10_assign 55 = .ok (.iaload, 1) := by decide +kernel
theorem dX10_assign_56 : decode cX10_assign 56 = .ok (.invokevirtual 282, 3) := by decide +kernel
theorem dX10_assign_59 : decode cX10_assign 59 = .ok (.ior, 1) := by decide +kernel
theorem dX10_assign_60 : decode cX10_assign 60 = .ok (.istore_n 1, 1) := by decide +kernel
theorem dX10_assign_61 : decode cX10_assign 61 = .ok (.iinc 2 1, 3) := by decide +kernel
theorem dX10_assign_64 : decode cX10_assign 64 = .ok (.goto (-42), 3) := by decide +kernel
theorem dX10_assign_67 : decode cX10_assign 67 = .ok (.aload_n 0, 1) := by decide +kernel
theorem dX10_assign_68 : decode cX10_assign 68 = .ok (.getfield 40, 3) := by decide +kernel
theorem dX10_assign_71 : decode cX10_assign 71 = .ok (.getfield 118, 3) := by decide +kernel
theorem dX10_assign_74 : decode cX10_assign 74 = .ok (.iconst 1, 1) := by decide +kernel
theorem dX10_assign_75 : decode cX10_assign 75 = .ok (.iconst (-1), 1) := by decide +kernel
theorem dX10_assign_76 : decode cX10_assign 76 = .ok (.iload_n 1, 1) := by decide +kernel
theorem dX10_assign_77 : decode cX10_assign 77 = .ok (.invokevirtual 270, 3) := by decide +kernel
theorem dX10_assign_80 : decode cX10_assign 80 = .ok (.aload_n 0, 1) := by decide +kernel
theorem dX10_assign_81 : decode cX10_assign 81 = .ok (.getfield 33, 3) := by decide +kernel
theorem dX10_assign_84 : decode cX10_assign 84 = .ok (.getfield 232, 3) := by decide +kernel
theorem dX10_assign_87 : decode cX10_assign 87 = .ok (.ireturn, 1) := by decide +kernel
theorem dX10_drop_0 : decode cX10_drop 0 = .ok (.aload_n 0, 1) := by decide +kernel
theorem dX10_drop_1 : decode cX10_drop 1 = .ok (.getfield 40, 3) := by decide +kernel
theorem dX10_drop_4 : decode cX10_drop 4 = .ok (.getfield 100, 3) := by decide +kernel
theorem dX10_drop_7 : decode cX10_drop 7 = .ok (.iload_n 1, 1) := by decide +kernel
theorem dX10_drop_8 : decode cX10_drop 8 = .ok (.invokevirtual 195, 3) := by decide +kernel
theorem dX10_drop_11 : decode cX10_drop 11 = .ok (.ifCond .eq 18, 3) := by decide +kernel
theorem dX10_drop_14 : decode cX10_drop 14 = .ok (.aload_n 0, 1) := by decide +kernel
theorem dX10_drop_15 : decode cX10_drop 15 = .ok (.getfield 40, 3) := by decide +kernel
theorem dX10_drop_18 : decode cX10_drop 18 = .ok (.getfield 100, 3) := by decide +kernel
theorem dX10_drop_21 : decode cX10_drop 21 = .ok (.getfield 202, 3) := by decide +kernel
theorem dX10_drop_24 : decode cX10_drop 24 = .ok (.iload_n 1, 1) := by decide +kernel
theorem dX10_drop_25 : decode cX10_drop 25 = .ok (.iaload, 1) := by decide +kernel
theorem dX10_drop_26 : decode cX10_drop 26 = .ok (.ifCond .eq 5, 3) := by decide +kernel
theorem dX10_drop_29 : decode cX10_drop 29 = .ok (.iconst 0, 1) := by decide +kernel
theorem dX10_drop_30 : decode cX10_drop 30 = .ok (.ireturn, 1) := by decide +kernel
theorem dX10_drop_31 : decode cX10_drop 31 = .ok (.aload_n 0, 1) := by decide +kernel
theorem dX10_drop_32 : decode cX10_drop 32 = .ok (.getfield 40, 3) := by decide +kernel
theorem dX10_drop_35 : decode cX10_drop 35 = .ok (.iload_n 1, 1) := by decide +kernel
theorem dX10_drop_36 : decode cX10_drop 36 = .ok (.invokevirtual 274, 3) := by decide +kernel
theorem dX10_drop_39 : decode cX10_drop 39 = .ok (.aload_n 0, 1) := by decide +kernel
theorem dX10_drop_40 : decode cX10_drop 40 = .ok (.getfield 40, 3) := by decide +kernel
theorem dX10_drop_43 : decode cX10_drop 43 = .ok (.getfield 118, 3) := by decide +kernel
theorem dX10_drop_46 : decode cX10_drop 46 = .ok (.iconst 2, 1) := by decide +kernel
theorem dX10_drop_47 : decode cX10_drop 47 = .ok (.iload_n 1, 1) := by decide +kernel
theorem dX10_drop_48 : decode cX10_drop 48 = .ok (.iconst 0, 1) := by decide +kernel
theorem dX10_drop_49 : decode cX10_drop 49 = .ok (.invokevirtual 270, 3) := by decide +kernel
theorem dX10_drop_52 : decode cX10_drop 52 = .ok (.iconst 1, 1) := by decide +kernel
theorem dX10_drop_53 : decode cX10_drop 53 = .ok (.ireturn, 1) := by decide +kernel
theorem dX10_end_0 : decode cX10_end 0 = .ok (.iload_n 1, 1) := by decide +kernel
theorem dX10_end_1 : decode cX10_end 1 = .ok (.ifCond .lt 14, 3) := by decide +kernel
theorem dX10_end_4 : decode cX10_end 4 = .ok (.iload_n 1, 1) := by decide +kernel
theorem dX10_end_5 : decode cX10_end 5 = .ok (.aload_n 0, 1) := by decide +kernel
theorem dX10_end_6 : decode cX10_end 6 = .ok (.getfield 10, 3) := by decide +kernel
theorem dX10_end_9 : decode cX10_end 9 = .ok (.getfield 47, 3) := by decide +kernel
theorem dX10_end_12 : decode cX10_end 12 = .ok (.if_icmp .le 5, 3) := by decide +kernel
theorem dX10_end_15 : decode cX10_end 15 = .ok (.iconst 0, 1) := by decide +kernel
theorem dX10_end_16 : decode cX10_end 16 = .ok (.ireturn, 1) := by decide +kernel
theorem dX10_end_17 : decode cX10_end 17 = .ok (.aload_n 0, 1) := by decide +kernel
theorem dX10_end_18 : decode cX10_end 18 = .ok (.getfield 10, 3) := by decide +kernel
theorem dX10_end_21 : decode cX10_end 21 = .ok (.iload_n 1, 1) := by decide +kernel
theorem dX10_end_22 : decode cX10_end 22 = .ok (.putfield 47, 3) := by decide +kernel
theorem dX10_end_25 : decode cX10_end 25 = .ok (.iconst 1, 1) := by decide +kernel
theorem dX10_end_26 : decode cX10_end 26 = .ok (.ireturn, 1) := by decide +kernel
theorem dX10_fault_0 : decode cX10_fault 0 = .ok (.aload_n 0, 1) := by decide +kernel
theorem dX10_fault_1 : decode cX10_fault 1 = .ok (.getfield 65, 3) := by decide +kernel
theorem dX10_fault_4 : decode cX10_fault 4 = .ok (.ireturn, 1) := by decide +kernel
theorem dX10_feed_0 : decode cX10_feed 0 = .ok (.aload_n 0, 1) := by decide +kernel
theorem dX10_feed_1 : decode cX10_feed 1 = .ok (.getfield 10, 3) := by decide +kernel
theorem dX10_feed_4 : decode cX10_feed 4 = .ok (.getfield 47, 3) := by decide +kernel
theorem dX10_feed_7 : decode cX10_feed 7 = .ok (.bipush 20, 2) := by decide +kernel
theorem dX10_feed_9 : decode cX10_feed 9 = .ok (.iadd, 1) := by decide +kernel
theorem dX10_feed_10 : decode cX10_feed 10 = .ok (.sipush 740, 3) := by decide +kernel
theorem dX10_feed_13 : decode cX10_feed 13 = .ok (.if_icmp .le 5, 3) := by decide +kernel
theorem dX10_feed_16 : decode cX10_feed 16 = .ok (.iconst (-1), 1) := by decide +kernel
theorem dX10_feed_17 : decode cX10_feed 17 = .ok (.ireturn, 1) := by decide +kernel
theorem dX10_feed_18 : decode cX10_feed 18 = .ok (.aload_n 0, 1) := by decide +kernel
theorem dX10_feed_19 : decode cX10_feed 19 = .ok (.getfield 10, 3) := by decide +kernel
theorem dX10_feed_22 : decode cX10_feed 22 = .ok (.iload_n 1, 1) := by decide +kernel
theorem dX10_feed_23 : decode cX10_feed 23 = .ok (.invokevirtual 51, 3) := by decide +kernel
theorem dX10_feed_26 : decode cX10_feed 26 = .ok (.aload_n 0, 1) := by decide +kernel
theorem dX10_feed_27 : decode cX10_feed 27 = .ok (.getfield 10, 3) := by decide +kernel
theorem dX10_feed_30 : decode cX10_feed 30 = .ok (.iload_n 2, 1) := by decide +kernel
theorem dX10_feed_31 : decode cX10_feed 31 = .ok (.invokevirtual 51, 3) := by decide +kernel
theorem dX10_feed_34 : decode cX10_feed 34 = .ok (.aload_n 0, 1) := by decide +kernel
theorem dX10_feed_35 : decode cX10_feed 35 = .ok (.getfield 10, 3) := by decide +kernel
theorem dX10_feed_38 : decode cX10_feed 38 = .ok (.iload_n 3, 1) := by decide +kernel
theorem dX10_feed_39 : decode cX10_feed 39 = .ok (.invokevirtual 51, 3) := by decide +kernel
theorem dX10_feed_42 : decode cX10_feed 42 = .ok (.aload_n 0, 1) := by decide +kernel
theorem dX10_feed_43 : decode cX10_feed 43 = .ok (.getfield 10, 3) := by decide +kernel
theorem dX10_feed_46 : decode cX10_feed 46 = .ok (.iload 4, 2) := by decide +kernel
theorem dX10_feed_48 : decode cX10_feed 48 = .ok (.invokevirtual 51, 3) := by decide +kernel
theorem dX10_feed_51 : decode cX10_feed 51 = .ok (.aload_n 0, 1) := by decide +kernel
theorem dX10_feed_52 : decode cX10_feed 52 = .ok (.getfield 10, 3) := by decide +kernel
theorem dX10_feed_55 : decode cX10_feed 55 = .ok (.iload 5, 2) := by decide +kernel
theorem dX10_feed_57 : decode cX10_feed 57 = .ok (.invokevirtual 51, 3) := by decide +kernel
theorem dX10_feed_60 : decode cX10_feed 60 = .ok (.aload_n 0, 1) := by decide +kernel
theorem dX10_feed_61 : decode cX10_feed 61 = .ok (.getfield 10, 3) := by decide +kernel
theorem dX10_feed_64 : decode cX10_feed 64 = .ok (.getfield 47, 3) := by decide +kernel
theorem dX10_feed_67 : decode cX10_feed 67 = .ok (.ireturn, 1) := by decide +kernel
theorem dX10_fits_0 : decode cX10_fits 0 = .ok (.aload_n 0, 1) := by decide +kernel
theorem dX10_fits_1 : decode cX10_fits 1 = .ok (.getfield 40, 3) := by decide +kernel
theorem dX10_fits_4 : decode cX10_fits 4 = .ok (.iload_n 1, 1) := by decide +kernel
theorem dX10_fits_5 : decode cX10_fits 5 = .ok (.iload_n 2, 1) := by decide +kernel
theorem dX10_fits_6 : decode cX10_fits 6 = .ok (.invokevirtual 221, 3) := by decide +kernel
theorem dX10_fits_9 : decode cX10_fits 9 = .ok (.ireturn, 1) := by decide +kernel
theorem dX10_free_0 : decode cX10_free 0 = .ok (.aload_n 0, 1) := by decide +kernel
theorem dX10_free_1 : decode cX10_free 1 = .ok (.getfield 40, 3) := by decide +kernel
theorem dX10_free_4 : decode cX10_free 4 = .ok (.getfield 77, 3) := by decide +kernel
theorem dX10_free_7 : decode cX10_free 7 = .ok (.iload_n 1, 1) := by decide +kernel
theorem dX10_free_8 : decode cX10_free 8 = .ok (.invokevirtual 249, 3) := by decide +kernel
theorem dX10_free_11 : decode cX10_free 11 = .ok (.ifCond .eq 14, 3) := by decide +kernel
theorem dX10_free_14 : decode cX10_free 14 = .ok (.iload_n 2, 1) := by decide +kernel
theorem dX10_free_15 : decode cX10_free 15 = .ok (.iconst 1, 1) := by decide +kernel
theorem dX10_free_16 : decode cX10_free 16 = .ok (.if_icmp .lt 9, 3) := by decide +kernel
theorem dX10_free_19 : decode cX10_free 19 = .ok (.iload_n 2, 1) := by decide +kernel
theorem dX10_free_20 : decode cX10_free 20 = .ok (.bipush 6, 2) := by decide +kernel
theorem dX10_free_22 : decode cX10_free 22 = .ok (.if_icmp .le 5, 3) := by decide +kernel
theorem dX10_free_25 : decode cX10_free 25 = .ok (.iconst (-1), 1) := by decide +kernel
theorem dX10_free_26 : decode cX10_free 26 = .ok (.ireturn, 1) := by decide +kernel
theorem dX10_free_27 : decode cX10_free 27 = .ok (.aload_n 0, 1) := by decide +kernel
theorem dX10_free_28 : decode cX10_free 28 = .ok (.getfield 40, 3) := by decide +kernel
theorem dX10_free_31 : decode cX10_free 31 = .ok (.getfield 86, 3) := by decide +kernel
theorem dX10_free_34 : decode cX10_free 34 = .ok (.astore_n 3, 1) := by decide +kernel
theorem dX10_free_35 : decode cX10_free 35 = .ok (.iconst 0, 1) := by decide +kernel
theorem dX10_free_36 : decode cX10_free 36 = .ok (.istore 4, 2) := by decide +kernel
theorem dX10_free_38 : decode cX10_free 38 = .ok (.iconst 0, 1) := by decide +kernel
theorem dX10_free_39 : decode cX10_free 39 = .ok (.istore 5, 2) := by decide +kernel
theorem dX10_free_41 : decode cX10_free 41 = .ok (.iload 5, 2) := by decide +kernel
theorem dX10_free_43 : decode cX10_free 43 = .ok (.aload_n 3, 1) := by decide +kernel
theorem dX10_free_44 : decode cX10_free 44 = .ok (.getfield 90, 3) := by decide +kernel
theorem dX10_free_47 : decode cX10_free 47 = .ok (.if_icmp .ge 42, 3) := by decide +kernel
theorem dX10_free_50 : decode cX10_free 50 = .ok (.aload_n 3, 1) := by decide +kernel
theorem dX10_free_51 : decode cX10_free 51 = .ok (.iload 5, 2) := by decide +kernel
theorem dX10_free_53 : decode cX10_free 53 = .ok (.iconst 1, 1) := by decide +kernel
theorem dX10_free_54 : decode cX10_free 54 = .ok (.iload_n 1, 1) := by decide +kernel
theorem dX10_free_55 : decode cX10_free 55 = .ok (.ishl, 1) := by decide +kernel
theorem dX10_free_56 : decode cX10_free 56 = .ok (.invokevirtual 250, 3) := by decide +kernel
theorem dX10_free_59 : decode cX10_free 59 = .ok (.ifCond .eq 24, 3) := by decide +kernel
theorem dX10_free_62 : decode cX10_free 62 = .ok (.aload_n 3, 1) := by decide +kernel
theorem dX10_free_63 : decode cX10_free 63 = .ok (.iload 5, 2) := by decide +kernel
theorem dX10_free_65 : decode cX10_free 65 = .ok (.iload_n 2, 1) := by decide +kernel
theorem dX10_free_66 : decode cX10_free 66 = .ok (.invokevirtual 253, 3) := by decide +kernel
theorem dX10_free_69 : decode cX10_free 69 = .ok (.ifCond .eq 14, 3) := by decide +kernel
theorem dX10_free_72 : decode cX10_free 72 = .ok (.iload 4, 2) := by decide +kernel
theorem dX10_free_74 : decode cX10_free 74 = .ok (.aload_n 3, 1) := by decide +kernel
theorem dX10_free_75 : decode cX10_free 75 = .ok (.iload 5, 2) := by decide +kernel
theorem dX10_free_77 : decode cX10_free 77 = .ok (.invokevirtual 153, 3) := by decide +kernel
theorem dX10_free_80 : decode cX10_free 80 = .ok (.iadd, 1) := by decide +kernel
theorem dX10_free_81 : decode cX10_free 81 = .ok (.istore 4, 2) := by decide +kernel
theorem dX10_free_83 : decode cX10_free 83 = .ok (.iinc 5 1, 3) := by decide +kernel
theorem dX10_free_86 : decode cX10_free 86 = .ok (.goto (-45), 3) := by decide +kernel
theorem dX10_free_89 : decode cX10_free 89 = .ok (.iload 4, 2) := by decide +kernel
theorem dX10_free_91 : decode cX10_free 91 = .ok (.ireturn, 1) := by decide +kernel
theorem dX10_handBack_0 : decode cX10_handBack 0 = .ok (.aload_n 0, 1) := by decide +kernel
theorem dX10_handBack_1 : decode cX10_handBack 1 = .ok (.getfield 40, 3) := by decide +kernel
theorem dX10_handBack_4 : decode cX10_handBack 4 = .ok (.getfield 86, 3) := by decide +kernel
theorem dX10_handBack_7 : decode cX10_handBack 7 = .ok (.astore_n 3, 1) := by decide +kernel
theorem dX10_handBack_8 : decode cX10_handBack 8 = .ok (.aload_n 3, 1) := by decide +kernel
theorem dX10_handBack_9 : decode cX10_handBack 9 = .ok (.iload_n 1, 1) := by decide +kernel
theorem dX10_handBack_10 : decode cX10_handBack 10 = .ok (.invokevirtual 127, 3) := by decide +kernel
theorem dX10_handBack_13 : decode cX10_handBack 13 = .ok (.ifCond .eq 18, 3) := by decide +kernel
theorem dX10_handBack_16 : decode cX10_handBack 16 = .ok (.iload_n 2, 1) := by decide +kernel
theorem dX10_handBack_17 : decode cX10_handBack 17 = .ok (.iconst 1, 1) := by decide +kernel
theorem dX10_handBack_18 : decode cX10_handBack 18 = .ok (.if_icmp .lt 13, 3) := by decide +kernel
theorem dX10_handBack_21 : decode cX10_handBack 21 = .ok (.iload_n 2, 1) := by decide +kernel
theorem dX10_handBack_22 : decode cX10_handBack 22 = .ok (.aload_n 3, 1) := by decide +kernel
theorem dX10_handBack_23 : decode cX10_handBack 23 = .ok (.getfield 160, 3) := by decide +kernel
theorem dX10_handBack_26 : decode cX10_handBack 26 = .ok (.iload_n 1, 1) := by decide +kernel
theorem dX10_handBack_27 : decode cX10_handBack 27 = .ok (.iaload, 1) := by decide +kernel
theorem dX10_handBack_28 : decode cX10_handBack 28 = .ok (.if_icmp .le 5, 3) := by decide +kernel
theorem dX10_handBack_31 : decode cX10_handBack 31 = .ok (.iconst (-1), 1) := by decide +kernel
theorem dX10_handBack_32 : decode cX10_handBack 32 = .ok (.ireturn, 1) := by decide +kernel
theorem dX10_handBack_33 : decode cX10_handBack 33 = .ok (.aload_n 3, 1) := by decide +kernel
theorem dX10_handBack_34 : decode cX10_handBack 34 = .ok (.iload_n 1, 1) := by decide +kernel
theorem dX10_handBack_35 : decode cX10_handBack 35 = .ok (.invokevirtual 169, 3) := by decide +kernel
theorem dX10_handBack_38 : decode cX10_handBack 38 = .ok (.istore 4, 2) := by decide +kernel
theorem dX10_handBack_40 : decode cX10_handBack 40 = .ok (.aload_n 3, 1) := by decide +kernel
theorem dX10_handBack_41 : decode cX10_handBack 41 = .ok (.iload_n 1, 1) := by decide +kernel
theorem dX10_handBack_42 : decode cX10_handBack 42 = .ok (.iload_n 2, 1) := by decide +kernel
theorem dX10_handBack_43 : decode cX10_handBack 43 = .ok (.invokevirtual 290, 3) := by decide +kernel
theorem dX10_handBack_46 : decode cX10_handBack 46 = .ok (.aload_n 0, 1) := by decide +kernel
theorem dX10_handBack_47 : decode cX10_handBack 47 = .ok (.getfield 40, 3) := by decide +kernel
theorem dX10_handBack_50 : decode cX10_handBack 50 = .ok (.getfield 118, 3) := by decide +kernel
theorem dX10_handBack_53 : decode cX10_handBack 53 = .ok (.iconst 4, 1) := by decide +kernel
theorem dX10_handBack_54 : decode cX10_handBack 54 = .ok (.iload_n 1, 1) := by decide +kernel
theorem dX10_handBack_55 : decode cX10_handBack 55 = .ok (.iload_n 2, 1) := by decide +kernel
theorem dX10_handBack_56 : decode cX10_handBack 56 = .ok (.invokevirtual 270, 3) := by decide +kernel
theorem dX10_handBack_59 : decode cX10_handBack 59 = .ok (.aload_n 3, 1) := by decide +kernel
theorem dX10_handBack_60 : decode cX10_handBack 60 = .ok (.iload_n 1, 1) := by decide +kernel
theorem dX10_handBack_61 : decode cX10_handBack 61 = .ok (.invokevirtual 169, 3) := by decide +kernel
theorem dX10_handBack_64 : decode cX10_handBack 64 = .ok (.iload 4, 2) := by decide +kernel
theorem dX10_handBack_66 : decode cX10_handBack 66 = .ok (.isub, 1) := by decide +kernel
theorem dX10_handBack_67 : decode cX10_handBack 67 = .ok (.ireturn, 1) := by decide +kernel
theorem dX10_home_0 : decode cX10_home 0 = .ok (.aload_n 0, 1) := by decide +kernel
theorem dX10_home_1 : decode cX10_home 1 = .ok (.getfield 40, 3) := by decide +kernel
theorem dX10_home_4 : decode cX10_home 4 = .ok (.getfield 93, 3) := by decide +kernel
theorem dX10_home_7 : decode cX10_home 7 = .ok (.iload_n 1, 1) := by decide +kernel
theorem dX10_home_8 : decode cX10_home 8 = .ok (.invokevirtual 172, 3) := by decide +kernel
theorem dX10_home_11 : decode cX10_home 11 = .ok (.ifCond .ne 13, 3) := by decide +kernel
theorem dX10_home_14 : decode cX10_home 14 = .ok (.new 173, 3) := by decide +kernel
theorem dX10_home_17 : decode cX10_home 17 = .ok (.dup, 1) := by decide +kernel
theorem dX10_home_18 : decode cX10_home 18 = .ok (.ldc 175, 2) := by decide +kernel
theorem dX10_home_20 : decode cX10_home 20 = .ok (.invokespecial 177, 3) := by decide +kernel
theorem dX10_home_23 : decode cX10_home 23 = .ok (.athrow, 1) := by decide +kernel
theorem dX10_home_24 : decode cX10_home 24 = .ok (.aload_n 0, 1) := by decide +kernel
theorem dX10_home_25 : decode cX10_home 25 = .ok (.getfield 40, 3) := by decide +kernel
theorem dX10_home_28 : decode cX10_home 28 = .ok (.iload_n 1, 1) := by decide +kernel
theorem dX10_home_29 : decode cX10_home 29 = .ok (.invokevirtual 285, 3) := by decide +kernel
theorem dX10_home_32 : decode cX10_home 32 = .ok (.ifCond .ne 14, 3) := by decide +kernel
theorem dX10_home_35 : decode cX10_home 35 = .ok (.new 173, 3) := by decide +kernel
theorem dX10_home_38 : decode cX10_home 38 = .ok (.dup, 1) := by decide +kernel
theorem dX10_home_39 : decode cX10_home 39 = .ok (.ldc_w 288, 3) := by decide +kernel
theorem dX10_home_42 : decode cX10_home 42 = .ok (.invokespecial 177, 3) := by decide +kernel
theorem dX10_home_45 : decode cX10_home 45 = .ok (.athrow, 1) := by decide +kernel
theorem dX10_home_46 : decode cX10_home 46 = .ok (.aload_n 0, 1) := by decide +kernel
theorem dX10_home_47 : decode cX10_home 47 = .ok (.getfield 40, 3) := by decide +kernel
theorem dX10_home_50 : decode cX10_home 50 = .ok (.getfield 93, 3) := by decide +kernel
theorem dX10_home_53 : decode cX10_home 53 = .ok (.getfield 184, 3) := by decide +kernel
theorem dX10_home_56 : decode cX10_home 56 = .ok (.iload_n 1, 1) := by decide +kernel
theorem dX10_home_57 : decode cX10_home 57 = .ok (.iaload, 1) := by decide +kernel
theorem dX10_home_58 : decode cX10_home 58 = .ok (.istore_n 2, 1) := by decide +kernel
theorem dX10_home_59 : decode cX10_home 59 = .ok (.aload_n 0, 1) := by decide +kernel
theorem dX10_home_60 : decode cX10_home 60 = .ok (.getfield 40, 3) := by decide +kernel
theorem dX10_home_63 : decode cX10_home 63 = .ok (.iload_n 2, 1) := by decide +kernel
theorem dX10_home_64 : decode cX10_home 64 = .ok (.invokevirtual 274, 3) := by decide +kernel
theorem dX10_home_67 : decode cX10_home 67 = .ok (.aload_n 0, 1) := by decide +kernel
theorem dX10_home_68 : decode cX10_home 68 = .ok (.getfield 40, 3) := by decide +kernel
theorem dX10_home_71 : decode cX10_home 71 = .ok (.getfield 118, 3) := by decide +kernel
theorem dX10_home_74 : decode cX10_home 74 = .ok (.iconst 2, 1) := by decide +kernel
theorem dX10_home_75 : decode cX10_home 75 = .ok (.iload_n 2, 1) := by decide +kernel
theorem dX10_home_76 : decode cX10_home 76 = .ok (.iconst 0, 1) := by decide +kernel
theorem dX10_home_77 : decode cX10_home 77 = .ok (.invokevirtual 270, 3) := by decide +kernel
theorem dX10_home_80 : decode cX10_home 80 = .ok (.aload_n 0, 1) := by decide +kernel
theorem dX10_home_81 : decode cX10_home 81 = .ok (.getfield 40, 3) := by decide +kernel
theorem dX10_home_84 : decode cX10_home 84 = .ok (.getfield 74, 3) := by decide +kernel
theorem dX10_home_87 : decode cX10_home 87 = .ok (.aload_n 0, 1) := by decide +kernel
theorem dX10_home_88 : decode cX10_home 88 = .ok (.getfield 40, 3) := by decide +kernel
theorem dX10_home_91 : decode cX10_home 91 = .ok (.getfield 100, 3) := by decide +kernel
theorem dX10_home_94 : decode cX10_home 94 = .ok (.getfield 208, 3) := by decide +kernel
theorem dX10_home_97 : decode cX10_home 97 = .ok (.iload_n 2, 1) := by decide +kernel
theorem dX10_home_98 : decode cX10_home 98 = .ok (.iaload, 1) := by decide +kernel
theorem dX10_home_99 : decode cX10_home 99 = .ok (.isub, 1) := by decide +kernel
theorem dX10_home_100 : decode cX10_home 100 = .ok (.ireturn, 1) := by decide +kernel
theorem dX10_lawful_0 : decode cX10_lawful 0 = .ok (.aload_n 0, 1) := by decide +kernel
theorem dX10_lawful_1 : decode cX10_lawful 1 = .ok (.getfield 40, 3) := by decide +kernel
theorem dX10_lawful_4 : decode cX10_lawful 4 = .ok (.getfield 93, 3) := by decide +kernel
theorem dX10_lawful_7 : decode cX10_lawful 7 = .ok (.iload_n 1, 1) := by decide +kernel
theorem dX10_lawful_8 : decode cX10_lawful 8 = .ok (.invokevirtual 172, 3) := by decide +kernel
theorem dX10_lawful_11 : decode cX10_lawful 11 = .ok (.ifCond .eq 17, 3) := by decide +kernel
theorem dX10_lawful_14 : decode cX10_lawful 14 = .ok (.aload_n 0, 1) := by decide +kernel
theorem dX10_lawful_15 : decode cX10_lawful 15 = .ok (.getfield 40, 3) := by decide +kernel
theorem dX10_lawful_18 : decode cX10_lawful 18 = .ok (.getfield 77, 3) := by decide +kernel
theorem dX10_lawful_21 : decode cX10_lawful 21 = .ok (.iload_n 2, 1) := by decide +kernel
theorem dX10_lawful_22 : decode cX10_lawful 22 = .ok (.invokevirtual 249, 3) := by decide +kernel
theorem dX10_lawful_25 : decode cX10_lawful 25 = .ok (.ifCond .ne 5, 3) := by decide +kernel
theorem dX10_lawful_28 : decode cX10_lawful 28 = .ok (.iconst (-1), 1) := by decide +kernel
theorem dX10_lawful_29 : decode cX10_lawful 29 = .ok (.ireturn, 1) := by decide +kernel
theorem dX10_lawful_30 : decode cX10_lawful 30 = .ok (.aload_n 0, 1) := by decide +kernel
theorem dX10_lawful_31 : decode cX10_lawful 31 = .ok (.getfield 40, 3) := by decide +kernel
theorem dX10_lawful_34 : decode cX10_lawful 34 = .ok (.iload_n 1, 1) := by decide +kernel
theorem dX10_lawful_35 : decode cX10_lawful 35 = .ok (.iload_n 2, 1) := by decide +kernel
theorem dX10_lawful_36 : decode cX10_lawful 36 = .ok (.invokevirtual 260, 3) := by decide +kernel
theorem dX10_lawful_39 : decode cX10_lawful 39 = .ok (.ireturn, 1) := by decide +kernel
theorem dX10_ledger_0 : decode cX10_ledger 0 = .ok (.aload_n 0, 1) := by decide +kernel
theorem dX10_ledger_1 : decode cX10_ledger 1 = .ok (.getfield 40, 3) := by decide +kernel
theorem dX10_ledger_4 : decode cX10_ledger 4 = .ok (.getfield 86, 3) := by decide +kernel
theorem dX10_ledger_7 : decode cX10_ledger 7 = .ok (.astore_n 3, 1) := by decide +kernel
theorem dX10_ledger_8 : decode cX10_ledger 8 = .ok (.aload_n 3, 1) := by decide +kernel
theorem dX10_ledger_9 : decode cX10_ledger 9 = .ok (.iload_n 1, 1) := by decide +kernel
theorem dX10_ledger_10 : decode cX10_ledger 10 = .ok (.invokevirtual 127, 3) := by decide +kernel
theorem dX10_ledger_13 : decode cX10_ledger 13 = .ok (.ifCond .ne 5, 3) := by decide +kernel
theorem dX10_ledger_16 : decode cX10_ledger 16 = .ok (.iconst (-1), 1) := by decide +kernel
theorem dX10_ledger_17 : decode cX10_ledger 17 = .ok (.ireturn, 1) := by decide +kernel
theorem dX10_ledger_18 : decode cX10_ledger 18 = .ok (.iload_n 2, 1) := by decide +kernel
theorem dX10_ledger_19 : decode cX10_ledger 19 = .ok (.tableswitch 76 0 5 #[37, 43, 49, 56, 63, 70], 37) := by decide +kernel
theorem dX10_ledger_56 : decode cX10_ledger 56 = .ok (.aload_n 3, 1) := by decide +kernel
theorem dX10_ledger_57 : decode cX10_ledger 57 = .ok (.iload_n 1, 1) := by decide +kernel
theorem dX10_ledger_58 : decode cX10_ledger 58 = .ok (.invokevirtual 156, 3) := by decide +kernel
theorem dX10_ledger_61 : decode cX10_ledger 61 = .ok (.ireturn, 1) := by decide +kernel
theorem dX10_ledger_62 : decode cX10_ledger 62 = .ok (.aload_n 3, 1) := by decide +kernel
theorem dX10_ledger_63 : decode cX10_ledger 63 = .ok (.iload_n 1, 1) := by decide +kernel
theorem dX10_ledger_64 : decode cX10_ledger 64 = .ok (.invokevirtual 157, 3) := by decide +kernel
theorem dX10_ledger_67 : decode cX10_ledger 67 = .ok (.ireturn, 1) := by decide +kernel
theorem dX10_ledger_68 : decode cX10_ledger 68 = .ok (.aload_n 3, 1) := by decide +kernel
theorem dX10_ledger_69 : decode cX10_ledger 69 = .ok (.getfield 160, 3) := by decide +kernel
theorem dX10_ledger_72 : decode cX10_ledger 72 = .ok (.iload_n 1, 1) := by decide +kernel
theorem dX10_ledger_73 : decode cX10_ledger 73 = .ok (.iaload, 1) := by decide +kernel
theorem dX10_ledger_74 : decode cX10_ledger 74 = .ok (.ireturn, 1) := by decide +kernel
theorem dX10_ledger_75 : decode cX10_ledger 75 = .ok (.aload_n 3, 1) := by decide +kernel
theorem dX10_ledger_76 : decode cX10_ledger 76 = .ok (.getfield 163, 3) := by decide +kernel
theorem dX10_ledger_79 : decode cX10_ledger 79 = .ok (.iload_n 1, 1) := by decide +kernel
theorem dX10_ledger_80 : decode cX10_ledger 80 = .ok (.iaload, 1) := by decide +kernel
theorem dX10_ledger_81 : decode cX10_ledger 81 = .ok (.ireturn, 1) := by decide +kernel
theorem dX10_ledger_82 : decode cX10_ledger 82 = .ok (.aload_n 3, 1) := by decide +kernel
theorem dX10_ledger_83 : decode cX10_ledger 83 = .ok (.getfield 166, 3) := by decide +kernel
theorem dX10_ledger_86 : decode cX10_ledger 86 = .ok (.iload_n 1, 1) := by decide +kernel
theorem dX10_ledger_87 : decode cX10_ledger 87 = .ok (.iaload, 1) := by decide +kernel
theorem dX10_ledger_88 : decode cX10_ledger 88 = .ok (.ireturn, 1) := by decide +kernel
theorem dX10_ledger_89 : decode cX10_ledger 89 = .ok (.aload_n 3, 1) := by decide +kernel
theorem dX10_ledger_90 : decode cX10_ledger 90 = .ok (.iload_n 1, 1) := by decide +kernel
theorem dX10_ledger_91 : decode cX10_ledger 91 = .ok (.invokevirtual 169, 3) := by decide +kernel
theorem dX10_ledger_94 : decode cX10_ledger 94 = .ok (.ireturn, 1) := by decide +kernel
theorem dX10_ledger_95 : decode cX10_ledger 95 = .ok (.iconst (-1), 1) := by decide +kernel
theorem dX10_ledger_96 : decode cX10_ledger 96 = .ok (.ireturn, 1) := by decide +kernel
theorem dX10_lorry_0 : decode cX10_lorry 0 = .ok (.aload_n 0, 1) := by decide +kernel
theorem dX10_lorry_1 : decode cX10_lorry 1 = .ok (.getfield 40, 3) := by decide +kernel
theorem dX10_lorry_4 : decode cX10_lorry 4 = .ok (.getfield 93, 3) := by decide +kernel
theorem dX10_lorry_7 : decode cX10_lorry 7 = .ok (.astore_n 3, 1) := by decide +kernel
theorem dX10_lorry_8 : decode cX10_lorry 8 = .ok (.aload_n 3, 1) := by decide +kernel
theorem dX10_lorry_9 : decode cX10_lorry 9 = .ok (.iload_n 1, 1) := by decide +kernel
theorem dX10_lorry_10 : decode cX10_lorry 10 = .ok (.invokevirtual 172, 3) := by decide +kernel
theorem dX10_lorry_13 : decode cX10_lorry 13 = .ok (.ifCond .ne 13, 3) := by decide +kernel
theorem dX10_lorry_16 : decode cX10_lorry 16 = .ok (.new 173, 3) := by decide +kernel
theorem dX10_lorry_19 : decode cX10_lorry 19 = .ok (.dup, 1) := by decide +kernel
theorem dX10_lorry_20 : decode cX10_lorry 20 = .ok (.ldc 175, 2) := by decide +kernel
theorem dX10_lorry_22 : decode cX10_lorry 22 = .ok (.invokespecial 177, 3) := by decide +kernel
theorem dX10_lorry_25 : decode cX10_lorry 25 = .ok (.athrow, 1) := by decide +kernel
theorem dX10_lorry_26 : decode cX10_lorry 26 = .ok (.iload_n 2, 1) := by decide +kernel
theorem dX10_lorry_27 : decode cX10_lorry 27 = .ok (.tableswitch 68 0 4 #[33, 40, 47, 54, 61], 33) := by decide +kernel
theorem dX10_lorry_60 : decode cX10_lorry 60 = .ok (.aload_n 3, 1) := by decide +kernel
theorem dX10_lorry_61 : decode cX10_lorry 61 = .ok (.getfield 180, 3) := by decide +kernel
theorem dX10_lorry_64 : decode cX10_lorry 64 = .ok (.iload_n 1, 1) := by decide +kernel
theorem dX10_lorry_65 : decode cX10_lorry 65 = .ok (.iaload, 1) := by decide +kernel
theorem dX10_lorry_66 : decode cX10_lorry 66 = .ok (.ireturn, 1) := by decide +kernel
theorem dX10_lorry_67 : decode cX10_lorry 67 = .ok (.aload_n 3, 1) := by decide +kernel
theorem dX10_lorry_68 : decode cX10_lorry 68 = .ok (.getfield 183, 3) := by decide +kernel
theorem dX10_lorry_71 : decode cX10_lorry 71 = .ok (.iload_n 1, 1) := by decide +kernel
theorem dX10_lorry_72 : decode cX10_lorry 72 = .ok (.iaload, 1) := by decide +kernel
theorem dX10_lorry_73 : decode cX10_lorry 73 = .ok (.ireturn, 1) := by decide +kernel
theorem dX10_lorry_74 : decode cX10_lorry 74 = .ok (.aload_n 3, 1) := by decide +kernel
theorem dX10_lorry_75 : decode cX10_lorry 75 = .ok (.getfield 184, 3) := by decide +kernel
theorem dX10_lorry_78 : decode cX10_lorry 78 = .ok (.iload_n 1, 1) := by decide +kernel
theorem dX10_lorry_79 : decode cX10_lorry 79 = .ok (.iaload, 1) := by decide +kernel
theorem dX10_lorry_80 : decode cX10_lorry 80 = .ok (.ireturn, 1) := by decide +kernel
theorem dX10_lorry_81 : decode cX10_lorry 81 = .ok (.aload_n 3, 1) := by decide +kernel
theorem dX10_lorry_82 : decode cX10_lorry 82 = .ok (.getfield 187, 3) := by decide +kernel
theorem dX10_lorry_85 : decode cX10_lorry 85 = .ok (.iload_n 1, 1) := by decide +kernel
theorem dX10_lorry_86 : decode cX10_lorry 86 = .ok (.iaload, 1) := by decide +kernel
theorem dX10_lorry_87 : decode cX10_lorry 87 = .ok (.ireturn, 1) := by decide +kernel
theorem dX10_lorry_88 : decode cX10_lorry 88 = .ok (.aload_n 3, 1) := by decide +kernel
theorem dX10_lorry_89 : decode cX10_lorry 89 = .ok (.getfield 190, 3) := by decide +kernel
theorem dX10_lorry_92 : decode cX10_lorry 92 = .ok (.iload_n 1, 1) := by decide +kernel
theorem dX10_lorry_93 : decode cX10_lorry 93 = .ok (.iaload, 1) := by decide +kernel
theorem dX10_lorry_94 : decode cX10_lorry 94 = .ok (.ireturn, 1) := by decide +kernel
theorem dX10_lorry_95 : decode cX10_lorry 95 = .ok (.new 173, 3) := by decide +kernel
theorem dX10_lorry_98 : decode cX10_lorry 98 = .ok (.dup, 1) := by decide +kernel
theorem dX10_lorry_99 : decode cX10_lorry 99 = .ok (.ldc 193, 2) := by decide +kernel
theorem dX10_lorry_101 : decode cX10_lorry 101 = .ok (.invokespecial 177, 3) := by decide +kernel
theorem dX10_lorry_104 : decode cX10_lorry 104 = .ok (.athrow, 1) := by decide +kernel
theorem dX10_needs_0 : decode cX10_needs 0 = .ok (.aload_n 0, 1) := by decide +kernel
theorem dX10_needs_1 : decode cX10_needs 1 = .ok (.getfield 40, 3) := by decide +kernel
theorem dX10_needs_4 : decode cX10_needs 4 = .ok (.getfield 86, 3) := by decide +kernel
theorem dX10_needs_7 : decode cX10_needs 7 = .ok (.iload_n 1, 1) := by decide +kernel
theorem dX10_needs_8 : decode cX10_needs 8 = .ok (.invokevirtual 127, 3) := by decide +kernel
theorem dX10_needs_11 : decode cX10_needs 11 = .ok (.ifCond .ne 5, 3) := by decide +kernel
theorem dX10_needs_14 : decode cX10_needs 14 = .ok (.iconst (-1), 1) := by decide +kernel
theorem dX10_needs_15 : decode cX10_needs 15 = .ok (.ireturn, 1) := by decide +kernel
theorem dX10_needs_16 : decode cX10_needs 16 = .ok (.aload_n 0, 1) := by decide +kernel
theorem dX10_needs_17 : decode cX10_needs 17 = .ok (.getfield 33, 3) := by decide +kernel
theorem dX10_needs_20 : decode cX10_needs 20 = .ok (.aload_n 0, 1) := by decide +kernel
theorem dX10_needs_21 : decode cX10_needs 21 = .ok (.getfield 40, 3) := by decide +kernel
theorem dX10_needs_24 : decode cX10_needs 24 = .ok (.invokevirtual 225, 3) := by decide +kernel
theorem dX10_needs_27 : decode cX10_needs 27 = .ok (.iconst 0, 1) := by decide +kernel
theorem dX10_needs_28 : decode cX10_needs 28 = .ok (.istore_n 2, 1) := by decide +kernel
theorem dX10_needs_29 : decode cX10_needs 29 = .ok (.iload_n 2, 1) := by decide +kernel
theorem dX10_needs_30 : decode cX10_needs 30 = .ok (.bipush 8, 2) := by decide +kernel
theorem dX10_needs_32 : decode cX10_needs 32 = .ok (.if_icmp .gt 44, 3) := by decide +kernel
theorem dX10_needs_35 : decode cX10_needs 35 = .ok (.aload_n 0, 1) := by decide +kernel
theorem dX10_needs_36 : decode cX10_needs 36 = .ok (.getfield 33, 3) := by decide +kernel
theorem dX10_needs_39 : decode cX10_needs 39 = .ok (.invokevirtual 229, 3) := by decide +kernel
theorem dX10_needs_42 : decode cX10_needs 42 = .ok (.aload_n 0, 1) := by decide +kernel
theorem dX10_needs_43 : decode cX10_needs 43 = .ok (.getfield 33, 3) := by decide +kernel
theorem dX10_needs_46 : decode cX10_needs 46 = .ok (.getfield 232, 3) := by decide +kernel
theorem dX10_needs_49 : decode cX10_needs 49 = .ok (.aload_n 0, 1) := by decide +kernel
theorem dX10_needs_50 : decode cX10_needs 50 = .ok (.getfield 33, 3) := by decide +kernel
theorem dX10_needs_53 : decode cX10_needs 53 = .ok (.getfield 246, 3) := by decide +kernel
theorem dX10_needs_56 : decode cX10_needs 56 = .ok (.if_icmp .ne 5, 3) := by decide +kernel
theorem dX10_needs_59 : decode cX10_needs 59 = .ok (.iload_n 2, 1) := by decide +kernel
theorem dX10_needs_60 : decode cX10_needs 60 = .ok (.ireturn, 1) := by decide +kernel
theorem dX10_needs_61 : decode cX10_needs 61 = .ok (.aload_n 0, 1) := by decide +kernel
theorem dX10_needs_62 : decode cX10_needs 62 = .ok (.getfield 33, 3) := by decide +kernel
theorem dX10_needs_65 : decode cX10_needs 65 = .ok (.iload_n 1, 1) := by decide +kernel
theorem dX10_needs_66 : decode cX10_needs 66 = .ok (.iconst 1, 1) := by decide +kernel
theorem dX10_needs_67 : decode cX10_needs 67 = .ok (.invokevirtual 242, 3) := by decide +kernel
theorem dX10_needs_70 : decode cX10_needs 70 = .ok (.iinc 2 1, 3) := by decide +kernel
theorem dX10_needs_73 : decode cX10_needs 73 = .ok (.goto (-44), 3) := by decide +kernel
theorem dX10_needs_76 : decode cX10_needs 76 = .ok (.bipush (-2), 2) := by decide +kernel
theorem dX10_needs_78 : decode cX10_needs 78 = .ok (.ireturn, 1) := by decide +kernel
theorem dX10_now_0 : decode cX10_now 0 = .ok (.iload_n 1, 1) := by decide +kernel
theorem dX10_now_1 : decode cX10_now 1 = .ok (.tableswitch 176 0 10 #[59, 67, 78, 89, 100, 111, 123, 135, 146, 157, 168], 59) := by decide +kernel
theorem dX10_now_60 : decode cX10_now 60 = .ok (.aload_n 0, 1) := by decide +kernel
theorem dX10_now_61 : decode cX10_now 61 = .ok (.getfield 40, 3) := by decide +kernel
theorem dX10_now_64 : decode cX10_now 64 = .ok (.getfield 74, 3) := by decide +kernel
theorem dX10_now_67 : decode cX10_now 67 = .ok (.ireturn, 1) := by decide +kernel
theorem dX10_now_68 : decode cX10_now 68 = .ok (.aload_n 0, 1) := by decide +kernel
theorem dX10_now_69 : decode cX10_now 69 = .ok (.getfield 40, 3) := by decide +kernel
theorem dX10_now_72 : decode cX10_now 72 = .ok (.getfield 77, 3) := by decide +kernel
theorem dX10_now_75 : decode cX10_now 75 = .ok (.getfield 81, 3) := by decide +kernel
theorem dX10_now_78 : decode cX10_now 78 = .ok (.ireturn, 1) := by decide +kernel
theorem dX10_now_79 : decode cX10_now 79 = .ok (.aload_n 0, 1) := by decide +kernel
theorem dX10_now_80 : decode cX10_now 80 = .ok (.getfield 40, 3) := by decide +kernel
theorem dX10_now_83 : decode cX10_now 83 = .ok (.getfield 86, 3) := by decide +kernel
theorem dX10_now_86 : decode cX10_now 86 = .ok (.getfield 90, 3) := by decide +kernel
theorem dX10_now_89 : decode cX10_now 89 = .ok (.ireturn, 1) := by decide +kernel
theorem dX10_now_90 : decode cX10_now 90 = .ok (.aload_n 0, 1) := by decide +kernel
theorem dX10_now_91 : decode cX10_now 91 = .ok (.getfield 40, 3) := by decide +kernel
theorem dX10_now_94 : decode cX10_now 94 = .ok (.getfield 93, 3) := by decide +kernel
theorem dX10_now_97 : decode cX10_now 97 = .ok (.getfield 97, 3) := by decide +kernel
theorem dX10_now_100 : decode cX10_now 100 = .ok (.ireturn, 1) := by decide +kernel
theorem dX10_now_101 : decode cX10_now 101 = .ok (.aload_n 0, 1) := by decide +kernel
theorem dX10_now_102 : decode cX10_now 102 = .ok (.getfield 40, 3) := by decide +kernel
theorem dX10_now_105 : decode cX10_now 105 = .ok (.getfield 100, 3) := by decide +kernel
theorem dX10_now_108 : decode cX10_now 108 = .ok (.getfield 104, 3) := by decide +kernel
theorem dX10_now_111 : decode cX10_now 111 = .ok (.ireturn, 1) := by decide +kernel
theorem dX10_now_112 : decode cX10_now 112 = .ok (.aload_n 0, 1) := by decide +kernel
theorem dX10_now_113 : decode cX10_now 113 = .ok (.getfield 40, 3) := by decide +kernel
theorem dX10_now_116 : decode cX10_now 116 = .ok (.getfield 100, 3) := by decide +kernel
theorem dX10_now_119 : decode cX10_now 119 = .ok (.iconst 0, 1) := by decide +kernel
theorem dX10_now_120 : decode cX10_now 120 = .ok (.invokevirtual 107, 3) := by decide +kernel
theorem dX10_now_123 : decode cX10_now 123 = .ok (.ireturn, 1) := by decide +kernel
theorem dX10_now_124 : decode cX10_now 124 = .ok (.aload_n 0, 1) := by decide +kernel
theorem dX10_now_125 : decode cX10_now 125 = .ok (.getfield 40, 3) := by decide +kernel
theorem dX10_now_128 : decode cX10_now 128 = .ok (.getfield 100, 3) := by decide +kernel
theorem dX10_now_131 : decode cX10_now 131 = .ok (.iconst 1, 1) := by decide +kernel
theorem dX10_now_132 : decode cX10_now 132 = .ok (.invokevirtual 107, 3) := by decide +kernel
theorem dX10_now_135 : decode cX10_now 135 = .ok (.ireturn, 1) := by decide +kernel
theorem dX10_now_136 : decode cX10_now 136 = .ok (.aload_n 0, 1) := by decide +kernel
theorem dX10_now_137 : decode cX10_now 137 = .ok (.getfield 40, 3) := by decide +kernel
theorem dX10_now_140 : decode cX10_now 140 = .ok (.getfield 77, 3) := by decide +kernel
theorem dX10_now_143 : decode cX10_now 143 = .ok (.getfield 111, 3) := by decide +kernel
theorem dX10_now_146 : decode cX10_now 146 = .ok (.ireturn, 1) := by decide +kernel
theorem dX10_now_147 : decode cX10_now 147 = .ok (.aload_n 0, 1) := by decide +kernel
theorem dX10_now_148 : decode cX10_now 148 = .ok (.getfield 40, 3) := by decide +kernel
theorem dX10_now_151 : decode cX10_now 151 = .ok (.getfield 93, 3) := by decide +kernel
theorem dX10_now_154 : decode cX10_now 154 = .ok (.invokevirtual 114, 3) := by decide +kernel
theorem dX10_now_157 : decode cX10_now 157 = .ok (.ireturn, 1) := by decide +kernel
theorem dX10_now_158 : decode cX10_now 158 = .ok (.aload_n 0, 1) := by decide +kernel
theorem dX10_now_159 : decode cX10_now 159 = .ok (.getfield 40, 3) := by decide +kernel
theorem dX10_now_162 : decode cX10_now 162 = .ok (.getfield 118, 3) := by decide +kernel
theorem dX10_now_165 : decode cX10_now 165 = .ok (.getfield 122, 3) := by decide +kernel
theorem dX10_now_168 : decode cX10_now 168 = .ok (.ireturn, 1) := by decide +kernel
theorem dX10_now_169 : decode cX10_now 169 = .ok (.aload_n 0, 1) := by decide +kernel
theorem dX10_now_170 : decode cX10_now 170 = .ok (.getfield 10, 3) := by decide +kernel
theorem dX10_now_173 : decode cX10_now 173 = .ok (.getfield 47, 3) := by decide +kernel
theorem dX10_now_176 : decode cX10_now 176 = .ok (.ireturn, 1) := by decide +kernel
theorem dX10_now_177 : decode cX10_now 177 = .ok (.iconst (-1), 1) := by decide +kernel
theorem dX10_now_178 : decode cX10_now 178 = .ok (.ireturn, 1) := by decide +kernel
theorem dX10_pass_0 : decode cX10_pass 0 = .ok (.iload_n 1, 1) := by decide +kernel
theorem dX10_pass_1 : decode cX10_pass 1 = .ok (.iconst 1, 1) := by decide +kernel
theorem dX10_pass_2 : decode cX10_pass 2 = .ok (.if_icmp .lt 24, 3) := by decide +kernel
theorem dX10_pass_5 : decode cX10_pass 5 = .ok (.iload_n 1, 1) := by decide +kernel
theorem dX10_pass_6 : decode cX10_pass 6 = .ok (.bipush 99, 2) := by decide +kernel
theorem dX10_pass_8 : decode cX10_pass 8 = .ok (.if_icmp .gt 18, 3) := by decide +kernel
theorem dX10_pass_11 : decode cX10_pass 11 = .ok (.aload_n 0, 1) := by decide +kernel
theorem dX10_pass_12 : decode cX10_pass 12 = .ok (.getfield 40, 3) := by decide +kernel
theorem dX10_pass_15 : decode cX10_pass 15 = .ok (.getfield 74, 3) := by decide +kernel
theorem dX10_pass_18 : decode cX10_pass 18 = .ok (.iload_n 1, 1) := by decide +kernel
theorem dX10_pass_19 : decode cX10_pass 19 = .ok (.iadd, 1) := by decide +kernel
theorem dX10_pass_20 : decode cX10_pass 20 = .ok (.sipush 999, 3) := by decide +kernel
theorem dX10_pass_23 : decode cX10_pass 23 = .ok (.if_icmp .le 5, 3) := by decide +kernel
theorem dX10_pass_26 : decode cX10_pass 26 = .ok (.iconst (-1), 1) := by decide +kernel
theorem dX10_pass_27 : decode cX10_pass 27 = .ok (.ireturn, 1) := by decide +kernel
theorem dX10_pass_28 : decode cX10_pass 28 = .ok (.aload_n 0, 1) := by decide +kernel
theorem dX10_pass_29 : decode cX10_pass 29 = .ok (.getfield 40, 3) := by decide +kernel
theorem dX10_pass_32 : decode cX10_pass 32 = .ok (.dup, 1) := by decide +kernel
theorem dX10_pass_33 : decode cX10_pass 33 = .ok (.getfield 74, 3) := by decide +kernel
theorem dX10_pass_36 : decode cX10_pass 36 = .ok (.iload_n 1, 1) := by decide +kernel
theorem dX10_pass_37 : decode cX10_pass 37 = .ok (.iadd, 1) := by decide +kernel
theorem dX10_pass_38 : decode cX10_pass 38 = .ok (.putfield 74, 3) := by decide +kernel
theorem dX10_pass_41 : decode cX10_pass 41 = .ok (.aload_n 0, 1) := by decide +kernel
theorem dX10_pass_42 : decode cX10_pass 42 = .ok (.getfield 40, 3) := by decide +kernel
theorem dX10_pass_45 : decode cX10_pass 45 = .ok (.getfield 118, 3) := by decide +kernel
theorem dX10_pass_48 : decode cX10_pass 48 = .ok (.iconst 5, 1) := by decide +kernel
theorem dX10_pass_49 : decode cX10_pass 49 = .ok (.iconst (-1), 1) := by decide +kernel
theorem dX10_pass_50 : decode cX10_pass 50 = .ok (.iload_n 1, 1) := by decide +kernel
theorem dX10_pass_51 : decode cX10_pass 51 = .ok (.invokevirtual 270, 3) := by decide +kernel
theorem dX10_pass_54 : decode cX10_pass 54 = .ok (.aload_n 0, 1) := by decide +kernel
theorem dX10_pass_55 : decode cX10_pass 55 = .ok (.getfield 40, 3) := by decide +kernel
theorem dX10_pass_58 : decode cX10_pass 58 = .ok (.getfield 74, 3) := by decide +kernel
theorem dX10_pass_61 : decode cX10_pass 61 = .ok (.ireturn, 1) := by decide +kernel
theorem dX10_plan_0 : decode cX10_plan 0 = .ok (.iload_n 1, 1) := by decide +kernel
theorem dX10_plan_1 : decode cX10_plan 1 = .ok (.ifCond .eq 16, 3) := by decide +kernel
theorem dX10_plan_4 : decode cX10_plan 4 = .ok (.iload_n 1, 1) := by decide +kernel
theorem dX10_plan_5 : decode cX10_plan 5 = .ok (.iconst 1, 1) := by decide +kernel
theorem dX10_plan_6 : decode cX10_plan 6 = .ok (.if_icmp .eq 11, 3) := by decide +kernel
theorem dX10_plan_9 : decode cX10_plan 9 = .ok (.iload_n 1, 1) := by decide +kernel
theorem dX10_plan_10 : decode cX10_plan 10 = .ok (.bipush 10, 2) := by decide +kernel
theorem dX10_plan_12 : decode cX10_plan 12 = .ok (.if_icmp .ge 5, 3) := by decide +kernel
theorem dX10_plan_15 : decode cX10_plan 15 = .ok (.iconst (-1), 1) := by decide +kernel
theorem dX10_plan_16 : decode cX10_plan 16 = .ok (.ireturn, 1) := by decide +kernel
theorem dX10_plan_17 : decode cX10_plan 17 = .ok (.aload_n 0, 1) := by decide +kernel
theorem dX10_plan_18 : decode cX10_plan 18 = .ok (.getfield 33, 3) := by decide +kernel
theorem dX10_plan_21 : decode cX10_plan 21 = .ok (.aload_n 0, 1) := by decide +kernel
theorem dX10_plan_22 : decode cX10_plan 22 = .ok (.getfield 40, 3) := by decide +kernel
theorem dX10_plan_25 : decode cX10_plan 25 = .ok (.invokevirtual 225, 3) := by decide +kernel
theorem dX10_plan_28 : decode cX10_plan 28 = .ok (.aload_n 0, 1) := by decide +kernel
theorem dX10_plan_29 : decode cX10_plan 29 = .ok (.getfield 33, 3) := by decide +kernel
theorem dX10_plan_32 : decode cX10_plan 32 = .ok (.invokevirtual 229, 3) := by decide +kernel
theorem dX10_plan_35 : decode cX10_plan 35 = .ok (.iload_n 1, 1) := by decide +kernel
theorem dX10_plan_36 : decode cX10_plan 36 = .ok (.lookupswitch 51 #[(0, 28), (1, 36)], 28) := by decide +kernel
theorem dX10_plan_64 : decode cX10_plan 64 = .ok (.aload_n 0, 1) := by decide +kernel
theorem dX10_plan_65 : decode cX10_plan 65 = .ok (.getfield 33, 3) := by decide +kernel
theorem dX10_plan_68 : decode cX10_plan 68 = .ok (.getfield 232, 3) := by decide +kernel
theorem dX10_plan_71 : decode cX10_plan 71 = .ok (.ireturn, 1) := by decide +kernel
theorem dX10_plan_72 : decode cX10_plan 72 = .ok (.aload_n 0, 1) := by decide +kernel
theorem dX10_plan_73 : decode cX10_plan 73 = .ok (.getfield 33, 3) := by decide +kernel
theorem dX10_plan_76 : decode cX10_plan 76 = .ok (.aload_n 0, 1) := by decide +kernel
theorem dX10_plan_77 : decode cX10_plan 77 = .ok (.getfield 40, 3) := by decide +kernel
theorem dX10_plan_80 : decode cX10_plan 80 = .ok (.getfield 86, 3) := by decide +kernel
theorem dX10_plan_83 : decode cX10_plan 83 = .ok (.invokevirtual 235, 3) := by decide +kernel
theorem dX10_plan_86 : decode cX10_plan 86 = .ok (.ireturn, 1) := by decide +kernel
theorem dX10_plan_87 : decode cX10_plan 87 = .ok (.aload_n 0, 1) := by decide +kernel
theorem dX10_plan_88 : decode cX10_plan 88 = .ok (.getfield 33, 3) := by decide +kernel
theorem dX10_plan_91 : decode cX10_plan 91 = .ok (.iload_n 1, 1) := by decide +kernel
theorem dX10_plan_92 : decode cX10_plan 92 = .ok (.bipush 10, 2) := by decide +kernel
theorem dX10_plan_94 : decode cX10_plan 94 = .ok (.isub, 1) := by decide +kernel
theorem dX10_plan_95 : decode cX10_plan 95 = .ok (.invokevirtual 239, 3) := by decide +kernel
theorem dX10_plan_98 : decode cX10_plan 98 = .ok (.ireturn, 1) := by decide +kernel
theorem dX10_served_0 : decode cX10_served 0 = .ok (.aload_n 0, 1) := by decide +kernel
theorem dX10_served_1 : decode cX10_served 1 = .ok (.getfield 40, 3) := by decide +kernel
theorem dX10_served_4 : decode cX10_served 4 = .ok (.getfield 86, 3) := by decide +kernel
theorem dX10_served_7 : decode cX10_served 7 = .ok (.iload_n 1, 1) := by decide +kernel
theorem dX10_served_8 : decode cX10_served 8 = .ok (.invokevirtual 127, 3) := by decide +kernel
theorem dX10_served_11 : decode cX10_served 11 = .ok (.ifCond .eq 15, 3) := by decide +kernel
theorem dX10_served_14 : decode cX10_served 14 = .ok (.iload_n 2, 1) := by decide +kernel
theorem dX10_served_15 : decode cX10_served 15 = .ok (.bipush (-99), 2) := by decide +kernel
theorem dX10_served_17 : decode cX10_served 17 = .ok (.if_icmp .lt 9, 3) := by decide +kernel
theorem dX10_served_20 : decode cX10_served 20 = .ok (.iload_n 2, 1) := by decide +kernel
theorem dX10_served_21 : decode cX10_served 21 = .ok (.bipush 99, 2) := by decide +kernel
theorem dX10_served_23 : decode cX10_served 23 = .ok (.if_icmp .le 5, 3) := by decide +kernel
theorem dX10_served_26 : decode cX10_served 26 = .ok (.iconst (-1), 1) := by decide +kernel
theorem dX10_served_27 : decode cX10_served 27 = .ok (.ireturn, 1) := by decide +kernel
theorem dX10_served_28 : decode cX10_served 28 = .ok (.aload_n 0, 1) := by decide +kernel
theorem dX10_served_29 : decode cX10_served 29 = .ok (.getfield 33, 3) := by decide +kernel
theorem dX10_served_32 : decode cX10_served 32 = .ok (.aload_n 0, 1) := by decide +kernel
theorem dX10_served_33 : decode cX10_served 33 = .ok (.getfield 40, 3) := by decide +kernel
theorem dX10_served_36 : decode cX10_served 36 = .ok (.invokevirtual 225, 3) := by decide +kernel
theorem dX10_served_39 : decode cX10_served 39 = .ok (.aload_n 0, 1) := by decide +kernel
theorem dX10_served_40 : decode cX10_served 40 = .ok (.getfield 33, 3) := by decide +kernel
theorem dX10_served_43 : decode cX10_served 43 = .ok (.iload_n 1, 1) := by decide +kernel
theorem dX10_served_44 : decode cX10_served 44 = .ok (.iload_n 2, 1) := by decide +kernel
theorem dX10_served_45 : decode cX10_served 45 = .ok (.invokevirtual 242, 3) := by decide +kernel
theorem dX10_served_48 : decode cX10_served 48 = .ok (.aload_n 0, 1) := by decide +kernel
theorem dX10_served_49 : decode cX10_served 49 = .ok (.getfield 33, 3) := by decide +kernel
theorem dX10_served_52 : decode cX10_served 52 = .ok (.invokevirtual 229, 3) := by decide +kernel
theorem dX10_served_55 : decode cX10_served 55 = .ok (.aload_n 0, 1) := by decide +kernel
theorem dX10_served_56 : decode cX10_served 56 = .ok (.getfield 33, 3) := by decide +kernel
theorem dX10_served_59 : decode cX10_served 59 = .ok (.getfield 232, 3) := by decide +kernel
theorem dX10_served_62 : decode cX10_served 62 = .ok (.ireturn, 1) := by decide +kernel
theorem dX10_shortest_0 : decode cX10_shortest 0 = .ok (.aload_n 0, 1) := by decide +kernel
theorem dX10_shortest_1 : decode cX10_shortest 1 = .ok (.getfield 40, 3) := by decide +kernel
theorem dX10_shortest_4 : decode cX10_shortest 4 = .ok (.getfield 93, 3) := by decide +kernel
theorem dX10_shortest_7 : decode cX10_shortest 7 = .ok (.astore_n 3, 1) := by decide +kernel
theorem dX10_shortest_8 : decode cX10_shortest 8 = .ok (.aload_n 3, 1) := by decide +kernel
theorem dX10_shortest_9 : decode cX10_shortest 9 = .ok (.iload_n 1, 1) := by decide +kernel
theorem dX10_shortest_10 : decode cX10_shortest 10 = .ok (.invokevirtual 172, 3) := by decide +kernel
theorem dX10_shortest_13 : decode cX10_shortest 13 = .ok (.ifCond .eq 27, 3) := by decide +kernel
theorem dX10_shortest_16 : decode cX10_shortest 16 = .ok (.aload_n 0, 1) := by decide +kernel
theorem dX10_shortest_17 : decode cX10_shortest 17 = .ok (.getfield 40, 3) := by decide +kernel
theorem dX10_shortest_20 : decode cX10_shortest 20 = .ok (.getfield 77, 3) := by decide +kernel
theorem dX10_shortest_23 : decode cX10_shortest 23 = .ok (.iload_n 2, 1) := by decide +kernel
theorem dX10_shortest_24 : decode cX10_shortest 24 = .ok (.invokevirtual 249, 3) := by decide +kernel
theorem dX10_shortest_27 : decode cX10_shortest 27 = .ok (.ifCond .eq 13, 3) := by decide +kernel
theorem dX10_shortest_30 : decode cX10_shortest 30 = .ok (.aload_n 3, 1) := by decide +kernel
theorem dX10_shortest_31 : decode cX10_shortest 31 = .ok (.getfield 180, 3) := by decide +kernel
theorem dX10_shortest_34 : decode cX10_shortest 34 = .ok (.iload_n 1, 1) := by decide +kernel
theorem dX10_shortest_35 : decode cX10_shortest 35 = .ok (.iaload, 1) := by decide +kernel
theorem dX10_shortest_36 : decode cX10_shortest 36 = .ok (.iload_n 2, 1) := by decide +kernel
theorem dX10_shortest_37 : decode cX10_shortest 37 = .ok (.if_icmp .ne 5, 3) := by decide +kernel
theorem dX10_shortest_40 : decode cX10_shortest 40 = .ok (.iconst (-1), 1) := by decide +kernel
theorem dX10_shortest_41 : decode cX10_shortest 41 = .ok (.ireturn, 1) := by decide +kernel
theorem dX10_shortest_42 : decode cX10_shortest 42 = .ok (.aload_n 0, 1) := by decide +kernel
theorem dX10_shortest_43 : decode cX10_shortest 43 = .ok (.getfield 40, 3) := by decide +kernel
theorem dX10_shortest_46 : decode cX10_shortest 46 = .ok (.getfield 86, 3) := by decide +kernel
theorem dX10_shortest_49 : decode cX10_shortest 49 = .ok (.astore 4, 2) := by decide +kernel
theorem dX10_shortest_51 : decode cX10_shortest 51 = .ok (.bipush (-2), 2) := by decide +kernel
theorem dX10_shortest_53 : decode cX10_shortest 53 = .ok (.istore 5, 2) := by decide +kernel
theorem dX10_shortest_55 : decode cX10_shortest 55 = .ok (.iconst 0, 1) := by decide +kernel
theorem dX10_shortest_56 : decode cX10_shortest 56 = .ok (.istore 6, 2) := by decide +kernel
theorem dX10_shortest_58 : decode cX10_shortest 58 = .ok (.iload 6, 2) := by decide +kernel
theorem dX10_shortest_60 : decode cX10_shortest 60 = .ok (.aload 4, 2) := by decide +kernel
theorem dX10_shortest_62 : decode cX10_shortest 62 = .ok (.getfield 90, 3) := by decide +kernel
theorem dX10_shortest_65 : decode cX10_shortest 65 = .ok (.if_icmp .ge 77, 3) := by decide +kernel
theorem dX10_shortest_68 : decode cX10_shortest 68 = .ok (.aload 4, 2) := by decide +kernel
theorem dX10_shortest_70 : decode cX10_shortest 70 = .ok (.iload 6, 2) := by decide +kernel
theorem dX10_shortest_72 : decode cX10_shortest 72 = .ok (.aload_n 3, 1) := by decide +kernel
theorem dX10_shortest_73 : decode cX10_shortest 73 = .ok (.getfield 183, 3) := by decide +kernel
theorem dX10_shortest_76 : decode cX10_shortest 76 = .ok (.iload_n 1, 1) := by decide +kernel
theorem dX10_shortest_77 : decode cX10_shortest 77 = .ok (.iaload, 1) := by decide +kernel
theorem dX10_shortest_78 : decode cX10_shortest 78 = .ok (.invokevirtual 253, 3) := by decide +kernel
theorem dX10_shortest_81 : decode cX10_shortest 81 = .ok (.ifCond .eq 55, 3) := by decide +kernel
theorem dX10_shortest_84 : decode cX10_shortest 84 = .ok (.aload_n 0, 1) := by decide +kernel
theorem dX10_shortest_85 : decode cX10_shortest 85 = .ok (.getfield 40, 3) := by decide +kernel
theorem dX10_shortest_88 : decode cX10_shortest 88 = .ok (.getfield 77, 3) := by decide +kernel
theorem dX10_shortest_91 : decode cX10_shortest 91 = .ok (.aload_n 3, 1) := by decide +kernel
theorem dX10_shortest_92 : decode cX10_shortest 92 = .ok (.getfield 180, 3) := by decide +kernel
theorem dX10_shortest_95 : decode cX10_shortest 95 = .ok (.iload_n 1, 1) := by decide +kernel
theorem dX10_shortest_96 : decode cX10_shortest 96 = .ok (.iaload, 1) := by decide +kernel
theorem dX10_shortest_97 : decode cX10_shortest 97 = .ok (.iload_n 2, 1) := by decide +kernel
theorem dX10_shortest_98 : decode cX10_shortest 98 = .ok (.aload 4, 2) := by decide +kernel
theorem dX10_shortest_100 : decode cX10_shortest 100 = .ok (.getfield 150, 3) := by decide +kernel
theorem dX10_shortest_103 : decode cX10_shortest 103 = .ok (.iload 6, 2) := by decide +kernel
theorem dX10_shortest_105 : decode cX10_shortest 105 = .ok (.iaload, 1) := by decide +kernel
theorem dX10_shortest_106 : decode cX10_shortest 106 = .ok (.invokevirtual 256, 3) := by decide +kernel
theorem dX10_shortest_109 : decode cX10_shortest 109 = .ok (.istore 7, 2) := by decide +kernel
theorem dX10_shortest_111 : decode cX10_shortest 111 = .ok (.iload 7, 2) := by decide +kernel
theorem dX10_shortest_113 : decode cX10_shortest 113 = .ok (.bipush (-2), 2) := by decide +kernel
theorem dX10_shortest_115 : decode cX10_shortest 115 = .ok (.if_icmp .eq 21, 3) := by decide +kernel
theorem dX10_shortest_118 : decode cX10_shortest 118 = .ok (.iload 5, 2) := by decide +kernel
theorem dX10_shortest_120 : decode cX10_shortest 120 = .ok (.bipush (-2), 2) := by decide +kernel
theorem dX10_shortest_122 : decode cX10_shortest 122 = .ok (.if_icmp .eq 10, 3) := by decide +kernel
theorem dX10_shortest_125 : decode cX10_shortest 125 = .ok (.iload 7, 2) := by decide +kernel
theorem dX10_shortest_127 : decode cX10_shortest 127 = .ok (.iload 5, 2) := by decide +kernel
theorem dX10_shortest_129 : decode cX10_shortest 129 = .ok (.if_icmp .ge 7, 3) := by decide +kernel
theorem dX10_shortest_132 : decode cX10_shortest 132 = .ok (.iload 7, 2) := by decide +kernel
theorem dX10_shortest_134 : decode cX10_shortest 134 = .ok (.istore 5, 2) := by decide +kernel
theorem dX10_shortest_136 : decode cX10_shortest 136 = .ok (.iinc 6 1, 3) := by decide +kernel
theorem dX10_shortest_139 : decode cX10_shortest 139 = .ok (.goto (-81), 3) := by decide +kernel
theorem dX10_shortest_142 : decode cX10_shortest 142 = .ok (.iload 5, 2) := by decide +kernel
theorem dX10_shortest_144 : decode cX10_shortest 144 = .ok (.ireturn, 1) := by decide +kernel
theorem dX10_stop_0 : decode cX10_stop 0 = .ok (.aload_n 0, 1) := by decide +kernel
theorem dX10_stop_1 : decode cX10_stop 1 = .ok (.getfield 40, 3) := by decide +kernel
theorem dX10_stop_4 : decode cX10_stop 4 = .ok (.getfield 93, 3) := by decide +kernel
theorem dX10_stop_7 : decode cX10_stop 7 = .ok (.iload_n 1, 1) := by decide +kernel
theorem dX10_stop_8 : decode cX10_stop 8 = .ok (.invokevirtual 172, 3) := by decide +kernel
theorem dX10_stop_11 : decode cX10_stop 11 = .ok (.ifCond .eq 17, 3) := by decide +kernel
theorem dX10_stop_14 : decode cX10_stop 14 = .ok (.aload_n 0, 1) := by decide +kernel
theorem dX10_stop_15 : decode cX10_stop 15 = .ok (.getfield 40, 3) := by decide +kernel
theorem dX10_stop_18 : decode cX10_stop 18 = .ok (.getfield 77, 3) := by decide +kernel
theorem dX10_stop_21 : decode cX10_stop 21 = .ok (.iload_n 2, 1) := by decide +kernel
theorem dX10_stop_22 : decode cX10_stop 22 = .ok (.invokevirtual 249, 3) := by decide +kernel
theorem dX10_stop_25 : decode cX10_stop 25 = .ok (.ifCond .ne 5, 3) := by decide +kernel
theorem dX10_stop_28 : decode cX10_stop 28 = .ok (.iconst (-1), 1) := by decide +kernel
theorem dX10_stop_29 : decode cX10_stop 29 = .ok (.ireturn, 1) := by decide +kernel
theorem dX10_stop_30 : decode cX10_stop 30 = .ok (.aload_n 0, 1) := by decide +kernel
theorem dX10_stop_31 : decode cX10_stop 31 = .ok (.getfield 40, 3) := by decide +kernel
theorem dX10_stop_34 : decode cX10_stop 34 = .ok (.iload_n 1, 1) := by decide +kernel
theorem dX10_stop_35 : decode cX10_stop 35 = .ok (.iload_n 2, 1) := by decide +kernel
theorem dX10_stop_36 : decode cX10_stop 36 = .ok (.invokevirtual 260, 3) := by decide +kernel
theorem dX10_stop_39 : decode cX10_stop 39 = .ok (.istore_n 3, 1) := by decide +kernel
theorem dX10_stop_40 : decode cX10_stop 40 = .ok (.iload_n 3, 1) := by decide +kernel
theorem dX10_stop_41 : decode cX10_stop 41 = .ok (.ifCond .ne 7, 3) := by decide +kernel
theorem dX10_stop_44 : decode cX10_stop 44 = .ok (.iconst 0, 1) := by decide +kernel
theorem dX10_stop_45 : decode cX10_stop 45 = .ok (.goto 4, 3) := by decide +kernel
theorem dX10_stop_48 : decode cX10_stop 48 = .ok (.iconst 1, 1) := by decide +kernel
theorem dX10_stop_49 : decode cX10_stop 49 = .ok (.istore 4, 2) := by decide +kernel
theorem dX10_stop_51 : decode cX10_stop 51 = .ok (.aload_n 0, 1) := by decide +kernel
theorem dX10_stop_52 : decode cX10_stop 52 = .ok (.getfield 40, 3) := by decide +kernel
theorem dX10_stop_55 : decode cX10_stop 55 = .ok (.getfield 93, 3) := by decide +kernel
theorem dX10_stop_58 : decode cX10_stop 58 = .ok (.getfield 187, 3) := by decide +kernel
theorem dX10_stop_61 : decode cX10_stop 61 = .ok (.iload_n 1, 1) := by decide +kernel
theorem dX10_stop_62 : decode cX10_stop 62 = .ok (.dup2, 1) := by decide +kernel
theorem dX10_stop_63 : decode cX10_stop 63 = .ok (.iaload, 1) := by decide +kernel
theorem dX10_stop_64 : decode cX10_stop 64 = .ok (.iload 4, 2) := by decide +kernel
theorem dX10_stop_66 : decode cX10_stop 66 = .ok (.iadd, 1) := by decide +kernel
theorem dX10_stop_67 : decode cX10_stop 67 = .ok (.iastore, 1) := by decide +kernel
theorem dX10_stop_68 : decode cX10_stop 68 = .ok (.aload_n 0, 1) := by decide +kernel
theorem dX10_stop_69 : decode cX10_stop 69 = .ok (.getfield 40, 3) := by decide +kernel
theorem dX10_stop_72 : decode cX10_stop 72 = .ok (.getfield 118, 3) := by decide +kernel
theorem dX10_stop_75 : decode cX10_stop 75 = .ok (.iconst 3, 1) := by decide +kernel
theorem dX10_stop_76 : decode cX10_stop 76 = .ok (.iload_n 1, 1) := by decide +kernel
theorem dX10_stop_77 : decode cX10_stop 77 = .ok (.iload 4, 2) := by decide +kernel
theorem dX10_stop_79 : decode cX10_stop 79 = .ok (.invokevirtual 270, 3) := by decide +kernel
theorem dX10_stop_82 : decode cX10_stop 82 = .ok (.iload_n 3, 1) := by decide +kernel
theorem dX10_stop_83 : decode cX10_stop 83 = .ok (.ireturn, 1) := by decide +kernel
theorem dX10_text_0 : decode cX10_text 0 = .ok (.aload_n 0, 1) := by decide +kernel
theorem dX10_text_1 : decode cX10_text 1 = .ok (.getfield 44, 3) := by decide +kernel
theorem dX10_text_4 : decode cX10_text 4 = .ok (.invokevirtual 55, 3) := by decide +kernel
theorem dX10_text_7 : decode cX10_text 7 = .ok (.aload_n 0, 1) := by decide +kernel
theorem dX10_text_8 : decode cX10_text 8 = .ok (.getfield 26, 3) := by decide +kernel
theorem dX10_text_11 : decode cX10_text 11 = .ok (.aload_n 0, 1) := by decide +kernel
theorem dX10_text_12 : decode cX10_text 12 = .ok (.getfield 44, 3) := by decide +kernel
theorem dX10_text_15 : decode cX10_text 15 = .ok (.invokevirtual 58, 3) := by decide +kernel
theorem dX10_text_18 : decode cX10_text 18 = .ok (.istore_n 1, 1) := by decide +kernel
theorem dX10_text_19 : decode cX10_text 19 = .ok (.aload_n 0, 1) := by decide +kernel
theorem dX10_text_20 : decode cX10_text 20 = .ok (.getfield 10, 3) := by decide +kernel
theorem dX10_text_23 : decode cX10_text 23 = .ok (.iconst 0, 1) := by decide +kernel
theorem dX10_text_24 : decode cX10_text 24 = .ok (.putfield 47, 3) := by decide +kernel
theorem dX10_text_27 : decode cX10_text 27 = .ok (.aload_n 0, 1) := by decide +kernel
theorem dX10_text_28 : decode cX10_text 28 = .ok (.aload_n 0, 1) := by decide +kernel
theorem dX10_text_29 : decode cX10_text 29 = .ok (.getfield 26, 3) := by decide +kernel
theorem dX10_text_32 : decode cX10_text 32 = .ok (.getfield 62, 3) := by decide +kernel
theorem dX10_text_35 : decode cX10_text 35 = .ok (.putfield 65, 3) := by decide +kernel
theorem dX10_text_38 : decode cX10_text 38 = .ok (.iload_n 1, 1) := by decide +kernel
theorem dX10_text_39 : decode cX10_text 39 = .ok (.ifCond .ne 13, 3) := by decide +kernel
theorem dX10_text_42 : decode cX10_text 42 = .ok (.iconst (-1), 1) := by decide +kernel
theorem dX10_text_43 : decode cX10_text 43 = .ok (.aload_n 0, 1) := by decide +kernel
theorem dX10_text_44 : decode cX10_text 44 = .ok (.getfield 26, 3) := by decide +kernel
theorem dX10_text_47 : decode cX10_text 47 = .ok (.getfield 68, 3) := by decide +kernel
theorem dX10_text_50 : decode cX10_text 50 = .ok (.isub, 1) := by decide +kernel
theorem dX10_text_51 : decode cX10_text 51 = .ok (.ireturn, 1) := by decide +kernel
theorem dX10_text_52 : decode cX10_text 52 = .ok (.aload_n 0, 1) := by decide +kernel
theorem dX10_text_53 : decode cX10_text 53 = .ok (.getfield 44, 3) := by decide +kernel
theorem dX10_text_56 : decode cX10_text 56 = .ok (.astore_n 2, 1) := by decide +kernel
theorem dX10_text_57 : decode cX10_text 57 = .ok (.aload_n 0, 1) := by decide +kernel
theorem dX10_text_58 : decode cX10_text 58 = .ok (.aload_n 0, 1) := by decide +kernel
theorem dX10_text_59 : decode cX10_text 59 = .ok (.getfield 40, 3) := by decide +kernel
theorem dX10_text_62 : decode cX10_text 62 = .ok (.putfield 44, 3) := by decide +kernel
theorem dX10_text_65 : decode cX10_text 65 = .ok (.aload_n 0, 1) := by decide +kernel
theorem dX10_text_66 : decode cX10_text 66 = .ok (.aload_n 2, 1) := by decide +kernel
theorem dX10_text_67 : decode cX10_text 67 = .ok (.putfield 40, 3) := by decide +kernel
theorem dX10_text_70 : decode cX10_text 70 = .ok (.aload_n 0, 1) := by decide +kernel
theorem dX10_text_71 : decode cX10_text 71 = .ok (.getfield 26, 3) := by decide +kernel
theorem dX10_text_74 : decode cX10_text 74 = .ok (.getfield 71, 3) := by decide +kernel
theorem dX10_text_77 : decode cX10_text 77 = .ok (.ireturn, 1) := by decide +kernel
theorem dX10_trip_0 : decode cX10_trip 0 = .ok (.aload_n 0, 1) := by decide +kernel
theorem dX10_trip_1 : decode cX10_trip 1 = .ok (.getfield 40, 3) := by decide +kernel
theorem dX10_trip_4 : decode cX10_trip 4 = .ok (.getfield 100, 3) := by decide +kernel
theorem dX10_trip_7 : decode cX10_trip 7 = .ok (.astore_n 3, 1) := by decide +kernel
theorem dX10_trip_8 : decode cX10_trip 8 = .ok (.aload_n 3, 1) := by decide +kernel
theorem dX10_trip_9 : decode cX10_trip 9 = .ok (.iload_n 1, 1) := by decide +kernel
theorem dX10_trip_10 : decode cX10_trip 10 = .ok (.invokevirtual 195, 3) := by decide +kernel
theorem dX10_trip_13 : decode cX10_trip 13 = .ok (.ifCond .ne 5, 3) := by decide +kernel
theorem dX10_trip_16 : decode cX10_trip 16 = .ok (.iconst (-1), 1) := by decide +kernel
theorem dX10_trip_17 : decode cX10_trip 17 = .ok (.ireturn, 1) := by decide +kernel
theorem dX10_trip_18 : decode cX10_trip 18 = .ok (.iload_n 2, 1) := by decide +kernel
theorem dX10_trip_19 : decode cX10_trip 19 = .ok (.tableswitch 90 0 6 #[41, 48, 55, 62, 69, 76, 83], 41) := by decide +kernel
theorem dX10_trip_60 : decode cX10_trip 60 = .ok (.aload_n 3, 1) := by decide +kernel
theorem dX10_trip_61 : decode cX10_trip 61 = .ok (.getfield 196, 3) := by decide +kernel
theorem dX10_trip_64 : decode cX10_trip 64 = .ok (.iload_n 1, 1) := by decide +kernel
theorem dX10_trip_65 : decode cX10_trip 65 = .ok (.iaload, 1) := by decide +kernel
theorem dX10_trip_66 : decode cX10_trip 66 = .ok (.ireturn, 1) := by decide +kernel
theorem dX10_trip_67 : decode cX10_trip 67 = .ok (.aload_n 3, 1) := by decide +kernel
theorem dX10_trip_68 : decode cX10_trip 68 = .ok (.getfield 199, 3) := by decide +kernel
theorem dX10_trip_71 : decode cX10_trip 71 = .ok (.iload_n 1, 1) := by decide +kernel
theorem dX10_trip_72 : decode cX10_trip 72 = .ok (.iaload, 1) := by decide +kernel
theorem dX10_trip_73 : decode cX10_trip 73 = .ok (.ireturn, 1) := by decide +kernel
theorem dX10_trip_74 : decode cX10_trip 74 = .ok (.aload_n 3, 1) := by decide +kernel
theorem dX10_trip_75 : decode cX10_trip 75 = .ok (.getfield 202, 3) := by decide +kernel
theorem dX10_trip_78 : decode cX10_trip 78 = .ok (.iload_n 1, 1) := by decide +kernel
theorem dX10_trip_79 : decode cX10_trip 79 = .ok (.iaload, 1) := by decide +kernel
theorem dX10_trip_80 : decode cX10_trip 80 = .ok (.ireturn, 1) := by decide +kernel
theorem dX10_trip_81 : decode cX10_trip 81 = .ok (.aload_n 3, 1) := by decide +kernel
theorem dX10_trip_82 : decode cX10_trip 82 = .ok (.getfield 205, 3) := by decide +kernel
theorem dX10_trip_85 : decode cX10_trip 85 = .ok (.iload_n 1, 1) := by decide +kernel
theorem dX10_trip_86 : decode cX10_trip 86 = .ok (.iaload, 1) := by decide +kernel
theorem dX10_trip_87 : decode cX10_trip 87 = .ok (.ireturn, 1) := by decide +kernel
theorem dX10_trip_88 : decode cX10_trip 88 = .ok (.aload_n 3, 1) := by decide +kernel
theorem dX10_trip_89 : decode cX10_trip 89 = .ok (.getfield 208, 3) := by decide +kernel
theorem dX10_trip_92 : decode cX10_trip 92 = .ok (.iload_n 1, 1) := by decide +kernel
theorem dX10_trip_93 : decode cX10_trip 93 = .ok (.iaload, 1) := by decide +kernel
theorem dX10_trip_94 : decode cX10_trip 94 = .ok (.ireturn, 1) := by decide +kernel
theorem dX10_trip_95 : decode cX10_trip 95 = .ok (.aload_n 3, 1) := by decide +kernel
theorem dX10_trip_96 : decode cX10_trip 96 = .ok (.getfield 211, 3) := by decide +kernel
theorem dX10_trip_99 : decode cX10_trip 99 = .ok (.iload_n 1, 1) := by decide +kernel
theorem dX10_trip_100 : decode cX10_trip 100 = .ok (.iaload, 1) := by decide +kernel
theorem dX10_trip_101 : decode cX10_trip 101 = .ok (.ireturn, 1) := by decide +kernel
theorem dX10_trip_102 : decode cX10_trip 102 = .ok (.aload_n 3, 1) := by decide +kernel
theorem dX10_trip_103 : decode cX10_trip 103 = .ok (.getfield 214, 3) := by decide +kernel
theorem dX10_trip_106 : decode cX10_trip 106 = .ok (.iload_n 1, 1) := by decide +kernel
theorem dX10_trip_107 : decode cX10_trip 107 = .ok (.iaload, 1) := by decide +kernel
theorem dX10_trip_108 : decode cX10_trip 108 = .ok (.ireturn, 1) := by decide +kernel
theorem dX10_trip_109 : decode cX10_trip 109 = .ok (.iload_n 2, 1) := by decide +kernel
theorem dX10_trip_110 : decode cX10_trip 110 = .ok (.bipush 10, 2) := by decide +kernel
theorem dX10_trip_112 : decode cX10_trip 112 = .ok (.if_icmp .ge 7, 3) := by decide +kernel
theorem dX10_trip_115 : decode cX10_trip 115 = .ok (.iconst (-1), 1) := by decide +kernel
theorem dX10_trip_116 : decode cX10_trip 116 = .ok (.goto 12, 3) := by decide +kernel
theorem dX10_trip_119 : decode cX10_trip 119 = .ok (.aload_n 3, 1) := by decide +kernel
theorem dX10_trip_120 : decode cX10_trip 120 = .ok (.iload_n 1, 1) := by decide +kernel
theorem dX10_trip_121 : decode cX10_trip 121 = .ok (.iload_n 2, 1) := by decide +kernel
theorem dX10_trip_122 : decode cX10_trip 122 = .ok (.bipush 10, 2) := by decide +kernel
theorem dX10_trip_124 : decode cX10_trip 124 = .ok (.isub, 1) := by decide +kernel
theorem dX10_trip_125 : decode cX10_trip 125 = .ok (.invokevirtual 217, 3) := by decide +kernel
theorem dX10_trip_128 : decode cX10_trip 128 = .ok (.ireturn, 1) := by decide +kernel
theorem dX10_type_0 : decode cX10_type 0 = .ok (.aload_n 0, 1) := by decide +kernel
theorem dX10_type_1 : decode cX10_type 1 = .ok (.getfield 40, 3) := by decide +kernel
theorem dX10_type_4 : decode cX10_type 4 = .ok (.getfield 86, 3) := by decide +kernel
theorem dX10_type_7 : decode cX10_type 7 = .ok (.astore_n 3, 1) := by decide +kernel
theorem dX10_type_8 : decode cX10_type 8 = .ok (.aload_n 3, 1) := by decide +kernel
theorem dX10_type_9 : decode cX10_type 9 = .ok (.iload_n 1, 1) := by decide +kernel
theorem dX10_type_10 : decode cX10_type 10 = .ok (.invokevirtual 127, 3) := by decide +kernel
theorem dX10_type_13 : decode cX10_type 13 = .ok (.ifCond .ne 5, 3) := by decide +kernel
theorem dX10_type_16 : decode cX10_type 16 = .ok (.iconst (-1), 1) := by decide +kernel
theorem dX10_type_17 : decode cX10_type 17 = .ok (.ireturn, 1) := by decide +kernel
theorem dX10_type_18 : decode cX10_type 18 = .ok (.iload_n 2, 1) := by decide +kernel
theorem dX10_type_19 : decode cX10_type 19 = .ok (.tableswitch 100 0 7 #[45, 52, 59, 66, 73, 80, 87, 94], 45) := by decide +kernel
theorem dX10_type_64 : decode cX10_type 64 = .ok (.aload_n 3, 1) := by decide +kernel
theorem dX10_type_65 : decode cX10_type 65 = .ok (.getfield 131, 3) := by decide +kernel
theorem dX10_type_68 : decode cX10_type 68 = .ok (.iload_n 1, 1) := by decide +kernel
theorem dX10_type_69 : decode cX10_type 69 = .ok (.iaload, 1) := by decide +kernel
theorem dX10_type_70 : decode cX10_type 70 = .ok (.ireturn, 1) := by decide +kernel
theorem dX10_type_71 : decode cX10_type 71 = .ok (.aload_n 3, 1) := by decide +kernel
theorem dX10_type_72 : decode cX10_type 72 = .ok (.getfield 135, 3) := by decide +kernel
theorem dX10_type_75 : decode cX10_type 75 = .ok (.iload_n 1, 1) := by decide +kernel
theorem dX10_type_76 : decode cX10_type 76 = .ok (.iaload, 1) := by decide +kernel
theorem dX10_type_77 : decode cX10_type 77 = .ok (.ireturn, 1) := by decide +kernel
theorem dX10_type_78 : decode cX10_type 78 = .ok (.aload_n 3, 1) := by decide +kernel
theorem dX10_type_79 : decode cX10_type 79 = .ok (.getfield 138, 3) := by decide +kernel
theorem dX10_type_82 : decode cX10_type 82 = .ok (.iload_n 1, 1) := by decide +kernel
theorem dX10_type_83 : decode cX10_type 83 = .ok (.iaload, 1) := by decide +kernel
theorem dX10_type_84 : decode cX10_type 84 = .ok (.ireturn, 1) := by decide +kernel
theorem dX10_type_85 : decode cX10_type 85 = .ok (.aload_n 3, 1) := by decide +kernel
theorem dX10_type_86 : decode cX10_type 86 = .ok (.getfield 141, 3) := by decide +kernel
theorem dX10_type_89 : decode cX10_type 89 = .ok (.iload_n 1, 1) := by decide +kernel
theorem dX10_type_90 : decode cX10_type 90 = .ok (.iaload, 1) := by decide +kernel
theorem dX10_type_91 : decode cX10_type 91 = .ok (.ireturn, 1) := by decide +kernel
theorem dX10_type_92 : decode cX10_type 92 = .ok (.aload_n 3, 1) := by decide +kernel
theorem dX10_type_93 : decode cX10_type 93 = .ok (.getfield 144, 3) := by decide +kernel
