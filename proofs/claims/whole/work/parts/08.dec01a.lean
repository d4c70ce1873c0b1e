theorem dX1_callBack_0 : decode cX1_callBack 0 = .ok (.iconst 0, 1) := by decide +kernel
theorem dX1_callBack_1 : decode cX1_callBack 1 = .ok (.istore_n 2, 1) := by decide +kernel
theorem dX1_callBack_2 : decode cX1_callBack 2 = .ok (.iload_n 2, 1) := by decide +kernel
theorem dX1_callBack_3 : decode cX1_callBack 3 = .ok (.aload_n 0, 1) := by decide +kernel
theorem dX1_callBack_4 : decode cX1_callBack 4 = .ok (.getfield 28, 3) := by decide +kernel
theorem dX1_callBack_7 : decode cX1_callBack 7 = .ok (.getfield 144, 3) := by decide +kernel
theorem dX1_callBack_10 : decode cX1_callBack 10 = .ok (.if_icmp .ge 38, 3) := by decide +kernel
theorem dX1_callBack_13 : decode cX1_callBack 13 = .ok (.iload_n 1, 1) := by decide +kernel
theorem dX1_callBack_14 : decode cX1_callBack 14 = .ok (.iload_n 2, 1) := by decide +kernel
theorem dX1_callBack_15 : decode cX1_callBack 15 = .ok (.ishr, 1) := by decide +kernel
theorem dX1_callBack_16 : decode cX1_callBack 16 = .ok (.iconst 1, 1) := by decide +kernel
theorem dX1_callBack_17 : decode cX1_callBack 17 = .ok (.iand, 1) := by decide +kernel
theorem dX1_callBack_18 : decode cX1_callBack 18 = .ok (.ifCond .eq 24, 3) := by decide +kernel
theorem dX1_callBack_21 : decode cX1_callBack 21 = .ok (.aload_n 0, 1) := by decide +kernel
theorem dX1_callBack_22 : decode cX1_callBack 22 = .ok (.iload_n 2, 1) := by decide +kernel
theorem dX1_callBack_23 : decode cX1_callBack 23 = .ok (.invokevirtual 102, 3) := by decide +kernel
theorem dX1_callBack_26 : decode cX1_callBack 26 = .ok (.ifCond .eq 16, 3) := by decide +kernel
theorem dX1_callBack_29 : decode cX1_callBack 29 = .ok (.aload_n 0, 1) := by decide +kernel
theorem dX1_callBack_30 : decode cX1_callBack 30 = .ok (.aload_n 0, 1) := by decide +kernel
theorem dX1_callBack_31 : decode cX1_callBack 31 = .ok (.getfield 28, 3) := by decide +kernel
theorem dX1_callBack_34 : decode cX1_callBack 34 = .ok (.getfield 87, 3) := by decide +kernel
theorem dX1_callBack_37 : decode cX1_callBack 37 = .ok (.iload_n 2, 1) := by decide +kernel
theorem dX1_callBack_38 : decode cX1_callBack 38 = .ok (.iaload, 1) := by decide +kernel
theorem dX1_callBack_39 : decode cX1_callBack 39 = .ok (.invokevirtual 145, 3) := by decide +kernel
theorem dX1_callBack_42 : decode cX1_callBack 42 = .ok (.iinc 2 1, 3) := by decide +kernel
theorem dX1_callBack_45 : decode cX1_callBack 45 = .ok (.goto (-43), 3) := by decide +kernel
theorem dX1_callBack_48 : decode cX1_callBack 48 = .ok (.return_, 1) := by decide +kernel
theorem dX1_clear_0 : decode cX1_clear 0 = .ok (.aload_n 0, 1) := by decide +kernel
theorem dX1_clear_1 : decode cX1_clear 1 = .ok (.getfield 12, 3) := by decide +kernel
theorem dX1_clear_4 : decode cX1_clear 4 = .ok (.invokevirtual 46, 3) := by decide +kernel
theorem dX1_clear_7 : decode cX1_clear 7 = .ok (.aload_n 0, 1) := by decide +kernel
theorem dX1_clear_8 : decode cX1_clear 8 = .ok (.getfield 21, 3) := by decide +kernel
theorem dX1_clear_11 : decode cX1_clear 11 = .ok (.invokevirtual 49, 3) := by decide +kernel
theorem dX1_clear_14 : decode cX1_clear 14 = .ok (.aload_n 0, 1) := by decide +kernel
theorem dX1_clear_15 : decode cX1_clear 15 = .ok (.getfield 28, 3) := by decide +kernel
theorem dX1_clear_18 : decode cX1_clear 18 = .ok (.invokevirtual 50, 3) := by decide +kernel
theorem dX1_clear_21 : decode cX1_clear 21 = .ok (.aload_n 0, 1) := by decide +kernel
theorem dX1_clear_22 : decode cX1_clear 22 = .ok (.getfield 35, 3) := by decide +kernel
theorem dX1_clear_25 : decode cX1_clear 25 = .ok (.iconst 0, 1) := by decide +kernel
theorem dX1_clear_26 : decode cX1_clear 26 = .ok (.putfield 51, 3) := by decide +kernel
theorem dX1_clear_29 : decode cX1_clear 29 = .ok (.aload_n 0, 1) := by decide +kernel
theorem dX1_clear_30 : decode cX1_clear 30 = .ok (.getfield 42, 3) := by decide +kernel
theorem dX1_clear_33 : decode cX1_clear 33 = .ok (.iconst 0, 1) := by decide +kernel
theorem dX1_clear_34 : decode cX1_clear 34 = .ok (.putfield 55, 3) := by decide +kernel
theorem dX1_clear_37 : decode cX1_clear 37 = .ok (.aload_n 0, 1) := by decide +kernel
theorem dX1_clear_38 : decode cX1_clear 38 = .ok (.iconst 0, 1) := by decide +kernel
theorem dX1_clear_39 : decode cX1_clear 39 = .ok (.putfield 58, 3) := by decide +kernel
theorem dX1_clear_42 : decode cX1_clear 42 = .ok (.return_, 1) := by decide +kernel
theorem dX1_finish_0 : decode cX1_finish 0 = .ok (.aload_n 0, 1) := by decide +kernel
theorem dX1_finish_1 : decode cX1_finish 1 = .ok (.getfield 35, 3) := by decide +kernel
theorem dX1_finish_4 : decode cX1_finish 4 = .ok (.iload_n 1, 1) := by decide +kernel
theorem dX1_finish_5 : decode cX1_finish 5 = .ok (.invokevirtual 65, 3) := by decide +kernel
theorem dX1_finish_8 : decode cX1_finish 8 = .ok (.ifCond .eq 22, 3) := by decide +kernel
theorem dX1_finish_11 : decode cX1_finish 11 = .ok (.aload_n 0, 1) := by decide +kernel
theorem dX1_finish_12 : decode cX1_finish 12 = .ok (.getfield 28, 3) := by decide +kernel
theorem dX1_finish_15 : decode cX1_finish 15 = .ok (.aload_n 0, 1) := by decide +kernel
theorem dX1_finish_16 : decode cX1_finish 16 = .ok (.getfield 35, 3) := by decide +kernel
theorem dX1_finish_19 : decode cX1_finish 19 = .ok (.getfield 66, 3) := by decide +kernel
theorem dX1_finish_22 : decode cX1_finish 22 = .ok (.iload_n 1, 1) := by decide +kernel
theorem dX1_finish_23 : decode cX1_finish 23 = .ok (.iaload, 1) := by decide +kernel
theorem dX1_finish_24 : decode cX1_finish 24 = .ok (.invokevirtual 70, 3) := by decide +kernel
theorem dX1_finish_27 : decode cX1_finish 27 = .ok (.ifCond .ne 4, 3) := by decide +kernel
theorem dX1_finish_30 : decode cX1_finish 30 = .ok (.return_, 1) := by decide +kernel
theorem dX1_finish_31 : decode cX1_finish 31 = .ok (.aload_n 0, 1) := by decide +kernel
theorem dX1_finish_32 : decode cX1_finish 32 = .ok (.getfield 35, 3) := by decide +kernel
theorem dX1_finish_35 : decode cX1_finish 35 = .ok (.getfield 66, 3) := by decide +kernel
theorem dX1_finish_38 : decode cX1_finish 38 = .ok (.iload_n 1, 1) := by decide +kernel
theorem dX1_finish_39 : decode cX1_finish 39 = .ok (.iaload, 1) := by decide +kernel
theorem dX1_finish_40 : decode cX1_finish 40 = .ok (.istore_n 2, 1) := by decide +kernel
theorem dX1_finish_41 : decode cX1_finish 41 = .ok (.aload_n 0, 1) := by decide +kernel
theorem dX1_finish_42 : decode cX1_finish 42 = .ok (.iload_n 1, 1) := by decide +kernel
theorem dX1_finish_43 : decode cX1_finish 43 = .ok (.invokevirtual 105, 3) := by decide +kernel
theorem dX1_finish_46 : decode cX1_finish 46 = .ok (.ifCond .eq 7, 3) := by decide +kernel
theorem dX1_finish_49 : decode cX1_finish 49 = .ok (.iconst 1, 1) := by decide +kernel
theorem dX1_finish_50 : decode cX1_finish 50 = .ok (.goto 4, 3) := by decide +kernel
theorem dX1_finish_53 : decode cX1_finish 53 = .ok (.iconst 0, 1) := by decide +kernel
theorem dX1_finish_54 : decode cX1_finish 54 = .ok (.istore_n 3, 1) := by decide +kernel
theorem dX1_finish_55 : decode cX1_finish 55 = .ok (.aload_n 0, 1) := by decide +kernel
theorem dX1_finish_56 : decode cX1_finish 56 = .ok (.getfield 35, 3) := by decide +kernel
theorem dX1_finish_59 : decode cX1_finish 59 = .ok (.getfield 90, 3) := by decide +kernel
theorem dX1_finish_62 : decode cX1_finish 62 = .ok (.iload_n 1, 1) := by decide +kernel
theorem dX1_finish_63 : decode cX1_finish 63 = .ok (.iconst 2, 1) := by decide +kernel
theorem dX1_finish_64 : decode cX1_finish 64 = .ok (.iastore, 1) := by decide +kernel
theorem dX1_finish_65 : decode cX1_finish 65 = .ok (.aload_n 0, 1) := by decide +kernel
theorem dX1_finish_66 : decode cX1_finish 66 = .ok (.getfield 35, 3) := by decide +kernel
theorem dX1_finish_69 : decode cX1_finish 69 = .ok (.getfield 111, 3) := by decide +kernel
theorem dX1_finish_72 : decode cX1_finish 72 = .ok (.iload_n 1, 1) := by decide +kernel
theorem dX1_finish_73 : decode cX1_finish 73 = .ok (.aload_n 0, 1) := by decide +kernel
theorem dX1_finish_74 : decode cX1_finish 74 = .ok (.getfield 58, 3) := by decide +kernel
theorem dX1_finish_77 : decode cX1_finish 77 = .ok (.iastore, 1) := by decide +kernel
theorem dX1_finish_78 : decode cX1_finish 78 = .ok (.aload_n 0, 1) := by decide +kernel
theorem dX1_finish_79 : decode cX1_finish 79 = .ok (.getfield 35, 3) := by decide +kernel
theorem dX1_finish_82 : decode cX1_finish 82 = .ok (.getfield 114, 3) := by decide +kernel
theorem dX1_finish_85 : decode cX1_finish 85 = .ok (.iload_n 1, 1) := by decide +kernel
theorem dX1_finish_86 : decode cX1_finish 86 = .ok (.iload_n 3, 1) := by decide +kernel
theorem dX1_finish_87 : decode cX1_finish 87 = .ok (.iastore, 1) := by decide +kernel
theorem dX1_finish_88 : decode cX1_finish 88 = .ok (.aload_n 0, 1) := by decide +kernel
theorem dX1_finish_89 : decode cX1_finish 89 = .ok (.getfield 21, 3) := by decide +kernel
theorem dX1_finish_92 : decode cX1_finish 92 = .ok (.aload_n 0, 1) := by decide +kernel
theorem dX1_finish_93 : decode cX1_finish 93 = .ok (.getfield 35, 3) := by decide +kernel
theorem dX1_finish_96 : decode cX1_finish 96 = .ok (.getfield 93, 3) := by decide +kernel
theorem dX1_finish_99 : decode cX1_finish 99 = .ok (.iload_n 1, 1) := by decide +kernel
theorem dX1_finish_100 : decode cX1_finish 100 = .ok (.iaload, 1) := by decide +kernel
theorem dX1_finish_101 : decode cX1_finish 101 = .ok (.iload_n 3, 1) := by decide +kernel
theorem dX1_finish_102 : decode cX1_finish 102 = .ok (.iconst 1, 1) := by decide +kernel
theorem dX1_finish_103 : decode cX1_finish 103 = .ok (.invokevirtual 117, 3) := by decide +kernel
theorem dX1_finish_106 : decode cX1_finish 106 = .ok (.aload_n 0, 1) := by decide +kernel
theorem dX1_finish_107 : decode cX1_finish 107 = .ok (.getfield 28, 3) := by decide +kernel
theorem dX1_finish_110 : decode cX1_finish 110 = .ok (.getfield 121, 3) := by decide +kernel
theorem dX1_finish_113 : decode cX1_finish 113 = .ok (.iload_n 2, 1) := by decide +kernel
theorem dX1_finish_114 : decode cX1_finish 114 = .ok (.dup2, 1) := by decide +kernel
theorem dX1_finish_115 : decode cX1_finish 115 = .ok (.iaload, 1) := by decide +kernel
theorem dX1_finish_116 : decode cX1_finish 116 = .ok (.iload_n 3, 1) := by decide +kernel
theorem dX1_finish_117 : decode cX1_finish 117 = .ok (.iadd, 1) := by decide +kernel
theorem dX1_finish_118 : decode cX1_finish 118 = .ok (.iastore, 1) := by decide +kernel
theorem dX1_finish_119 : decode cX1_finish 119 = .ok (.aload_n 0, 1) := by decide +kernel
theorem dX1_finish_120 : decode cX1_finish 120 = .ok (.getfield 28, 3) := by decide +kernel
theorem dX1_finish_123 : decode cX1_finish 123 = .ok (.getfield 87, 3) := by decide +kernel
theorem dX1_finish_126 : decode cX1_finish 126 = .ok (.iload_n 2, 1) := by decide +kernel
theorem dX1_finish_127 : decode cX1_finish 127 = .ok (.iconst (-1), 1) := by decide +kernel
theorem dX1_finish_128 : decode cX1_finish 128 = .ok (.iastore, 1) := by decide +kernel
theorem dX1_finish_129 : decode cX1_finish 129 = .ok (.aload_n 0, 1) := by decide +kernel
theorem dX1_finish_130 : decode cX1_finish 130 = .ok (.getfield 28, 3) := by decide +kernel
theorem dX1_finish_133 : decode cX1_finish 133 = .ok (.getfield 124, 3) := by decide +kernel
theorem dX1_finish_136 : decode cX1_finish 136 = .ok (.iload_n 2, 1) := by decide +kernel
theorem dX1_finish_137 : decode cX1_finish 137 = .ok (.dup2, 1) := by decide +kernel
theorem dX1_finish_138 : decode cX1_finish 138 = .ok (.iaload, 1) := by decide +kernel
theorem dX1_finish_139 : decode cX1_finish 139 = .ok (.iconst 1, 1) := by decide +kernel
theorem dX1_finish_140 : decode cX1_finish 140 = .ok (.iadd, 1) := by decide +kernel
theorem dX1_finish_141 : decode cX1_finish 141 = .ok (.iastore, 1) := by decide +kernel
theorem dX1_finish_142 : decode cX1_finish 142 = .ok (.return_, 1) := by decide +kernel
theorem dX1_isLate_0 : decode cX1_isLate 0 = .ok (.aload_n 0, 1) := by decide +kernel
theorem dX1_isLate_1 : decode cX1_isLate 1 = .ok (.getfield 35, 3) := by decide +kernel
theorem dX1_isLate_4 : decode cX1_isLate 4 = .ok (.iload_n 1, 1) := by decide +kernel
theorem dX1_isLate_5 : decode cX1_isLate 5 = .ok (.invokevirtual 65, 3) := by decide +kernel
theorem dX1_isLate_8 : decode cX1_isLate 8 = .ok (.ifCond .eq 22, 3) := by decide +kernel
theorem dX1_isLate_11 : decode cX1_isLate 11 = .ok (.aload_n 0, 1) := by decide +kernel
theorem dX1_isLate_12 : decode cX1_isLate 12 = .ok (.getfield 21, 3) := by decide +kernel
theorem dX1_isLate_15 : decode cX1_isLate 15 = .ok (.aload_n 0, 1) := by decide +kernel
theorem dX1_isLate_16 : decode cX1_isLate 16 = .ok (.getfield 35, 3) := by decide +kernel
theorem dX1_isLate_19 : decode cX1_isLate 19 = .ok (.getfield 93, 3) := by decide +kernel
theorem dX1_isLate_22 : decode cX1_isLate 22 = .ok (.iload_n 1, 1) := by decide +kernel
theorem dX1_isLate_23 : decode cX1_isLate 23 = .ok (.iaload, 1) := by decide +kernel
theorem dX1_isLate_24 : decode cX1_isLate 24 = .ok (.invokevirtual 61, 3) := by decide +kernel
theorem dX1_isLate_27 : decode cX1_isLate 27 = .ok (.ifCond .ne 5, 3) := by decide +kernel
theorem dX1_isLate_30 : decode cX1_isLate 30 = .ok (.iconst 0, 1) := by decide +kernel
theorem dX1_isLate_31 : decode cX1_isLate 31 = .ok (.ireturn, 1) := by decide +kernel
theorem dX1_isLate_32 : decode cX1_isLate 32 = .ok (.aload_n 0, 1) := by decide +kernel
theorem dX1_isLate_33 : decode cX1_isLate 33 = .ok (.getfield 58, 3) := by decide +kernel
theorem dX1_isLate_36 : decode cX1_isLate 36 = .ok (.aload_n 0, 1) := by decide +kernel
theorem dX1_isLate_37 : decode cX1_isLate 37 = .ok (.getfield 35, 3) := by decide +kernel
theorem dX1_isLate_40 : decode cX1_isLate 40 = .ok (.getfield 96, 3) := by decide +kernel
theorem dX1_isLate_43 : decode cX1_isLate 43 = .ok (.iload_n 1, 1) := by decide +kernel
theorem dX1_isLate_44 : decode cX1_isLate 44 = .ok (.iaload, 1) := by decide +kernel
theorem dX1_isLate_45 : decode cX1_isLate 45 = .ok (.isub, 1) := by decide +kernel
theorem dX1_isLate_46 : decode cX1_isLate 46 = .ok (.aload_n 0, 1) := by decide +kernel
theorem dX1_isLate_47 : decode cX1_isLate 47 = .ok (.getfield 21, 3) := by decide +kernel
theorem dX1_isLate_50 : decode cX1_isLate 50 = .ok (.getfield 99, 3) := by decide +kernel
theorem dX1_isLate_53 : decode cX1_isLate 53 = .ok (.aload_n 0, 1) := by decide +kernel
theorem dX1_isLate_54 : decode cX1_isLate 54 = .ok (.getfield 35, 3) := by decide +kernel
theorem dX1_isLate_57 : decode cX1_isLate 57 = .ok (.getfield 93, 3) := by decide +kernel
theorem dX1_isLate_60 : decode cX1_isLate 60 = .ok (.iload_n 1, 1) := by decide +kernel
theorem dX1_isLate_61 : decode cX1_isLate 61 = .ok (.iaload, 1) := by decide +kernel
theorem dX1_isLate_62 : decode cX1_isLate 62 = .ok (.iaload, 1) := by decide +kernel
theorem dX1_isLate_63 : decode cX1_isLate 63 = .ok (.if_icmp .le 7, 3) := by decide +kernel
theorem dX1_isLate_66 : decode cX1_isLate 66 = .ok (.iconst 1, 1) := by decide +kernel
theorem dX1_isLate_67 : decode cX1_isLate 67 = .ok (.goto 4, 3) := by decide +kernel
theorem dX1_isLate_70 : decode cX1_isLate 70 = .ok (.iconst 0, 1) := by decide +kernel
theorem dX1_isLate_71 : decode cX1_isLate 71 = .ok (.ireturn, 1) := by decide +kernel
theorem dX1_isOut_0 : decode cX1_isOut 0 = .ok (.aload_n 0, 1) := by decide +kernel
theorem dX1_isOut_1 : decode cX1_isOut 1 = .ok (.getfield 28, 3) := by decide +kernel
theorem dX1_isOut_4 : decode cX1_isOut 4 = .ok (.iload_n 1, 1) := by decide +kernel
theorem dX1_isOut_5 : decode cX1_isOut 5 = .ok (.invokevirtual 70, 3) := by decide +kernel
theorem dX1_isOut_8 : decode cX1_isOut 8 = .ok (.ifCond .ne 5, 3) := by decide +kernel
theorem dX1_isOut_11 : decode cX1_isOut 11 = .ok (.iconst 0, 1) := by decide +kernel
theorem dX1_isOut_12 : decode cX1_isOut 12 = .ok (.ireturn, 1) := by decide +kernel
theorem dX1_isOut_13 : decode cX1_isOut 13 = .ok (.aload_n 0, 1) := by decide +kernel
theorem dX1_isOut_14 : decode cX1_isOut 14 = .ok (.getfield 28, 3) := by decide +kernel
theorem dX1_isOut_17 : decode cX1_isOut 17 = .ok (.getfield 87, 3) := by decide +kernel
theorem dX1_isOut_20 : decode cX1_isOut 20 = .ok (.iload_n 1, 1) := by decide +kernel
theorem dX1_isOut_21 : decode cX1_isOut 21 = .ok (.iaload, 1) := by decide +kernel
theorem dX1_isOut_22 : decode cX1_isOut 22 = .ok (.istore_n 2, 1) := by decide +kernel
theorem dX1_isOut_23 : decode cX1_isOut 23 = .ok (.aload_n 0, 1) := by decide +kernel
theorem dX1_isOut_24 : decode cX1_isOut 24 = .ok (.getfield 35, 3) := by decide +kernel
theorem dX1_isOut_27 : decode cX1_isOut 27 = .ok (.iload_n 2, 1) := by decide +kernel
theorem dX1_isOut_28 : decode cX1_isOut 28 = .ok (.invokevirtual 65, 3) := by decide +kernel
theorem dX1_isOut_31 : decode cX1_isOut 31 = .ok (.ifCond .eq 20, 3) := by decide +kernel
theorem dX1_isOut_34 : decode cX1_isOut 34 = .ok (.aload_n 0, 1) := by decide +kernel
theorem dX1_isOut_35 : decode cX1_isOut 35 = .ok (.getfield 35, 3) := by decide +kernel
theorem dX1_isOut_38 : decode cX1_isOut 38 = .ok (.getfield 90, 3) := by decide +kernel
theorem dX1_isOut_41 : decode cX1_isOut 41 = .ok (.iload_n 2, 1) := by decide +kernel
theorem dX1_isOut_42 : decode cX1_isOut 42 = .ok (.iaload, 1) := by decide +kernel
theorem dX1_isOut_43 : decode cX1_isOut 43 = .ok (.iconst 1, 1) := by decide +kernel
theorem dX1_isOut_44 : decode cX1_isOut 44 = .ok (.if_icmp .ne 7, 3) := by decide +kernel
theorem dX1_isOut_47 : decode cX1_isOut 47 = .ok (.iconst 1, 1) := by decide +kernel
theorem dX1_isOut_48 : decode cX1_isOut 48 = .ok (.goto 4, 3) := by decide +kernel
theorem dX1_isOut_51 : decode cX1_isOut 51 = .ok (.iconst 0, 1) := by decide +kernel
theorem dX1_isOut_52 : decode cX1_isOut 52 = .ok (.ireturn, 1) := by decide +kernel
theorem dX1_judge_0 : decode cX1_judge 0 = .ok (.aload_n 0, 1) := by decide +kernel
theorem dX1_judge_1 : decode cX1_judge 1 = .ok (.iload_n 1, 1) := by decide +kernel
theorem dX1_judge_2 : decode cX1_judge 2 = .ok (.invokevirtual 102, 3) := by decide +kernel
theorem dX1_judge_5 : decode cX1_judge 5 = .ok (.ifCond .ne 5, 3) := by decide +kernel
theorem dX1_judge_8 : decode cX1_judge 8 = .ok (.iconst 1, 1) := by decide +kernel
theorem dX1_judge_9 : decode cX1_judge 9 = .ok (.ireturn, 1) := by decide +kernel
theorem dX1_judge_10 : decode cX1_judge 10 = .ok (.aload_n 0, 1) := by decide +kernel
theorem dX1_judge_11 : decode cX1_judge 11 = .ok (.getfield 28, 3) := by decide +kernel
theorem dX1_judge_14 : decode cX1_judge 14 = .ok (.getfield 87, 3) := by decide +kernel
theorem dX1_judge_17 : decode cX1_judge 17 = .ok (.iload_n 1, 1) := by decide +kernel
theorem dX1_judge_18 : decode cX1_judge 18 = .ok (.iaload, 1) := by decide +kernel
theorem dX1_judge_19 : decode cX1_judge 19 = .ok (.istore_n 3, 1) := by decide +kernel
theorem dX1_judge_20 : decode cX1_judge 20 = .ok (.aload_n 0, 1) := by decide +kernel
theorem dX1_judge_21 : decode cX1_judge 21 = .ok (.getfield 35, 3) := by decide +kernel
theorem dX1_judge_24 : decode cX1_judge 24 = .ok (.iload_n 3, 1) := by decide +kernel
theorem dX1_judge_25 : decode cX1_judge 25 = .ok (.invokevirtual 65, 3) := by decide +kernel
theorem dX1_judge_28 : decode cX1_judge 28 = .ok (.ifCond .eq 19, 3) := by decide +kernel
theorem dX1_judge_31 : decode cX1_judge 31 = .ok (.aload_n 0, 1) := by decide +kernel
theorem dX1_judge_32 : decode cX1_judge 32 = .ok (.getfield 35, 3) := by decide +kernel
theorem dX1_judge_35 : decode cX1_judge 35 = .ok (.getfield 71, 3) := by decide +kernel
theorem dX1_judge_38 : decode cX1_judge 38 = .ok (.iload_n 3, 1) := by decide +kernel
theorem dX1_judge_39 : decode cX1_judge 39 = .ok (.iaload, 1) := by decide +kernel
theorem dX1_judge_40 : decode cX1_judge 40 = .ok (.iload_n 2, 1) := by decide +kernel
theorem dX1_judge_41 : decode cX1_judge 41 = .ok (.ishr, 1) := by decide +kernel
theorem dX1_judge_42 : decode cX1_judge 42 = .ok (.iconst 1, 1) := by decide +kernel
theorem dX1_judge_43 : decode cX1_judge 43 = .ok (.iand, 1) := by decide +kernel
theorem dX1_judge_44 : decode cX1_judge 44 = .ok (.ifCond .ne 5, 3) := by decide +kernel
theorem dX1_judge_47 : decode cX1_judge 47 = .ok (.iconst 2, 1) := by decide +kernel
theorem dX1_judge_48 : decode cX1_judge 48 = .ok (.ireturn, 1) := by decide +kernel
theorem dX1_judge_49 : decode cX1_judge 49 = .ok (.aload_n 0, 1) := by decide +kernel
theorem dX1_judge_50 : decode cX1_judge 50 = .ok (.iload_n 3, 1) := by decide +kernel
theorem dX1_judge_51 : decode cX1_judge 51 = .ok (.invokevirtual 105, 3) := by decide +kernel
theorem dX1_judge_54 : decode cX1_judge 54 = .ok (.ifCond .eq 7, 3) := by decide +kernel
theorem dX1_judge_57 : decode cX1_judge 57 = .ok (.iconst 3, 1) := by decide +kernel
theorem dX1_judge_58 : decode cX1_judge 58 = .ok (.goto 4, 3) := by decide +kernel
theorem dX1_judge_61 : decode cX1_judge 61 = .ok (.iconst 0, 1) := by decide +kernel
theorem dX1_judge_62 : decode cX1_judge 62 = .ok (.ireturn, 1) := by decide +kernel
theorem dX1_reopen_0 : decode cX1_reopen 0 = .ok (.aload_n 0, 1) := by decide +kernel
theorem dX1_reopen_1 : decode cX1_reopen 1 = .ok (.getfield 35, 3) := by decide +kernel
theorem dX1_reopen_4 : decode cX1_reopen 4 = .ok (.iload_n 1, 1) := by decide +kernel
theorem dX1_reopen_5 : decode cX1_reopen 5 = .ok (.invokevirtual 65, 3) := by decide +kernel
theorem dX1_reopen_8 : decode cX1_reopen 8 = .ok (.ifCond .eq 22, 3) := by decide +kernel
theorem dX1_reopen_11 : decode cX1_reopen 11 = .ok (.aload_n 0, 1) := by decide +kernel
theorem dX1_reopen_12 : decode cX1_reopen 12 = .ok (.getfield 28, 3) := by decide +kernel
theorem dX1_reopen_15 : decode cX1_reopen 15 = .ok (.aload_n 0, 1) := by decide +kernel
theorem dX1_reopen_16 : decode cX1_reopen 16 = .ok (.getfield 35, 3) := by decide +kernel
theorem dX1_reopen_19 : decode cX1_reopen 19 = .ok (.getfield 66, 3) := by decide +kernel
theorem dX1_reopen_22 : decode cX1_reopen 22 = .ok (.iload_n 1, 1) := by decide +kernel
theorem dX1_reopen_23 : decode cX1_reopen 23 = .ok (.iaload, 1) := by decide +kernel
theorem dX1_reopen_24 : decode cX1_reopen 24 = .ok (.invokevirtual 70, 3) := by decide +kernel
theorem dX1_reopen_27 : decode cX1_reopen 27 = .ok (.ifCond .ne 4, 3) := by decide +kernel
theorem dX1_reopen_30 : decode cX1_reopen 30 = .ok (.return_, 1) := by decide +kernel
theorem dX1_reopen_31 : decode cX1_reopen 31 = .ok (.aload_n 0, 1) := by decide +kernel
theorem dX1_reopen_32 : decode cX1_reopen 32 = .ok (.getfield 35, 3) := by decide +kernel
theorem dX1_reopen_35 : decode cX1_reopen 35 = .ok (.getfield 66, 3) := by decide +kernel
theorem dX1_reopen_38 : decode cX1_reopen 38 = .ok (.iload_n 1, 1) := by decide +kernel
theorem dX1_reopen_39 : decode cX1_reopen 39 = .ok (.iaload, 1) := by decide +kernel
theorem dX1_reopen_40 : decode cX1_reopen 40 = .ok (.istore_n 2, 1) := by decide +kernel
theorem dX1_reopen_41 : decode cX1_reopen 41 = .ok (.aload_n 0, 1) := by decide +kernel
theorem dX1_reopen_42 : decode cX1_reopen 42 = .ok (.getfield 35, 3) := by decide +kernel
theorem dX1_reopen_45 : decode cX1_reopen 45 = .ok (.getfield 114, 3) := by decide +kernel
theorem dX1_reopen_48 : decode cX1_reopen 48 = .ok (.iload_n 1, 1) := by decide +kernel
theorem dX1_reopen_49 : decode cX1_reopen 49 = .ok (.iaload, 1) := by decide +kernel
theorem dX1_reopen_50 : decode cX1_reopen 50 = .ok (.istore_n 3, 1) := by decide +kernel
theorem dX1_reopen_51 : decode cX1_reopen 51 = .ok (.aload_n 0, 1) := by decide +kernel
theorem dX1_reopen_52 : decode cX1_reopen 52 = .ok (.getfield 35, 3) := by decide +kernel
theorem dX1_reopen_55 : decode cX1_reopen 55 = .ok (.getfield 90, 3) := by decide +kernel
theorem dX1_reopen_58 : decode cX1_reopen 58 = .ok (.iload_n 1, 1) := by decide +kernel
theorem dX1_reopen_59 : decode cX1_reopen 59 = .ok (.aload_n 0, 1) := by decide +kernel
theorem dX1_reopen_60 : decode cX1_reopen 60 = .ok (.getfield 35, 3) := by decide +kernel
theorem dX1_reopen_63 : decode cX1_reopen 63 = .ok (.getfield 93, 3) := by decide +kernel
theorem dX1_reopen_66 : decode cX1_reopen 66 = .ok (.iload_n 1, 1) := by decide +kernel
theorem dX1_reopen_67 : decode cX1_reopen 67 = .ok (.iaload, 1) := by decide +kernel
theorem dX1_reopen_68 : decode cX1_reopen 68 = .ok (.iconst (-1), 1) := by decide +kernel
theorem dX1_reopen_69 : decode cX1_reopen 69 = .ok (.if_icmp .ne 7, 3) := by decide +kernel
theorem dX1_reopen_72 : decode cX1_reopen 72 = .ok (.iconst 0, 1) := by decide +kernel
theorem dX1_reopen_73 : decode cX1_reopen 73 = .ok (.goto 4, 3) := by decide +kernel
theorem dX1_reopen_76 : decode cX1_reopen 76 = .ok (.iconst 1, 1) := by decide +kernel
theorem dX1_reopen_77 : decode cX1_reopen 77 = .ok (.iastore, 1) := by decide +kernel
theorem dX1_reopen_78 : decode cX1_reopen 78 = .ok (.aload_n 0, 1) := by decide +kernel
theorem dX1_reopen_79 : decode cX1_reopen 79 = .ok (.getfield 35, 3) := by decide +kernel
theorem dX1_reopen_82 : decode cX1_reopen 82 = .ok (.getfield 111, 3) := by decide +kernel
theorem dX1_reopen_85 : decode cX1_reopen 85 = .ok (.iload_n 1, 1) := by decide +kernel
theorem dX1_reopen_86 : decode cX1_reopen 86 = .ok (.iconst (-1), 1) := by decide +kernel
theorem dX1_reopen_87 : decode cX1_reopen 87 = .ok (.iastore, 1) := by decide +kernel
theorem dX1_reopen_88 : decode cX1_reopen 88 = .ok (.aload_n 0, 1) := by decide +kernel
theorem dX1_reopen_89 : decode cX1_reopen 89 = .ok (.getfield 35, 3) := by decide +kernel
theorem dX1_reopen_92 : decode cX1_reopen 92 = .ok (.getfield 114, 3) := by decide +kernel
theorem dX1_reopen_95 : decode cX1_reopen 95 = .ok (.iload_n 1, 1) := by decide +kernel
theorem dX1_reopen_96 : decode cX1_reopen 96 = .ok (.iconst 0, 1) := by decide +kernel
theorem dX1_reopen_97 : decode cX1_reopen 97 = .ok (.iastore, 1) := by decide +kernel
theorem dX1_reopen_98 : decode cX1_reopen 98 = .ok (.aload_n 0, 1) := by decide +kernel
theorem dX1_reopen_99 : decode cX1_reopen 99 = .ok (.getfield 21, 3) := by decide +kernel
theorem dX1_reopen_102 : decode cX1_reopen 102 = .ok (.aload_n 0, 1) := by decide +kernel
theorem dX1_reopen_103 : decode cX1_reopen 103 = .ok (.getfield 35, 3) := by decide +kernel
theorem dX1_reopen_106 : decode cX1_reopen 106 = .ok (.getfield 93, 3) := by decide +kernel
theorem dX1_reopen_109 : decode cX1_reopen 109 = .ok (.iload_n 1, 1) := by decide +kernel
theorem dX1_reopen_110 : decode cX1_reopen 110 = .ok (.iaload, 1) := by decide +kernel
theorem dX1_reopen_111 : decode cX1_reopen 111 = .ok (.iload_n 3, 1) := by decide +kernel
theorem dX1_reopen_112 : decode cX1_reopen 112 = .ok (.iconst (-1), 1) := by decide +kernel
theorem dX1_reopen_113 : decode cX1_reopen 113 = .ok (.invokevirtual 117, 3) := by decide +kernel
theorem dX1_reopen_116 : decode cX1_reopen 116 = .ok (.aload_n 0, 1) := by decide +kernel
theorem dX1_reopen_117 : decode cX1_reopen 117 = .ok (.getfield 28, 3) := by decide +kernel
theorem dX1_reopen_120 : decode cX1_reopen 120 = .ok (.getfield 121, 3) := by decide +kernel
theorem dX1_reopen_123 : decode cX1_reopen 123 = .ok (.iload_n 2, 1) := by decide +kernel
theorem dX1_reopen_124 : decode cX1_reopen 124 = .ok (.dup2, 1) := by decide +kernel
theorem dX1_reopen_125 : decode cX1_reopen 125 = .ok (.iaload, 1) := by decide +kernel
theorem dX1_reopen_126 : decode cX1_reopen 126 = .ok (.iload_n 3, 1) := by decide +kernel
theorem dX1_reopen_127 : decode cX1_reopen 127 = .ok (.isub, 1) := by decide +kernel
theorem dX1_reopen_128 : decode cX1_reopen 128 = .ok (.iastore, 1) := by decide +kernel
theorem dX1_reopen_129 : decode cX1_reopen 129 = .ok (.aload_n 0, 1) := by decide +kernel
theorem dX1_reopen_130 : decode cX1_reopen 130 = .ok (.getfield 28, 3) := by decide +kernel
theorem dX1_reopen_133 : decode cX1_reopen 133 = .ok (.getfield 87, 3) := by decide +kernel
theorem dX1_reopen_136 : decode cX1_reopen 136 = .ok (.iload_n 2, 1) := by decide +kernel
theorem dX1_reopen_137 : decode cX1_reopen 137 = .ok (.iload_n 1, 1) := by decide +kernel
theorem dX1_reopen_138 : decode cX1_reopen 138 = .ok (.iastore, 1) := by decide +kernel
theorem dX1_reopen_139 : decode cX1_reopen 139 = .ok (.aload_n 0, 1) := by decide +kernel
theorem dX1_reopen_140 : decode cX1_reopen 140 = .ok (.getfield 28, 3) := by decide +kernel
theorem dX1_reopen_143 : decode cX1_reopen 143 = .ok (.getfield 124, 3) := by decide +kernel
theorem dX1_reopen_146 : decode cX1_reopen 146 = .ok (.iload_n 2, 1) := by decide +kernel
theorem dX1_reopen_147 : decode cX1_reopen 147 = .ok (.dup2, 1) := by decide +kernel
theorem dX1_reopen_148 : decode cX1_reopen 148 = .ok (.iaload, 1) := by decide +kernel
theorem dX1_reopen_149 : decode cX1_reopen 149 = .ok (.iconst 1, 1) := by decide +kernel
theorem dX1_reopen_150 : decode cX1_reopen 150 = .ok (.isub, 1) := by decide +kernel
theorem dX1_reopen_151 : decode cX1_reopen 151 = .ok (.iastore, 1) := by decide +kernel
theorem dX1_reopen_152 : decode cX1_reopen 152 = .ok (.return_, 1) := by decide +kernel
theorem dX1_sendOut_0 : decode cX1_sendOut 0 = .ok (.aload_n 0, 1) := by decide +kernel
theorem dX1_sendOut_1 : decode cX1_sendOut 1 = .ok (.getfield 35, 3) := by decide +kernel
theorem dX1_sendOut_4 : decode cX1_sendOut 4 = .ok (.iload_n 1, 1) := by decide +kernel
theorem dX1_sendOut_5 : decode cX1_sendOut 5 = .ok (.invokevirtual 65, 3) := by decide +kernel
theorem dX1_sendOut_8 : decode cX1_sendOut 8 = .ok (.ifCond .eq 14, 3) := by decide +kernel
theorem dX1_sendOut_11 : decode cX1_sendOut 11 = .ok (.aload_n 0, 1) := by decide +kernel
theorem dX1_sendOut_12 : decode cX1_sendOut 12 = .ok (.getfield 21, 3) := by decide +kernel
theorem dX1_sendOut_15 : decode cX1_sendOut 15 = .ok (.iload_n 2, 1) := by decide +kernel
theorem dX1_sendOut_16 : decode cX1_sendOut 16 = .ok (.invokevirtual 61, 3) := by decide +kernel
theorem dX1_sendOut_19 : decode cX1_sendOut 19 = .ok (.ifCond .ne 5, 3) := by decide +kernel
theorem dX1_sendOut_22 : decode cX1_sendOut 22 = .ok (.iconst 0, 1) := by decide +kernel
theorem dX1_sendOut_23 : decode cX1_sendOut 23 = .ok (.ireturn, 1) := by decide +kernel
theorem dX1_sendOut_24 : decode cX1_sendOut 24 = .ok (.aload_n 0, 1) := by decide +kernel
theorem dX1_sendOut_25 : decode cX1_sendOut 25 = .ok (.getfield 35, 3) := by decide +kernel
theorem dX1_sendOut_28 : decode cX1_sendOut 28 = .ok (.getfield 90, 3) := by decide +kernel
theorem dX1_sendOut_31 : decode cX1_sendOut 31 = .ok (.iload_n 1, 1) := by decide +kernel
theorem dX1_sendOut_32 : decode cX1_sendOut 32 = .ok (.iconst 1, 1) := by decide +kernel
theorem dX1_sendOut_33 : decode cX1_sendOut 33 = .ok (.iastore, 1) := by decide +kernel
theorem dX1_sendOut_34 : decode cX1_sendOut 34 = .ok (.aload_n 0, 1) := by decide +kernel
theorem dX1_sendOut_35 : decode cX1_sendOut 35 = .ok (.getfield 35, 3) := by decide +kernel
theorem dX1_sendOut_38 : decode cX1_sendOut 38 = .ok (.getfield 93, 3) := by decide +kernel
theorem dX1_sendOut_41 : decode cX1_sendOut 41 = .ok (.iload_n 1, 1) := by decide +kernel
theorem dX1_sendOut_42 : decode cX1_sendOut 42 = .ok (.iload_n 2, 1) := by decide +kernel
theorem dX1_sendOut_43 : decode cX1_sendOut 43 = .ok (.iastore, 1) := by decide +kernel
theorem dX1_sendOut_44 : decode cX1_sendOut 44 = .ok (.aload_n 0, 1) := by decide +kernel
theorem dX1_sendOut_45 : decode cX1_sendOut 45 = .ok (.getfield 35, 3) := by decide +kernel
theorem dX1_sendOut_48 : decode cX1_sendOut 48 = .ok (.getfield 96, 3) := by decide +kernel
theorem dX1_sendOut_51 : decode cX1_sendOut 51 = .ok (.iload_n 1, 1) := by decide +kernel
theorem dX1_sendOut_52 : decode cX1_sendOut 52 = .ok (.aload_n 0, 1) := by decide +kernel
theorem dX1_sendOut_53 : decode cX1_sendOut 53 = .ok (.getfield 58, 3) := by decide +kernel
theorem dX1_sendOut_56 : decode cX1_sendOut 56 = .ok (.iastore, 1) := by decide +kernel
theorem dX1_sendOut_57 : decode cX1_sendOut 57 = .ok (.aload_n 0, 1) := by decide +kernel
theorem dX1_sendOut_58 : decode cX1_sendOut 58 = .ok (.getfield 21, 3) := by decide +kernel
theorem dX1_sendOut_61 : decode cX1_sendOut 61 = .ok (.getfield 108, 3) := by decide +kernel
theorem dX1_sendOut_64 : decode cX1_sendOut 64 = .ok (.iload_n 2, 1) := by decide +kernel
theorem dX1_sendOut_65 : decode cX1_sendOut 65 = .ok (.dup2, 1) := by decide +kernel
theorem dX1_sendOut_66 : decode cX1_sendOut 66 = .ok (.iaload, 1) := by decide +kernel
theorem dX1_sendOut_67 : decode cX1_sendOut 67 = .ok (.iconst 1, 1) := by decide +kernel
theorem dX1_sendOut_68 : decode cX1_sendOut 68 = .ok (.iadd, 1) := by decide +kernel
theorem dX1_sendOut_69 : decode cX1_sendOut 69 = .ok (.iastore, 1) := by decide +kernel
theorem dX1_sendOut_70 : decode cX1_sendOut 70 = .ok (.iconst 1, 1) := by decide +kernel
theorem dX1_sendOut_71 : decode cX1_sendOut 71 = .ok (.aload_n 0, 1) := by decide +kernel
theorem dX1_sendOut_72 : decode cX1_sendOut 72 = .ok (.getfield 35, 3) := by decide +kernel
theorem dX1_sendOut_75 : decode cX1_sendOut 75 = .ok (.getfield 66, 3) := by decide +kernel
theorem dX1_sendOut_78 : decode cX1_sendOut 78 = .ok (.iload_n 1, 1) := by decide +kernel
theorem dX1_sendOut_79 : decode cX1_sendOut 79 = .ok (.iaload, 1) := by decide +kernel
theorem dX1_sendOut_80 : decode cX1_sendOut 80 = .ok (.ishl, 1) := by decide +kernel
theorem dX1_sendOut_81 : decode cX1_sendOut 81 = .ok (.ireturn, 1) := by decide +kernel
theorem dX1_suits_0 : decode cX1_suits 0 = .ok (.aload_n 0, 1) := by decide +kernel
theorem dX1_suits_1 : decode cX1_suits 1 = .ok (.getfield 21, 3) := by decide +kernel
theorem dX1_suits_4 : decode cX1_suits 4 = .ok (.iload_n 1, 1) := by decide +kernel
theorem dX1_suits_5 : decode cX1_suits 5 = .ok (.invokevirtual 61, 3) := by decide +kernel
theorem dX1_suits_8 : decode cX1_suits 8 = .ok (.ifCond .eq 33, 3) := by decide +kernel
theorem dX1_suits_11 : decode cX1_suits 11 = .ok (.aload_n 0, 1) := by decide +kernel
theorem dX1_suits_12 : decode cX1_suits 12 = .ok (.getfield 35, 3) := by decide +kernel
theorem dX1_suits_15 : decode cX1_suits 15 = .ok (.iload_n 2, 1) := by decide +kernel
theorem dX1_suits_16 : decode cX1_suits 16 = .ok (.invokevirtual 65, 3) := by decide +kernel
theorem dX1_suits_19 : decode cX1_suits 19 = .ok (.ifCond .eq 22, 3) := by decide +kernel
theorem dX1_suits_22 : decode cX1_suits 22 = .ok (.aload_n 0, 1) := by decide +kernel
theorem dX1_suits_23 : decode cX1_suits 23 = .ok (.getfield 28, 3) := by decide +kernel
theorem dX1_suits_26 : decode cX1_suits 26 = .ok (.aload_n 0, 1) := by decide +kernel
theorem dX1_suits_27 : decode cX1_suits 27 = .ok (.getfield 35, 3) := by decide +kernel
theorem dX1_suits_30 : decode cX1_suits 30 = .ok (.getfield 66, 3) := by decide +kernel
theorem dX1_suits_33 : decode cX1_suits 33 = .ok (.iload_n 2, 1) := by decide +kernel
theorem dX1_suits_34 : decode cX1_suits 34 = .ok (.iaload, 1) := by decide +kernel
theorem dX1_suits_35 : decode cX1_suits 35 = .ok (.invokevirtual 70, 3) := by decide +kernel
theorem dX1_suits_38 : decode cX1_suits 38 = .ok (.ifCond .ne 5, 3) := by decide +kernel
theorem dX1_suits_41 : decode cX1_suits 41 = .ok (.iconst 0, 1) := by decide +kernel
theorem dX1_suits_42 : decode cX1_suits 42 = .ok (.ireturn, 1) := by decide +kernel
theorem dX1_suits_43 : decode cX1_suits 43 = .ok (.aload_n 0, 1) := by decide +kernel
theorem dX1_suits_44 : decode cX1_suits 44 = .ok (.getfield 35, 3) := by decide +kernel
theorem dX1_suits_47 : decode cX1_suits 47 = .ok (.getfield 66, 3) := by decide +kernel
theorem dX1_suits_50 : decode cX1_suits 50 = .ok (.iload_n 2, 1) := by decide +kernel
theorem dX1_suits_51 : decode cX1_suits 51 = .ok (.iaload, 1) := by decide +kernel
theorem dX1_suits_52 : decode cX1_suits 52 = .ok (.istore_n 3, 1) := by decide +kernel
theorem dX1_suits_53 : decode cX1_suits 53 = .ok (.aload_n 0, 1) := by decide +kernel
theorem dX1_suits_54 : decode cX1_suits 54 = .ok (.getfield 35, 3) := by decide +kernel
theorem dX1_suits_57 : decode cX1_suits 57 = .ok (.getfield 71, 3) := by decide +kernel
theorem dX1_suits_60 : decode cX1_suits 60 = .ok (.iload_n 2, 1) := by decide +kernel
theorem dX1_suits_61 : decode cX1_suits 61 = .ok (.iaload, 1) := by decide +kernel
theorem dX1_suits_62 : decode cX1_suits 62 = .ok (.iconst 1, 1) := by decide +kernel
theorem dX1_suits_63 : decode cX1_suits 63 = .ok (.aload_n 0, 1) := by decide +kernel
theorem dX1_suits_64 : decode cX1_suits 64 = .ok (.getfield 28, 3) := by decide +kernel
theorem dX1_suits_67 : decode cX1_suits 67 = .ok (.getfield 74, 3) := by decide +kernel
theorem dX1_suits_70 : decode cX1_suits 70 = .ok (.iload_n 3, 1) := by decide +kernel
theorem dX1_suits_71 : decode cX1_suits 71 = .ok (.iaload, 1) := by decide +kernel
theorem dX1_suits_72 : decode cX1_suits 72 = .ok (.ishl, 1) := by decide +kernel
theorem dX1_suits_73 : decode cX1_suits 73 = .ok (.iconst (-1), 1) := by decide +kernel
theorem dX1_suits_74 : decode cX1_suits 74 = .ok (.ixor, 1) := by decide +kernel
theorem dX1_suits_75 : decode cX1_suits 75 = .ok (.iand, 1) := by decide +kernel
theorem dX1_suits_76 : decode cX1_suits 76 = .ok (.istore 4, 2) := by decide +kernel
theorem dX1_suits_78 : decode cX1_suits 78 = .ok (.aload_n 0, 1) := by decide +kernel
theorem dX1_suits_79 : decode cX1_suits 79 = .ok (.getfield 21, 3) := by decide +kernel
theorem dX1_suits_82 : decode cX1_suits 82 = .ok (.iload_n 1, 1) := by decide +kernel
theorem dX1_suits_83 : decode cX1_suits 83 = .ok (.iload 4, 2) := by decide +kernel
theorem dX1_suits_85 : decode cX1_suits 85 = .ok (.invokevirtual 77, 3) := by decide +kernel
theorem dX1_suits_88 : decode cX1_suits 88 = .ok (.ifCond .eq 27, 3) := by decide +kernel
theorem dX1_suits_91 : decode cX1_suits 91 = .ok (.aload_n 0, 1) := by decide +kernel
theorem dX1_suits_92 : decode cX1_suits 92 = .ok (.getfield 21, 3) := by decide +kernel
theorem dX1_suits_95 : decode cX1_suits 95 = .ok (.iload_n 1, 1) := by decide +kernel
theorem dX1_suits_96 : decode cX1_suits 96 = .ok (.aload_n 0, 1) := by decide +kernel
theorem dX1_suits_97 : decode cX1_suits 97 = .ok (.getfield 28, 3) := by decide +kernel
theorem dX1_suits_100 : decode cX1_suits 100 = .ok (.getfield 81, 3) := by decide +kernel
theorem dX1_suits_103 : decode cX1_suits 103 = .ok (.iload_n 3, 1) := by decide +kernel
theorem dX1_suits_104 : decode cX1_suits 104 = .ok (.iaload, 1) := by decide +kernel
theorem dX1_suits_105 : decode cX1_suits 105 = .ok (.invokevirtual 84, 3) := by decide +kernel
theorem dX1_suits_108 : decode cX1_suits 108 = .ok (.ifCond .eq 7, 3) := by decide +kernel
theorem dX1_suits_111 : decode cX1_suits 111 = .ok (.iconst 1, 1) := by decide +kernel
theorem dX1_suits_112 : decode cX1_suits 112 = .ok (.goto 4, 3) := by decide +kernel
theorem dX1_suits_115 : decode cX1_suits 115 = .ok (.iconst 0, 1) := by decide +kernel
theorem dX1_suits_116 : decode cX1_suits 116 = .ok (.ireturn, 1) := by decide +kernel
theorem dX1_takeBack_0 : decode cX1_takeBack 0 = .ok (.iload_n 1, 1) := by decide +kernel
theorem dX1_takeBack_1 : decode cX1_takeBack 1 = .ok (.tableswitch 81 0 4 #[35, 43, 51, 59, 68], 35) := by decide +kernel
theorem dX1_takeBack_36 : decode cX1_takeBack 36 = .ok (.aload_n 0, 1) := by decide +kernel
theorem dX1_takeBack_37 : decode cX1_takeBack 37 = .ok (.iload_n 2, 1) := by decide +kernel
theorem dX1_takeBack_38 : decode cX1_takeBack 38 = .ok (.invokevirtual 127, 3) := by decide +kernel
theorem dX1_takeBack_41 : decode cX1_takeBack 41 = .ok (.goto 51, 3) := by decide +kernel
theorem dX1_takeBack_44 : decode cX1_takeBack 44 = .ok (.aload_n 0, 1) := by decide +kernel
theorem dX1_takeBack_45 : decode cX1_takeBack 45 = .ok (.iload_n 3, 1) := by decide +kernel
theorem dX1_takeBack_46 : decode cX1_takeBack 46 = .ok (.invokevirtual 131, 3) := by decide +kernel
theorem dX1_takeBack_49 : decode cX1_takeBack 49 = .ok (.goto 43, 3) := by decide +kernel
theorem dX1_takeBack_52 : decode cX1_takeBack 52 = .ok (.aload_n 0, 1) := by decide +kernel
theorem dX1_takeBack_53 : decode cX1_takeBack 53 = .ok (.iload_n 2, 1) := by decide +kernel
theorem dX1_takeBack_54 : decode cX1_takeBack 54 = .ok (.invokevirtual 134, 3) := by decide +kernel
theorem dX1_takeBack_57 : decode cX1_takeBack 57 = .ok (.goto 35, 3) := by decide +kernel
theorem dX1_takeBack_60 : decode cX1_takeBack 60 = .ok (.aload_n 0, 1) := by decide +kernel
theorem dX1_takeBack_61 : decode cX1_takeBack 61 = .ok (.iload_n 2, 1) := by decide +kernel
theorem dX1_takeBack_62 : decode cX1_takeBack 62 = .ok (.iload_n 3, 1) := by decide +kernel
theorem dX1_takeBack_63 : decode cX1_takeBack 63 = .ok (.invokevirtual 137, 3) := by decide +kernel
theorem dX1_takeBack_66 : decode cX1_takeBack 66 = .ok (.goto 26, 3) := by decide +kernel
theorem dX1_takeBack_69 : decode cX1_takeBack 69 = .ok (.aload_n 0, 1) := by decide +kernel
theorem dX1_takeBack_70 : decode cX1_takeBack 70 = .ok (.getfield 21, 3) := by decide +kernel
theorem dX1_takeBack_73 : decode cX1_takeBack 73 = .ok (.iload_n 2, 1) := by decide +kernel
theorem dX1_takeBack_74 : decode cX1_takeBack 74 = .ok (.iload_n 3, 1) := by decide +kernel
theorem dX1_takeBack_75 : decode cX1_takeBack 75 = .ok (.ineg, 1) := by decide +kernel
theorem dX1_takeBack_76 : decode cX1_takeBack 76 = .ok (.invokevirtual 141, 3) := by decide +kernel
theorem dX1_takeBack_79 : decode cX1_takeBack 79 = .ok (.goto 13, 3) := by decide +kernel
theorem dX1_takeBack_82 : decode cX1_takeBack 82 = .ok (.aload_n 0, 1) := by decide +kernel
theorem dX1_takeBack_83 : decode cX1_takeBack 83 = .ok (.dup, 1) := by decide +kernel
theorem dX1_takeBack_84 : decode cX1_takeBack 84 = .ok (.getfield 58, 3) := by decide +kernel
theorem dX1_takeBack_87 : decode cX1_takeBack 87 = .ok (.iload_n 3, 1) := by decide +kernel
theorem dX1_takeBack_88 : decode cX1_takeBack 88 = .ok (.isub, 1) := by decide +kernel
theorem dX1_takeBack_89 : decode cX1_takeBack 89 = .ok (.putfield 58, 3) := by decide +kernel
theorem dX1_takeBack_92 : decode cX1_takeBack 92 = .ok (.return_, 1) := by decide +kernel
theorem dX1_takeBackMisuse_0 : decode cX1_takeBackMisuse 0 = .ok (.aload_n 0, 1) := by decide +kernel
theorem dX1_takeBackMisuse_1 : decode cX1_takeBackMisuse 1 = .ok (.getfield 28, 3) := by decide +kernel
theorem dX1_takeBackMisuse_4 : decode cX1_takeBackMisuse 4 = .ok (.iload_n 1, 1) := by decide +kernel
theorem dX1_takeBackMisuse_5 : decode cX1_takeBackMisuse 5 = .ok (.invokevirtual 70, 3) := by decide +kernel
theorem dX1_takeBackMisuse_8 : decode cX1_takeBackMisuse 8 = .ok (.ifCond .eq 16, 3) := by decide +kernel
theorem dX1_takeBackMisuse_11 : decode cX1_takeBackMisuse 11 = .ok (.aload_n 0, 1) := by decide +kernel
theorem dX1_takeBackMisuse_12 : decode cX1_takeBackMisuse 12 = .ok (.getfield 28, 3) := by decide +kernel
theorem dX1_takeBackMisuse_15 : decode cX1_takeBackMisuse 15 = .ok (.getfield 121, 3) := by decide +kernel
theorem dX1_takeBackMisuse_18 : decode cX1_takeBackMisuse 18 = .ok (.iload_n 1, 1) := by decide +kernel
theorem dX1_takeBackMisuse_19 : decode cX1_takeBackMisuse 19 = .ok (.dup2, 1) := by decide +kernel
theorem dX1_takeBackMisuse_20 : decode cX1_takeBackMisuse 20 = .ok (.iaload, 1) := by decide +kernel
theorem dX1_takeBackMisuse_21 : decode cX1_takeBackMisuse 21 = .ok (.iload_n 2, 1) := by decide +kernel
theorem dX1_takeBackMisuse_22 : decode cX1_takeBackMisuse 22 = .ok (.isub, 1) := by decide +kernel
theorem dX1_takeBackMisuse_23 : decode cX1_takeBackMisuse 23 = .ok (.iastore, 1) := by decide +kernel
theorem dX1_takeBackMisuse_24 : decode cX1_takeBackMisuse 24 = .ok (.return_, 1) := by decide +kernel
theorem dX1_takeBackTrip_0 : decode cX1_takeBackTrip 0 = .ok (.aload_n 0, 1) := by decide +kernel
theorem dX1_takeBackTrip_1 : decode cX1_takeBackTrip 1 = .ok (.getfield 28, 3) := by decide +kernel
theorem dX1_takeBackTrip_4 : decode cX1_takeBackTrip 4 = .ok (.iload_n 1, 1) := by decide +kernel
theorem dX1_takeBackTrip_5 : decode cX1_takeBackTrip 5 = .ok (.invokevirtual 70, 3) := by decide +kernel
theorem dX1_takeBackTrip_8 : decode cX1_takeBackTrip 8 = .ok (.ifCond .eq 36, 3) := by decide +kernel
theorem dX1_takeBackTrip_11 : decode cX1_takeBackTrip 11 = .ok (.aload_n 0, 1) := by decide +kernel
theorem dX1_takeBackTrip_12 : decode cX1_takeBackTrip 12 = .ok (.getfield 35, 3) := by decide +kernel
theorem dX1_takeBackTrip_15 : decode cX1_takeBackTrip 15 = .ok (.getfield 51, 3) := by decide +kernel
theorem dX1_takeBackTrip_18 : decode cX1_takeBackTrip 18 = .ok (.ifCond .le 26, 3) := by decide +kernel
theorem dX1_takeBackTrip_21 : decode cX1_takeBackTrip 21 = .ok (.aload_n 0, 1) := by decide +kernel
theorem dX1_takeBackTrip_22 : decode cX1_takeBackTrip 22 = .ok (.getfield 28, 3) := by decide +kernel
theorem dX1_takeBackTrip_25 : decode cX1_takeBackTrip 25 = .ok (.getfield 87, 3) := by decide +kernel
theorem dX1_takeBackTrip_28 : decode cX1_takeBackTrip 28 = .ok (.iload_n 1, 1) := by decide +kernel
theorem dX1_takeBackTrip_29 : decode cX1_takeBackTrip 29 = .ok (.iconst (-1), 1) := by decide +kernel
theorem dX1_takeBackTrip_30 : decode cX1_takeBackTrip 30 = .ok (.iastore, 1) := by decide +kernel
theorem dX1_takeBackTrip_31 : decode cX1_takeBackTrip 31 = .ok (.aload_n 0, 1) := by decide +kernel
theorem dX1_takeBackTrip_32 : decode cX1_takeBackTrip 32 = .ok (.getfield 35, 3) := by decide +kernel
theorem dX1_takeBackTrip_35 : decode cX1_takeBackTrip 35 = .ok (.dup, 1) := by decide +kernel
theorem dX1_takeBackTrip_36 : decode cX1_takeBackTrip 36 = .ok (.getfield 51, 3) := by decide +kernel
theorem dX1_takeBackTrip_39 : decode cX1_takeBackTrip 39 = .ok (.iconst 1, 1) := by decide +kernel
theorem dX1_takeBackTrip_40 : decode cX1_takeBackTrip 40 = .ok (.isub, 1) := by decide +kernel
theorem dX1_takeBackTrip_41 : decode cX1_takeBackTrip 41 = .ok (.putfield 51, 3) := by decide +kernel
theorem dX1_takeBackTrip_44 : decode cX1_takeBackTrip 44 = .ok (.return_, 1) := by decide +kernel
theorem dX1_waitAgain_0 : decode cX1_waitAgain 0 = .ok (.aload_n 0, 1) := by decide +kernel
theorem dX1_waitAgain_1 : decode cX1_waitAgain 1 = .ok (.getfield 35, 3) := by decide +kernel
theorem dX1_waitAgain_4 : decode cX1_waitAgain 4 = .ok (.iload_n 1, 1) := by decide +kernel
theorem dX1_waitAgain_5 : decode cX1_waitAgain 5 = .ok (.invokevirtual 65, 3) := by decide +kernel
theorem dX1_waitAgain_8 : decode cX1_waitAgain 8 = .ok (.ifCond .eq 22, 3) := by decide +kernel
theorem dX1_waitAgain_11 : decode cX1_waitAgain 11 = .ok (.aload_n 0, 1) := by decide +kernel
theorem dX1_waitAgain_12 : decode cX1_waitAgain 12 = .ok (.getfield 21, 3) := by decide +kernel
theorem dX1_waitAgain_15 : decode cX1_waitAgain 15 = .ok (.aload_n 0, 1) := by decide +kernel
theorem dX1_waitAgain_16 : decode cX1_waitAgain 16 = .ok (.getfield 35, 3) := by decide +kernel
theorem dX1_waitAgain_19 : decode cX1_waitAgain 19 = .ok (.getfield 93, 3) := by decide +kernel
theorem dX1_waitAgain_22 : decode cX1_waitAgain 22 = .ok (.iload_n 1, 1) := by decide +kernel
theorem dX1_waitAgain_23 : decode cX1_waitAgain 23 = .ok (.iaload, 1) := by decide +kernel
theorem dX1_waitAgain_24 : decode cX1_waitAgain 24 = .ok (.invokevirtual 61, 3) := by decide +kernel
theorem dX1_waitAgain_27 : decode cX1_waitAgain 27 = .ok (.ifCond .ne 4, 3) := by decide +kernel
theorem dX1_waitAgain_30 : decode cX1_waitAgain 30 = .ok (.return_, 1) := by decide +kernel
theorem dX1_waitAgain_31 : decode cX1_waitAgain 31 = .ok (.aload_n 0, 1) := by decide +kernel
theorem dX1_waitAgain_32 : decode cX1_waitAgain 32 = .ok (.getfield 21, 3) := by decide +kernel
theorem dX1_waitAgain_35 : decode cX1_waitAgain 35 = .ok (.getfield 108, 3) := by decide +kernel
theorem dX1_waitAgain_38 : decode cX1_waitAgain 38 = .ok (.aload_n 0, 1) := by decide +kernel
theorem dX1_waitAgain_39 : decode cX1_waitAgain 39 = .ok (.getfield 35, 3) := by decide +kernel
theorem dX1_waitAgain_42 : decode cX1_waitAgain 42 = .ok (.getfield 93, 3) := by decide +kernel
theorem dX1_waitAgain_45 : decode cX1_waitAgain 45 = .ok (.iload_n 1, 1) := by decide +kernel
theorem dX1_waitAgain_46 : decode cX1_waitAgain 46 = .ok (.iaload, 1) := by decide +kernel
theorem dX1_waitAgain_47 : decode cX1_waitAgain 47 = .ok (.dup2, 1) := by decide +kernel
theorem dX1_waitAgain_48 : decode cX1_waitAgain 48 = .ok (.iaload, 1) := by decide +kernel
theorem dX1_waitAgain_49 : decode cX1_waitAgain 49 = .ok (.iconst 1, 1) := by decide +kernel
theorem dX1_waitAgain_50 : decode cX1_waitAgain 50 = .ok (.isub, 1) := by decide +kernel
theorem dX1_waitAgain_51 : decode cX1_waitAgain 51 = .ok (.iastore, 1) := by decide +kernel
theorem dX1_waitAgain_52 : decode cX1_waitAgain 52 = .ok (.aload_n 0, 1) := by decide +kernel
theorem dX1_waitAgain_53 : decode cX1_waitAgain 53 = .ok (.getfield 35, 3) := by decide +kernel
theorem dX1_waitAgain_56 : decode cX1_waitAgain 56 = .ok (.getfield 90, 3) := by decide +kernel
theorem dX1_waitAgain_59 : decode cX1_waitAgain 59 = .ok (.iload_n 1, 1) := by decide +kernel
theorem dX1_waitAgain_60 : decode cX1_waitAgain 60 = .ok (.iconst 0, 1) := by decide +kernel
theorem dX1_waitAgain_61 : decode cX1_waitAgain 61 = .ok (.iastore, 1) := by decide +kernel
theorem dX1_waitAgain_62 : decode cX1_waitAgain 62 = .ok (.aload_n 0, 1) := by decide +kernel
theorem dX1_waitAgain_63 : decode cX1_waitAgain 63 = .ok (.getfield 35, 3) := by decide +kernel
theorem dX1_waitAgain_66 : decode cX1_waitAgain 66 = .ok (.getfield 93, 3) := by decide +kernel
theorem dX1_waitAgain_69 : decode cX1_waitAgain 69 = .ok (.iload_n 1, 1) := by decide +kernel
theorem dX1_waitAgain_70 : decode cX1_waitAgain 70 = .ok (.iconst (-1), 1) := by decide +kernel
theorem dX1_waitAgain_71 : decode cX1_waitAgain 71 = .ok (.iastore, 1) := by decide +kernel
theorem dX1_waitAgain_72 : decode cX1_waitAgain 72 = .ok (.aload_n 0, 1) := by decide +kernel
theorem dX1_waitAgain_73 : decode cX1_waitAgain 73 = .ok (.getfield 35, 3) := by decide +kernel
theorem dX1_waitAgain_76 : decode cX1_waitAgain 76 = .ok (.getfield 96, 3) := by decide +kernel
theorem dX1_waitAgain_79 : decode cX1_waitAgain 79 = .ok (.iload_n 1, 1) := by decide +kernel
theorem dX1_waitAgain_80 : decode cX1_waitAgain 80 = .ok (.iconst (-1), 1) := by decide +kernel
theorem dX1_waitAgain_81 : decode cX1_waitAgain 81 = .ok (.iastore, 1) := by decide +kernel
theorem dX1_waitAgain_82 : decode cX1_waitAgain 82 = .ok (.return_, 1) := by decide +kernel
