theorem dX4_add_0 : decode cX4_add 0 = .ok (.aload_n 0, 1) := by decide +kernel
theorem dX4_add_1 : decode cX4_add 1 = .ok (.getfield 49, 3) := by decide +kernel
theorem dX4_add_4 : decode cX4_add 4 = .ok (.ifCond .lt 18, 3) := by decide +kernel
theorem dX4_add_7 : decode cX4_add 7 = .ok (.aload_n 0, 1) := by decide +kernel
theorem dX4_add_8 : decode cX4_add 8 = .ok (.getfield 49, 3) := by decide +kernel
theorem dX4_add_11 : decode cX4_add 11 = .ok (.bipush 6, 2) := by decide +kernel
theorem dX4_add_13 : decode cX4_add 13 = .ok (.if_icmp .ge 9, 3) := by decide +kernel
theorem dX4_add_16 : decode cX4_add 16 = .ok (.aload_n 2, 1) := by decide +kernel
theorem dX4_add_17 : decode cX4_add 17 = .ok (.arraylength, 1) := by decide +kernel
theorem dX4_add_18 : decode cX4_add 18 = .ok (.iconst 5, 1) := by decide +kernel
theorem dX4_add_19 : decode cX4_add 19 = .ok (.if_icmp .ge 4, 3) := by decide +kernel
theorem dX4_add_22 : decode cX4_add 22 = .ok (.return_, 1) := by decide +kernel
theorem dX4_add_23 : decode cX4_add 23 = .ok (.aload_n 0, 1) := by decide +kernel
theorem dX4_add_24 : decode cX4_add 24 = .ok (.getfield 9, 3) := by decide +kernel
theorem dX4_add_27 : decode cX4_add 27 = .ok (.aload_n 0, 1) := by decide +kernel
theorem dX4_add_28 : decode cX4_add 28 = .ok (.getfield 49, 3) := by decide +kernel
theorem dX4_add_31 : decode cX4_add 31 = .ok (.iload_n 1, 1) := by decide +kernel
theorem dX4_add_32 : decode cX4_add 32 = .ok (.iastore, 1) := by decide +kernel
theorem dX4_add_33 : decode cX4_add 33 = .ok (.aload_n 0, 1) := by decide +kernel
theorem dX4_add_34 : decode cX4_add 34 = .ok (.getfield 15, 3) := by decide +kernel
theorem dX4_add_37 : decode cX4_add 37 = .ok (.aload_n 0, 1) := by decide +kernel
theorem dX4_add_38 : decode cX4_add 38 = .ok (.getfield 49, 3) := by decide +kernel
theorem dX4_add_41 : decode cX4_add 41 = .ok (.aload_n 2, 1) := by decide +kernel
theorem dX4_add_42 : decode cX4_add 42 = .ok (.iconst 0, 1) := by decide +kernel
theorem dX4_add_43 : decode cX4_add 43 = .ok (.iaload, 1) := by decide +kernel
theorem dX4_add_44 : decode cX4_add 44 = .ok (.iastore, 1) := by decide +kernel
theorem dX4_add_45 : decode cX4_add 45 = .ok (.aload_n 0, 1) := by decide +kernel
theorem dX4_add_46 : decode cX4_add 46 = .ok (.getfield 18, 3) := by decide +kernel
theorem dX4_add_49 : decode cX4_add 49 = .ok (.aload_n 0, 1) := by decide +kernel
theorem dX4_add_50 : decode cX4_add 50 = .ok (.getfield 49, 3) := by decide +kernel
theorem dX4_add_53 : decode cX4_add 53 = .ok (.aload_n 2, 1) := by decide +kernel
theorem dX4_add_54 : decode cX4_add 54 = .ok (.iconst 1, 1) := by decide +kernel
theorem dX4_add_55 : decode cX4_add 55 = .ok (.iaload, 1) := by decide +kernel
theorem dX4_add_56 : decode cX4_add 56 = .ok (.iastore, 1) := by decide +kernel
theorem dX4_add_57 : decode cX4_add 57 = .ok (.aload_n 0, 1) := by decide +kernel
theorem dX4_add_58 : decode cX4_add 58 = .ok (.getfield 21, 3) := by decide +kernel
theorem dX4_add_61 : decode cX4_add 61 = .ok (.aload_n 0, 1) := by decide +kernel
theorem dX4_add_62 : decode cX4_add 62 = .ok (.getfield 49, 3) := by decide +kernel
theorem dX4_add_65 : decode cX4_add 65 = .ok (.aload_n 2, 1) := by decide +kernel
theorem dX4_add_66 : decode cX4_add 66 = .ok (.iconst 2, 1) := by decide +kernel
theorem dX4_add_67 : decode cX4_add 67 = .ok (.iaload, 1) := by decide +kernel
theorem dX4_add_68 : decode cX4_add 68 = .ok (.iastore, 1) := by decide +kernel
theorem dX4_add_69 : decode cX4_add 69 = .ok (.aload_n 0, 1) := by decide +kernel
theorem dX4_add_70 : decode cX4_add 70 = .ok (.getfield 24, 3) := by decide +kernel
theorem dX4_add_73 : decode cX4_add 73 = .ok (.aload_n 0, 1) := by decide +kernel
theorem dX4_add_74 : decode cX4_add 74 = .ok (.getfield 49, 3) := by decide +kernel
theorem dX4_add_77 : decode cX4_add 77 = .ok (.aload_n 2, 1) := by decide +kernel
theorem dX4_add_78 : decode cX4_add 78 = .ok (.iconst 3, 1) := by decide +kernel
theorem dX4_add_79 : decode cX4_add 79 = .ok (.iaload, 1) := by decide +kernel
theorem dX4_add_80 : decode cX4_add 80 = .ok (.iastore, 1) := by decide +kernel
theorem dX4_add_81 : decode cX4_add 81 = .ok (.aload_n 0, 1) := by decide +kernel
theorem dX4_add_82 : decode cX4_add 82 = .ok (.getfield 27, 3) := by decide +kernel
theorem dX4_add_85 : decode cX4_add 85 = .ok (.aload_n 0, 1) := by decide +kernel
theorem dX4_add_86 : decode cX4_add 86 = .ok (.getfield 49, 3) := by decide +kernel
theorem dX4_add_89 : decode cX4_add 89 = .ok (.aload_n 2, 1) := by decide +kernel
theorem dX4_add_90 : decode cX4_add 90 = .ok (.iconst 4, 1) := by decide +kernel
theorem dX4_add_91 : decode cX4_add 91 = .ok (.iaload, 1) := by decide +kernel
theorem dX4_add_92 : decode cX4_add 92 = .ok (.iastore, 1) := by decide +kernel
theorem dX4_add_93 : decode cX4_add 93 = .ok (.aload_n 0, 1) := by decide +kernel
theorem dX4_add_94 : decode cX4_add 94 = .ok (.getfield 30, 3) := by decide +kernel
theorem dX4_add_97 : decode cX4_add 97 = .ok (.aload_n 0, 1) := by decide +kernel
theorem dX4_add_98 : decode cX4_add 98 = .ok (.getfield 49, 3) := by decide +kernel
theorem dX4_add_101 : decode cX4_add 101 = .ok (.iload_n 3, 1) := by decide +kernel
theorem dX4_add_102 : decode cX4_add 102 = .ok (.iastore, 1) := by decide +kernel
theorem dX4_add_103 : decode cX4_add 103 = .ok (.aload_n 0, 1) := by decide +kernel
theorem dX4_add_104 : decode cX4_add 104 = .ok (.dup, 1) := by decide +kernel
theorem dX4_add_105 : decode cX4_add 105 = .ok (.getfield 49, 3) := by decide +kernel
theorem dX4_add_108 : decode cX4_add 108 = .ok (.iconst 1, 1) := by decide +kernel
theorem dX4_add_109 : decode cX4_add 109 = .ok (.iadd, 1) := by decide +kernel
theorem dX4_add_110 : decode cX4_add 110 = .ok (.putfield 49, 3) := by decide +kernel
theorem dX4_add_113 : decode cX4_add 113 = .ok (.return_, 1) := by decide +kernel
theorem dX4_clear_0 : decode cX4_clear 0 = .ok (.aload_n 0, 1) := by decide +kernel
theorem dX4_clear_1 : decode cX4_clear 1 = .ok (.iconst 0, 1) := by decide +kernel
theorem dX4_clear_2 : decode cX4_clear 2 = .ok (.putfield 49, 3) := by decide +kernel
theorem dX4_clear_5 : decode cX4_clear 5 = .ok (.aload_n 0, 1) := by decide +kernel
theorem dX4_clear_6 : decode cX4_clear 6 = .ok (.iconst 1, 1) := by decide +kernel
theorem dX4_clear_7 : decode cX4_clear 7 = .ok (.putfield 45, 3) := by decide +kernel
theorem dX4_clear_10 : decode cX4_clear 10 = .ok (.iconst 0, 1) := by decide +kernel
theorem dX4_clear_11 : decode cX4_clear 11 = .ok (.istore_n 1, 1) := by decide +kernel
theorem dX4_clear_12 : decode cX4_clear 12 = .ok (.iload_n 1, 1) := by decide +kernel
theorem dX4_clear_13 : decode cX4_clear 13 = .ok (.bipush 6, 2) := by decide +kernel
theorem dX4_clear_15 : decode cX4_clear 15 = .ok (.if_icmp .ge 37, 3) := by decide +kernel
theorem dX4_clear_18 : decode cX4_clear 18 = .ok (.aload_n 0, 1) := by decide +kernel
theorem dX4_clear_19 : decode cX4_clear 19 = .ok (.getfield 33, 3) := by decide +kernel
theorem dX4_clear_22 : decode cX4_clear 22 = .ok (.iload_n 1, 1) := by decide +kernel
theorem dX4_clear_23 : decode cX4_clear 23 = .ok (.iconst 0, 1) := by decide +kernel
theorem dX4_clear_24 : decode cX4_clear 24 = .ok (.iastore, 1) := by decide +kernel
theorem dX4_clear_25 : decode cX4_clear 25 = .ok (.aload_n 0, 1) := by decide +kernel
theorem dX4_clear_26 : decode cX4_clear 26 = .ok (.getfield 36, 3) := by decide +kernel
theorem dX4_clear_29 : decode cX4_clear 29 = .ok (.iload_n 1, 1) := by decide +kernel
theorem dX4_clear_30 : decode cX4_clear 30 = .ok (.iconst 0, 1) := by decide +kernel
theorem dX4_clear_31 : decode cX4_clear 31 = .ok (.iastore, 1) := by decide +kernel
theorem dX4_clear_32 : decode cX4_clear 32 = .ok (.aload_n 0, 1) := by decide +kernel
theorem dX4_clear_33 : decode cX4_clear 33 = .ok (.getfield 39, 3) := by decide +kernel
theorem dX4_clear_36 : decode cX4_clear 36 = .ok (.iload_n 1, 1) := by decide +kernel
theorem dX4_clear_37 : decode cX4_clear 37 = .ok (.iconst 0, 1) := by decide +kernel
theorem dX4_clear_38 : decode cX4_clear 38 = .ok (.iastore, 1) := by decide +kernel
theorem dX4_clear_39 : decode cX4_clear 39 = .ok (.aload_n 0, 1) := by decide +kernel
theorem dX4_clear_40 : decode cX4_clear 40 = .ok (.getfield 42, 3) := by decide +kernel
theorem dX4_clear_43 : decode cX4_clear 43 = .ok (.iload_n 1, 1) := by decide +kernel
theorem dX4_clear_44 : decode cX4_clear 44 = .ok (.iconst 0, 1) := by decide +kernel
theorem dX4_clear_45 : decode cX4_clear 45 = .ok (.iastore, 1) := by decide +kernel
theorem dX4_clear_46 : decode cX4_clear 46 = .ok (.iinc 1 1, 3) := by decide +kernel
theorem dX4_clear_49 : decode cX4_clear 49 = .ok (.goto (-37), 3) := by decide +kernel
theorem dX4_clear_52 : decode cX4_clear 52 = .ok (.return_, 1) := by decide +kernel
theorem dX4_countFree_0 : decode cX4_countFree 0 = .ok (.aload_n 0, 1) := by decide +kernel
theorem dX4_countFree_1 : decode cX4_countFree 1 = .ok (.iload_n 1, 1) := by decide +kernel
theorem dX4_countFree_2 : decode cX4_countFree 2 = .ok (.invokevirtual 62, 3) := by decide +kernel
theorem dX4_countFree_5 : decode cX4_countFree 5 = .ok (.aload_n 0, 1) := by decide +kernel
theorem dX4_countFree_6 : decode cX4_countFree 6 = .ok (.getfield 15, 3) := by decide +kernel
theorem dX4_countFree_9 : decode cX4_countFree 9 = .ok (.iload_n 1, 1) := by decide +kernel
theorem dX4_countFree_10 : decode cX4_countFree 10 = .ok (.iaload, 1) := by decide +kernel
theorem dX4_countFree_11 : decode cX4_countFree 11 = .ok (.imul, 1) := by decide +kernel
theorem dX4_countFree_12 : decode cX4_countFree 12 = .ok (.aload_n 0, 1) := by decide +kernel
theorem dX4_countFree_13 : decode cX4_countFree 13 = .ok (.getfield 33, 3) := by decide +kernel
theorem dX4_countFree_16 : decode cX4_countFree 16 = .ok (.iload_n 1, 1) := by decide +kernel
theorem dX4_countFree_17 : decode cX4_countFree 17 = .ok (.iaload, 1) := by decide +kernel
theorem dX4_countFree_18 : decode cX4_countFree 18 = .ok (.isub, 1) := by decide +kernel
theorem dX4_countFree_19 : decode cX4_countFree 19 = .ok (.istore_n 2, 1) := by decide +kernel
theorem dX4_countFree_20 : decode cX4_countFree 20 = .ok (.aload_n 0, 1) := by decide +kernel
theorem dX4_countFree_21 : decode cX4_countFree 21 = .ok (.iload_n 1, 1) := by decide +kernel
theorem dX4_countFree_22 : decode cX4_countFree 22 = .ok (.invokevirtual 65, 3) := by decide +kernel
theorem dX4_countFree_25 : decode cX4_countFree 25 = .ok (.aload_n 0, 1) := by decide +kernel
theorem dX4_countFree_26 : decode cX4_countFree 26 = .ok (.getfield 15, 3) := by decide +kernel
theorem dX4_countFree_29 : decode cX4_countFree 29 = .ok (.iload_n 1, 1) := by decide +kernel
theorem dX4_countFree_30 : decode cX4_countFree 30 = .ok (.iaload, 1) := by decide +kernel
theorem dX4_countFree_31 : decode cX4_countFree 31 = .ok (.imul, 1) := by decide +kernel
theorem dX4_countFree_32 : decode cX4_countFree 32 = .ok (.iload_n 2, 1) := by decide +kernel
theorem dX4_countFree_33 : decode cX4_countFree 33 = .ok (.iadd, 1) := by decide +kernel
theorem dX4_countFree_34 : decode cX4_countFree 34 = .ok (.ireturn, 1) := by decide +kernel
theorem dX4_countIn_0 : decode cX4_countIn 0 = .ok (.aload_n 0, 1) := by decide +kernel
theorem dX4_countIn_1 : decode cX4_countIn 1 = .ok (.getfield 24, 3) := by decide +kernel
theorem dX4_countIn_4 : decode cX4_countIn 4 = .ok (.iload_n 1, 1) := by decide +kernel
theorem dX4_countIn_5 : decode cX4_countIn 5 = .ok (.iaload, 1) := by decide +kernel
theorem dX4_countIn_6 : decode cX4_countIn 6 = .ok (.aload_n 0, 1) := by decide +kernel
theorem dX4_countIn_7 : decode cX4_countIn 7 = .ok (.iload_n 1, 1) := by decide +kernel
theorem dX4_countIn_8 : decode cX4_countIn 8 = .ok (.invokevirtual 58, 3) := by decide +kernel
theorem dX4_countIn_11 : decode cX4_countIn 11 = .ok (.iadd, 1) := by decide +kernel
theorem dX4_countIn_12 : decode cX4_countIn 12 = .ok (.aload_n 0, 1) := by decide +kernel
theorem dX4_countIn_13 : decode cX4_countIn 13 = .ok (.iload_n 1, 1) := by decide +kernel
theorem dX4_countIn_14 : decode cX4_countIn 14 = .ok (.invokevirtual 62, 3) := by decide +kernel
theorem dX4_countIn_17 : decode cX4_countIn 17 = .ok (.isub, 1) := by decide +kernel
theorem dX4_countIn_18 : decode cX4_countIn 18 = .ok (.aload_n 0, 1) := by decide +kernel
theorem dX4_countIn_19 : decode cX4_countIn 19 = .ok (.getfield 36, 3) := by decide +kernel
theorem dX4_countIn_22 : decode cX4_countIn 22 = .ok (.iload_n 1, 1) := by decide +kernel
theorem dX4_countIn_23 : decode cX4_countIn 23 = .ok (.iaload, 1) := by decide +kernel
theorem dX4_countIn_24 : decode cX4_countIn 24 = .ok (.isub, 1) := by decide +kernel
theorem dX4_countIn_25 : decode cX4_countIn 25 = .ok (.aload_n 0, 1) := by decide +kernel
theorem dX4_countIn_26 : decode cX4_countIn 26 = .ok (.getfield 39, 3) := by decide +kernel
theorem dX4_countIn_29 : decode cX4_countIn 29 = .ok (.iload_n 1, 1) := by decide +kernel
theorem dX4_countIn_30 : decode cX4_countIn 30 = .ok (.iaload, 1) := by decide +kernel
theorem dX4_countIn_31 : decode cX4_countIn 31 = .ok (.isub, 1) := by decide +kernel
theorem dX4_countIn_32 : decode cX4_countIn 32 = .ok (.aload_n 0, 1) := by decide +kernel
theorem dX4_countIn_33 : decode cX4_countIn 33 = .ok (.getfield 42, 3) := by decide +kernel
theorem dX4_countIn_36 : decode cX4_countIn 36 = .ok (.iload_n 1, 1) := by decide +kernel
theorem dX4_countIn_37 : decode cX4_countIn 37 = .ok (.iaload, 1) := by decide +kernel
theorem dX4_countIn_38 : decode cX4_countIn 38 = .ok (.isub, 1) := by decide +kernel
theorem dX4_countIn_39 : decode cX4_countIn 39 = .ok (.ireturn, 1) := by decide +kernel
theorem dX4_countOut_0 : decode cX4_countOut 0 = .ok (.iconst 1, 1) := by decide +kernel
theorem dX4_countOut_1 : decode cX4_countOut 1 = .ok (.aload_n 0, 1) := by decide +kernel
theorem dX4_countOut_2 : decode cX4_countOut 2 = .ok (.getfield 15, 3) := by decide +kernel
theorem dX4_countOut_5 : decode cX4_countOut 5 = .ok (.iload_n 1, 1) := by decide +kernel
theorem dX4_countOut_6 : decode cX4_countOut 6 = .ok (.iaload, 1) := by decide +kernel
theorem dX4_countOut_7 : decode cX4_countOut 7 = .ok (.invokestatic 52, 3) := by decide +kernel
theorem dX4_countOut_10 : decode cX4_countOut 10 = .ok (.istore_n 2, 1) := by decide +kernel
theorem dX4_countOut_11 : decode cX4_countOut 11 = .ok (.aload_n 0, 1) := by decide +kernel
theorem dX4_countOut_12 : decode cX4_countOut 12 = .ok (.getfield 33, 3) := by decide +kernel
theorem dX4_countOut_15 : decode cX4_countOut 15 = .ok (.iload_n 1, 1) := by decide +kernel
theorem dX4_countOut_16 : decode cX4_countOut 16 = .ok (.iaload, 1) := by decide +kernel
theorem dX4_countOut_17 : decode cX4_countOut 17 = .ok (.iload_n 2, 1) := by decide +kernel
theorem dX4_countOut_18 : decode cX4_countOut 18 = .ok (.iadd, 1) := by decide +kernel
theorem dX4_countOut_19 : decode cX4_countOut 19 = .ok (.iconst 1, 1) := by decide +kernel
theorem dX4_countOut_20 : decode cX4_countOut 20 = .ok (.isub, 1) := by decide +kernel
theorem dX4_countOut_21 : decode cX4_countOut 21 = .ok (.iload_n 2, 1) := by decide +kernel
theorem dX4_countOut_22 : decode cX4_countOut 22 = .ok (.idiv, 1) := by decide +kernel
theorem dX4_countOut_23 : decode cX4_countOut 23 = .ok (.ireturn, 1) := by decide +kernel
theorem dX4_countReissued_0 : decode cX4_countReissued 0 = .ok (.aload_n 0, 1) := by decide +kernel
theorem dX4_countReissued_1 : decode cX4_countReissued 1 = .ok (.getfield 42, 3) := by decide +kernel
theorem dX4_countReissued_4 : decode cX4_countReissued 4 = .ok (.iload_n 1, 1) := by decide +kernel
theorem dX4_countReissued_5 : decode cX4_countReissued 5 = .ok (.iaload, 1) := by decide +kernel
theorem dX4_countReissued_6 : decode cX4_countReissued 6 = .ok (.iconst 1, 1) := by decide +kernel
theorem dX4_countReissued_7 : decode cX4_countReissued 7 = .ok (.aload_n 0, 1) := by decide +kernel
theorem dX4_countReissued_8 : decode cX4_countReissued 8 = .ok (.getfield 45, 3) := by decide +kernel
theorem dX4_countReissued_11 : decode cX4_countReissued 11 = .ok (.invokestatic 52, 3) := by decide +kernel
theorem dX4_countReissued_14 : decode cX4_countReissued 14 = .ok (.idiv, 1) := by decide +kernel
theorem dX4_countReissued_15 : decode cX4_countReissued 15 = .ok (.ireturn, 1) := by decide +kernel
theorem dX4_giveUp_0 : decode cX4_giveUp 0 = .ok (.aload_n 0, 1) := by decide +kernel
theorem dX4_giveUp_1 : decode cX4_giveUp 1 = .ok (.iload_n 1, 1) := by decide +kernel
theorem dX4_giveUp_2 : decode cX4_giveUp 2 = .ok (.invokevirtual 68, 3) := by decide +kernel
theorem dX4_giveUp_5 : decode cX4_giveUp 5 = .ok (.ifCond .ne 4, 3) := by decide +kernel
theorem dX4_giveUp_8 : decode cX4_giveUp 8 = .ok (.return_, 1) := by decide +kernel
theorem dX4_giveUp_9 : decode cX4_giveUp 9 = .ok (.aload_n 0, 1) := by decide +kernel
theorem dX4_giveUp_10 : decode cX4_giveUp 10 = .ok (.getfield 33, 3) := by decide +kernel
theorem dX4_giveUp_13 : decode cX4_giveUp 13 = .ok (.iload_n 1, 1) := by decide +kernel
theorem dX4_giveUp_14 : decode cX4_giveUp 14 = .ok (.dup2, 1) := by decide +kernel
theorem dX4_giveUp_15 : decode cX4_giveUp 15 = .ok (.iaload, 1) := by decide +kernel
theorem dX4_giveUp_16 : decode cX4_giveUp 16 = .ok (.iload_n 3, 1) := by decide +kernel
theorem dX4_giveUp_17 : decode cX4_giveUp 17 = .ok (.isub, 1) := by decide +kernel
theorem dX4_giveUp_18 : decode cX4_giveUp 18 = .ok (.iastore, 1) := by decide +kernel
theorem dX4_giveUp_19 : decode cX4_giveUp 19 = .ok (.aload_n 0, 1) := by decide +kernel
theorem dX4_giveUp_20 : decode cX4_giveUp 20 = .ok (.getfield 9, 3) := by decide +kernel
theorem dX4_giveUp_23 : decode cX4_giveUp 23 = .ok (.iload_n 1, 1) := by decide +kernel
theorem dX4_giveUp_24 : decode cX4_giveUp 24 = .ok (.iaload, 1) := by decide +kernel
theorem dX4_giveUp_25 : decode cX4_giveUp 25 = .ok (.ifCond .ne 20, 3) := by decide +kernel
theorem dX4_giveUp_28 : decode cX4_giveUp 28 = .ok (.iload_n 2, 1) := by decide +kernel
theorem dX4_giveUp_29 : decode cX4_giveUp 29 = .ok (.ifCond .ne 16, 3) := by decide +kernel
theorem dX4_giveUp_32 : decode cX4_giveUp 32 = .ok (.aload_n 0, 1) := by decide +kernel
theorem dX4_giveUp_33 : decode cX4_giveUp 33 = .ok (.getfield 36, 3) := by decide +kernel
theorem dX4_giveUp_36 : decode cX4_giveUp 36 = .ok (.iload_n 1, 1) := by decide +kernel
theorem dX4_giveUp_37 : decode cX4_giveUp 37 = .ok (.dup2, 1) := by decide +kernel
theorem dX4_giveUp_38 : decode cX4_giveUp 38 = .ok (.iaload, 1) := by decide +kernel
theorem dX4_giveUp_39 : decode cX4_giveUp 39 = .ok (.iload_n 3, 1) := by decide +kernel
theorem dX4_giveUp_40 : decode cX4_giveUp 40 = .ok (.iadd, 1) := by decide +kernel
theorem dX4_giveUp_41 : decode cX4_giveUp 41 = .ok (.iastore, 1) := by decide +kernel
theorem dX4_giveUp_42 : decode cX4_giveUp 42 = .ok (.goto 22, 3) := by decide +kernel
theorem dX4_giveUp_45 : decode cX4_giveUp 45 = .ok (.aload_n 0, 1) := by decide +kernel
theorem dX4_giveUp_46 : decode cX4_giveUp 46 = .ok (.getfield 9, 3) := by decide +kernel
theorem dX4_giveUp_49 : decode cX4_giveUp 49 = .ok (.iload_n 1, 1) := by decide +kernel
theorem dX4_giveUp_50 : decode cX4_giveUp 50 = .ok (.iaload, 1) := by decide +kernel
theorem dX4_giveUp_51 : decode cX4_giveUp 51 = .ok (.ifCond .ne 13, 3) := by decide +kernel
theorem dX4_giveUp_54 : decode cX4_giveUp 54 = .ok (.aload_n 0, 1) := by decide +kernel
theorem dX4_giveUp_55 : decode cX4_giveUp 55 = .ok (.getfield 39, 3) := by decide +kernel
theorem dX4_giveUp_58 : decode cX4_giveUp 58 = .ok (.iload_n 1, 1) := by decide +kernel
theorem dX4_giveUp_59 : decode cX4_giveUp 59 = .ok (.dup2, 1) := by decide +kernel
theorem dX4_giveUp_60 : decode cX4_giveUp 60 = .ok (.iaload, 1) := by decide +kernel
theorem dX4_giveUp_61 : decode cX4_giveUp 61 = .ok (.iload_n 3, 1) := by decide +kernel
theorem dX4_giveUp_62 : decode cX4_giveUp 62 = .ok (.iadd, 1) := by decide +kernel
theorem dX4_giveUp_63 : decode cX4_giveUp 63 = .ok (.iastore, 1) := by decide +kernel
theorem dX4_giveUp_64 : decode cX4_giveUp 64 = .ok (.return_, 1) := by decide +kernel
theorem dX4_has_0 : decode cX4_has 0 = .ok (.iload_n 1, 1) := by decide +kernel
theorem dX4_has_1 : decode cX4_has 1 = .ok (.ifCond .lt 15, 3) := by decide +kernel
theorem dX4_has_4 : decode cX4_has 4 = .ok (.iload_n 1, 1) := by decide +kernel
theorem dX4_has_5 : decode cX4_has 5 = .ok (.aload_n 0, 1) := by decide +kernel
theorem dX4_has_6 : decode cX4_has 6 = .ok (.getfield 49, 3) := by decide +kernel
theorem dX4_has_9 : decode cX4_has 9 = .ok (.if_icmp .ge 7, 3) := by decide +kernel
theorem dX4_has_12 : decode cX4_has 12 = .ok (.iconst 1, 1) := by decide +kernel
theorem dX4_has_13 : decode cX4_has 13 = .ok (.goto 4, 3) := by decide +kernel
theorem dX4_has_16 : decode cX4_has 16 = .ok (.iconst 0, 1) := by decide +kernel
theorem dX4_has_17 : decode cX4_has 17 = .ok (.ireturn, 1) := by decide +kernel
theorem dX4_isFor_0 : decode cX4_isFor 0 = .ok (.iload_n 2, 1) := by decide +kernel
theorem dX4_isFor_1 : decode cX4_isFor 1 = .ok (.aload_n 0, 1) := by decide +kernel
theorem dX4_isFor_2 : decode cX4_isFor 2 = .ok (.getfield 30, 3) := by decide +kernel
theorem dX4_isFor_5 : decode cX4_isFor 5 = .ok (.iload_n 1, 1) := by decide +kernel
theorem dX4_isFor_6 : decode cX4_isFor 6 = .ok (.iaload, 1) := by decide +kernel
theorem dX4_isFor_7 : decode cX4_isFor 7 = .ok (.iconst (-1), 1) := by decide +kernel
theorem dX4_isFor_8 : decode cX4_isFor 8 = .ok (.ixor, 1) := by decide +kernel
theorem dX4_isFor_9 : decode cX4_isFor 9 = .ok (.iand, 1) := by decide +kernel
theorem dX4_isFor_10 : decode cX4_isFor 10 = .ok (.ifCond .ne 7, 3) := by decide +kernel
theorem dX4_isFor_13 : decode cX4_isFor 13 = .ok (.iconst 1, 1) := by decide +kernel
theorem dX4_isFor_14 : decode cX4_isFor 14 = .ok (.goto 4, 3) := by decide +kernel
theorem dX4_isFor_17 : decode cX4_isFor 17 = .ok (.iconst 0, 1) := by decide +kernel
theorem dX4_isFor_18 : decode cX4_isFor 18 = .ok (.ireturn, 1) := by decide +kernel
theorem dX4_moveBack_0 : decode cX4_moveBack 0 = .ok (.aload_n 0, 1) := by decide +kernel
theorem dX4_moveBack_1 : decode cX4_moveBack 1 = .ok (.iload_n 1, 1) := by decide +kernel
theorem dX4_moveBack_2 : decode cX4_moveBack 2 = .ok (.invokevirtual 68, 3) := by decide +kernel
theorem dX4_moveBack_5 : decode cX4_moveBack 5 = .ok (.ifCond .eq 23, 3) := by decide +kernel
theorem dX4_moveBack_8 : decode cX4_moveBack 8 = .ok (.aload_n 0, 1) := by decide +kernel
theorem dX4_moveBack_9 : decode cX4_moveBack 9 = .ok (.getfield 36, 3) := by decide +kernel
theorem dX4_moveBack_12 : decode cX4_moveBack 12 = .ok (.iload_n 1, 1) := by decide +kernel
theorem dX4_moveBack_13 : decode cX4_moveBack 13 = .ok (.dup2, 1) := by decide +kernel
theorem dX4_moveBack_14 : decode cX4_moveBack 14 = .ok (.iaload, 1) := by decide +kernel
theorem dX4_moveBack_15 : decode cX4_moveBack 15 = .ok (.iload_n 2, 1) := by decide +kernel
theorem dX4_moveBack_16 : decode cX4_moveBack 16 = .ok (.isub, 1) := by decide +kernel
theorem dX4_moveBack_17 : decode cX4_moveBack 17 = .ok (.iastore, 1) := by decide +kernel
theorem dX4_moveBack_18 : decode cX4_moveBack 18 = .ok (.aload_n 0, 1) := by decide +kernel
theorem dX4_moveBack_19 : decode cX4_moveBack 19 = .ok (.getfield 42, 3) := by decide +kernel
theorem dX4_moveBack_22 : decode cX4_moveBack 22 = .ok (.iload_n 1, 1) := by decide +kernel
theorem dX4_moveBack_23 : decode cX4_moveBack 23 = .ok (.dup2, 1) := by decide +kernel
theorem dX4_moveBack_24 : decode cX4_moveBack 24 = .ok (.iaload, 1) := by decide +kernel
theorem dX4_moveBack_25 : decode cX4_moveBack 25 = .ok (.iload_n 2, 1) := by decide +kernel
theorem dX4_moveBack_26 : decode cX4_moveBack 26 = .ok (.iadd, 1) := by decide +kernel
theorem dX4_moveBack_27 : decode cX4_moveBack 27 = .ok (.iastore, 1) := by decide +kernel
theorem dX4_moveBack_28 : decode cX4_moveBack 28 = .ok (.return_, 1) := by decide +kernel
theorem dX4_suitsEngine_0 : decode cX4_suitsEngine 0 = .ok (.iload_n 2, 1) := by decide +kernel
theorem dX4_suitsEngine_1 : decode cX4_suitsEngine 1 = .ok (.aload_n 0, 1) := by decide +kernel
theorem dX4_suitsEngine_2 : decode cX4_suitsEngine 2 = .ok (.getfield 18, 3) := by decide +kernel
theorem dX4_suitsEngine_5 : decode cX4_suitsEngine 5 = .ok (.iload_n 1, 1) := by decide +kernel
theorem dX4_suitsEngine_6 : decode cX4_suitsEngine 6 = .ok (.iaload, 1) := by decide +kernel
theorem dX4_suitsEngine_7 : decode cX4_suitsEngine 7 = .ok (.if_icmp .lt 7, 3) := by decide +kernel
theorem dX4_suitsEngine_10 : decode cX4_suitsEngine 10 = .ok (.iconst 1, 1) := by decide +kernel
theorem dX4_suitsEngine_11 : decode cX4_suitsEngine 11 = .ok (.goto 4, 3) := by decide +kernel
theorem dX4_suitsEngine_14 : decode cX4_suitsEngine 14 = .ok (.iconst 0, 1) := by decide +kernel
theorem dX4_suitsEngine_15 : decode cX4_suitsEngine 15 = .ok (.ireturn, 1) := by decide +kernel
