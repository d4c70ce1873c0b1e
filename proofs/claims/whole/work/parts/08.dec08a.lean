theorem dX8_advance_0 : decode cX8_advance 0 = .ok (.aload_n 0, 1) := by decide +kernel
theorem dX8_advance_1 : decode cX8_advance 1 = .ok (.aload_n 0, 1) := by decide +kernel
theorem dX8_advance_2 : decode cX8_advance 2 = .ok (.aload_n 0, 1) := by decide +kernel
theorem dX8_advance_3 : decode cX8_advance 3 = .ok (.getfield 15, 3) := by decide +kernel
theorem dX8_advance_6 : decode cX8_advance 6 = .ok (.invokevirtual 27, 3) := by decide +kernel
theorem dX8_advance_9 : decode cX8_advance 9 = .ok (.putfield 31, 3) := by decide +kernel
theorem dX8_advance_12 : decode cX8_advance 12 = .ok (.aload_n 0, 1) := by decide +kernel
theorem dX8_advance_13 : decode cX8_advance 13 = .ok (.getfield 9, 3) := by decide +kernel
theorem dX8_advance_16 : decode cX8_advance 16 = .ok (.getfield 22, 3) := by decide +kernel
theorem dX8_advance_19 : decode cX8_advance 19 = .ok (.sipush 700, 3) := by decide +kernel
theorem dX8_advance_22 : decode cX8_advance 22 = .ok (.invokestatic 34, 3) := by decide +kernel
theorem dX8_advance_25 : decode cX8_advance 25 = .ok (.istore_n 1, 1) := by decide +kernel
theorem dX8_advance_26 : decode cX8_advance 26 = .ok (.aload_n 0, 1) := by decide +kernel
theorem dX8_advance_27 : decode cX8_advance 27 = .ok (.getfield 31, 3) := by decide +kernel
theorem dX8_advance_30 : decode cX8_advance 30 = .ok (.iload_n 1, 1) := by decide +kernel
theorem dX8_advance_31 : decode cX8_advance 31 = .ok (.if_icmp .lt 19, 3) := by decide +kernel
theorem dX8_advance_34 : decode cX8_advance 34 = .ok (.aload_n 0, 1) := by decide +kernel
theorem dX8_advance_35 : decode cX8_advance 35 = .ok (.iload_n 1, 1) := by decide +kernel
theorem dX8_advance_36 : decode cX8_advance 36 = .ok (.putfield 31, 3) := by decide +kernel
theorem dX8_advance_39 : decode cX8_advance 39 = .ok (.aload_n 0, 1) := by decide +kernel
theorem dX8_advance_40 : decode cX8_advance 40 = .ok (.iload_n 1, 1) := by decide +kernel
theorem dX8_advance_41 : decode cX8_advance 41 = .ok (.putfield 15, 3) := by decide +kernel
theorem dX8_advance_44 : decode cX8_advance 44 = .ok (.aload_n 0, 1) := by decide +kernel
theorem dX8_advance_45 : decode cX8_advance 45 = .ok (.iconst 0, 1) := by decide +kernel
theorem dX8_advance_46 : decode cX8_advance 46 = .ok (.putfield 40, 3) := by decide +kernel
theorem dX8_advance_49 : decode cX8_advance 49 = .ok (.return_, 1) := by decide +kernel
theorem dX8_advance_50 : decode cX8_advance 50 = .ok (.aload_n 0, 1) := by decide +kernel
theorem dX8_advance_51 : decode cX8_advance 51 = .ok (.getfield 9, 3) := by decide +kernel
theorem dX8_advance_54 : decode cX8_advance 54 = .ok (.aload_n 0, 1) := by decide +kernel
theorem dX8_advance_55 : decode cX8_advance 55 = .ok (.getfield 31, 3) := by decide +kernel
theorem dX8_advance_58 : decode cX8_advance 58 = .ok (.invokevirtual 43, 3) := by decide +kernel
theorem dX8_advance_61 : decode cX8_advance 61 = .ok (.istore_n 2, 1) := by decide +kernel
theorem dX8_advance_62 : decode cX8_advance 62 = .ok (.iload_n 2, 1) := by decide +kernel
theorem dX8_advance_63 : decode cX8_advance 63 = .ok (.invokestatic 46, 3) := by decide +kernel
theorem dX8_advance_66 : decode cX8_advance 66 = .ok (.ifCond .ne 10, 3) := by decide +kernel
theorem dX8_advance_69 : decode cX8_advance 69 = .ok (.iload_n 2, 1) := by decide +kernel
theorem dX8_advance_70 : decode cX8_advance 70 = .ok (.invokestatic 50, 3) := by decide +kernel
theorem dX8_advance_73 : decode cX8_advance 73 = .ok (.ifCond .eq 10, 3) := by decide +kernel
theorem dX8_advance_76 : decode cX8_advance 76 = .ok (.aload_n 0, 1) := by decide +kernel
theorem dX8_advance_77 : decode cX8_advance 77 = .ok (.invokevirtual 53, 3) := by decide +kernel
theorem dX8_advance_80 : decode cX8_advance 80 = .ok (.goto 28, 3) := by decide +kernel
theorem dX8_advance_83 : decode cX8_advance 83 = .ok (.aload_n 0, 1) := by decide +kernel
theorem dX8_advance_84 : decode cX8_advance 84 = .ok (.aload_n 0, 1) := by decide +kernel
theorem dX8_advance_85 : decode cX8_advance 85 = .ok (.getfield 31, 3) := by decide +kernel
theorem dX8_advance_88 : decode cX8_advance 88 = .ok (.iconst 1, 1) := by decide +kernel
theorem dX8_advance_89 : decode cX8_advance 89 = .ok (.iadd, 1) := by decide +kernel
theorem dX8_advance_90 : decode cX8_advance 90 = .ok (.putfield 15, 3) := by decide +kernel
theorem dX8_advance_93 : decode cX8_advance 93 = .ok (.aload_n 0, 1) := by decide +kernel
theorem dX8_advance_94 : decode cX8_advance 94 = .ok (.iload_n 2, 1) := by decide +kernel
theorem dX8_advance_95 : decode cX8_advance 95 = .ok (.bipush 59, 2) := by decide +kernel
theorem dX8_advance_97 : decode cX8_advance 97 = .ok (.if_icmp .ne 7, 3) := by decide +kernel
theorem dX8_advance_100 : decode cX8_advance 100 = .ok (.iconst 3, 1) := by decide +kernel
theorem dX8_advance_101 : decode cX8_advance 101 = .ok (.goto 4, 3) := by decide +kernel
theorem dX8_advance_104 : decode cX8_advance 104 = .ok (.iconst 4, 1) := by decide +kernel
theorem dX8_advance_105 : decode cX8_advance 105 = .ok (.putfield 40, 3) := by decide +kernel
theorem dX8_advance_108 : decode cX8_advance 108 = .ok (.return_, 1) := by decide +kernel
theorem dX8_isDigit_0 : decode cX8_isDigit 0 = .ok (.iload_n 0, 1) := by decide +kernel
theorem dX8_isDigit_1 : decode cX8_isDigit 1 = .ok (.bipush 48, 2) := by decide +kernel
theorem dX8_isDigit_3 : decode cX8_isDigit 3 = .ok (.if_icmp .lt 13, 3) := by decide +kernel
theorem dX8_isDigit_6 : decode cX8_isDigit 6 = .ok (.iload_n 0, 1) := by decide +kernel
theorem dX8_isDigit_7 : decode cX8_isDigit 7 = .ok (.bipush 57, 2) := by decide +kernel
theorem dX8_isDigit_9 : decode cX8_isDigit 9 = .ok (.if_icmp .gt 7, 3) := by decide +kernel
theorem dX8_isDigit_12 : decode cX8_isDigit 12 = .ok (.iconst 1, 1) := by decide +kernel
theorem dX8_isDigit_13 : decode cX8_isDigit 13 = .ok (.goto 4, 3) := by decide +kernel
theorem dX8_isDigit_16 : decode cX8_isDigit 16 = .ok (.iconst 0, 1) := by decide +kernel
theorem dX8_isDigit_17 : decode cX8_isDigit 17 = .ok (.ireturn, 1) := by decide +kernel
theorem dX8_isLetter_0 : decode cX8_isLetter 0 = .ok (.iload_n 0, 1) := by decide +kernel
theorem dX8_isLetter_1 : decode cX8_isLetter 1 = .ok (.bipush 97, 2) := by decide +kernel
theorem dX8_isLetter_3 : decode cX8_isLetter 3 = .ok (.if_icmp .lt 13, 3) := by decide +kernel
theorem dX8_isLetter_6 : decode cX8_isLetter 6 = .ok (.iload_n 0, 1) := by decide +kernel
theorem dX8_isLetter_7 : decode cX8_isLetter 7 = .ok (.bipush 122, 2) := by decide +kernel
theorem dX8_isLetter_9 : decode cX8_isLetter 9 = .ok (.if_icmp .gt 7, 3) := by decide +kernel
theorem dX8_isLetter_12 : decode cX8_isLetter 12 = .ok (.iconst 1, 1) := by decide +kernel
theorem dX8_isLetter_13 : decode cX8_isLetter 13 = .ok (.goto 4, 3) := by decide +kernel
theorem dX8_isLetter_16 : decode cX8_isLetter 16 = .ok (.iconst 0, 1) := by decide +kernel
theorem dX8_isLetter_17 : decode cX8_isLetter 17 = .ok (.ireturn, 1) := by decide +kernel
theorem dX8_isTooLong_0 : decode cX8_isTooLong 0 = .ok (.aload_n 0, 1) := by decide +kernel
theorem dX8_isTooLong_1 : decode cX8_isTooLong 1 = .ok (.getfield 9, 3) := by decide +kernel
theorem dX8_isTooLong_4 : decode cX8_isTooLong 4 = .ok (.getfield 22, 3) := by decide +kernel
theorem dX8_isTooLong_7 : decode cX8_isTooLong 7 = .ok (.sipush 700, 3) := by decide +kernel
theorem dX8_isTooLong_10 : decode cX8_isTooLong 10 = .ok (.if_icmp .le 7, 3) := by decide +kernel
theorem dX8_isTooLong_13 : decode cX8_isTooLong 13 = .ok (.iconst 1, 1) := by decide +kernel
theorem dX8_isTooLong_14 : decode cX8_isTooLong 14 = .ok (.goto 4, 3) := by decide +kernel
theorem dX8_isTooLong_17 : decode cX8_isTooLong 17 = .ok (.iconst 0, 1) := by decide +kernel
theorem dX8_isTooLong_18 : decode cX8_isTooLong 18 = .ok (.ireturn, 1) := by decide +kernel
theorem dX8_isWord_0 : decode cX8_isWord 0 = .ok (.aload_n 0, 1) := by decide +kernel
theorem dX8_isWord_1 : decode cX8_isWord 1 = .ok (.getfield 40, 3) := by decide +kernel
theorem dX8_isWord_4 : decode cX8_isWord 4 = .ok (.iconst 1, 1) := by decide +kernel
theorem dX8_isWord_5 : decode cX8_isWord 5 = .ok (.if_icmp .ne 19, 3) := by decide +kernel
theorem dX8_isWord_8 : decode cX8_isWord 8 = .ok (.aload_n 0, 1) := by decide +kernel
theorem dX8_isWord_9 : decode cX8_isWord 9 = .ok (.getfield 15, 3) := by decide +kernel
theorem dX8_isWord_12 : decode cX8_isWord 12 = .ok (.aload_n 0, 1) := by decide +kernel
theorem dX8_isWord_13 : decode cX8_isWord 13 = .ok (.getfield 31, 3) := by decide +kernel
theorem dX8_isWord_16 : decode cX8_isWord 16 = .ok (.isub, 1) := by decide +kernel
theorem dX8_isWord_17 : decode cX8_isWord 17 = .ok (.aload_n 1, 1) := by decide +kernel
theorem dX8_isWord_18 : decode cX8_isWord 18 = .ok (.invokevirtual 56, 3) := by decide +kernel
theorem dX8_isWord_21 : decode cX8_isWord 21 = .ok (.if_icmp .eq 5, 3) := by decide +kernel
theorem dX8_isWord_24 : decode cX8_isWord 24 = .ok (.iconst 0, 1) := by decide +kernel
theorem dX8_isWord_25 : decode cX8_isWord 25 = .ok (.ireturn, 1) := by decide +kernel
theorem dX8_isWord_26 : decode cX8_isWord 26 = .ok (.iconst 0, 1) := by decide +kernel
theorem dX8_isWord_27 : decode cX8_isWord 27 = .ok (.istore_n 2, 1) := by decide +kernel
theorem dX8_isWord_28 : decode cX8_isWord 28 = .ok (.iload_n 2, 1) := by decide +kernel
theorem dX8_isWord_29 : decode cX8_isWord 29 = .ok (.aload_n 1, 1) := by decide +kernel
theorem dX8_isWord_30 : decode cX8_isWord 30 = .ok (.invokevirtual 56, 3) := by decide +kernel
theorem dX8_isWord_33 : decode cX8_isWord 33 = .ok (.if_icmp .ge 32, 3) := by decide +kernel
theorem dX8_isWord_36 : decode cX8_isWord 36 = .ok (.aload_n 0, 1) := by decide +kernel
theorem dX8_isWord_37 : decode cX8_isWord 37 = .ok (.getfield 9, 3) := by decide +kernel
theorem dX8_isWord_40 : decode cX8_isWord 40 = .ok (.aload_n 0, 1) := by decide +kernel
theorem dX8_isWord_41 : decode cX8_isWord 41 = .ok (.getfield 31, 3) := by decide +kernel
theorem dX8_isWord_44 : decode cX8_isWord 44 = .ok (.iload_n 2, 1) := by decide +kernel
theorem dX8_isWord_45 : decode cX8_isWord 45 = .ok (.iadd, 1) := by decide +kernel
theorem dX8_isWord_46 : decode cX8_isWord 46 = .ok (.invokevirtual 43, 3) := by decide +kernel
theorem dX8_isWord_49 : decode cX8_isWord 49 = .ok (.aload_n 1, 1) := by decide +kernel
theorem dX8_isWord_50 : decode cX8_isWord 50 = .ok (.iload_n 2, 1) := by decide +kernel
theorem dX8_isWord_51 : decode cX8_isWord 51 = .ok (.invokevirtual 61, 3) := by decide +kernel
theorem dX8_isWord_54 : decode cX8_isWord 54 = .ok (.if_icmp .eq 5, 3) := by decide +kernel
theorem dX8_isWord_57 : decode cX8_isWord 57 = .ok (.iconst 0, 1) := by decide +kernel
theorem dX8_isWord_58 : decode cX8_isWord 58 = .ok (.ireturn, 1) := by decide +kernel
theorem dX8_isWord_59 : decode cX8_isWord 59 = .ok (.iinc 2 1, 3) := by decide +kernel
theorem dX8_isWord_62 : decode cX8_isWord 62 = .ok (.goto (-34), 3) := by decide +kernel
theorem dX8_isWord_65 : decode cX8_isWord 65 = .ok (.iconst 1, 1) := by decide +kernel
theorem dX8_isWord_66 : decode cX8_isWord 66 = .ok (.ireturn, 1) := by decide +kernel
theorem dX8_readRun_0 : decode cX8_readRun 0 = .ok (.iconst 0, 1) := by decide +kernel
theorem dX8_readRun_1 : decode cX8_readRun 1 = .ok (.istore_n 1, 1) := by decide +kernel
theorem dX8_readRun_2 : decode cX8_readRun 2 = .ok (.iconst 0, 1) := by decide +kernel
theorem dX8_readRun_3 : decode cX8_readRun 3 = .ok (.istore_n 2, 1) := by decide +kernel
theorem dX8_readRun_4 : decode cX8_readRun 4 = .ok (.iconst 0, 1) := by decide +kernel
theorem dX8_readRun_5 : decode cX8_readRun 5 = .ok (.istore_n 3, 1) := by decide +kernel
theorem dX8_readRun_6 : decode cX8_readRun 6 = .ok (.aload_n 0, 1) := by decide +kernel
theorem dX8_readRun_7 : decode cX8_readRun 7 = .ok (.getfield 31, 3) := by decide +kernel
theorem dX8_readRun_10 : decode cX8_readRun 10 = .ok (.istore 4, 2) := by decide +kernel
theorem dX8_readRun_12 : decode cX8_readRun 12 = .ok (.iload 4, 2) := by decide +kernel
theorem dX8_readRun_14 : decode cX8_readRun 14 = .ok (.aload_n 0, 1) := by decide +kernel
theorem dX8_readRun_15 : decode cX8_readRun 15 = .ok (.getfield 9, 3) := by decide +kernel
theorem dX8_readRun_18 : decode cX8_readRun 18 = .ok (.getfield 22, 3) := by decide +kernel
theorem dX8_readRun_21 : decode cX8_readRun 21 = .ok (.if_icmp .ge 56, 3) := by decide +kernel
theorem dX8_readRun_24 : decode cX8_readRun 24 = .ok (.aload_n 0, 1) := by decide +kernel
theorem dX8_readRun_25 : decode cX8_readRun 25 = .ok (.getfield 9, 3) := by decide +kernel
theorem dX8_readRun_28 : decode cX8_readRun 28 = .ok (.iload 4, 2) := by decide +kernel
theorem dX8_readRun_30 : decode cX8_readRun 30 = .ok (.invokevirtual 43, 3) := by decide +kernel
theorem dX8_readRun_33 : decode cX8_readRun 33 = .ok (.istore 5, 2) := by decide +kernel
theorem dX8_readRun_35 : decode cX8_readRun 35 = .ok (.iload 5, 2) := by decide +kernel
theorem dX8_readRun_37 : decode cX8_readRun 37 = .ok (.invokestatic 46, 3) := by decide +kernel
theorem dX8_readRun_40 : decode cX8_readRun 40 = .ok (.ifCond .eq 9, 3) := by decide +kernel
theorem dX8_readRun_43 : decode cX8_readRun 43 = .ok (.iinc 1 1, 3) := by decide +kernel
theorem dX8_readRun_46 : decode cX8_readRun 46 = .ok (.goto 25, 3) := by decide +kernel
theorem dX8_readRun_49 : decode cX8_readRun 49 = .ok (.iload 5, 2) := by decide +kernel
theorem dX8_readRun_51 : decode cX8_readRun 51 = .ok (.invokestatic 50, 3) := by decide +kernel
theorem dX8_readRun_54 : decode cX8_readRun 54 = .ok (.ifCond .eq 23, 3) := by decide +kernel
theorem dX8_readRun_57 : decode cX8_readRun 57 = .ok (.iinc 2 1, 3) := by decide +kernel
theorem dX8_readRun_60 : decode cX8_readRun 60 = .ok (.iload_n 3, 1) := by decide +kernel
theorem dX8_readRun_61 : decode cX8_readRun 61 = .ok (.bipush 10, 2) := by decide +kernel
theorem dX8_readRun_63 : decode cX8_readRun 63 = .ok (.imul, 1) := by decide +kernel
theorem dX8_readRun_64 : decode cX8_readRun 64 = .ok (.iload 5, 2) := by decide +kernel
theorem dX8_readRun_66 : decode cX8_readRun 66 = .ok (.iadd, 1) := by decide +kernel
theorem dX8_readRun_67 : decode cX8_readRun 67 = .ok (.bipush 48, 2) := by decide +kernel
theorem dX8_readRun_69 : decode cX8_readRun 69 = .ok (.isub, 1) := by decide +kernel
theorem dX8_readRun_70 : decode cX8_readRun 70 = .ok (.istore_n 3, 1) := by decide +kernel
theorem dX8_readRun_71 : decode cX8_readRun 71 = .ok (.iinc 4 1, 3) := by decide +kernel
theorem dX8_readRun_74 : decode cX8_readRun 74 = .ok (.goto (-62), 3) := by decide +kernel
theorem dX8_readRun_77 : decode cX8_readRun 77 = .ok (.aload_n 0, 1) := by decide +kernel
theorem dX8_readRun_78 : decode cX8_readRun 78 = .ok (.iload 4, 2) := by decide +kernel
theorem dX8_readRun_80 : decode cX8_readRun 80 = .ok (.putfield 15, 3) := by decide +kernel
theorem dX8_readRun_83 : decode cX8_readRun 83 = .ok (.aload_n 0, 1) := by decide +kernel
theorem dX8_readRun_84 : decode cX8_readRun 84 = .ok (.iload_n 3, 1) := by decide +kernel
theorem dX8_readRun_85 : decode cX8_readRun 85 = .ok (.putfield 65, 3) := by decide +kernel
theorem dX8_readRun_88 : decode cX8_readRun 88 = .ok (.iload_n 2, 1) := by decide +kernel
theorem dX8_readRun_89 : decode cX8_readRun 89 = .ok (.ifCond .ne 11, 3) := by decide +kernel
theorem dX8_readRun_92 : decode cX8_readRun 92 = .ok (.aload_n 0, 1) := by decide +kernel
theorem dX8_readRun_93 : decode cX8_readRun 93 = .ok (.iconst 1, 1) := by decide +kernel
theorem dX8_readRun_94 : decode cX8_readRun 94 = .ok (.putfield 40, 3) := by decide +kernel
theorem dX8_readRun_97 : decode cX8_readRun 97 = .ok (.goto 21, 3) := by decide +kernel
theorem dX8_readRun_100 : decode cX8_readRun 100 = .ok (.aload_n 0, 1) := by decide +kernel
theorem dX8_readRun_101 : decode cX8_readRun 101 = .ok (.iload_n 1, 1) := by decide +kernel
theorem dX8_readRun_102 : decode cX8_readRun 102 = .ok (.ifCond .ne 12, 3) := by decide +kernel
theorem dX8_readRun_105 : decode cX8_readRun 105 = .ok (.iload_n 2, 1) := by decide +kernel
theorem dX8_readRun_106 : decode cX8_readRun 106 = .ok (.iconst 2, 1) := by decide +kernel
theorem dX8_readRun_107 : decode cX8_readRun 107 = .ok (.if_icmp .gt 7, 3) := by decide +kernel
theorem dX8_readRun_110 : decode cX8_readRun 110 = .ok (.iconst 2, 1) := by decide +kernel
theorem dX8_readRun_111 : decode cX8_readRun 111 = .ok (.goto 4, 3) := by decide +kernel
theorem dX8_readRun_114 : decode cX8_readRun 114 = .ok (.iconst 4, 1) := by decide +kernel
theorem dX8_readRun_115 : decode cX8_readRun 115 = .ok (.putfield 40, 3) := by decide +kernel
theorem dX8_readRun_118 : decode cX8_readRun 118 = .ok (.return_, 1) := by decide +kernel
theorem dX8_restart_0 : decode cX8_restart 0 = .ok (.aload_n 0, 1) := by decide +kernel
theorem dX8_restart_1 : decode cX8_restart 1 = .ok (.iconst 0, 1) := by decide +kernel
theorem dX8_restart_2 : decode cX8_restart 2 = .ok (.putfield 15, 3) := by decide +kernel
theorem dX8_restart_5 : decode cX8_restart 5 = .ok (.aload_n 0, 1) := by decide +kernel
theorem dX8_restart_6 : decode cX8_restart 6 = .ok (.invokevirtual 19, 3) := by decide +kernel
theorem dX8_restart_9 : decode cX8_restart 9 = .ok (.return_, 1) := by decide +kernel
theorem dX8_skipBlanks_0 : decode cX8_skipBlanks 0 = .ok (.iload_n 1, 1) := by decide +kernel
theorem dX8_skipBlanks_1 : decode cX8_skipBlanks 1 = .ok (.istore_n 2, 1) := by decide +kernel
theorem dX8_skipBlanks_2 : decode cX8_skipBlanks 2 = .ok (.iload_n 2, 1) := by decide +kernel
theorem dX8_skipBlanks_3 : decode cX8_skipBlanks 3 = .ok (.aload_n 0, 1) := by decide +kernel
theorem dX8_skipBlanks_4 : decode cX8_skipBlanks 4 = .ok (.getfield 9, 3) := by decide +kernel
theorem dX8_skipBlanks_7 : decode cX8_skipBlanks 7 = .ok (.getfield 22, 3) := by decide +kernel
theorem dX8_skipBlanks_10 : decode cX8_skipBlanks 10 = .ok (.if_icmp .ge 35, 3) := by decide +kernel
theorem dX8_skipBlanks_13 : decode cX8_skipBlanks 13 = .ok (.aload_n 0, 1) := by decide +kernel
theorem dX8_skipBlanks_14 : decode cX8_skipBlanks 14 = .ok (.getfield 9, 3) := by decide +kernel
theorem dX8_skipBlanks_17 : decode cX8_skipBlanks 17 = .ok (.iload_n 2, 1) := by decide +kernel
theorem dX8_skipBlanks_18 : decode cX8_skipBlanks 18 = .ok (.invokevirtual 43, 3) := by decide +kernel
theorem dX8_skipBlanks_21 : decode cX8_skipBlanks 21 = .ok (.bipush 32, 2) := by decide +kernel
theorem dX8_skipBlanks_23 : decode cX8_skipBlanks 23 = .ok (.if_icmp .eq 16, 3) := by decide +kernel
theorem dX8_skipBlanks_26 : decode cX8_skipBlanks 26 = .ok (.aload_n 0, 1) := by decide +kernel
theorem dX8_skipBlanks_27 : decode cX8_skipBlanks 27 = .ok (.getfield 9, 3) := by decide +kernel
theorem dX8_skipBlanks_30 : decode cX8_skipBlanks 30 = .ok (.iload_n 2, 1) := by decide +kernel
theorem dX8_skipBlanks_31 : decode cX8_skipBlanks 31 = .ok (.invokevirtual 43, 3) := by decide +kernel
theorem dX8_skipBlanks_34 : decode cX8_skipBlanks 34 = .ok (.bipush 10, 2) := by decide +kernel
theorem dX8_skipBlanks_36 : decode cX8_skipBlanks 36 = .ok (.if_icmp .ne 9, 3) := by decide +kernel
theorem dX8_skipBlanks_39 : decode cX8_skipBlanks 39 = .ok (.iinc 2 1, 3) := by decide +kernel
theorem dX8_skipBlanks_42 : decode cX8_skipBlanks 42 = .ok (.goto (-40), 3) := by decide +kernel
theorem dX8_skipBlanks_45 : decode cX8_skipBlanks 45 = .ok (.iload_n 2, 1) := by decide +kernel
theorem dX8_skipBlanks_46 : decode cX8_skipBlanks 46 = .ok (.ireturn, 1) := by decide +kernel
