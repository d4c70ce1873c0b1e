theorem dX6_beginLine_0 : decode cX6_beginLine 0 = .ok (.aload_n 0, 1) := by decide +kernel
theorem dX6_beginLine_1 : decode cX6_beginLine 1 = .ok (.invokevirtual 80, 3) := by decide +kernel
theorem dX6_beginLine_4 : decode cX6_beginLine 4 = .ok (.istore_n 2, 1) := by decide +kernel
theorem dX6_beginLine_5 : decode cX6_beginLine 5 = .ok (.iload_n 2, 1) := by decide +kernel
theorem dX6_beginLine_6 : decode cX6_beginLine 6 = .ok (.ifCond .eq 28, 3) := by decide +kernel
theorem dX6_beginLine_9 : decode cX6_beginLine 9 = .ok (.iload_n 2, 1) := by decide +kernel
theorem dX6_beginLine_10 : decode cX6_beginLine 10 = .ok (.iconst 1, 1) := by decide +kernel
theorem dX6_beginLine_11 : decode cX6_beginLine 11 = .ok (.if_icmp .ne 7, 3) := by decide +kernel
theorem dX6_beginLine_14 : decode cX6_beginLine 14 = .ok (.iconst 1, 1) := by decide +kernel
theorem dX6_beginLine_15 : decode cX6_beginLine 15 = .ok (.goto 4, 3) := by decide +kernel
theorem dX6_beginLine_18 : decode cX6_beginLine 18 = .ok (.iconst 0, 1) := by decide +kernel
theorem dX6_beginLine_19 : decode cX6_beginLine 19 = .ok (.aload_n 0, 1) := by decide +kernel
theorem dX6_beginLine_20 : decode cX6_beginLine 20 = .ok (.getfield 23, 3) := by decide +kernel
theorem dX6_beginLine_23 : decode cX6_beginLine 23 = .ok (.ifCond .ne 7, 3) := by decide +kernel
theorem dX6_beginLine_26 : decode cX6_beginLine 26 = .ok (.iconst 1, 1) := by decide +kernel
theorem dX6_beginLine_27 : decode cX6_beginLine 27 = .ok (.goto 4, 3) := by decide +kernel
theorem dX6_beginLine_30 : decode cX6_beginLine 30 = .ok (.iconst 0, 1) := by decide +kernel
theorem dX6_beginLine_31 : decode cX6_beginLine 31 = .ok (.if_icmp .eq 9, 3) := by decide +kernel
theorem dX6_beginLine_34 : decode cX6_beginLine 34 = .ok (.aload_n 0, 1) := by decide +kernel
theorem dX6_beginLine_35 : decode cX6_beginLine 35 = .ok (.iconst 1, 1) := by decide +kernel
theorem dX6_beginLine_36 : decode cX6_beginLine 36 = .ok (.invokevirtual 51, 3) := by decide +kernel
theorem dX6_beginLine_39 : decode cX6_beginLine 39 = .ok (.ireturn, 1) := by decide +kernel
theorem dX6_beginLine_40 : decode cX6_beginLine 40 = .ok (.iload_n 2, 1) := by decide +kernel
theorem dX6_beginLine_41 : decode cX6_beginLine 41 = .ok (.iconst 2, 1) := by decide +kernel
theorem dX6_beginLine_42 : decode cX6_beginLine 42 = .ok (.if_icmp .ne 12, 3) := by decide +kernel
theorem dX6_beginLine_45 : decode cX6_beginLine 45 = .ok (.aload_n 0, 1) := by decide +kernel
theorem dX6_beginLine_46 : decode cX6_beginLine 46 = .ok (.getfield 26, 3) := by decide +kernel
theorem dX6_beginLine_49 : decode cX6_beginLine 49 = .ok (.bipush 28, 2) := by decide +kernel
theorem dX6_beginLine_51 : decode cX6_beginLine 51 = .ok (.if_icmp .ge 37, 3) := by decide +kernel
theorem dX6_beginLine_54 : decode cX6_beginLine 54 = .ok (.iload_n 2, 1) := by decide +kernel
theorem dX6_beginLine_55 : decode cX6_beginLine 55 = .ok (.iconst 3, 1) := by decide +kernel
theorem dX6_beginLine_56 : decode cX6_beginLine 56 = .ok (.if_icmp .ne 15, 3) := by decide +kernel
theorem dX6_beginLine_59 : decode cX6_beginLine 59 = .ok (.aload_n 1, 1) := by decide +kernel
theorem dX6_beginLine_60 : decode cX6_beginLine 60 = .ok (.getfield 84, 3) := by decide +kernel
theorem dX6_beginLine_63 : decode cX6_beginLine 63 = .ok (.getfield 88, 3) := by decide +kernel
theorem dX6_beginLine_66 : decode cX6_beginLine 66 = .ok (.bipush 6, 2) := by decide +kernel
theorem dX6_beginLine_68 : decode cX6_beginLine 68 = .ok (.if_icmp .ge 20, 3) := by decide +kernel
theorem dX6_beginLine_71 : decode cX6_beginLine 71 = .ok (.iload_n 2, 1) := by decide +kernel
theorem dX6_beginLine_72 : decode cX6_beginLine 72 = .ok (.iconst 4, 1) := by decide +kernel
theorem dX6_beginLine_73 : decode cX6_beginLine 73 = .ok (.if_icmp .ne 21, 3) := by decide +kernel
theorem dX6_beginLine_76 : decode cX6_beginLine 76 = .ok (.aload_n 1, 1) := by decide +kernel
theorem dX6_beginLine_77 : decode cX6_beginLine 77 = .ok (.getfield 93, 3) := by decide +kernel
theorem dX6_beginLine_80 : decode cX6_beginLine 80 = .ok (.getfield 97, 3) := by decide +kernel
theorem dX6_beginLine_83 : decode cX6_beginLine 83 = .ok (.bipush 8, 2) := by decide +kernel
theorem dX6_beginLine_85 : decode cX6_beginLine 85 = .ok (.if_icmp .lt 9, 3) := by decide +kernel
theorem dX6_beginLine_88 : decode cX6_beginLine 88 = .ok (.aload_n 0, 1) := by decide +kernel
theorem dX6_beginLine_89 : decode cX6_beginLine 89 = .ok (.iconst 3, 1) := by decide +kernel
theorem dX6_beginLine_90 : decode cX6_beginLine 90 = .ok (.invokevirtual 51, 3) := by decide +kernel
theorem dX6_beginLine_93 : decode cX6_beginLine 93 = .ok (.ireturn, 1) := by decide +kernel
theorem dX6_beginLine_94 : decode cX6_beginLine 94 = .ok (.aload_n 0, 1) := by decide +kernel
theorem dX6_beginLine_95 : decode cX6_beginLine 95 = .ok (.iload_n 2, 1) := by decide +kernel
theorem dX6_beginLine_96 : decode cX6_beginLine 96 = .ok (.putfield 19, 3) := by decide +kernel
theorem dX6_beginLine_99 : decode cX6_beginLine 99 = .ok (.aload_n 0, 1) := by decide +kernel
theorem dX6_beginLine_100 : decode cX6_beginLine 100 = .ok (.iconst 0, 1) := by decide +kernel
theorem dX6_beginLine_101 : decode cX6_beginLine 101 = .ok (.putfield 100, 3) := by decide +kernel
theorem dX6_beginLine_104 : decode cX6_beginLine 104 = .ok (.aload_n 0, 1) := by decide +kernel
theorem dX6_beginLine_105 : decode cX6_beginLine 105 = .ok (.iconst (-1), 1) := by decide +kernel
theorem dX6_beginLine_106 : decode cX6_beginLine 106 = .ok (.putfield 58, 3) := by decide +kernel
theorem dX6_beginLine_109 : decode cX6_beginLine 109 = .ok (.aload_n 0, 1) := by decide +kernel
theorem dX6_beginLine_110 : decode cX6_beginLine 110 = .ok (.iconst 0, 1) := by decide +kernel
theorem dX6_beginLine_111 : decode cX6_beginLine 111 = .ok (.putfield 103, 3) := by decide +kernel
theorem dX6_beginLine_114 : decode cX6_beginLine 114 = .ok (.iconst 1, 1) := by decide +kernel
theorem dX6_beginLine_115 : decode cX6_beginLine 115 = .ok (.ireturn, 1) := by decide +kernel
theorem dX6_endLine_0 : decode cX6_endLine 0 = .ok (.aload_n 0, 1) := by decide +kernel
theorem dX6_endLine_1 : decode cX6_endLine 1 = .ok (.getfield 19, 3) := by decide +kernel
theorem dX6_endLine_4 : decode cX6_endLine 4 = .ok (.tableswitch 115 1 4 #[32, 61, 115, 93], 32) := by decide +kernel
theorem dX6_endLine_36 : decode cX6_endLine 36 = .ok (.aload_n 1, 1) := by decide +kernel
theorem dX6_endLine_37 : decode cX6_endLine 37 = .ok (.getfield 70, 3) := by decide +kernel
theorem dX6_endLine_40 : decode cX6_endLine 40 = .ok (.aload_n 0, 1) := by decide +kernel
theorem dX6_endLine_41 : decode cX6_endLine 41 = .ok (.getfield 9, 3) := by decide +kernel
theorem dX6_endLine_44 : decode cX6_endLine 44 = .ok (.iconst 0, 1) := by decide +kernel
theorem dX6_endLine_45 : decode cX6_endLine 45 = .ok (.iaload, 1) := by decide +kernel
theorem dX6_endLine_46 : decode cX6_endLine 46 = .ok (.putfield 154, 3) := by decide +kernel
theorem dX6_endLine_49 : decode cX6_endLine 49 = .ok (.aload_n 1, 1) := by decide +kernel
theorem dX6_endLine_50 : decode cX6_endLine 50 = .ok (.getfield 84, 3) := by decide +kernel
theorem dX6_endLine_53 : decode cX6_endLine 53 = .ok (.aload_n 0, 1) := by decide +kernel
theorem dX6_endLine_54 : decode cX6_endLine 54 = .ok (.getfield 9, 3) := by decide +kernel
theorem dX6_endLine_57 : decode cX6_endLine 57 = .ok (.iconst 1, 1) := by decide +kernel
theorem dX6_endLine_58 : decode cX6_endLine 58 = .ok (.iaload, 1) := by decide +kernel
theorem dX6_endLine_59 : decode cX6_endLine 59 = .ok (.putfield 155, 3) := by decide +kernel
theorem dX6_endLine_62 : decode cX6_endLine 62 = .ok (.goto 76, 3) := by decide +kernel
theorem dX6_endLine_65 : decode cX6_endLine 65 = .ok (.aload_n 1, 1) := by decide +kernel
theorem dX6_endLine_66 : decode cX6_endLine 66 = .ok (.getfield 70, 3) := by decide +kernel
theorem dX6_endLine_69 : decode cX6_endLine 69 = .ok (.aload_n 0, 1) := by decide +kernel
theorem dX6_endLine_70 : decode cX6_endLine 70 = .ok (.getfield 9, 3) := by decide +kernel
theorem dX6_endLine_73 : decode cX6_endLine 73 = .ok (.iconst 0, 1) := by decide +kernel
theorem dX6_endLine_74 : decode cX6_endLine 74 = .ok (.iaload, 1) := by decide +kernel
theorem dX6_endLine_75 : decode cX6_endLine 75 = .ok (.aload_n 0, 1) := by decide +kernel
theorem dX6_endLine_76 : decode cX6_endLine 76 = .ok (.getfield 9, 3) := by decide +kernel
theorem dX6_endLine_79 : decode cX6_endLine 79 = .ok (.iconst 1, 1) := by decide +kernel
theorem dX6_endLine_80 : decode cX6_endLine 80 = .ok (.iaload, 1) := by decide +kernel
theorem dX6_endLine_81 : decode cX6_endLine 81 = .ok (.invokevirtual 158, 3) := by decide +kernel
theorem dX6_endLine_84 : decode cX6_endLine 84 = .ok (.aload_n 0, 1) := by decide +kernel
theorem dX6_endLine_85 : decode cX6_endLine 85 = .ok (.dup, 1) := by decide +kernel
theorem dX6_endLine_86 : decode cX6_endLine 86 = .ok (.getfield 26, 3) := by decide +kernel
theorem dX6_endLine_89 : decode cX6_endLine 89 = .ok (.iconst 1, 1) := by decide +kernel
theorem dX6_endLine_90 : decode cX6_endLine 90 = .ok (.iadd, 1) := by decide +kernel
theorem dX6_endLine_91 : decode cX6_endLine 91 = .ok (.putfield 26, 3) := by decide +kernel
theorem dX6_endLine_94 : decode cX6_endLine 94 = .ok (.goto 44, 3) := by decide +kernel
theorem dX6_endLine_97 : decode cX6_endLine 97 = .ok (.aload_n 1, 1) := by decide +kernel
theorem dX6_endLine_98 : decode cX6_endLine 98 = .ok (.getfield 93, 3) := by decide +kernel
theorem dX6_endLine_101 : decode cX6_endLine 101 = .ok (.aload_n 0, 1) := by decide +kernel
theorem dX6_endLine_102 : decode cX6_endLine 102 = .ok (.getfield 9, 3) := by decide +kernel
theorem dX6_endLine_105 : decode cX6_endLine 105 = .ok (.iconst 0, 1) := by decide +kernel
theorem dX6_endLine_106 : decode cX6_endLine 106 = .ok (.iaload, 1) := by decide +kernel
theorem dX6_endLine_107 : decode cX6_endLine 107 = .ok (.aload_n 0, 1) := by decide +kernel
theorem dX6_endLine_108 : decode cX6_endLine 108 = .ok (.getfield 9, 3) := by decide +kernel
theorem dX6_endLine_111 : decode cX6_endLine 111 = .ok (.iconst 1, 1) := by decide +kernel
theorem dX6_endLine_112 : decode cX6_endLine 112 = .ok (.iaload, 1) := by decide +kernel
theorem dX6_endLine_113 : decode cX6_endLine 113 = .ok (.invokevirtual 162, 3) := by decide +kernel
theorem dX6_endLine_116 : decode cX6_endLine 116 = .ok (.goto 22, 3) := by decide +kernel
theorem dX6_endLine_119 : decode cX6_endLine 119 = .ok (.aload_n 1, 1) := by decide +kernel
theorem dX6_endLine_120 : decode cX6_endLine 120 = .ok (.getfield 84, 3) := by decide +kernel
theorem dX6_endLine_123 : decode cX6_endLine 123 = .ok (.aload_n 0, 1) := by decide +kernel
theorem dX6_endLine_124 : decode cX6_endLine 124 = .ok (.getfield 58, 3) := by decide +kernel
theorem dX6_endLine_127 : decode cX6_endLine 127 = .ok (.aload_n 0, 1) := by decide +kernel
theorem dX6_endLine_128 : decode cX6_endLine 128 = .ok (.getfield 9, 3) := by decide +kernel
theorem dX6_endLine_131 : decode cX6_endLine 131 = .ok (.aload_n 0, 1) := by decide +kernel
theorem dX6_endLine_132 : decode cX6_endLine 132 = .ok (.getfield 103, 3) := by decide +kernel
theorem dX6_endLine_135 : decode cX6_endLine 135 = .ok (.invokevirtual 165, 3) := by decide +kernel
theorem dX6_endLine_138 : decode cX6_endLine 138 = .ok (.aload_n 0, 1) := by decide +kernel
theorem dX6_endLine_139 : decode cX6_endLine 139 = .ok (.dup, 1) := by decide +kernel
theorem dX6_endLine_140 : decode cX6_endLine 140 = .ok (.getfield 23, 3) := by decide +kernel
theorem dX6_endLine_143 : decode cX6_endLine 143 = .ok (.iconst 1, 1) := by decide +kernel
theorem dX6_endLine_144 : decode cX6_endLine 144 = .ok (.iadd, 1) := by decide +kernel
theorem dX6_endLine_145 : decode cX6_endLine 145 = .ok (.putfield 23, 3) := by decide +kernel
theorem dX6_endLine_148 : decode cX6_endLine 148 = .ok (.aload_n 0, 1) := by decide +kernel
theorem dX6_endLine_149 : decode cX6_endLine 149 = .ok (.iconst 0, 1) := by decide +kernel
theorem dX6_endLine_150 : decode cX6_endLine 150 = .ok (.putfield 19, 3) := by decide +kernel
theorem dX6_endLine_153 : decode cX6_endLine 153 = .ok (.iconst 1, 1) := by decide +kernel
theorem dX6_endLine_154 : decode cX6_endLine 154 = .ok (.ireturn, 1) := by decide +kernel
theorem dX6_isInRange_0 : decode cX6_isInRange 0 = .ok (.iload_n 0, 1) := by decide +kernel
theorem dX6_isInRange_1 : decode cX6_isInRange 1 = .ok (.ifCond .lt 41, 3) := by decide +kernel
theorem dX6_isInRange_4 : decode cX6_isInRange 4 = .ok (.iload_n 0, 1) := by decide +kernel
theorem dX6_isInRange_5 : decode cX6_isInRange 5 = .ok (.getstatic 148, 3) := by decide +kernel
theorem dX6_isInRange_8 : decode cX6_isInRange 8 = .ok (.arraylength, 1) := by decide +kernel
theorem dX6_isInRange_9 : decode cX6_isInRange 9 = .ok (.if_icmp .ge 33, 3) := by decide +kernel
theorem dX6_isInRange_12 : decode cX6_isInRange 12 = .ok (.iload_n 0, 1) := by decide +kernel
theorem dX6_isInRange_13 : decode cX6_isInRange 13 = .ok (.getstatic 151, 3) := by decide +kernel
theorem dX6_isInRange_16 : decode cX6_isInRange 16 = .ok (.arraylength, 1) := by decide +kernel
theorem dX6_isInRange_17 : decode cX6_isInRange 17 = .ok (.if_icmp .ge 25, 3) := by decide +kernel
theorem dX6_isInRange_20 : decode cX6_isInRange 20 = .ok (.iload_n 1, 1) := by decide +kernel
theorem dX6_isInRange_21 : decode cX6_isInRange 21 = .ok (.getstatic 148, 3) := by decide +kernel
theorem dX6_isInRange_24 : decode cX6_isInRange 24 = .ok (.iload_n 0, 1) := by decide +kernel
theorem dX6_isInRange_25 : decode cX6_isInRange 25 = .ok (.iaload, 1) := by decide +kernel
theorem dX6_isInRange_26 : decode cX6_isInRange 26 = .ok (.if_icmp .lt 16, 3) := by decide +kernel
theorem dX6_isInRange_29 : decode cX6_isInRange 29 = .ok (.iload_n 1, 1) := by decide +kernel
theorem dX6_isInRange_30 : decode cX6_isInRange 30 = .ok (.getstatic 151, 3) := by decide +kernel
theorem dX6_isInRange_33 : decode cX6_isInRange 33 = .ok (.iload_n 0, 1) := by decide +kernel
theorem dX6_isInRange_34 : decode cX6_isInRange 34 = .ok (.iaload, 1) := by decide +kernel
theorem dX6_isInRange_35 : decode cX6_isInRange 35 = .ok (.if_icmp .gt 7, 3) := by decide +kernel
theorem dX6_isInRange_38 : decode cX6_isInRange 38 = .ok (.iconst 1, 1) := by decide +kernel
theorem dX6_isInRange_39 : decode cX6_isInRange 39 = .ok (.goto 4, 3) := by decide +kernel
theorem dX6_isInRange_42 : decode cX6_isInRange 42 = .ok (.iconst 0, 1) := by decide +kernel
theorem dX6_isInRange_43 : decode cX6_isInRange 43 = .ok (.ireturn, 1) := by decide +kernel
theorem dX6_isWhole_0 : decode cX6_isWhole 0 = .ok (.aload_n 0, 1) := by decide +kernel
theorem dX6_isWhole_1 : decode cX6_isWhole 1 = .ok (.getfield 19, 3) := by decide +kernel
theorem dX6_isWhole_4 : decode cX6_isWhole 4 = .ok (.iconst 3, 1) := by decide +kernel
theorem dX6_isWhole_5 : decode cX6_isWhole 5 = .ok (.if_icmp .ne 18, 3) := by decide +kernel
theorem dX6_isWhole_8 : decode cX6_isWhole 8 = .ok (.aload_n 0, 1) := by decide +kernel
theorem dX6_isWhole_9 : decode cX6_isWhole 9 = .ok (.getfield 103, 3) := by decide +kernel
theorem dX6_isWhole_12 : decode cX6_isWhole 12 = .ok (.ifCond .eq 7, 3) := by decide +kernel
theorem dX6_isWhole_15 : decode cX6_isWhole 15 = .ok (.iconst 1, 1) := by decide +kernel
theorem dX6_isWhole_16 : decode cX6_isWhole 16 = .ok (.goto 20, 3) := by decide +kernel
theorem dX6_isWhole_19 : decode cX6_isWhole 19 = .ok (.iconst 0, 1) := by decide +kernel
theorem dX6_isWhole_20 : decode cX6_isWhole 20 = .ok (.goto 16, 3) := by decide +kernel
theorem dX6_isWhole_23 : decode cX6_isWhole 23 = .ok (.aload_n 0, 1) := by decide +kernel
theorem dX6_isWhole_24 : decode cX6_isWhole 24 = .ok (.invokevirtual 127, 3) := by decide +kernel
theorem dX6_isWhole_27 : decode cX6_isWhole 27 = .ok (.iconst (-1), 1) := by decide +kernel
theorem dX6_isWhole_28 : decode cX6_isWhole 28 = .ok (.if_icmp .ne 7, 3) := by decide +kernel
theorem dX6_isWhole_31 : decode cX6_isWhole 31 = .ok (.iconst 1, 1) := by decide +kernel
theorem dX6_isWhole_32 : decode cX6_isWhole 32 = .ok (.goto 4, 3) := by decide +kernel
theorem dX6_isWhole_35 : decode cX6_isWhole 35 = .ok (.iconst 0, 1) := by decide +kernel
theorem dX6_isWhole_36 : decode cX6_isWhole 36 = .ok (.ireturn, 1) := by decide +kernel
theorem dX6_meaningNow_0 : decode cX6_meaningNow 0 = .ok (.aload_n 0, 1) := by decide +kernel
theorem dX6_meaningNow_1 : decode cX6_meaningNow 1 = .ok (.getfield 19, 3) := by decide +kernel
theorem dX6_meaningNow_4 : decode cX6_meaningNow 4 = .ok (.tableswitch 98 1 4 #[32, 57, 98, 72], 32) := by decide +kernel
theorem dX6_meaningNow_36 : decode cX6_meaningNow 36 = .ok (.aload_n 0, 1) := by decide +kernel
theorem dX6_meaningNow_37 : decode cX6_meaningNow 37 = .ok (.getfield 100, 3) := by decide +kernel
theorem dX6_meaningNow_40 : decode cX6_meaningNow 40 = .ok (.ifCond .ne 7, 3) := by decide +kernel
theorem dX6_meaningNow_43 : decode cX6_meaningNow 43 = .ok (.iconst 0, 1) := by decide +kernel
theorem dX6_meaningNow_44 : decode cX6_meaningNow 44 = .ok (.goto 16, 3) := by decide +kernel
theorem dX6_meaningNow_47 : decode cX6_meaningNow 47 = .ok (.aload_n 0, 1) := by decide +kernel
theorem dX6_meaningNow_48 : decode cX6_meaningNow 48 = .ok (.getfield 100, 3) := by decide +kernel
theorem dX6_meaningNow_51 : decode cX6_meaningNow 51 = .ok (.iconst 1, 1) := by decide +kernel
theorem dX6_meaningNow_52 : decode cX6_meaningNow 52 = .ok (.if_icmp .ne 7, 3) := by decide +kernel
theorem dX6_meaningNow_55 : decode cX6_meaningNow 55 = .ok (.iconst 1, 1) := by decide +kernel
theorem dX6_meaningNow_56 : decode cX6_meaningNow 56 = .ok (.goto 4, 3) := by decide +kernel
theorem dX6_meaningNow_59 : decode cX6_meaningNow 59 = .ok (.iconst (-1), 1) := by decide +kernel
theorem dX6_meaningNow_60 : decode cX6_meaningNow 60 = .ok (.ireturn, 1) := by decide +kernel
theorem dX6_meaningNow_61 : decode cX6_meaningNow 61 = .ok (.aload_n 0, 1) := by decide +kernel
theorem dX6_meaningNow_62 : decode cX6_meaningNow 62 = .ok (.getfield 100, 3) := by decide +kernel
theorem dX6_meaningNow_65 : decode cX6_meaningNow 65 = .ok (.iconst 2, 1) := by decide +kernel
theorem dX6_meaningNow_66 : decode cX6_meaningNow 66 = .ok (.if_icmp .ge 8, 3) := by decide +kernel
theorem dX6_meaningNow_69 : decode cX6_meaningNow 69 = .ok (.bipush 7, 2) := by decide +kernel
theorem dX6_meaningNow_71 : decode cX6_meaningNow 71 = .ok (.goto 4, 3) := by decide +kernel
theorem dX6_meaningNow_74 : decode cX6_meaningNow 74 = .ok (.iconst (-1), 1) := by decide +kernel
theorem dX6_meaningNow_75 : decode cX6_meaningNow 75 = .ok (.ireturn, 1) := by decide +kernel
theorem dX6_meaningNow_76 : decode cX6_meaningNow 76 = .ok (.aload_n 0, 1) := by decide +kernel
theorem dX6_meaningNow_77 : decode cX6_meaningNow 77 = .ok (.getfield 100, 3) := by decide +kernel
theorem dX6_meaningNow_80 : decode cX6_meaningNow 80 = .ok (.ifCond .ne 8, 3) := by decide +kernel
theorem dX6_meaningNow_83 : decode cX6_meaningNow 83 = .ok (.bipush 7, 2) := by decide +kernel
theorem dX6_meaningNow_85 : decode cX6_meaningNow 85 = .ok (.goto 16, 3) := by decide +kernel
theorem dX6_meaningNow_88 : decode cX6_meaningNow 88 = .ok (.aload_n 0, 1) := by decide +kernel
theorem dX6_meaningNow_89 : decode cX6_meaningNow 89 = .ok (.getfield 100, 3) := by decide +kernel
theorem dX6_meaningNow_92 : decode cX6_meaningNow 92 = .ok (.iconst 1, 1) := by decide +kernel
theorem dX6_meaningNow_93 : decode cX6_meaningNow 93 = .ok (.if_icmp .ne 7, 3) := by decide +kernel
theorem dX6_meaningNow_96 : decode cX6_meaningNow 96 = .ok (.iconst 3, 1) := by decide +kernel
theorem dX6_meaningNow_97 : decode cX6_meaningNow 97 = .ok (.goto 4, 3) := by decide +kernel
theorem dX6_meaningNow_100 : decode cX6_meaningNow 100 = .ok (.iconst (-1), 1) := by decide +kernel
theorem dX6_meaningNow_101 : decode cX6_meaningNow 101 = .ok (.ireturn, 1) := by decide +kernel
theorem dX6_meaningNow_102 : decode cX6_meaningNow 102 = .ok (.iconst 2, 1) := by decide +kernel
theorem dX6_meaningNow_103 : decode cX6_meaningNow 103 = .ok (.aload_n 0, 1) := by decide +kernel
theorem dX6_meaningNow_104 : decode cX6_meaningNow 104 = .ok (.getfield 100, 3) := by decide +kernel
theorem dX6_meaningNow_107 : decode cX6_meaningNow 107 = .ok (.iadd, 1) := by decide +kernel
theorem dX6_meaningNow_108 : decode cX6_meaningNow 108 = .ok (.bipush 7, 2) := by decide +kernel
theorem dX6_meaningNow_110 : decode cX6_meaningNow 110 = .ok (.invokestatic 130, 3) := by decide +kernel
theorem dX6_meaningNow_113 : decode cX6_meaningNow 113 = .ok (.ireturn, 1) := by decide +kernel
theorem dX6_putNumber_0 : decode cX6_putNumber 0 = .ok (.aload_n 0, 1) := by decide +kernel
theorem dX6_putNumber_1 : decode cX6_putNumber 1 = .ok (.getfield 100, 3) := by decide +kernel
theorem dX6_putNumber_4 : decode cX6_putNumber 4 = .ok (.ifCond .lt 25, 3) := by decide +kernel
theorem dX6_putNumber_7 : decode cX6_putNumber 7 = .ok (.aload_n 0, 1) := by decide +kernel
theorem dX6_putNumber_8 : decode cX6_putNumber 8 = .ok (.getfield 100, 3) := by decide +kernel
theorem dX6_putNumber_11 : decode cX6_putNumber 11 = .ok (.aload_n 0, 1) := by decide +kernel
theorem dX6_putNumber_12 : decode cX6_putNumber 12 = .ok (.getfield 9, 3) := by decide +kernel
theorem dX6_putNumber_15 : decode cX6_putNumber 15 = .ok (.arraylength, 1) := by decide +kernel
theorem dX6_putNumber_16 : decode cX6_putNumber 16 = .ok (.if_icmp .ge 13, 3) := by decide +kernel
theorem dX6_putNumber_19 : decode cX6_putNumber 19 = .ok (.aload_n 0, 1) := by decide +kernel
theorem dX6_putNumber_20 : decode cX6_putNumber 20 = .ok (.getfield 9, 3) := by decide +kernel
theorem dX6_putNumber_23 : decode cX6_putNumber 23 = .ok (.aload_n 0, 1) := by decide +kernel
theorem dX6_putNumber_24 : decode cX6_putNumber 24 = .ok (.getfield 100, 3) := by decide +kernel
theorem dX6_putNumber_27 : decode cX6_putNumber 27 = .ok (.iload_n 1, 1) := by decide +kernel
theorem dX6_putNumber_28 : decode cX6_putNumber 28 = .ok (.iastore, 1) := by decide +kernel
theorem dX6_putNumber_29 : decode cX6_putNumber 29 = .ok (.aload_n 0, 1) := by decide +kernel
theorem dX6_putNumber_30 : decode cX6_putNumber 30 = .ok (.dup, 1) := by decide +kernel
theorem dX6_putNumber_31 : decode cX6_putNumber 31 = .ok (.getfield 100, 3) := by decide +kernel
theorem dX6_putNumber_34 : decode cX6_putNumber 34 = .ok (.iconst 1, 1) := by decide +kernel
theorem dX6_putNumber_35 : decode cX6_putNumber 35 = .ok (.iadd, 1) := by decide +kernel
theorem dX6_putNumber_36 : decode cX6_putNumber 36 = .ok (.putfield 100, 3) := by decide +kernel
theorem dX6_putNumber_39 : decode cX6_putNumber 39 = .ok (.return_, 1) := by decide +kernel
theorem dX6_readInto_0 : decode cX6_readInto 0 = .ok (.aload_n 0, 1) := by decide +kernel
theorem dX6_readInto_1 : decode cX6_readInto 1 = .ok (.iconst 0, 1) := by decide +kernel
theorem dX6_readInto_2 : decode cX6_readInto 2 = .ok (.putfield 19, 3) := by decide +kernel
theorem dX6_readInto_5 : decode cX6_readInto 5 = .ok (.aload_n 0, 1) := by decide +kernel
theorem dX6_readInto_6 : decode cX6_readInto 6 = .ok (.iconst 0, 1) := by decide +kernel
theorem dX6_readInto_7 : decode cX6_readInto 7 = .ok (.putfield 23, 3) := by decide +kernel
theorem dX6_readInto_10 : decode cX6_readInto 10 = .ok (.aload_n 0, 1) := by decide +kernel
theorem dX6_readInto_11 : decode cX6_readInto 11 = .ok (.iconst 0, 1) := by decide +kernel
theorem dX6_readInto_12 : decode cX6_readInto 12 = .ok (.putfield 26, 3) := by decide +kernel
theorem dX6_readInto_15 : decode cX6_readInto 15 = .ok (.aload_n 0, 1) := by decide +kernel
theorem dX6_readInto_16 : decode cX6_readInto 16 = .ok (.iconst 0, 1) := by decide +kernel
theorem dX6_readInto_17 : decode cX6_readInto 17 = .ok (.putfield 29, 3) := by decide +kernel
theorem dX6_readInto_20 : decode cX6_readInto 20 = .ok (.aload_n 0, 1) := by decide +kernel
theorem dX6_readInto_21 : decode cX6_readInto 21 = .ok (.getfield 15, 3) := by decide +kernel
theorem dX6_readInto_24 : decode cX6_readInto 24 = .ok (.invokevirtual 32, 3) := by decide +kernel
theorem dX6_readInto_27 : decode cX6_readInto 27 = .ok (.iconst 1, 1) := by decide +kernel
theorem dX6_readInto_28 : decode cX6_readInto 28 = .ok (.istore_n 2, 1) := by decide +kernel
theorem dX6_readInto_29 : decode cX6_readInto 29 = .ok (.iconst 0, 1) := by decide +kernel
theorem dX6_readInto_30 : decode cX6_readInto 30 = .ok (.istore_n 3, 1) := by decide +kernel
theorem dX6_readInto_31 : decode cX6_readInto 31 = .ok (.iload_n 3, 1) := by decide +kernel
theorem dX6_readInto_32 : decode cX6_readInto 32 = .ok (.sipush 700, 3) := by decide +kernel
theorem dX6_readInto_35 : decode cX6_readInto 35 = .ok (.if_icmp .ge 40, 3) := by decide +kernel
theorem dX6_readInto_38 : decode cX6_readInto 38 = .ok (.iload_n 2, 1) := by decide +kernel
theorem dX6_readInto_39 : decode cX6_readInto 39 = .ok (.ifCond .eq 36, 3) := by decide +kernel
theorem dX6_readInto_42 : decode cX6_readInto 42 = .ok (.aload_n 0, 1) := by decide +kernel
theorem dX6_readInto_43 : decode cX6_readInto 43 = .ok (.getfield 15, 3) := by decide +kernel
theorem dX6_readInto_46 : decode cX6_readInto 46 = .ok (.getfield 37, 3) := by decide +kernel
theorem dX6_readInto_49 : decode cX6_readInto 49 = .ok (.ifCond .eq 26, 3) := by decide +kernel
theorem dX6_readInto_52 : decode cX6_readInto 52 = .ok (.aload_n 0, 1) := by decide +kernel
theorem dX6_readInto_53 : decode cX6_readInto 53 = .ok (.aload_n 1, 1) := by decide +kernel
theorem dX6_readInto_54 : decode cX6_readInto 54 = .ok (.invokevirtual 40, 3) := by decide +kernel
theorem dX6_readInto_57 : decode cX6_readInto 57 = .ok (.istore_n 2, 1) := by decide +kernel
theorem dX6_readInto_58 : decode cX6_readInto 58 = .ok (.iload_n 2, 1) := by decide +kernel
theorem dX6_readInto_59 : decode cX6_readInto 59 = .ok (.ifCond .eq 10, 3) := by decide +kernel
theorem dX6_readInto_62 : decode cX6_readInto 62 = .ok (.aload_n 0, 1) := by decide +kernel
theorem dX6_readInto_63 : decode cX6_readInto 63 = .ok (.getfield 15, 3) := by decide +kernel
theorem dX6_readInto_66 : decode cX6_readInto 66 = .ok (.invokevirtual 44, 3) := by decide +kernel
theorem dX6_readInto_69 : decode cX6_readInto 69 = .ok (.iinc 3 1, 3) := by decide +kernel
theorem dX6_readInto_72 : decode cX6_readInto 72 = .ok (.goto (-41), 3) := by decide +kernel
theorem dX6_readInto_75 : decode cX6_readInto 75 = .ok (.iload_n 2, 1) := by decide +kernel
theorem dX6_readInto_76 : decode cX6_readInto 76 = .ok (.ifCond .eq 32, 3) := by decide +kernel
theorem dX6_readInto_79 : decode cX6_readInto 79 = .ok (.aload_n 0, 1) := by decide +kernel
theorem dX6_readInto_80 : decode cX6_readInto 80 = .ok (.getfield 19, 3) := by decide +kernel
theorem dX6_readInto_83 : decode cX6_readInto 83 = .ok (.ifCond .ne 13, 3) := by decide +kernel
theorem dX6_readInto_86 : decode cX6_readInto 86 = .ok (.aload_n 0, 1) := by decide +kernel
theorem dX6_readInto_87 : decode cX6_readInto 87 = .ok (.getfield 15, 3) := by decide +kernel
theorem dX6_readInto_90 : decode cX6_readInto 90 = .ok (.invokevirtual 47, 3) := by decide +kernel
theorem dX6_readInto_93 : decode cX6_readInto 93 = .ok (.ifCond .eq 11, 3) := by decide +kernel
theorem dX6_readInto_96 : decode cX6_readInto 96 = .ok (.aload_n 0, 1) := by decide +kernel
theorem dX6_readInto_97 : decode cX6_readInto 97 = .ok (.iconst 1, 1) := by decide +kernel
theorem dX6_readInto_98 : decode cX6_readInto 98 = .ok (.invokevirtual 51, 3) := by decide +kernel
theorem dX6_readInto_101 : decode cX6_readInto 101 = .ok (.ifCond .eq 7, 3) := by decide +kernel
theorem dX6_readInto_104 : decode cX6_readInto 104 = .ok (.iconst 1, 1) := by decide +kernel
theorem dX6_readInto_105 : decode cX6_readInto 105 = .ok (.goto 4, 3) := by decide +kernel
theorem dX6_readInto_108 : decode cX6_readInto 108 = .ok (.iconst 0, 1) := by decide +kernel
theorem dX6_readInto_109 : decode cX6_readInto 109 = .ok (.ireturn, 1) := by decide +kernel
theorem dX6_refuse_0 : decode cX6_refuse 0 = .ok (.aload_n 0, 1) := by decide +kernel
theorem dX6_refuse_1 : decode cX6_refuse 1 = .ok (.iload_n 1, 1) := by decide +kernel
theorem dX6_refuse_2 : decode cX6_refuse 2 = .ok (.putfield 29, 3) := by decide +kernel
theorem dX6_refuse_5 : decode cX6_refuse 5 = .ok (.aload_n 0, 1) := by decide +kernel
theorem dX6_refuse_6 : decode cX6_refuse 6 = .ok (.aload_n 0, 1) := by decide +kernel
theorem dX6_refuse_7 : decode cX6_refuse 7 = .ok (.getfield 15, 3) := by decide +kernel
theorem dX6_refuse_10 : decode cX6_refuse 10 = .ok (.getfield 168, 3) := by decide +kernel
theorem dX6_refuse_13 : decode cX6_refuse 13 = .ok (.putfield 171, 3) := by decide +kernel
theorem dX6_refuse_16 : decode cX6_refuse 16 = .ok (.iconst 0, 1) := by decide +kernel
theorem dX6_refuse_17 : decode cX6_refuse 17 = .ok (.ireturn, 1) := by decide +kernel
theorem dX6_sortOfWord_0 : decode cX6_sortOfWord 0 = .ok (.aload_n 0, 1) := by decide +kernel
theorem dX6_sortOfWord_1 : decode cX6_sortOfWord 1 = .ok (.getfield 15, 3) := by decide +kernel
theorem dX6_sortOfWord_4 : decode cX6_sortOfWord 4 = .ok (.ldc 106, 2) := by decide +kernel
theorem dX6_sortOfWord_6 : decode cX6_sortOfWord 6 = .ok (.invokevirtual 107, 3) := by decide +kernel
theorem dX6_sortOfWord_9 : decode cX6_sortOfWord 9 = .ok (.ifCond .eq 7, 3) := by decide +kernel
theorem dX6_sortOfWord_12 : decode cX6_sortOfWord 12 = .ok (.iconst 1, 1) := by decide +kernel
theorem dX6_sortOfWord_13 : decode cX6_sortOfWord 13 = .ok (.goto 52, 3) := by decide +kernel
theorem dX6_sortOfWord_16 : decode cX6_sortOfWord 16 = .ok (.aload_n 0, 1) := by decide +kernel
theorem dX6_sortOfWord_17 : decode cX6_sortOfWord 17 = .ok (.getfield 15, 3) := by decide +kernel
theorem dX6_sortOfWord_20 : decode cX6_sortOfWord 20 = .ok (.ldc 111, 2) := by decide +kernel
theorem dX6_sortOfWord_22 : decode cX6_sortOfWord 22 = .ok (.invokevirtual 107, 3) := by decide +kernel
theorem dX6_sortOfWord_25 : decode cX6_sortOfWord 25 = .ok (.ifCond .eq 7, 3) := by decide +kernel
theorem dX6_sortOfWord_28 : decode cX6_sortOfWord 28 = .ok (.iconst 2, 1) := by decide +kernel
theorem dX6_sortOfWord_29 : decode cX6_sortOfWord 29 = .ok (.goto 36, 3) := by decide +kernel
theorem dX6_sortOfWord_32 : decode cX6_sortOfWord 32 = .ok (.aload_n 0, 1) := by decide +kernel
theorem dX6_sortOfWord_33 : decode cX6_sortOfWord 33 = .ok (.getfield 15, 3) := by decide +kernel
theorem dX6_sortOfWord_36 : decode cX6_sortOfWord 36 = .ok (.ldc 113, 2) := by decide +kernel
theorem dX6_sortOfWord_38 : decode cX6_sortOfWord 38 = .ok (.invokevirtual 107, 3) := by decide +kernel
theorem dX6_sortOfWord_41 : decode cX6_sortOfWord 41 = .ok (.ifCond .eq 7, 3) := by decide +kernel
theorem dX6_sortOfWord_44 : decode cX6_sortOfWord 44 = .ok (.iconst 3, 1) := by decide +kernel
theorem dX6_sortOfWord_45 : decode cX6_sortOfWord 45 = .ok (.goto 20, 3) := by decide +kernel
theorem dX6_sortOfWord_48 : decode cX6_sortOfWord 48 = .ok (.aload_n 0, 1) := by decide +kernel
theorem dX6_sortOfWord_49 : decode cX6_sortOfWord 49 = .ok (.getfield 15, 3) := by decide +kernel
theorem dX6_sortOfWord_52 : decode cX6_sortOfWord 52 = .ok (.ldc 115, 2) := by decide +kernel
theorem dX6_sortOfWord_54 : decode cX6_sortOfWord 54 = .ok (.invokevirtual 107, 3) := by decide +kernel
theorem dX6_sortOfWord_57 : decode cX6_sortOfWord 57 = .ok (.ifCond .eq 7, 3) := by decide +kernel
theorem dX6_sortOfWord_60 : decode cX6_sortOfWord 60 = .ok (.iconst 4, 1) := by decide +kernel
theorem dX6_sortOfWord_61 : decode cX6_sortOfWord 61 = .ok (.goto 4, 3) := by decide +kernel
theorem dX6_sortOfWord_64 : decode cX6_sortOfWord 64 = .ok (.iconst 0, 1) := by decide +kernel
theorem dX6_sortOfWord_65 : decode cX6_sortOfWord 65 = .ok (.ireturn, 1) := by decide +kernel
theorem dX6_takeKind_0 : decode cX6_takeKind 0 = .ok (.aload_n 0, 1) := by decide +kernel
theorem dX6_takeKind_1 : decode cX6_takeKind 1 = .ok (.aload_n 0, 1) := by decide +kernel
theorem dX6_takeKind_2 : decode cX6_takeKind 2 = .ok (.getfield 15, 3) := by decide +kernel
theorem dX6_takeKind_5 : decode cX6_takeKind 5 = .ok (.ldc 117, 2) := by decide +kernel
theorem dX6_takeKind_7 : decode cX6_takeKind 7 = .ok (.invokevirtual 107, 3) := by decide +kernel
theorem dX6_takeKind_10 : decode cX6_takeKind 10 = .ok (.ifCond .eq 7, 3) := by decide +kernel
theorem dX6_takeKind_13 : decode cX6_takeKind 13 = .ok (.iconst 0, 1) := by decide +kernel
theorem dX6_takeKind_14 : decode cX6_takeKind 14 = .ok (.goto 36, 3) := by decide +kernel
theorem dX6_takeKind_17 : decode cX6_takeKind 17 = .ok (.aload_n 0, 1) := by decide +kernel
theorem dX6_takeKind_18 : decode cX6_takeKind 18 = .ok (.getfield 15, 3) := by decide +kernel
theorem dX6_takeKind_21 : decode cX6_takeKind 21 = .ok (.ldc 119, 2) := by decide +kernel
theorem dX6_takeKind_23 : decode cX6_takeKind 23 = .ok (.invokevirtual 107, 3) := by decide +kernel
theorem dX6_takeKind_26 : decode cX6_takeKind 26 = .ok (.ifCond .eq 7, 3) := by decide +kernel
theorem dX6_takeKind_29 : decode cX6_takeKind 29 = .ok (.iconst 1, 1) := by decide +kernel
theorem dX6_takeKind_30 : decode cX6_takeKind 30 = .ok (.goto 20, 3) := by decide +kernel
theorem dX6_takeKind_33 : decode cX6_takeKind 33 = .ok (.aload_n 0, 1) := by decide +kernel
theorem dX6_takeKind_34 : decode cX6_takeKind 34 = .ok (.getfield 15, 3) := by decide +kernel
theorem dX6_takeKind_37 : decode cX6_takeKind 37 = .ok (.ldc 121, 2) := by decide +kernel
theorem dX6_takeKind_39 : decode cX6_takeKind 39 = .ok (.invokevirtual 107, 3) := by decide +kernel
theorem dX6_takeKind_42 : decode cX6_takeKind 42 = .ok (.ifCond .eq 7, 3) := by decide +kernel
theorem dX6_takeKind_45 : decode cX6_takeKind 45 = .ok (.iconst 2, 1) := by decide +kernel
theorem dX6_takeKind_46 : decode cX6_takeKind 46 = .ok (.goto 4, 3) := by decide +kernel
theorem dX6_takeKind_49 : decode cX6_takeKind 49 = .ok (.iconst (-1), 1) := by decide +kernel
theorem dX6_takeKind_50 : decode cX6_takeKind 50 = .ok (.putfield 58, 3) := by decide +kernel
theorem dX6_takeKind_53 : decode cX6_takeKind 53 = .ok (.aload_n 0, 1) := by decide +kernel
theorem dX6_takeKind_54 : decode cX6_takeKind 54 = .ok (.getfield 58, 3) := by decide +kernel
theorem dX6_takeKind_57 : decode cX6_takeKind 57 = .ok (.iconst (-1), 1) := by decide +kernel
theorem dX6_takeKind_58 : decode cX6_takeKind 58 = .ok (.if_icmp .ne 9, 3) := by decide +kernel
theorem dX6_takeKind_61 : decode cX6_takeKind 61 = .ok (.aload_n 0, 1) := by decide +kernel
theorem dX6_takeKind_62 : decode cX6_takeKind 62 = .ok (.iconst 1, 1) := by decide +kernel
theorem dX6_takeKind_63 : decode cX6_takeKind 63 = .ok (.invokevirtual 51, 3) := by decide +kernel
theorem dX6_takeKind_66 : decode cX6_takeKind 66 = .ok (.ireturn, 1) := by decide +kernel
theorem dX6_takeKind_67 : decode cX6_takeKind 67 = .ok (.aload_n 0, 1) := by decide +kernel
theorem dX6_takeKind_68 : decode cX6_takeKind 68 = .ok (.getfield 58, 3) := by decide +kernel
theorem dX6_takeKind_71 : decode cX6_takeKind 71 = .ok (.iconst 2, 1) := by decide +kernel
theorem dX6_takeKind_72 : decode cX6_takeKind 72 = .ok (.if_icmp .eq 8, 3) := by decide +kernel
theorem dX6_takeKind_75 : decode cX6_takeKind 75 = .ok (.aload_n 0, 1) := by decide +kernel
theorem dX6_takeKind_76 : decode cX6_takeKind 76 = .ok (.iconst 1, 1) := by decide +kernel
theorem dX6_takeKind_77 : decode cX6_takeKind 77 = .ok (.invokevirtual 123, 3) := by decide +kernel
theorem dX6_takeKind_80 : decode cX6_takeKind 80 = .ok (.iconst 1, 1) := by decide +kernel
theorem dX6_takeKind_81 : decode cX6_takeKind 81 = .ok (.ireturn, 1) := by decide +kernel
theorem dX6_takeNumber_0 : decode cX6_takeNumber 0 = .ok (.aload_n 0, 1) := by decide +kernel
theorem dX6_takeNumber_1 : decode cX6_takeNumber 1 = .ok (.invokevirtual 127, 3) := by decide +kernel
theorem dX6_takeNumber_4 : decode cX6_takeNumber 4 = .ok (.istore_n 2, 1) := by decide +kernel
theorem dX6_takeNumber_5 : decode cX6_takeNumber 5 = .ok (.aload_n 0, 1) := by decide +kernel
theorem dX6_takeNumber_6 : decode cX6_takeNumber 6 = .ok (.getfield 15, 3) := by decide +kernel
theorem dX6_takeNumber_9 : decode cX6_takeNumber 9 = .ok (.getfield 37, 3) := by decide +kernel
theorem dX6_takeNumber_12 : decode cX6_takeNumber 12 = .ok (.iconst 2, 1) := by decide +kernel
theorem dX6_takeNumber_13 : decode cX6_takeNumber 13 = .ok (.if_icmp .ne 8, 3) := by decide +kernel
theorem dX6_takeNumber_16 : decode cX6_takeNumber 16 = .ok (.iload_n 2, 1) := by decide +kernel
theorem dX6_takeNumber_17 : decode cX6_takeNumber 17 = .ok (.iconst (-1), 1) := by decide +kernel
theorem dX6_takeNumber_18 : decode cX6_takeNumber 18 = .ok (.if_icmp .ne 9, 3) := by decide +kernel
theorem dX6_takeNumber_21 : decode cX6_takeNumber 21 = .ok (.aload_n 0, 1) := by decide +kernel
theorem dX6_takeNumber_22 : decode cX6_takeNumber 22 = .ok (.iconst 1, 1) := by decide +kernel
theorem dX6_takeNumber_23 : decode cX6_takeNumber 23 = .ok (.invokevirtual 51, 3) := by decide +kernel
theorem dX6_takeNumber_26 : decode cX6_takeNumber 26 = .ok (.ireturn, 1) := by decide +kernel
theorem dX6_takeNumber_27 : decode cX6_takeNumber 27 = .ok (.aload_n 0, 1) := by decide +kernel
theorem dX6_takeNumber_28 : decode cX6_takeNumber 28 = .ok (.getfield 15, 3) := by decide +kernel
theorem dX6_takeNumber_31 : decode cX6_takeNumber 31 = .ok (.getfield 136, 3) := by decide +kernel
theorem dX6_takeNumber_34 : decode cX6_takeNumber 34 = .ok (.istore_n 3, 1) := by decide +kernel
theorem dX6_takeNumber_35 : decode cX6_takeNumber 35 = .ok (.iload_n 2, 1) := by decide +kernel
theorem dX6_takeNumber_36 : decode cX6_takeNumber 36 = .ok (.bipush 7, 2) := by decide +kernel
theorem dX6_takeNumber_38 : decode cX6_takeNumber 38 = .ok (.if_icmp .ne 43, 3) := by decide +kernel
theorem dX6_takeNumber_41 : decode cX6_takeNumber 41 = .ok (.aload_n 1, 1) := by decide +kernel
theorem dX6_takeNumber_42 : decode cX6_takeNumber 42 = .ok (.iload_n 3, 1) := by decide +kernel
theorem dX6_takeNumber_43 : decode cX6_takeNumber 43 = .ok (.invokevirtual 139, 3) := by decide +kernel
theorem dX6_takeNumber_46 : decode cX6_takeNumber 46 = .ok (.ifCond .eq 14, 3) := by decide +kernel
theorem dX6_takeNumber_49 : decode cX6_takeNumber 49 = .ok (.aload_n 0, 1) := by decide +kernel
theorem dX6_takeNumber_50 : decode cX6_takeNumber 50 = .ok (.getfield 103, 3) := by decide +kernel
theorem dX6_takeNumber_53 : decode cX6_takeNumber 53 = .ok (.iload_n 3, 1) := by decide +kernel
theorem dX6_takeNumber_54 : decode cX6_takeNumber 54 = .ok (.ishr, 1) := by decide +kernel
theorem dX6_takeNumber_55 : decode cX6_takeNumber 55 = .ok (.iconst 1, 1) := by decide +kernel
theorem dX6_takeNumber_56 : decode cX6_takeNumber 56 = .ok (.iand, 1) := by decide +kernel
theorem dX6_takeNumber_57 : decode cX6_takeNumber 57 = .ok (.ifCond .eq 9, 3) := by decide +kernel
theorem dX6_takeNumber_60 : decode cX6_takeNumber 60 = .ok (.aload_n 0, 1) := by decide +kernel
theorem dX6_takeNumber_61 : decode cX6_takeNumber 61 = .ok (.iconst 2, 1) := by decide +kernel
theorem dX6_takeNumber_62 : decode cX6_takeNumber 62 = .ok (.invokevirtual 51, 3) := by decide +kernel
theorem dX6_takeNumber_65 : decode cX6_takeNumber 65 = .ok (.ireturn, 1) := by decide +kernel
theorem dX6_takeNumber_66 : decode cX6_takeNumber 66 = .ok (.aload_n 0, 1) := by decide +kernel
theorem dX6_takeNumber_67 : decode cX6_takeNumber 67 = .ok (.dup, 1) := by decide +kernel
theorem dX6_takeNumber_68 : decode cX6_takeNumber 68 = .ok (.getfield 103, 3) := by decide +kernel
theorem dX6_takeNumber_71 : decode cX6_takeNumber 71 = .ok (.iconst 1, 1) := by decide +kernel
theorem dX6_takeNumber_72 : decode cX6_takeNumber 72 = .ok (.iload_n 3, 1) := by decide +kernel
theorem dX6_takeNumber_73 : decode cX6_takeNumber 73 = .ok (.ishl, 1) := by decide +kernel
theorem dX6_takeNumber_74 : decode cX6_takeNumber 74 = .ok (.ior, 1) := by decide +kernel
theorem dX6_takeNumber_75 : decode cX6_takeNumber 75 = .ok (.putfield 103, 3) := by decide +kernel
theorem dX6_takeNumber_78 : decode cX6_takeNumber 78 = .ok (.goto 17, 3) := by decide +kernel
theorem dX6_takeNumber_81 : decode cX6_takeNumber 81 = .ok (.iload_n 2, 1) := by decide +kernel
theorem dX6_takeNumber_82 : decode cX6_takeNumber 82 = .ok (.iload_n 3, 1) := by decide +kernel
theorem dX6_takeNumber_83 : decode cX6_takeNumber 83 = .ok (.invokestatic 144, 3) := by decide +kernel
theorem dX6_takeNumber_86 : decode cX6_takeNumber 86 = .ok (.ifCond .ne 9, 3) := by decide +kernel
theorem dX6_takeNumber_89 : decode cX6_takeNumber 89 = .ok (.aload_n 0, 1) := by decide +kernel
theorem dX6_takeNumber_90 : decode cX6_takeNumber 90 = .ok (.iconst 2, 1) := by decide +kernel
theorem dX6_takeNumber_91 : decode cX6_takeNumber 91 = .ok (.invokevirtual 51, 3) := by decide +kernel
theorem dX6_takeNumber_94 : decode cX6_takeNumber 94 = .ok (.ireturn, 1) := by decide +kernel
theorem dX6_takeNumber_95 : decode cX6_takeNumber 95 = .ok (.aload_n 0, 1) := by decide +kernel
theorem dX6_takeNumber_96 : decode cX6_takeNumber 96 = .ok (.iload_n 3, 1) := by decide +kernel
theorem dX6_takeNumber_97 : decode cX6_takeNumber 97 = .ok (.invokevirtual 123, 3) := by decide +kernel
theorem dX6_takeNumber_100 : decode cX6_takeNumber 100 = .ok (.iconst 1, 1) := by decide +kernel
theorem dX6_takeNumber_101 : decode cX6_takeNumber 101 = .ok (.ireturn, 1) := by decide +kernel
theorem dX6_takeToken_0 : decode cX6_takeToken 0 = .ok (.aload_n 0, 1) := by decide +kernel
theorem dX6_takeToken_1 : decode cX6_takeToken 1 = .ok (.getfield 19, 3) := by decide +kernel
theorem dX6_takeToken_4 : decode cX6_takeToken 4 = .ok (.ifCond .ne 9, 3) := by decide +kernel
theorem dX6_takeToken_7 : decode cX6_takeToken 7 = .ok (.aload_n 0, 1) := by decide +kernel
theorem dX6_takeToken_8 : decode cX6_takeToken 8 = .ok (.aload_n 1, 1) := by decide +kernel
theorem dX6_takeToken_9 : decode cX6_takeToken 9 = .ok (.invokevirtual 55, 3) := by decide +kernel
theorem dX6_takeToken_12 : decode cX6_takeToken 12 = .ok (.ireturn, 1) := by decide +kernel
theorem dX6_takeToken_13 : decode cX6_takeToken 13 = .ok (.aload_n 0, 1) := by decide +kernel
theorem dX6_takeToken_14 : decode cX6_takeToken 14 = .ok (.getfield 19, 3) := by decide +kernel
theorem dX6_takeToken_17 : decode cX6_takeToken 17 = .ok (.iconst 3, 1) := by decide +kernel
theorem dX6_takeToken_18 : decode cX6_takeToken 18 = .ok (.if_icmp .ne 16, 3) := by decide +kernel
theorem dX6_takeToken_21 : decode cX6_takeToken 21 = .ok (.aload_n 0, 1) := by decide +kernel
theorem dX6_takeToken_22 : decode cX6_takeToken 22 = .ok (.getfield 58, 3) := by decide +kernel
theorem dX6_takeToken_25 : decode cX6_takeToken 25 = .ok (.iconst (-1), 1) := by decide +kernel
theorem dX6_takeToken_26 : decode cX6_takeToken 26 = .ok (.if_icmp .ne 8, 3) := by decide +kernel
theorem dX6_takeToken_29 : decode cX6_takeToken 29 = .ok (.aload_n 0, 1) := by decide +kernel
theorem dX6_takeToken_30 : decode cX6_takeToken 30 = .ok (.invokevirtual 61, 3) := by decide +kernel
theorem dX6_takeToken_33 : decode cX6_takeToken 33 = .ok (.ireturn, 1) := by decide +kernel
theorem dX6_takeToken_34 : decode cX6_takeToken 34 = .ok (.aload_n 0, 1) := by decide +kernel
theorem dX6_takeToken_35 : decode cX6_takeToken 35 = .ok (.getfield 15, 3) := by decide +kernel
theorem dX6_takeToken_38 : decode cX6_takeToken 38 = .ok (.getfield 37, 3) := by decide +kernel
theorem dX6_takeToken_41 : decode cX6_takeToken 41 = .ok (.iconst 3, 1) := by decide +kernel
theorem dX6_takeToken_42 : decode cX6_takeToken 42 = .ok (.if_icmp .ne 16, 3) := by decide +kernel
theorem dX6_takeToken_45 : decode cX6_takeToken 45 = .ok (.aload_n 0, 1) := by decide +kernel
theorem dX6_takeToken_46 : decode cX6_takeToken 46 = .ok (.invokevirtual 64, 3) := by decide +kernel
theorem dX6_takeToken_49 : decode cX6_takeToken 49 = .ok (.ifCond .eq 9, 3) := by decide +kernel
theorem dX6_takeToken_52 : decode cX6_takeToken 52 = .ok (.aload_n 0, 1) := by decide +kernel
theorem dX6_takeToken_53 : decode cX6_takeToken 53 = .ok (.aload_n 1, 1) := by decide +kernel
theorem dX6_takeToken_54 : decode cX6_takeToken 54 = .ok (.invokevirtual 67, 3) := by decide +kernel
theorem dX6_takeToken_57 : decode cX6_takeToken 57 = .ok (.ireturn, 1) := by decide +kernel
theorem dX6_takeToken_58 : decode cX6_takeToken 58 = .ok (.aload_n 0, 1) := by decide +kernel
theorem dX6_takeToken_59 : decode cX6_takeToken 59 = .ok (.aload_n 1, 1) := by decide +kernel
theorem dX6_takeToken_60 : decode cX6_takeToken 60 = .ok (.getfield 70, 3) := by decide +kernel
theorem dX6_takeToken_63 : decode cX6_takeToken 63 = .ok (.invokevirtual 76, 3) := by decide +kernel
theorem dX6_takeToken_66 : decode cX6_takeToken 66 = .ok (.ireturn, 1) := by decide +kernel
