theorem dX11_ask_0 : decode cX11_ask 0 = .ok (.aload_n 0, 1) := by decide +kernel
theorem dX11_ask_1 : decode cX11_ask 1 = .ok (.iconst 0, 1) := by decide +kernel
theorem dX11_ask_2 : decode cX11_ask 2 = .ok (.putfield 1, 3) := by decide +kernel
theorem dX11_ask_5 : decode cX11_ask 5 = .ok (.aload_n 0, 1) := by decide +kernel
theorem dX11_ask_6 : decode cX11_ask 6 = .ok (.iload_n 1, 1) := by decide +kernel
theorem dX11_ask_7 : decode cX11_ask 7 = .ok (.iload_n 2, 1) := by decide +kernel
theorem dX11_ask_8 : decode cX11_ask 8 = .ok (.iload_n 3, 1) := by decide +kernel
theorem dX11_ask_9 : decode cX11_ask 9 = .ok (.invokevirtual 256, 3) := by decide +kernel
theorem dX11_ask_12 : decode cX11_ask 12 = .ok (.ifCond .ne 5, 3) := by decide +kernel
theorem dX11_ask_15 : decode cX11_ask 15 = .ok (.iconst (-1), 1) := by decide +kernel
theorem dX11_ask_16 : decode cX11_ask 16 = .ok (.ireturn, 1) := by decide +kernel
theorem dX11_ask_17 : decode cX11_ask 17 = .ok (.aload_n 0, 1) := by decide +kernel
theorem dX11_ask_18 : decode cX11_ask 18 = .ok (.iload_n 1, 1) := by decide +kernel
theorem dX11_ask_19 : decode cX11_ask 19 = .ok (.invokevirtual 201, 3) := by decide +kernel
theorem dX11_ask_22 : decode cX11_ask 22 = .ok (.iconst (-1), 1) := by decide +kernel
theorem dX11_ask_23 : decode cX11_ask 23 = .ok (.if_icmp .eq 6, 3) := by decide +kernel
theorem dX11_ask_26 : decode cX11_ask 26 = .ok (.bipush (-2), 2) := by decide +kernel
theorem dX11_ask_28 : decode cX11_ask 28 = .ok (.ireturn, 1) := by decide +kernel
theorem dX11_ask_29 : decode cX11_ask 29 = .ok (.aload_n 0, 1) := by decide +kernel
theorem dX11_ask_30 : decode cX11_ask 30 = .ok (.getfield 72, 3) := by decide +kernel
theorem dX11_ask_33 : decode cX11_ask 33 = .ok (.iconst 5, 1) := by decide +kernel
theorem dX11_ask_34 : decode cX11_ask 34 = .ok (.iaload, 1) := by decide +kernel
theorem dX11_ask_35 : decode cX11_ask 35 = .ok (.bipush 40, 2) := by decide +kernel
theorem dX11_ask_37 : decode cX11_ask 37 = .ok (.if_icmp .ne 6, 3) := by decide +kernel
theorem dX11_ask_40 : decode cX11_ask 40 = .ok (.bipush (-3), 2) := by decide +kernel
theorem dX11_ask_42 : decode cX11_ask 42 = .ok (.ireturn, 1) := by decide +kernel
theorem dX11_ask_43 : decode cX11_ask 43 = .ok (.aload_n 0, 1) := by decide +kernel
theorem dX11_ask_44 : decode cX11_ask 44 = .ok (.invokevirtual 259, 3) := by decide +kernel
theorem dX11_ask_47 : decode cX11_ask 47 = .ok (.aload_n 0, 1) := by decide +kernel
theorem dX11_ask_48 : decode cX11_ask 48 = .ok (.getfield 72, 3) := by decide +kernel
theorem dX11_ask_51 : decode cX11_ask 51 = .ok (.iconst 5, 1) := by decide +kernel
theorem dX11_ask_52 : decode cX11_ask 52 = .ok (.iaload, 1) := by decide +kernel
theorem dX11_ask_53 : decode cX11_ask 53 = .ok (.istore 4, 2) := by decide +kernel
theorem dX11_ask_55 : decode cX11_ask 55 = .ok (.bipush 111, 2) := by decide +kernel
theorem dX11_ask_57 : decode cX11_ask 57 = .ok (.bipush 13, 2) := by decide +kernel
theorem dX11_ask_59 : decode cX11_ask 59 = .ok (.iload 4, 2) := by decide +kernel
theorem dX11_ask_61 : decode cX11_ask 61 = .ok (.imul, 1) := by decide +kernel
theorem dX11_ask_62 : decode cX11_ask 62 = .ok (.iadd, 1) := by decide +kernel
theorem dX11_ask_63 : decode cX11_ask 63 = .ok (.istore 5, 2) := by decide +kernel
theorem dX11_ask_65 : decode cX11_ask 65 = .ok (.aload_n 0, 1) := by decide +kernel
theorem dX11_ask_66 : decode cX11_ask 66 = .ok (.getfield 72, 3) := by decide +kernel
theorem dX11_ask_69 : decode cX11_ask 69 = .ok (.iload 5, 2) := by decide +kernel
theorem dX11_ask_71 : decode cX11_ask 71 = .ok (.iconst 0, 1) := by decide +kernel
theorem dX11_ask_72 : decode cX11_ask 72 = .ok (.iadd, 1) := by decide +kernel
theorem dX11_ask_73 : decode cX11_ask 73 = .ok (.iload_n 1, 1) := by decide +kernel
theorem dX11_ask_74 : decode cX11_ask 74 = .ok (.iastore, 1) := by decide +kernel
theorem dX11_ask_75 : decode cX11_ask 75 = .ok (.aload_n 0, 1) := by decide +kernel
theorem dX11_ask_76 : decode cX11_ask 76 = .ok (.getfield 72, 3) := by decide +kernel
theorem dX11_ask_79 : decode cX11_ask 79 = .ok (.iload 5, 2) := by decide +kernel
theorem dX11_ask_81 : decode cX11_ask 81 = .ok (.iconst 1, 1) := by decide +kernel
theorem dX11_ask_82 : decode cX11_ask 82 = .ok (.iadd, 1) := by decide +kernel
theorem dX11_ask_83 : decode cX11_ask 83 = .ok (.iload_n 3, 1) := by decide +kernel
theorem dX11_ask_84 : decode cX11_ask 84 = .ok (.iastore, 1) := by decide +kernel
theorem dX11_ask_85 : decode cX11_ask 85 = .ok (.aload_n 0, 1) := by decide +kernel
theorem dX11_ask_86 : decode cX11_ask 86 = .ok (.getfield 72, 3) := by decide +kernel
theorem dX11_ask_89 : decode cX11_ask 89 = .ok (.iload 5, 2) := by decide +kernel
theorem dX11_ask_91 : decode cX11_ask 91 = .ok (.iconst 2, 1) := by decide +kernel
theorem dX11_ask_92 : decode cX11_ask 92 = .ok (.iadd, 1) := by decide +kernel
theorem dX11_ask_93 : decode cX11_ask 93 = .ok (.iconst 0, 1) := by decide +kernel
theorem dX11_ask_94 : decode cX11_ask 94 = .ok (.iastore, 1) := by decide +kernel
theorem dX11_ask_95 : decode cX11_ask 95 = .ok (.aload_n 0, 1) := by decide +kernel
theorem dX11_ask_96 : decode cX11_ask 96 = .ok (.getfield 72, 3) := by decide +kernel
theorem dX11_ask_99 : decode cX11_ask 99 = .ok (.iload 5, 2) := by decide +kernel
theorem dX11_ask_101 : decode cX11_ask 101 = .ok (.iconst 3, 1) := by decide +kernel
theorem dX11_ask_102 : decode cX11_ask 102 = .ok (.iadd, 1) := by decide +kernel
theorem dX11_ask_103 : decode cX11_ask 103 = .ok (.iconst (-1), 1) := by decide +kernel
theorem dX11_ask_104 : decode cX11_ask 104 = .ok (.iastore, 1) := by decide +kernel
theorem dX11_ask_105 : decode cX11_ask 105 = .ok (.aload_n 0, 1) := by decide +kernel
theorem dX11_ask_106 : decode cX11_ask 106 = .ok (.getfield 72, 3) := by decide +kernel
theorem dX11_ask_109 : decode cX11_ask 109 = .ok (.iload 5, 2) := by decide +kernel
theorem dX11_ask_111 : decode cX11_ask 111 = .ok (.iconst 4, 1) := by decide +kernel
theorem dX11_ask_112 : decode cX11_ask 112 = .ok (.iadd, 1) := by decide +kernel
theorem dX11_ask_113 : decode cX11_ask 113 = .ok (.iconst (-1), 1) := by decide +kernel
theorem dX11_ask_114 : decode cX11_ask 114 = .ok (.iastore, 1) := by decide +kernel
theorem dX11_ask_115 : decode cX11_ask 115 = .ok (.aload_n 0, 1) := by decide +kernel
theorem dX11_ask_116 : decode cX11_ask 116 = .ok (.getfield 72, 3) := by decide +kernel
theorem dX11_ask_119 : decode cX11_ask 119 = .ok (.iload 5, 2) := by decide +kernel
theorem dX11_ask_121 : decode cX11_ask 121 = .ok (.iconst 5, 1) := by decide +kernel
theorem dX11_ask_122 : decode cX11_ask 122 = .ok (.iadd, 1) := by decide +kernel
theorem dX11_ask_123 : decode cX11_ask 123 = .ok (.iconst (-1), 1) := by decide +kernel
theorem dX11_ask_124 : decode cX11_ask 124 = .ok (.iastore, 1) := by decide +kernel
theorem dX11_ask_125 : decode cX11_ask 125 = .ok (.aload_n 0, 1) := by decide +kernel
theorem dX11_ask_126 : decode cX11_ask 126 = .ok (.getfield 72, 3) := by decide +kernel
theorem dX11_ask_129 : decode cX11_ask 129 = .ok (.iload 5, 2) := by decide +kernel
theorem dX11_ask_131 : decode cX11_ask 131 = .ok (.bipush 6, 2) := by decide +kernel
theorem dX11_ask_133 : decode cX11_ask 133 = .ok (.iadd, 1) := by decide +kernel
theorem dX11_ask_134 : decode cX11_ask 134 = .ok (.iconst 0, 1) := by decide +kernel
theorem dX11_ask_135 : decode cX11_ask 135 = .ok (.iastore, 1) := by decide +kernel
theorem dX11_ask_136 : decode cX11_ask 136 = .ok (.iconst 0, 1) := by decide +kernel
theorem dX11_ask_137 : decode cX11_ask 137 = .ok (.istore 6, 2) := by decide +kernel
theorem dX11_ask_139 : decode cX11_ask 139 = .ok (.iload 6, 2) := by decide +kernel
theorem dX11_ask_141 : decode cX11_ask 141 = .ok (.bipush 6, 2) := by decide +kernel
theorem dX11_ask_143 : decode cX11_ask 143 = .ok (.if_icmp .ge 39, 3) := by decide +kernel
theorem dX11_ask_146 : decode cX11_ask 146 = .ok (.aload_n 0, 1) := by decide +kernel
theorem dX11_ask_147 : decode cX11_ask 147 = .ok (.getfield 72, 3) := by decide +kernel
theorem dX11_ask_150 : decode cX11_ask 150 = .ok (.iload 5, 2) := by decide +kernel
theorem dX11_ask_152 : decode cX11_ask 152 = .ok (.bipush 7, 2) := by decide +kernel
theorem dX11_ask_154 : decode cX11_ask 154 = .ok (.iadd, 1) := by decide +kernel
theorem dX11_ask_155 : decode cX11_ask 155 = .ok (.iload 6, 2) := by decide +kernel
theorem dX11_ask_157 : decode cX11_ask 157 = .ok (.iadd, 1) := by decide +kernel
theorem dX11_ask_158 : decode cX11_ask 158 = .ok (.iload 6, 2) := by decide +kernel
theorem dX11_ask_160 : decode cX11_ask 160 = .ok (.iload_n 3, 1) := by decide +kernel
theorem dX11_ask_161 : decode cX11_ask 161 = .ok (.if_icmp .ge 13, 3) := by decide +kernel
theorem dX11_ask_164 : decode cX11_ask 164 = .ok (.aload_n 0, 1) := by decide +kernel
theorem dX11_ask_165 : decode cX11_ask 165 = .ok (.getfield 100, 3) := by decide +kernel
theorem dX11_ask_168 : decode cX11_ask 168 = .ok (.iload 6, 2) := by decide +kernel
theorem dX11_ask_170 : decode cX11_ask 170 = .ok (.iaload, 1) := by decide +kernel
theorem dX11_ask_171 : decode cX11_ask 171 = .ok (.goto 4, 3) := by decide +kernel
theorem dX11_ask_174 : decode cX11_ask 174 = .ok (.iconst 0, 1) := by decide +kernel
theorem dX11_ask_175 : decode cX11_ask 175 = .ok (.iastore, 1) := by decide +kernel
theorem dX11_ask_176 : decode cX11_ask 176 = .ok (.iinc 6 1, 3) := by decide +kernel
theorem dX11_ask_179 : decode cX11_ask 179 = .ok (.goto (-40), 3) := by decide +kernel
theorem dX11_ask_182 : decode cX11_ask 182 = .ok (.aload_n 0, 1) := by decide +kernel
theorem dX11_ask_183 : decode cX11_ask 183 = .ok (.getfield 72, 3) := by decide +kernel
theorem dX11_ask_186 : decode cX11_ask 186 = .ok (.iconst 5, 1) := by decide +kernel
theorem dX11_ask_187 : decode cX11_ask 187 = .ok (.dup2, 1) := by decide +kernel
theorem dX11_ask_188 : decode cX11_ask 188 = .ok (.iaload, 1) := by decide +kernel
theorem dX11_ask_189 : decode cX11_ask 189 = .ok (.iconst 1, 1) := by decide +kernel
theorem dX11_ask_190 : decode cX11_ask 190 = .ok (.iadd, 1) := by decide +kernel
theorem dX11_ask_191 : decode cX11_ask 191 = .ok (.iastore, 1) := by decide +kernel
theorem dX11_ask_192 : decode cX11_ask 192 = .ok (.iload 4, 2) := by decide +kernel
theorem dX11_ask_194 : decode cX11_ask 194 = .ok (.ireturn, 1) := by decide +kernel
theorem dX11_assign_0 : decode cX11_assign 0 = .ok (.aload_n 0, 1) := by decide +kernel
theorem dX11_assign_1 : decode cX11_assign 1 = .ok (.iconst 0, 1) := by decide +kernel
theorem dX11_assign_2 : decode cX11_assign 2 = .ok (.putfield 1, 3) := by decide +kernel
theorem dX11_assign_5 : decode cX11_assign 5 = .ok (.aload_n 0, 1) := by decide +kernel
theorem dX11_assign_6 : decode cX11_assign 6 = .ok (.invokevirtual 244, 3) := by decide +kernel
theorem dX11_assign_9 : decode cX11_assign 9 = .ok (.aload_n 0, 1) := by decide +kernel
theorem dX11_assign_10 : decode cX11_assign 10 = .ok (.invokevirtual 259, 3) := by decide +kernel
theorem dX11_assign_13 : decode cX11_assign 13 = .ok (.iconst 0, 1) := by decide +kernel
theorem dX11_assign_14 : decode cX11_assign 14 = .ok (.istore_n 1, 1) := by decide +kernel
theorem dX11_assign_15 : decode cX11_assign 15 = .ok (.iload_n 1, 1) := by decide +kernel
theorem dX11_assign_16 : decode cX11_assign 16 = .ok (.aload_n 0, 1) := by decide +kernel
theorem dX11_assign_17 : decode cX11_assign 17 = .ok (.getfield 72, 3) := by decide +kernel
theorem dX11_assign_20 : decode cX11_assign 20 = .ok (.iconst 5, 1) := by decide +kernel
theorem dX11_assign_21 : decode cX11_assign 21 = .ok (.iaload, 1) := by decide +kernel
theorem dX11_assign_22 : decode cX11_assign 22 = .ok (.if_icmp .ge 87, 3) := by decide +kernel
theorem dX11_assign_25 : decode cX11_assign 25 = .ok (.aload_n 0, 1) := by decide +kernel
theorem dX11_assign_26 : decode cX11_assign 26 = .ok (.iload_n 1, 1) := by decide +kernel
theorem dX11_assign_27 : decode cX11_assign 27 = .ok (.iconst 2, 1) := by decide +kernel
theorem dX11_assign_28 : decode cX11_assign 28 = .ok (.invokevirtual 160, 3) := by decide +kernel
theorem dX11_assign_31 : decode cX11_assign 31 = .ok (.ifCond .ne 72, 3) := by decide +kernel
theorem dX11_assign_34 : decode cX11_assign 34 = .ok (.aload_n 0, 1) := by decide +kernel
theorem dX11_assign_35 : decode cX11_assign 35 = .ok (.getfield 87, 3) := by decide +kernel
theorem dX11_assign_38 : decode cX11_assign 38 = .ok (.iload_n 1, 1) := by decide +kernel
theorem dX11_assign_39 : decode cX11_assign 39 = .ok (.iaload, 1) := by decide +kernel
theorem dX11_assign_40 : decode cX11_assign 40 = .ok (.iconst (-1), 1) := by decide +kernel
theorem dX11_assign_41 : decode cX11_assign 41 = .ok (.if_icmp .ne 6, 3) := by decide +kernel
theorem dX11_assign_44 : decode cX11_assign 44 = .ok (.goto 59, 3) := by decide +kernel
theorem dX11_assign_47 : decode cX11_assign 47 = .ok (.aload_n 0, 1) := by decide +kernel
theorem dX11_assign_48 : decode cX11_assign 48 = .ok (.getfield 72, 3) := by decide +kernel
theorem dX11_assign_51 : decode cX11_assign 51 = .ok (.bipush 111, 2) := by decide +kernel
theorem dX11_assign_53 : decode cX11_assign 53 = .ok (.bipush 13, 2) := by decide +kernel
theorem dX11_assign_55 : decode cX11_assign 55 = .ok (.iload_n 1, 1) := by decide +kernel
theorem dX11_assign_56 : decode cX11_assign 56 = .ok (.imul, 1) := by decide +kernel
theorem dX11_assign_57 : decode cX11_assign 57 = .ok (.iadd, 1) := by decide +kernel
theorem dX11_assign_58 : decode cX11_assign 58 = .ok (.iconst 2, 1) := by decide +kernel
theorem dX11_assign_59 : decode cX11_assign 59 = .ok (.iadd, 1) := by decide +kernel
theorem dX11_assign_60 : decode cX11_assign 60 = .ok (.iconst 1, 1) := by decide +kernel
theorem dX11_assign_61 : decode cX11_assign 61 = .ok (.iastore, 1) := by decide +kernel
theorem dX11_assign_62 : decode cX11_assign 62 = .ok (.aload_n 0, 1) := by decide +kernel
theorem dX11_assign_63 : decode cX11_assign 63 = .ok (.getfield 72, 3) := by decide +kernel
theorem dX11_assign_66 : decode cX11_assign 66 = .ok (.bipush 111, 2) := by decide +kernel
theorem dX11_assign_68 : decode cX11_assign 68 = .ok (.bipush 13, 2) := by decide +kernel
theorem dX11_assign_70 : decode cX11_assign 70 = .ok (.iload_n 1, 1) := by decide +kernel
theorem dX11_assign_71 : decode cX11_assign 71 = .ok (.imul, 1) := by decide +kernel
theorem dX11_assign_72 : decode cX11_assign 72 = .ok (.iadd, 1) := by decide +kernel
theorem dX11_assign_73 : decode cX11_assign 73 = .ok (.iconst 3, 1) := by decide +kernel
theorem dX11_assign_74 : decode cX11_assign 74 = .ok (.iadd, 1) := by decide +kernel
theorem dX11_assign_75 : decode cX11_assign 75 = .ok (.aload_n 0, 1) := by decide +kernel
theorem dX11_assign_76 : decode cX11_assign 76 = .ok (.getfield 87, 3) := by decide +kernel
theorem dX11_assign_79 : decode cX11_assign 79 = .ok (.iload_n 1, 1) := by decide +kernel
theorem dX11_assign_80 : decode cX11_assign 80 = .ok (.iaload, 1) := by decide +kernel
theorem dX11_assign_81 : decode cX11_assign 81 = .ok (.iastore, 1) := by decide +kernel
theorem dX11_assign_82 : decode cX11_assign 82 = .ok (.aload_n 0, 1) := by decide +kernel
theorem dX11_assign_83 : decode cX11_assign 83 = .ok (.getfield 72, 3) := by decide +kernel
theorem dX11_assign_86 : decode cX11_assign 86 = .ok (.bipush 111, 2) := by decide +kernel
theorem dX11_assign_88 : decode cX11_assign 88 = .ok (.bipush 13, 2) := by decide +kernel
theorem dX11_assign_90 : decode cX11_assign 90 = .ok (.iload_n 1, 1) := by decide +kernel
theorem dX11_assign_91 : decode cX11_assign 91 = .ok (.imul, 1) := by decide +kernel
theorem dX11_assign_92 : decode cX11_assign 92 = .ok (.iadd, 1) := by decide +kernel
theorem dX11_assign_93 : decode cX11_assign 93 = .ok (.iconst 4, 1) := by decide +kernel
theorem dX11_assign_94 : decode cX11_assign 94 = .ok (.iadd, 1) := by decide +kernel
theorem dX11_assign_95 : decode cX11_assign 95 = .ok (.aload_n 0, 1) := by decide +kernel
theorem dX11_assign_96 : decode cX11_assign 96 = .ok (.getfield 72, 3) := by decide +kernel
theorem dX11_assign_99 : decode cX11_assign 99 = .ok (.bipush 6, 2) := by decide +kernel
theorem dX11_assign_101 : decode cX11_assign 101 = .ok (.iaload, 1) := by decide +kernel
theorem dX11_assign_102 : decode cX11_assign 102 = .ok (.iastore, 1) := by decide +kernel
theorem dX11_assign_103 : decode cX11_assign 103 = .ok (.iinc 1 1, 3) := by decide +kernel
theorem dX11_assign_106 : decode cX11_assign 106 = .ok (.goto (-91), 3) := by decide +kernel
theorem dX11_assign_109 : decode cX11_assign 109 = .ok (.aload_n 0, 1) := by decide +kernel
theorem dX11_assign_110 : decode cX11_assign 110 = .ok (.getfield 225, 3) := by decide +kernel
theorem dX11_assign_113 : decode cX11_assign 113 = .ok (.ireturn, 1) := by decide +kernel
theorem dX11_bad_0 : decode cX11_bad 0 = .ok (.aload_n 0, 1) := by decide +kernel
theorem dX11_bad_1 : decode cX11_bad 1 = .ok (.aload_n 0, 1) := by decide +kernel
theorem dX11_bad_2 : decode cX11_bad 2 = .ok (.getfield 27, 3) := by decide +kernel
theorem dX11_bad_5 : decode cX11_bad 5 = .ok (.iconst 1, 1) := by decide +kernel
theorem dX11_bad_6 : decode cX11_bad 6 = .ok (.if_icmp .ne 7, 3) := by decide +kernel
theorem dX11_bad_9 : decode cX11_bad 9 = .ok (.iconst 1, 1) := by decide +kernel
theorem dX11_bad_10 : decode cX11_bad 10 = .ok (.goto 4, 3) := by decide +kernel
theorem dX11_bad_13 : decode cX11_bad 13 = .ok (.iload_n 1, 1) := by decide +kernel
theorem dX11_bad_14 : decode cX11_bad 14 = .ok (.putfield 60, 3) := by decide +kernel
theorem dX11_bad_17 : decode cX11_bad 17 = .ok (.aload_n 0, 1) := by decide +kernel
theorem dX11_bad_18 : decode cX11_bad 18 = .ok (.aload_n 0, 1) := by decide +kernel
theorem dX11_bad_19 : decode cX11_bad 19 = .ok (.getfield 24, 3) := by decide +kernel
theorem dX11_bad_22 : decode cX11_bad 22 = .ok (.putfield 63, 3) := by decide +kernel
theorem dX11_bad_25 : decode cX11_bad 25 = .ok (.iconst 0, 1) := by decide +kernel
theorem dX11_bad_26 : decode cX11_bad 26 = .ok (.ireturn, 1) := by decide +kernel
theorem dX11_borders_0 : decode cX11_borders 0 = .ok (.iconst 0, 1) := by decide +kernel
theorem dX11_borders_1 : decode cX11_borders 1 = .ok (.istore_n 1, 1) := by decide +kernel
theorem dX11_borders_2 : decode cX11_borders 2 = .ok (.iconst 0, 1) := by decide +kernel
theorem dX11_borders_3 : decode cX11_borders 3 = .ok (.istore_n 2, 1) := by decide +kernel
theorem dX11_borders_4 : decode cX11_borders 4 = .ok (.iload_n 2, 1) := by decide +kernel
theorem dX11_borders_5 : decode cX11_borders 5 = .ok (.bipush 8, 2) := by decide +kernel
theorem dX11_borders_7 : decode cX11_borders 7 = .ok (.if_icmp .ge 41, 3) := by decide +kernel
theorem dX11_borders_10 : decode cX11_borders 10 = .ok (.iconst 0, 1) := by decide +kernel
theorem dX11_borders_11 : decode cX11_borders 11 = .ok (.istore_n 3, 1) := by decide +kernel
theorem dX11_borders_12 : decode cX11_borders 12 = .ok (.iload_n 3, 1) := by decide +kernel
theorem dX11_borders_13 : decode cX11_borders 13 = .ok (.iload_n 2, 1) := by decide +kernel
theorem dX11_borders_14 : decode cX11_borders 14 = .ok (.if_icmp .ge 28, 3) := by decide +kernel
theorem dX11_borders_17 : decode cX11_borders 17 = .ok (.aload_n 0, 1) := by decide +kernel
theorem dX11_borders_18 : decode cX11_borders 18 = .ok (.getfield 72, 3) := by decide +kernel
theorem dX11_borders_21 : decode cX11_borders 21 = .ok (.bipush 103, 2) := by decide +kernel
theorem dX11_borders_23 : decode cX11_borders 23 = .ok (.iload_n 2, 1) := by decide +kernel
theorem dX11_borders_24 : decode cX11_borders 24 = .ok (.iadd, 1) := by decide +kernel
theorem dX11_borders_25 : decode cX11_borders 25 = .ok (.iaload, 1) := by decide +kernel
theorem dX11_borders_26 : decode cX11_borders 26 = .ok (.iload_n 3, 1) := by decide +kernel
theorem dX11_borders_27 : decode cX11_borders 27 = .ok (.invokestatic 113, 3) := by decide +kernel
theorem dX11_borders_30 : decode cX11_borders 30 = .ok (.ifCond .eq 6, 3) := by decide +kernel
theorem dX11_borders_33 : decode cX11_borders 33 = .ok (.iinc 1 1, 3) := by decide +kernel
theorem dX11_borders_36 : decode cX11_borders 36 = .ok (.iinc 3 1, 3) := by decide +kernel
theorem dX11_borders_39 : decode cX11_borders 39 = .ok (.goto (-27), 3) := by decide +kernel
theorem dX11_borders_42 : decode cX11_borders 42 = .ok (.iinc 2 1, 3) := by decide +kernel
theorem dX11_borders_45 : decode cX11_borders 45 = .ok (.goto (-41), 3) := by decide +kernel
theorem dX11_borders_48 : decode cX11_borders 48 = .ok (.iload_n 1, 1) := by decide +kernel
theorem dX11_borders_49 : decode cX11_borders 49 = .ok (.ireturn, 1) := by decide +kernel
theorem dX11_canGo_0 : decode cX11_canGo 0 = .ok (.aload_n 0, 1) := by decide +kernel
theorem dX11_canGo_1 : decode cX11_canGo 1 = .ok (.iload_n 1, 1) := by decide +kernel
theorem dX11_canGo_2 : decode cX11_canGo 2 = .ok (.invokevirtual 195, 3) := by decide +kernel
theorem dX11_canGo_5 : decode cX11_canGo 5 = .ok (.ifCond .eq 17, 3) := by decide +kernel
theorem dX11_canGo_8 : decode cX11_canGo 8 = .ok (.iload_n 3, 1) := by decide +kernel
theorem dX11_canGo_9 : decode cX11_canGo 9 = .ok (.iconst 2, 1) := by decide +kernel
theorem dX11_canGo_10 : decode cX11_canGo 10 = .ok (.bipush 6, 2) := by decide +kernel
theorem dX11_canGo_12 : decode cX11_canGo 12 = .ok (.invokestatic 106, 3) := by decide +kernel
theorem dX11_canGo_15 : decode cX11_canGo 15 = .ok (.ifCond .eq 7, 3) := by decide +kernel
theorem dX11_canGo_18 : decode cX11_canGo 18 = .ok (.iload_n 2, 1) := by decide +kernel
theorem dX11_canGo_19 : decode cX11_canGo 19 = .ok (.ifCond .ge 5, 3) := by decide +kernel
theorem dX11_canGo_22 : decode cX11_canGo 22 = .ok (.iconst 0, 1) := by decide +kernel
theorem dX11_canGo_23 : decode cX11_canGo 23 = .ok (.ireturn, 1) := by decide +kernel
theorem dX11_canGo_24 : decode cX11_canGo 24 = .ok (.iload_n 2, 1) := by decide +kernel
theorem dX11_canGo_25 : decode cX11_canGo 25 = .ok (.istore 4, 2) := by decide +kernel
theorem dX11_canGo_27 : decode cX11_canGo 27 = .ok (.iconst 0, 1) := by decide +kernel
theorem dX11_canGo_28 : decode cX11_canGo 28 = .ok (.istore 5, 2) := by decide +kernel
theorem dX11_canGo_30 : decode cX11_canGo 30 = .ok (.iconst 0, 1) := by decide +kernel
theorem dX11_canGo_31 : decode cX11_canGo 31 = .ok (.istore 6, 2) := by decide +kernel
theorem dX11_canGo_33 : decode cX11_canGo 33 = .ok (.iload 6, 2) := by decide +kernel
theorem dX11_canGo_35 : decode cX11_canGo 35 = .ok (.iload_n 3, 1) := by decide +kernel
theorem dX11_canGo_36 : decode cX11_canGo 36 = .ok (.if_icmp .ge 128, 3) := by decide +kernel
theorem dX11_canGo_39 : decode cX11_canGo 39 = .ok (.aload_n 0, 1) := by decide +kernel
theorem dX11_canGo_40 : decode cX11_canGo 40 = .ok (.getfield 100, 3) := by decide +kernel
theorem dX11_canGo_43 : decode cX11_canGo 43 = .ok (.iload 6, 2) := by decide +kernel
theorem dX11_canGo_45 : decode cX11_canGo 45 = .ok (.iload 4, 2) := by decide +kernel
theorem dX11_canGo_47 : decode cX11_canGo 47 = .ok (.bipush 10, 2) := by decide +kernel
theorem dX11_canGo_49 : decode cX11_canGo 49 = .ok (.irem, 1) := by decide +kernel
theorem dX11_canGo_50 : decode cX11_canGo 50 = .ok (.iastore, 1) := by decide +kernel
theorem dX11_canGo_51 : decode cX11_canGo 51 = .ok (.iload 4, 2) := by decide +kernel
theorem dX11_canGo_53 : decode cX11_canGo 53 = .ok (.bipush 10, 2) := by decide +kernel
theorem dX11_canGo_55 : decode cX11_canGo 55 = .ok (.idiv, 1) := by decide +kernel
theorem dX11_canGo_56 : decode cX11_canGo 56 = .ok (.istore 4, 2) := by decide +kernel
theorem dX11_canGo_58 : decode cX11_canGo 58 = .ok (.aload_n 0, 1) := by decide +kernel
theorem dX11_canGo_59 : decode cX11_canGo 59 = .ok (.aload_n 0, 1) := by decide +kernel
theorem dX11_canGo_60 : decode cX11_canGo 60 = .ok (.getfield 100, 3) := by decide +kernel
theorem dX11_canGo_63 : decode cX11_canGo 63 = .ok (.iload 6, 2) := by decide +kernel
theorem dX11_canGo_65 : decode cX11_canGo 65 = .ok (.iaload, 1) := by decide +kernel
theorem dX11_canGo_66 : decode cX11_canGo 66 = .ok (.invokevirtual 250, 3) := by decide +kernel
theorem dX11_canGo_69 : decode cX11_canGo 69 = .ok (.ifCond .eq 18, 3) := by decide +kernel
theorem dX11_canGo_72 : decode cX11_canGo 72 = .ok (.iload 5, 2) := by decide +kernel
theorem dX11_canGo_74 : decode cX11_canGo 74 = .ok (.aload_n 0, 1) := by decide +kernel
theorem dX11_canGo_75 : decode cX11_canGo 75 = .ok (.getfield 100, 3) := by decide +kernel
theorem dX11_canGo_78 : decode cX11_canGo 78 = .ok (.iload 6, 2) := by decide +kernel
theorem dX11_canGo_80 : decode cX11_canGo 80 = .ok (.iaload, 1) := by decide +kernel
theorem dX11_canGo_81 : decode cX11_canGo 81 = .ok (.invokestatic 113, 3) := by decide +kernel
theorem dX11_canGo_84 : decode cX11_canGo 84 = .ok (.ifCond .eq 5, 3) := by decide +kernel
theorem dX11_canGo_87 : decode cX11_canGo 87 = .ok (.iconst 0, 1) := by decide +kernel
theorem dX11_canGo_88 : decode cX11_canGo 88 = .ok (.ireturn, 1) := by decide +kernel
theorem dX11_canGo_89 : decode cX11_canGo 89 = .ok (.iload 6, 2) := by decide +kernel
theorem dX11_canGo_91 : decode cX11_canGo 91 = .ok (.ifCond .ne 21, 3) := by decide +kernel
theorem dX11_canGo_94 : decode cX11_canGo 94 = .ok (.aload_n 0, 1) := by decide +kernel
theorem dX11_canGo_95 : decode cX11_canGo 95 = .ok (.getfield 100, 3) := by decide +kernel
theorem dX11_canGo_98 : decode cX11_canGo 98 = .ok (.iconst 0, 1) := by decide +kernel
theorem dX11_canGo_99 : decode cX11_canGo 99 = .ok (.iaload, 1) := by decide +kernel
theorem dX11_canGo_100 : decode cX11_canGo 100 = .ok (.aload_n 0, 1) := by decide +kernel
theorem dX11_canGo_101 : decode cX11_canGo 101 = .ok (.iload_n 1, 1) := by decide +kernel
theorem dX11_canGo_102 : decode cX11_canGo 102 = .ok (.iconst 0, 1) := by decide +kernel
theorem dX11_canGo_103 : decode cX11_canGo 103 = .ok (.invokevirtual 176, 3) := by decide +kernel
theorem dX11_canGo_106 : decode cX11_canGo 106 = .ok (.if_icmp .eq 38, 3) := by decide +kernel
theorem dX11_canGo_109 : decode cX11_canGo 109 = .ok (.goto 33, 3) := by decide +kernel
theorem dX11_canGo_112 : decode cX11_canGo 112 = .ok (.aload_n 0, 1) := by decide +kernel
theorem dX11_canGo_113 : decode cX11_canGo 113 = .ok (.getfield 72, 3) := by decide +kernel
theorem dX11_canGo_116 : decode cX11_canGo 116 = .ok (.bipush 103, 2) := by decide +kernel
theorem dX11_canGo_118 : decode cX11_canGo 118 = .ok (.aload_n 0, 1) := by decide +kernel
theorem dX11_canGo_119 : decode cX11_canGo 119 = .ok (.getfield 100, 3) := by decide +kernel
theorem dX11_canGo_122 : decode cX11_canGo 122 = .ok (.iload 6, 2) := by decide +kernel
theorem dX11_canGo_124 : decode cX11_canGo 124 = .ok (.iconst 1, 1) := by decide +kernel
theorem dX11_canGo_125 : decode cX11_canGo 125 = .ok (.isub, 1) := by decide +kernel
theorem dX11_canGo_126 : decode cX11_canGo 126 = .ok (.iaload, 1) := by decide +kernel
theorem dX11_canGo_127 : decode cX11_canGo 127 = .ok (.iadd, 1) := by decide +kernel
theorem dX11_canGo_128 : decode cX11_canGo 128 = .ok (.iaload, 1) := by decide +kernel
theorem dX11_canGo_129 : decode cX11_canGo 129 = .ok (.aload_n 0, 1) := by decide +kernel
theorem dX11_canGo_130 : decode cX11_canGo 130 = .ok (.getfield 100, 3) := by decide +kernel
theorem dX11_canGo_133 : decode cX11_canGo 133 = .ok (.iload 6, 2) := by decide +kernel
theorem dX11_canGo_135 : decode cX11_canGo 135 = .ok (.iaload, 1) := by decide +kernel
theorem dX11_canGo_136 : decode cX11_canGo 136 = .ok (.invokestatic 113, 3) := by decide +kernel
theorem dX11_canGo_139 : decode cX11_canGo 139 = .ok (.ifCond .ne 5, 3) := by decide +kernel
theorem dX11_canGo_142 : decode cX11_canGo 142 = .ok (.iconst 0, 1) := by decide +kernel
theorem dX11_canGo_143 : decode cX11_canGo 143 = .ok (.ireturn, 1) := by decide +kernel
theorem dX11_canGo_144 : decode cX11_canGo 144 = .ok (.iload 5, 2) := by decide +kernel
theorem dX11_canGo_146 : decode cX11_canGo 146 = .ok (.iconst 1, 1) := by decide +kernel
theorem dX11_canGo_147 : decode cX11_canGo 147 = .ok (.aload_n 0, 1) := by decide +kernel
theorem dX11_canGo_148 : decode cX11_canGo 148 = .ok (.getfield 100, 3) := by decide +kernel
theorem dX11_canGo_151 : decode cX11_canGo 151 = .ok (.iload 6, 2) := by decide +kernel
theorem dX11_canGo_153 : decode cX11_canGo 153 = .ok (.iaload, 1) := by decide +kernel
theorem dX11_canGo_154 : decode cX11_canGo 154 = .ok (.ishl, 1) := by decide +kernel
theorem dX11_canGo_155 : decode cX11_canGo 155 = .ok (.ior, 1) := by decide +kernel
theorem dX11_canGo_156 : decode cX11_canGo 156 = .ok (.istore 5, 2) := by decide +kernel
theorem dX11_canGo_158 : decode cX11_canGo 158 = .ok (.iinc 6 1, 3) := by decide +kernel
theorem dX11_canGo_161 : decode cX11_canGo 161 = .ok (.goto (-128), 3) := by decide +kernel
theorem dX11_canGo_164 : decode cX11_canGo 164 = .ok (.iload 4, 2) := by decide +kernel
theorem dX11_canGo_166 : decode cX11_canGo 166 = .ok (.ifCond .ne 7, 3) := by decide +kernel
theorem dX11_canGo_169 : decode cX11_canGo 169 = .ok (.iconst 1, 1) := by decide +kernel
theorem dX11_canGo_170 : decode cX11_canGo 170 = .ok (.goto 4, 3) := by decide +kernel
theorem dX11_canGo_173 : decode cX11_canGo 173 = .ok (.iconst 0, 1) := by decide +kernel
theorem dX11_canGo_174 : decode cX11_canGo 174 = .ok (.ireturn, 1) := by decide +kernel
theorem dX11_doneBy_0 : decode cX11_doneBy 0 = .ok (.iconst 0, 1) := by decide +kernel
theorem dX11_doneBy_1 : decode cX11_doneBy 1 = .ok (.istore_n 2, 1) := by decide +kernel
theorem dX11_doneBy_2 : decode cX11_doneBy 2 = .ok (.iconst 0, 1) := by decide +kernel
theorem dX11_doneBy_3 : decode cX11_doneBy 3 = .ok (.istore_n 3, 1) := by decide +kernel
theorem dX11_doneBy_4 : decode cX11_doneBy 4 = .ok (.iload_n 3, 1) := by decide +kernel
theorem dX11_doneBy_5 : decode cX11_doneBy 5 = .ok (.aload_n 0, 1) := by decide +kernel
theorem dX11_doneBy_6 : decode cX11_doneBy 6 = .ok (.getfield 72, 3) := by decide +kernel
theorem dX11_doneBy_9 : decode cX11_doneBy 9 = .ok (.iconst 5, 1) := by decide +kernel
theorem dX11_doneBy_10 : decode cX11_doneBy 10 = .ok (.iaload, 1) := by decide +kernel
theorem dX11_doneBy_11 : decode cX11_doneBy 11 = .ok (.if_icmp .ge 32, 3) := by decide +kernel
theorem dX11_doneBy_14 : decode cX11_doneBy 14 = .ok (.aload_n 0, 1) := by decide +kernel
theorem dX11_doneBy_15 : decode cX11_doneBy 15 = .ok (.iload_n 3, 1) := by decide +kernel
theorem dX11_doneBy_16 : decode cX11_doneBy 16 = .ok (.iconst 0, 1) := by decide +kernel
theorem dX11_doneBy_17 : decode cX11_doneBy 17 = .ok (.invokevirtual 160, 3) := by decide +kernel
theorem dX11_doneBy_20 : decode cX11_doneBy 20 = .ok (.iload_n 1, 1) := by decide +kernel
theorem dX11_doneBy_21 : decode cX11_doneBy 21 = .ok (.if_icmp .ne 16, 3) := by decide +kernel
theorem dX11_doneBy_24 : decode cX11_doneBy 24 = .ok (.aload_n 0, 1) := by decide +kernel
theorem dX11_doneBy_25 : decode cX11_doneBy 25 = .ok (.iload_n 3, 1) := by decide +kernel
theorem dX11_doneBy_26 : decode cX11_doneBy 26 = .ok (.iconst 2, 1) := by decide +kernel
theorem dX11_doneBy_27 : decode cX11_doneBy 27 = .ok (.invokevirtual 160, 3) := by decide +kernel
theorem dX11_doneBy_30 : decode cX11_doneBy 30 = .ok (.iconst 2, 1) := by decide +kernel
theorem dX11_doneBy_31 : decode cX11_doneBy 31 = .ok (.if_icmp .ne 6, 3) := by decide +kernel
theorem dX11_doneBy_34 : decode cX11_doneBy 34 = .ok (.iinc 2 1, 3) := by decide +kernel
theorem dX11_doneBy_37 : decode cX11_doneBy 37 = .ok (.iinc 3 1, 3) := by decide +kernel
theorem dX11_doneBy_40 : decode cX11_doneBy 40 = .ok (.goto (-36), 3) := by decide +kernel
theorem dX11_doneBy_43 : decode cX11_doneBy 43 = .ok (.iload_n 2, 1) := by decide +kernel
theorem dX11_doneBy_44 : decode cX11_doneBy 44 = .ok (.ireturn, 1) := by decide +kernel
theorem dX11_drop_0 : decode cX11_drop 0 = .ok (.aload_n 0, 1) := by decide +kernel
theorem dX11_drop_1 : decode cX11_drop 1 = .ok (.iconst 0, 1) := by decide +kernel
theorem dX11_drop_2 : decode cX11_drop 2 = .ok (.putfield 1, 3) := by decide +kernel
theorem dX11_drop_5 : decode cX11_drop 5 = .ok (.aload_n 0, 1) := by decide +kernel
theorem dX11_drop_6 : decode cX11_drop 6 = .ok (.iload_n 1, 1) := by decide +kernel
theorem dX11_drop_7 : decode cX11_drop 7 = .ok (.invokevirtual 207, 3) := by decide +kernel
theorem dX11_drop_10 : decode cX11_drop 10 = .ok (.ifCond .eq 12, 3) := by decide +kernel
theorem dX11_drop_13 : decode cX11_drop 13 = .ok (.aload_n 0, 1) := by decide +kernel
theorem dX11_drop_14 : decode cX11_drop 14 = .ok (.iload_n 1, 1) := by decide +kernel
theorem dX11_drop_15 : decode cX11_drop 15 = .ok (.iconst 2, 1) := by decide +kernel
theorem dX11_drop_16 : decode cX11_drop 16 = .ok (.invokevirtual 160, 3) := by decide +kernel
theorem dX11_drop_19 : decode cX11_drop 19 = .ok (.ifCond .eq 5, 3) := by decide +kernel
theorem dX11_drop_22 : decode cX11_drop 22 = .ok (.iconst 0, 1) := by decide +kernel
theorem dX11_drop_23 : decode cX11_drop 23 = .ok (.ireturn, 1) := by decide +kernel
theorem dX11_drop_24 : decode cX11_drop 24 = .ok (.aload_n 0, 1) := by decide +kernel
theorem dX11_drop_25 : decode cX11_drop 25 = .ok (.invokevirtual 259, 3) := by decide +kernel
theorem dX11_drop_28 : decode cX11_drop 28 = .ok (.aload_n 0, 1) := by decide +kernel
theorem dX11_drop_29 : decode cX11_drop 29 = .ok (.getfield 72, 3) := by decide +kernel
theorem dX11_drop_32 : decode cX11_drop 32 = .ok (.bipush 111, 2) := by decide +kernel
theorem dX11_drop_34 : decode cX11_drop 34 = .ok (.bipush 13, 2) := by decide +kernel
theorem dX11_drop_36 : decode cX11_drop 36 = .ok (.iload_n 1, 1) := by decide +kernel
theorem dX11_drop_37 : decode cX11_drop 37 = .ok (.imul, 1) := by decide +kernel
theorem dX11_drop_38 : decode cX11_drop 38 = .ok (.iadd, 1) := by decide +kernel
theorem dX11_drop_39 : decode cX11_drop 39 = .ok (.iconst 2, 1) := by decide +kernel
theorem dX11_drop_40 : decode cX11_drop 40 = .ok (.iadd, 1) := by decide +kernel
theorem dX11_drop_41 : decode cX11_drop 41 = .ok (.iconst 2, 1) := by decide +kernel
theorem dX11_drop_42 : decode cX11_drop 42 = .ok (.iastore, 1) := by decide +kernel
theorem dX11_drop_43 : decode cX11_drop 43 = .ok (.aload_n 0, 1) := by decide +kernel
theorem dX11_drop_44 : decode cX11_drop 44 = .ok (.getfield 72, 3) := by decide +kernel
theorem dX11_drop_47 : decode cX11_drop 47 = .ok (.bipush 111, 2) := by decide +kernel
theorem dX11_drop_49 : decode cX11_drop 49 = .ok (.bipush 13, 2) := by decide +kernel
theorem dX11_drop_51 : decode cX11_drop 51 = .ok (.iload_n 1, 1) := by decide +kernel
theorem dX11_drop_52 : decode cX11_drop 52 = .ok (.imul, 1) := by decide +kernel
theorem dX11_drop_53 : decode cX11_drop 53 = .ok (.iadd, 1) := by decide +kernel
theorem dX11_drop_54 : decode cX11_drop 54 = .ok (.iconst 5, 1) := by decide +kernel
theorem dX11_drop_55 : decode cX11_drop 55 = .ok (.iadd, 1) := by decide +kernel
theorem dX11_drop_56 : decode cX11_drop 56 = .ok (.aload_n 0, 1) := by decide +kernel
theorem dX11_drop_57 : decode cX11_drop 57 = .ok (.getfield 72, 3) := by decide +kernel
theorem dX11_drop_60 : decode cX11_drop 60 = .ok (.bipush 6, 2) := by decide +kernel
theorem dX11_drop_62 : decode cX11_drop 62 = .ok (.iaload, 1) := by decide +kernel
theorem dX11_drop_63 : decode cX11_drop 63 = .ok (.iastore, 1) := by decide +kernel
theorem dX11_drop_64 : decode cX11_drop 64 = .ok (.iconst 1, 1) := by decide +kernel
theorem dX11_drop_65 : decode cX11_drop 65 = .ok (.ireturn, 1) := by decide +kernel
theorem dX11_end_0 : decode cX11_end 0 = .ok (.aload_n 0, 1) := by decide +kernel
theorem dX11_end_1 : decode cX11_end 1 = .ok (.iconst 0, 1) := by decide +kernel
theorem dX11_end_2 : decode cX11_end 2 = .ok (.putfield 1, 3) := by decide +kernel
theorem dX11_end_5 : decode cX11_end 5 = .ok (.iload_n 1, 1) := by decide +kernel
theorem dX11_end_6 : decode cX11_end 6 = .ok (.ifCond .lt 11, 3) := by decide +kernel
theorem dX11_end_9 : decode cX11_end 9 = .ok (.iload_n 1, 1) := by decide +kernel
theorem dX11_end_10 : decode cX11_end 10 = .ok (.aload_n 0, 1) := by decide +kernel
theorem dX11_end_11 : decode cX11_end 11 = .ok (.getfield 11, 3) := by decide +kernel
theorem dX11_end_14 : decode cX11_end 14 = .ok (.if_icmp .le 5, 3) := by decide +kernel
theorem dX11_end_17 : decode cX11_end 17 = .ok (.iconst 0, 1) := by decide +kernel
theorem dX11_end_18 : decode cX11_end 18 = .ok (.ireturn, 1) := by decide +kernel
theorem dX11_end_19 : decode cX11_end 19 = .ok (.aload_n 0, 1) := by decide +kernel
theorem dX11_end_20 : decode cX11_end 20 = .ok (.iload_n 1, 1) := by decide +kernel
theorem dX11_end_21 : decode cX11_end 21 = .ok (.putfield 11, 3) := by decide +kernel
theorem dX11_end_24 : decode cX11_end 24 = .ok (.iconst 1, 1) := by decide +kernel
theorem dX11_end_25 : decode cX11_end 25 = .ok (.ireturn, 1) := by decide +kernel
theorem dX11_fault_0 : decode cX11_fault 0 = .ok (.aload_n 0, 1) := by decide +kernel
theorem dX11_fault_1 : decode cX11_fault 1 = .ok (.iconst 0, 1) := by decide +kernel
theorem dX11_fault_2 : decode cX11_fault 2 = .ok (.putfield 1, 3) := by decide +kernel
theorem dX11_fault_5 : decode cX11_fault 5 = .ok (.aload_n 0, 1) := by decide +kernel
theorem dX11_fault_6 : decode cX11_fault 6 = .ok (.getfield 60, 3) := by decide +kernel
theorem dX11_fault_9 : decode cX11_fault 9 = .ok (.ireturn, 1) := by decide +kernel
theorem dX11_feed_0 : decode cX11_feed 0 = .ok (.aload_n 0, 1) := by decide +kernel
theorem dX11_feed_1 : decode cX11_feed 1 = .ok (.iconst 0, 1) := by decide +kernel
theorem dX11_feed_2 : decode cX11_feed 2 = .ok (.putfield 1, 3) := by decide +kernel
theorem dX11_feed_5 : decode cX11_feed 5 = .ok (.aload_n 0, 1) := by decide +kernel
theorem dX11_feed_6 : decode cX11_feed 6 = .ok (.getfield 11, 3) := by decide +kernel
theorem dX11_feed_9 : decode cX11_feed 9 = .ok (.bipush 20, 2) := by decide +kernel
theorem dX11_feed_11 : decode cX11_feed 11 = .ok (.iadd, 1) := by decide +kernel
theorem dX11_feed_12 : decode cX11_feed 12 = .ok (.sipush 740, 3) := by decide +kernel
theorem dX11_feed_15 : decode cX11_feed 15 = .ok (.if_icmp .le 5, 3) := by decide +kernel
theorem dX11_feed_18 : decode cX11_feed 18 = .ok (.iconst (-1), 1) := by decide +kernel
theorem dX11_feed_19 : decode cX11_feed 19 = .ok (.ireturn, 1) := by decide +kernel
theorem dX11_feed_20 : decode cX11_feed 20 = .ok (.aload_n 0, 1) := by decide +kernel
theorem dX11_feed_21 : decode cX11_feed 21 = .ok (.iload_n 1, 1) := by decide +kernel
theorem dX11_feed_22 : decode cX11_feed 22 = .ok (.invokevirtual 14, 3) := by decide +kernel
theorem dX11_feed_25 : decode cX11_feed 25 = .ok (.aload_n 0, 1) := by decide +kernel
theorem dX11_feed_26 : decode cX11_feed 26 = .ok (.iload_n 2, 1) := by decide +kernel
theorem dX11_feed_27 : decode cX11_feed 27 = .ok (.invokevirtual 14, 3) := by decide +kernel
theorem dX11_feed_30 : decode cX11_feed 30 = .ok (.aload_n 0, 1) := by decide +kernel
theorem dX11_feed_31 : decode cX11_feed 31 = .ok (.iload_n 3, 1) := by decide +kernel
theorem dX11_feed_32 : decode cX11_feed 32 = .ok (.invokevirtual 14, 3) := by decide +kernel
theorem dX11_feed_35 : decode cX11_feed 35 = .ok (.aload_n 0, 1) := by decide +kernel
theorem dX11_feed_36 : decode cX11_feed 36 = .ok (.iload 4, 2) := by decide +kernel
theorem dX11_feed_38 : decode cX11_feed 38 = .ok (.invokevirtual 14, 3) := by decide +kernel
theorem dX11_feed_41 : decode cX11_feed 41 = .ok (.aload_n 0, 1) := by decide +kernel
theorem dX11_feed_42 : decode cX11_feed 42 = .ok (.iload 5, 2) := by decide +kernel
theorem dX11_feed_44 : decode cX11_feed 44 = .ok (.invokevirtual 14, 3) := by decide +kernel
theorem dX11_feed_47 : decode cX11_feed 47 = .ok (.aload_n 0, 1) := by decide +kernel
theorem dX11_feed_48 : decode cX11_feed 48 = .ok (.getfield 11, 3) := by decide +kernel
theorem dX11_feed_51 : decode cX11_feed 51 = .ok (.ireturn, 1) := by decide +kernel
theorem dX11_finds_0 : decode cX11_finds 0 = .ok (.iconst 0, 1) := by decide +kernel
theorem dX11_finds_1 : decode cX11_finds 1 = .ok (.istore_n 1, 1) := by decide +kernel
theorem dX11_finds_2 : decode cX11_finds 2 = .ok (.iconst 0, 1) := by decide +kernel
theorem dX11_finds_3 : decode cX11_finds 3 = .ok (.istore_n 2, 1) := by decide +kernel
theorem dX11_finds_4 : decode cX11_finds 4 = .ok (.iload_n 2, 1) := by decide +kernel
theorem dX11_finds_5 : decode cX11_finds 5 = .ok (.bipush 6, 2) := by decide +kernel
theorem dX11_finds_7 : decode cX11_finds 7 = .ok (.if_icmp .ge 16, 3) := by decide +kernel
theorem dX11_finds_10 : decode cX11_finds 10 = .ok (.aload_n 0, 1) := by decide +kernel
theorem dX11_finds_11 : decode cX11_finds 11 = .ok (.getfield 90, 3) := by decide +kernel
theorem dX11_finds_14 : decode cX11_finds 14 = .ok (.iload_n 2, 1) := by decide +kernel
theorem dX11_finds_15 : decode cX11_finds 15 = .ok (.iconst (-1), 1) := by decide +kernel
theorem dX11_finds_16 : decode cX11_finds 16 = .ok (.iastore, 1) := by decide +kernel
theorem dX11_finds_17 : decode cX11_finds 17 = .ok (.iinc 2 1, 3) := by decide +kernel
theorem dX11_finds_20 : decode cX11_finds 20 = .ok (.goto (-16), 3) := by decide +kernel
theorem dX11_finds_23 : decode cX11_finds 23 = .ok (.iconst 0, 1) := by decide +kernel
theorem dX11_finds_24 : decode cX11_finds 24 = .ok (.istore_n 2, 1) := by decide +kernel
theorem dX11_finds_25 : decode cX11_finds 25 = .ok (.iload_n 2, 1) := by decide +kernel
theorem dX11_finds_26 : decode cX11_finds 26 = .ok (.aload_n 0, 1) := by decide +kernel
theorem dX11_finds_27 : decode cX11_finds 27 = .ok (.getfield 72, 3) := by decide +kernel
theorem dX11_finds_30 : decode cX11_finds 30 = .ok (.iconst 5, 1) := by decide +kernel
theorem dX11_finds_31 : decode cX11_finds 31 = .ok (.iaload, 1) := by decide +kernel
theorem dX11_finds_32 : decode cX11_finds 32 = .ok (.if_icmp .ge 34, 3) := by decide +kernel
theorem dX11_finds_35 : decode cX11_finds 35 = .ok (.aload_n 0, 1) := by decide +kernel
theorem dX11_finds_36 : decode cX11_finds 36 = .ok (.iload_n 2, 1) := by decide +kernel
theorem dX11_finds_37 : decode cX11_finds 37 = .ok (.invokevirtual 216, 3) := by decide +kernel
theorem dX11_finds_40 : decode cX11_finds 40 = .ok (.ifCond .eq 20, 3) := by decide +kernel
theorem dX11_finds_43 : decode cX11_finds 43 = .ok (.aload_n 0, 1) := by decide +kernel
theorem dX11_finds_44 : decode cX11_finds 44 = .ok (.getfield 87, 3) := by decide +kernel
theorem dX11_finds_47 : decode cX11_finds 47 = .ok (.iload_n 2, 1) := by decide +kernel
theorem dX11_finds_48 : decode cX11_finds 48 = .ok (.iaload, 1) := by decide +kernel
theorem dX11_finds_49 : decode cX11_finds 49 = .ok (.iconst (-1), 1) := by decide +kernel
theorem dX11_finds_50 : decode cX11_finds 50 = .ok (.if_icmp .ne 10, 3) := by decide +kernel
theorem dX11_finds_53 : decode cX11_finds 53 = .ok (.aload_n 0, 1) := by decide +kernel
theorem dX11_finds_54 : decode cX11_finds 54 = .ok (.iload_n 2, 1) := by decide +kernel
theorem dX11_finds_55 : decode cX11_finds 55 = .ok (.iload_n 1, 1) := by decide +kernel
theorem dX11_finds_56 : decode cX11_finds 56 = .ok (.invokevirtual 219, 3) := by decide +kernel
theorem dX11_finds_59 : decode cX11_finds 59 = .ok (.istore_n 1, 1) := by decide +kernel
theorem dX11_finds_60 : decode cX11_finds 60 = .ok (.iinc 2 1, 3) := by decide +kernel
theorem dX11_finds_63 : decode cX11_finds 63 = .ok (.goto (-38), 3) := by decide +kernel
theorem dX11_finds_66 : decode cX11_finds 66 = .ok (.iconst (-1), 1) := by decide +kernel
theorem dX11_finds_67 : decode cX11_finds 67 = .ok (.istore_n 2, 1) := by decide +kernel
theorem dX11_finds_68 : decode cX11_finds 68 = .ok (.iconst 0, 1) := by decide +kernel
theorem dX11_finds_69 : decode cX11_finds 69 = .ok (.istore_n 3, 1) := by decide +kernel
theorem dX11_finds_70 : decode cX11_finds 70 = .ok (.iload_n 3, 1) := by decide +kernel
theorem dX11_finds_71 : decode cX11_finds 71 = .ok (.iload_n 1, 1) := by decide +kernel
theorem dX11_finds_72 : decode cX11_finds 72 = .ok (.if_icmp .ge 107, 3) := by decide +kernel
theorem dX11_finds_75 : decode cX11_finds 75 = .ok (.aload_n 0, 1) := by decide +kernel
theorem dX11_finds_76 : decode cX11_finds 76 = .ok (.getfield 93, 3) := by decide +kernel
theorem dX11_finds_79 : decode cX11_finds 79 = .ok (.iload_n 3, 1) := by decide +kernel
theorem dX11_finds_80 : decode cX11_finds 80 = .ok (.iaload, 1) := by decide +kernel
theorem dX11_finds_81 : decode cX11_finds 81 = .ok (.istore 4, 2) := by decide +kernel
theorem dX11_finds_83 : decode cX11_finds 83 = .ok (.aload_n 0, 1) := by decide +kernel
theorem dX11_finds_84 : decode cX11_finds 84 = .ok (.getfield 84, 3) := by decide +kernel
theorem dX11_finds_87 : decode cX11_finds 87 = .ok (.iload 4, 2) := by decide +kernel
theorem dX11_finds_89 : decode cX11_finds 89 = .ok (.iaload, 1) := by decide +kernel
theorem dX11_finds_90 : decode cX11_finds 90 = .ok (.aload_n 0, 1) := by decide +kernel
theorem dX11_finds_91 : decode cX11_finds 91 = .ok (.getfield 81, 3) := by decide +kernel
theorem dX11_finds_94 : decode cX11_finds 94 = .ok (.iload 4, 2) := by decide +kernel
theorem dX11_finds_96 : decode cX11_finds 96 = .ok (.iaload, 1) := by decide +kernel
theorem dX11_finds_97 : decode cX11_finds 97 = .ok (.if_icmp .ge 27, 3) := by decide +kernel
theorem dX11_finds_100 : decode cX11_finds 100 = .ok (.iload_n 2, 1) := by decide +kernel
theorem dX11_finds_101 : decode cX11_finds 101 = .ok (.iconst (-1), 1) := by decide +kernel
theorem dX11_finds_102 : decode cX11_finds 102 = .ok (.if_icmp .eq 19, 3) := by decide +kernel
theorem dX11_finds_105 : decode cX11_finds 105 = .ok (.aload_n 0, 1) := by decide +kernel
theorem dX11_finds_106 : decode cX11_finds 106 = .ok (.iload 4, 2) := by decide +kernel
theorem dX11_finds_108 : decode cX11_finds 108 = .ok (.iconst 3, 1) := by decide +kernel
theorem dX11_finds_109 : decode cX11_finds 109 = .ok (.invokevirtual 167, 3) := by decide +kernel
theorem dX11_finds_112 : decode cX11_finds 112 = .ok (.aload_n 0, 1) := by decide +kernel
theorem dX11_finds_113 : decode cX11_finds 113 = .ok (.iload_n 2, 1) := by decide +kernel
theorem dX11_finds_114 : decode cX11_finds 114 = .ok (.iconst 3, 1) := by decide +kernel
theorem dX11_finds_115 : decode cX11_finds 115 = .ok (.invokevirtual 167, 3) := by decide +kernel
theorem dX11_finds_118 : decode cX11_finds 118 = .ok (.if_icmp .ge 6, 3) := by decide +kernel
theorem dX11_finds_121 : decode cX11_finds 121 = .ok (.iload 4, 2) := by decide +kernel
theorem dX11_finds_123 : decode cX11_finds 123 = .ok (.istore_n 2, 1) := by decide +kernel
theorem dX11_finds_124 : decode cX11_finds 124 = .ok (.iconst 0, 1) := by decide +kernel
theorem dX11_finds_125 : decode cX11_finds 125 = .ok (.istore 5, 2) := by decide +kernel
theorem dX11_finds_127 : decode cX11_finds 127 = .ok (.iload 5, 2) := by decide +kernel
theorem dX11_finds_129 : decode cX11_finds 129 = .ok (.aload_n 0, 1) := by decide +kernel
theorem dX11_finds_130 : decode cX11_finds 130 = .ok (.getfield 72, 3) := by decide +kernel
theorem dX11_finds_133 : decode cX11_finds 133 = .ok (.iconst 5, 1) := by decide +kernel
theorem dX11_finds_134 : decode cX11_finds 134 = .ok (.iaload, 1) := by decide +kernel
theorem dX11_finds_135 : decode cX11_finds 135 = .ok (.if_icmp .ge 38, 3) := by decide +kernel
theorem dX11_finds_138 : decode cX11_finds 138 = .ok (.aload_n 0, 1) := by decide +kernel
theorem dX11_finds_139 : decode cX11_finds 139 = .ok (.iload 5, 2) := by decide +kernel
theorem dX11_finds_141 : decode cX11_finds 141 = .ok (.invokevirtual 216, 3) := by decide +kernel
theorem dX11_finds_144 : decode cX11_finds 144 = .ok (.ifCond .eq 23, 3) := by decide +kernel
theorem dX11_finds_147 : decode cX11_finds 147 = .ok (.aload_n 0, 1) := by decide +kernel
theorem dX11_finds_148 : decode cX11_finds 148 = .ok (.getfield 87, 3) := by decide +kernel
theorem dX11_finds_151 : decode cX11_finds 151 = .ok (.iload 5, 2) := by decide +kernel
theorem dX11_finds_153 : decode cX11_finds 153 = .ok (.iaload, 1) := by decide +kernel
theorem dX11_finds_154 : decode cX11_finds 154 = .ok (.iload 4, 2) := by decide +kernel
theorem dX11_finds_156 : decode cX11_finds 156 = .ok (.if_icmp .ne 11, 3) := by decide +kernel
theorem dX11_finds_159 : decode cX11_finds 159 = .ok (.aload_n 0, 1) := by decide +kernel
theorem dX11_finds_160 : decode cX11_finds 160 = .ok (.iload 5, 2) := by decide +kernel
theorem dX11_finds_162 : decode cX11_finds 162 = .ok (.iload_n 1, 1) := by decide +kernel
theorem dX11_finds_163 : decode cX11_finds 163 = .ok (.invokevirtual 219, 3) := by decide +kernel
theorem dX11_finds_166 : decode cX11_finds 166 = .ok (.istore_n 1, 1) := by decide +kernel
theorem dX11_finds_167 : decode cX11_finds 167 = .ok (.iinc 5 1, 3) := by decide +kernel
theorem dX11_finds_170 : decode cX11_finds 170 = .ok (.goto (-43), 3) := by decide +kernel
theorem dX11_finds_173 : decode cX11_finds 173 = .ok (.iinc 3 1, 3) := by decide +kernel
theorem dX11_finds_176 : decode cX11_finds 176 = .ok (.goto (-106), 3) := by decide +kernel
theorem dX11_finds_179 : decode cX11_finds 179 = .ok (.iload_n 2, 1) := by decide +kernel
theorem dX11_finds_180 : decode cX11_finds 180 = .ok (.ireturn, 1) := by decide +kernel
theorem dX11_fits_0 : decode cX11_fits 0 = .ok (.aload_n 0, 1) := by decide +kernel
theorem dX11_fits_1 : decode cX11_fits 1 = .ok (.iconst 0, 1) := by decide +kernel
theorem dX11_fits_2 : decode cX11_fits 2 = .ok (.putfield 1, 3) := by decide +kernel
theorem dX11_fits_5 : decode cX11_fits 5 = .ok (.aload_n 0, 1) := by decide +kernel
theorem dX11_fits_6 : decode cX11_fits 6 = .ok (.iload_n 1, 1) := by decide +kernel
theorem dX11_fits_7 : decode cX11_fits 7 = .ok (.invokevirtual 189, 3) := by decide +kernel
theorem dX11_fits_10 : decode cX11_fits 10 = .ok (.ifCond .eq 24, 3) := by decide +kernel
theorem dX11_fits_13 : decode cX11_fits 13 = .ok (.aload_n 0, 1) := by decide +kernel
theorem dX11_fits_14 : decode cX11_fits 14 = .ok (.iload_n 2, 1) := by decide +kernel
theorem dX11_fits_15 : decode cX11_fits 15 = .ok (.invokevirtual 207, 3) := by decide +kernel
theorem dX11_fits_18 : decode cX11_fits 18 = .ok (.ifCond .eq 16, 3) := by decide +kernel
theorem dX11_fits_21 : decode cX11_fits 21 = .ok (.aload_n 0, 1) := by decide +kernel
theorem dX11_fits_22 : decode cX11_fits 22 = .ok (.iload_n 1, 1) := by decide +kernel
theorem dX11_fits_23 : decode cX11_fits 23 = .ok (.iload_n 2, 1) := by decide +kernel
theorem dX11_fits_24 : decode cX11_fits 24 = .ok (.invokevirtual 213, 3) := by decide +kernel
theorem dX11_fits_27 : decode cX11_fits 27 = .ok (.ifCond .eq 7, 3) := by decide +kernel
theorem dX11_fits_30 : decode cX11_fits 30 = .ok (.iconst 1, 1) := by decide +kernel
theorem dX11_fits_31 : decode cX11_fits 31 = .ok (.goto 4, 3) := by decide +kernel
theorem dX11_fits_34 : decode cX11_fits 34 = .ok (.iconst 0, 1) := by decide +kernel
theorem dX11_fits_35 : decode cX11_fits 35 = .ok (.ireturn, 1) := by decide +kernel
theorem dX11_five_0 : decode cX11_five 0 = .ok (.ldc2_w 48, 3) := by decide +kernel
theorem dX11_five_3 : decode cX11_five 3 = .ok (.iload_n 0, 1) := by decide +kernel
theorem dX11_five_4 : decode cX11_five 4 = .ok (.iload_n 1, 1) := by decide +kernel
theorem dX11_five_5 : decode cX11_five 5 = .ok (.iload_n 2, 1) := by decide +kernel
theorem dX11_five_6 : decode cX11_five 6 = .ok (.iload_n 3, 1) := by decide +kernel
theorem dX11_five_7 : decode cX11_five 7 = .ok (.invokestatic 52, 3) := by decide +kernel
theorem dX11_five_10 : decode cX11_five 10 = .ok (.lmul, 1) := by decide +kernel
theorem dX11_five_11 : decode cX11_five 11 = .ok (.iload 4, 2) := by decide +kernel
theorem dX11_five_13 : decode cX11_five 13 = .ok (.i2l, 1) := by decide +kernel
theorem dX11_five_14 : decode cX11_five 14 = .ok (.ladd, 1) := by decide +kernel
theorem dX11_five_15 : decode cX11_five 15 = .ok (.ldc2_w 50, 3) := by decide +kernel
theorem dX11_five_18 : decode cX11_five 18 = .ok (.lsub, 1) := by decide +kernel
theorem dX11_five_19 : decode cX11_five 19 = .ok (.lreturn, 1) := by decide +kernel
theorem dX11_four_0 : decode cX11_four 0 = .ok (.ldc2_w 48, 3) := by decide +kernel
theorem dX11_four_3 : decode cX11_four 3 = .ok (.ldc2_w 48, 3) := by decide +kernel
theorem dX11_four_6 : decode cX11_four 6 = .ok (.ldc2_w 48, 3) := by decide +kernel
theorem dX11_four_9 : decode cX11_four 9 = .ok (.iload_n 0, 1) := by decide +kernel
theorem dX11_four_10 : decode cX11_four 10 = .ok (.i2l, 1) := by decide +kernel
theorem dX11_four_11 : decode cX11_four 11 = .ok (.ldc2_w 50, 3) := by decide +kernel
theorem dX11_four_14 : decode cX11_four 14 = .ok (.lsub, 1) := by decide +kernel
theorem dX11_four_15 : decode cX11_four 15 = .ok (.lmul, 1) := by decide +kernel
theorem dX11_four_16 : decode cX11_four 16 = .ok (.iload_n 1, 1) := by decide +kernel
theorem dX11_four_17 : decode cX11_four 17 = .ok (.i2l, 1) := by decide +kernel
theorem dX11_four_18 : decode cX11_four 18 = .ok (.ladd, 1) := by decide +kernel
theorem dX11_four_19 : decode cX11_four 19 = .ok (.ldc2_w 50, 3) := by decide +kernel
theorem dX11_four_22 : decode cX11_four 22 = .ok (.lsub, 1) := by decide +kernel
theorem dX11_four_23 : decode cX11_four 23 = .ok (.lmul, 1) := by decide +kernel
theorem dX11_four_24 : decode cX11_four 24 = .ok (.iload_n 2, 1) := by decide +kernel
theorem dX11_four_25 : decode cX11_four 25 = .ok (.i2l, 1) := by decide +kernel
theorem dX11_four_26 : decode cX11_four 26 = .ok (.ladd, 1) := by decide +kernel
theorem dX11_four_27 : decode cX11_four 27 = .ok (.ldc2_w 50, 3) := by decide +kernel
theorem dX11_four_30 : decode cX11_four 30 = .ok (.lsub, 1) := by decide +kernel
theorem dX11_four_31 : decode cX11_four 31 = .ok (.lmul, 1) := by decide +kernel
theorem dX11_four_32 : decode cX11_four 32 = .ok (.iload_n 3, 1) := by decide +kernel
theorem dX11_four_33 : decode cX11_four 33 = .ok (.i2l, 1) := by decide +kernel
theorem dX11_four_34 : decode cX11_four 34 = .ok (.ladd, 1) := by decide +kernel
theorem dX11_four_35 : decode cX11_four 35 = .ok (.ldc2_w 50, 3) := by decide +kernel
theorem dX11_four_38 : decode cX11_four 38 = .ok (.lsub, 1) := by decide +kernel
theorem dX11_four_39 : decode cX11_four 39 = .ok (.lreturn, 1) := by decide +kernel
theorem dX11_free_0 : decode cX11_free 0 = .ok (.aload_n 0, 1) := by decide +kernel
theorem dX11_free_1 : decode cX11_free 1 = .ok (.iconst 0, 1) := by decide +kernel
theorem dX11_free_2 : decode cX11_free 2 = .ok (.putfield 1, 3) := by decide +kernel
theorem dX11_free_5 : decode cX11_free 5 = .ok (.aload_n 0, 1) := by decide +kernel
theorem dX11_free_6 : decode cX11_free 6 = .ok (.iload_n 1, 1) := by decide +kernel
theorem dX11_free_7 : decode cX11_free 7 = .ok (.invokevirtual 250, 3) := by decide +kernel
theorem dX11_free_10 : decode cX11_free 10 = .ok (.ifCond .eq 13, 3) := by decide +kernel
theorem dX11_free_13 : decode cX11_free 13 = .ok (.iload_n 2, 1) := by decide +kernel
theorem dX11_free_14 : decode cX11_free 14 = .ok (.iconst 1, 1) := by decide +kernel
theorem dX11_free_15 : decode cX11_free 15 = .ok (.bipush 6, 2) := by decide +kernel
theorem dX11_free_17 : decode cX11_free 17 = .ok (.invokestatic 106, 3) := by decide +kernel
theorem dX11_free_20 : decode cX11_free 20 = .ok (.ifCond .ne 5, 3) := by decide +kernel
theorem dX11_free_23 : decode cX11_free 23 = .ok (.iconst (-1), 1) := by decide +kernel
theorem dX11_free_24 : decode cX11_free 24 = .ok (.ireturn, 1) := by decide +kernel
theorem dX11_free_25 : decode cX11_free 25 = .ok (.iconst 0, 1) := by decide +kernel
theorem dX11_free_26 : decode cX11_free 26 = .ok (.istore_n 3, 1) := by decide +kernel
theorem dX11_free_27 : decode cX11_free 27 = .ok (.iconst 0, 1) := by decide +kernel
theorem dX11_free_28 : decode cX11_free 28 = .ok (.istore 4, 2) := by decide +kernel
theorem dX11_free_30 : decode cX11_free 30 = .ok (.iload 4, 2) := by decide +kernel
theorem dX11_free_32 : decode cX11_free 32 = .ok (.aload_n 0, 1) := by decide +kernel
theorem dX11_free_33 : decode cX11_free 33 = .ok (.getfield 72, 3) := by decide +kernel
theorem dX11_free_36 : decode cX11_free 36 = .ok (.iconst 3, 1) := by decide +kernel
theorem dX11_free_37 : decode cX11_free 37 = .ok (.iaload, 1) := by decide +kernel
theorem dX11_free_38 : decode cX11_free 38 = .ok (.if_icmp .ge 44, 3) := by decide +kernel
theorem dX11_free_41 : decode cX11_free 41 = .ok (.aload_n 0, 1) := by decide +kernel
theorem dX11_free_42 : decode cX11_free 42 = .ok (.iload 4, 2) := by decide +kernel
theorem dX11_free_44 : decode cX11_free 44 = .ok (.bipush 6, 2) := by decide +kernel
theorem dX11_free_46 : decode cX11_free 46 = .ok (.invokevirtual 167, 3) := by decide +kernel
theorem dX11_free_49 : decode cX11_free 49 = .ok (.iload_n 1, 1) := by decide +kernel
theorem dX11_free_50 : decode cX11_free 50 = .ok (.invokestatic 113, 3) := by decide +kernel
theorem dX11_free_53 : decode cX11_free 53 = .ok (.ifCond .eq 23, 3) := by decide +kernel
theorem dX11_free_56 : decode cX11_free 56 = .ok (.iload_n 2, 1) := by decide +kernel
theorem dX11_free_57 : decode cX11_free 57 = .ok (.aload_n 0, 1) := by decide +kernel
theorem dX11_free_58 : decode cX11_free 58 = .ok (.iload 4, 2) := by decide +kernel
theorem dX11_free_60 : decode cX11_free 60 = .ok (.iconst 2, 1) := by decide +kernel
theorem dX11_free_61 : decode cX11_free 61 = .ok (.invokevirtual 167, 3) := by decide +kernel
theorem dX11_free_64 : decode cX11_free 64 = .ok (.if_icmp .lt 12, 3) := by decide +kernel
theorem dX11_free_67 : decode cX11_free 67 = .ok (.iload_n 3, 1) := by decide +kernel
theorem dX11_free_68 : decode cX11_free 68 = .ok (.aload_n 0, 1) := by decide +kernel
theorem dX11_free_69 : decode cX11_free 69 = .ok (.iload 4, 2) := by decide +kernel
theorem dX11_free_71 : decode cX11_free 71 = .ok (.invokevirtual 192, 3) := by decide +kernel
theorem dX11_free_74 : decode cX11_free 74 = .ok (.iadd, 1) := by decide +kernel
theorem dX11_free_75 : decode cX11_free 75 = .ok (.istore_n 3, 1) := by decide +kernel
theorem dX11_free_76 : decode cX11_free 76 = .ok (.iinc 4 1, 3) := by decide +kernel
theorem dX11_free_79 : decode cX11_free 79 = .ok (.goto (-49), 3) := by decide +kernel
theorem dX11_free_82 : decode cX11_free 82 = .ok (.iload_n 3, 1) := by decide +kernel
theorem dX11_free_83 : decode cX11_free 83 = .ok (.ireturn, 1) := by decide +kernel
theorem dX11_freeOf_0 : decode cX11_freeOf 0 = .ok (.aload_n 0, 1) := by decide +kernel
theorem dX11_freeOf_1 : decode cX11_freeOf 1 = .ok (.iload_n 1, 1) := by decide +kernel
theorem dX11_freeOf_2 : decode cX11_freeOf 2 = .ok (.invokevirtual 173, 3) := by decide +kernel
theorem dX11_freeOf_5 : decode cX11_freeOf 5 = .ok (.aload_n 0, 1) := by decide +kernel
theorem dX11_freeOf_6 : decode cX11_freeOf 6 = .ok (.iload_n 1, 1) := by decide +kernel
theorem dX11_freeOf_7 : decode cX11_freeOf 7 = .ok (.invokevirtual 170, 3) := by decide +kernel
theorem dX11_freeOf_10 : decode cX11_freeOf 10 = .ok (.iadd, 1) := by decide +kernel
theorem dX11_freeOf_11 : decode cX11_freeOf 11 = .ok (.aload_n 0, 1) := by decide +kernel
theorem dX11_freeOf_12 : decode cX11_freeOf 12 = .ok (.iload_n 1, 1) := by decide +kernel
theorem dX11_freeOf_13 : decode cX11_freeOf 13 = .ok (.iconst 1, 1) := by decide +kernel
theorem dX11_freeOf_14 : decode cX11_freeOf 14 = .ok (.invokevirtual 167, 3) := by decide +kernel
theorem dX11_freeOf_17 : decode cX11_freeOf 17 = .ok (.imul, 1) := by decide +kernel
theorem dX11_freeOf_18 : decode cX11_freeOf 18 = .ok (.aload_n 0, 1) := by decide +kernel
theorem dX11_freeOf_19 : decode cX11_freeOf 19 = .ok (.iload_n 1, 1) := by decide +kernel
theorem dX11_freeOf_20 : decode cX11_freeOf 20 = .ok (.invokevirtual 164, 3) := by decide +kernel
theorem dX11_freeOf_23 : decode cX11_freeOf 23 = .ok (.isub, 1) := by decide +kernel
theorem dX11_freeOf_24 : decode cX11_freeOf 24 = .ok (.ireturn, 1) := by decide +kernel
theorem dX11_go_0 : decode cX11_go 0 = .ok (.aload_n 0, 1) := by decide +kernel
theorem dX11_go_1 : decode cX11_go 1 = .ok (.getfield 21, 3) := by decide +kernel
theorem dX11_go_4 : decode cX11_go 4 = .ok (.aload_n 0, 1) := by decide +kernel
theorem dX11_go_5 : decode cX11_go 5 = .ok (.getfield 18, 3) := by decide +kernel
theorem dX11_go_8 : decode cX11_go 8 = .ok (.if_icmp .ge 44, 3) := by decide +kernel
theorem dX11_go_11 : decode cX11_go 11 = .ok (.aload_n 0, 1) := by decide +kernel
theorem dX11_go_12 : decode cX11_go 12 = .ok (.getfield 7, 3) := by decide +kernel
theorem dX11_go_15 : decode cX11_go 15 = .ok (.aload_n 0, 1) := by decide +kernel
theorem dX11_go_16 : decode cX11_go 16 = .ok (.getfield 21, 3) := by decide +kernel
theorem dX11_go_19 : decode cX11_go 19 = .ok (.iaload, 1) := by decide +kernel
theorem dX11_go_20 : decode cX11_go 20 = .ok (.bipush 32, 2) := by decide +kernel
theorem dX11_go_22 : decode cX11_go 22 = .ok (.if_icmp .eq 17, 3) := by decide +kernel
theorem dX11_go_25 : decode cX11_go 25 = .ok (.aload_n 0, 1) := by decide +kernel
theorem dX11_go_26 : decode cX11_go 26 = .ok (.getfield 7, 3) := by decide +kernel
theorem dX11_go_29 : decode cX11_go 29 = .ok (.aload_n 0, 1) := by decide +kernel
theorem dX11_go_30 : decode cX11_go 30 = .ok (.getfield 21, 3) := by decide +kernel
theorem dX11_go_33 : decode cX11_go 33 = .ok (.iaload, 1) := by decide +kernel
theorem dX11_go_34 : decode cX11_go 34 = .ok (.bipush 10, 2) := by decide +kernel
theorem dX11_go_36 : decode cX11_go 36 = .ok (.if_icmp .ne 16, 3) := by decide +kernel
theorem dX11_go_39 : decode cX11_go 39 = .ok (.aload_n 0, 1) := by decide +kernel
theorem dX11_go_40 : decode cX11_go 40 = .ok (.dup, 1) := by decide +kernel
theorem dX11_go_41 : decode cX11_go 41 = .ok (.getfield 21, 3) := by decide +kernel
theorem dX11_go_44 : decode cX11_go 44 = .ok (.iconst 1, 1) := by decide +kernel
theorem dX11_go_45 : decode cX11_go 45 = .ok (.iadd, 1) := by decide +kernel
theorem dX11_go_46 : decode cX11_go 46 = .ok (.putfield 21, 3) := by decide +kernel
theorem dX11_go_49 : decode cX11_go 49 = .ok (.goto (-49), 3) := by decide +kernel
theorem dX11_go_52 : decode cX11_go 52 = .ok (.aload_n 0, 1) := by decide +kernel
theorem dX11_go_53 : decode cX11_go 53 = .ok (.aload_n 0, 1) := by decide +kernel
theorem dX11_go_54 : decode cX11_go 54 = .ok (.getfield 21, 3) := by decide +kernel
theorem dX11_go_57 : decode cX11_go 57 = .ok (.putfield 24, 3) := by decide +kernel
theorem dX11_go_60 : decode cX11_go 60 = .ok (.aload_n 0, 1) := by decide +kernel
theorem dX11_go_61 : decode cX11_go 61 = .ok (.getfield 18, 3) := by decide +kernel
theorem dX11_go_64 : decode cX11_go 64 = .ok (.sipush 700, 3) := by decide +kernel
theorem dX11_go_67 : decode cX11_go 67 = .ok (.if_icmp .le 26, 3) := by decide +kernel
theorem dX11_go_70 : decode cX11_go 70 = .ok (.aload_n 0, 1) := by decide +kernel
theorem dX11_go_71 : decode cX11_go 71 = .ok (.getfield 24, 3) := by decide +kernel
theorem dX11_go_74 : decode cX11_go 74 = .ok (.sipush 700, 3) := by decide +kernel
theorem dX11_go_77 : decode cX11_go 77 = .ok (.if_icmp .lt 16, 3) := by decide +kernel
theorem dX11_go_80 : decode cX11_go 80 = .ok (.aload_n 0, 1) := by decide +kernel
theorem dX11_go_81 : decode cX11_go 81 = .ok (.sipush 700, 3) := by decide +kernel
theorem dX11_go_84 : decode cX11_go 84 = .ok (.putfield 24, 3) := by decide +kernel
theorem dX11_go_87 : decode cX11_go 87 = .ok (.aload_n 0, 1) := by decide +kernel
theorem dX11_go_88 : decode cX11_go 88 = .ok (.iconst 1, 1) := by decide +kernel
theorem dX11_go_89 : decode cX11_go 89 = .ok (.putfield 27, 3) := by decide +kernel
theorem dX11_go_92 : decode cX11_go 92 = .ok (.return_, 1) := by decide +kernel
theorem dX11_go_93 : decode cX11_go 93 = .ok (.aload_n 0, 1) := by decide +kernel
theorem dX11_go_94 : decode cX11_go 94 = .ok (.getfield 21, 3) := by decide +kernel
theorem dX11_go_97 : decode cX11_go 97 = .ok (.aload_n 0, 1) := by decide +kernel
theorem dX11_go_98 : decode cX11_go 98 = .ok (.getfield 18, 3) := by decide +kernel
theorem dX11_go_101 : decode cX11_go 101 = .ok (.if_icmp .lt 9, 3) := by decide +kernel
theorem dX11_go_104 : decode cX11_go 104 = .ok (.aload_n 0, 1) := by decide +kernel
theorem dX11_go_105 : decode cX11_go 105 = .ok (.iconst 0, 1) := by decide +kernel
theorem dX11_go_106 : decode cX11_go 106 = .ok (.putfield 27, 3) := by decide +kernel
theorem dX11_go_109 : decode cX11_go 109 = .ok (.return_, 1) := by decide +kernel
theorem dX11_go_110 : decode cX11_go 110 = .ok (.aload_n 0, 1) := by decide +kernel
theorem dX11_go_111 : decode cX11_go 111 = .ok (.getfield 7, 3) := by decide +kernel
theorem dX11_go_114 : decode cX11_go 114 = .ok (.aload_n 0, 1) := by decide +kernel
theorem dX11_go_115 : decode cX11_go 115 = .ok (.getfield 21, 3) := by decide +kernel
theorem dX11_go_118 : decode cX11_go 118 = .ok (.iaload, 1) := by decide +kernel
theorem dX11_go_119 : decode cX11_go 119 = .ok (.istore_n 1, 1) := by decide +kernel
theorem dX11_go_120 : decode cX11_go 120 = .ok (.iload_n 1, 1) := by decide +kernel
theorem dX11_go_121 : decode cX11_go 121 = .ok (.invokestatic 30, 3) := by decide +kernel
theorem dX11_go_124 : decode cX11_go 124 = .ok (.ifCond .ne 36, 3) := by decide +kernel
theorem dX11_go_127 : decode cX11_go 127 = .ok (.iload_n 1, 1) := by decide +kernel
theorem dX11_go_128 : decode cX11_go 128 = .ok (.invokestatic 34, 3) := by decide +kernel
theorem dX11_go_131 : decode cX11_go 131 = .ok (.ifCond .ne 29, 3) := by decide +kernel
theorem dX11_go_134 : decode cX11_go 134 = .ok (.aload_n 0, 1) := by decide +kernel
theorem dX11_go_135 : decode cX11_go 135 = .ok (.iload_n 1, 1) := by decide +kernel
theorem dX11_go_136 : decode cX11_go 136 = .ok (.bipush 59, 2) := by decide +kernel
theorem dX11_go_138 : decode cX11_go 138 = .ok (.if_icmp .ne 7, 3) := by decide +kernel
theorem dX11_go_141 : decode cX11_go 141 = .ok (.iconst 4, 1) := by decide +kernel
theorem dX11_go_142 : decode cX11_go 142 = .ok (.goto 4, 3) := by decide +kernel
theorem dX11_go_145 : decode cX11_go 145 = .ok (.iconst 1, 1) := by decide +kernel
theorem dX11_go_146 : decode cX11_go 146 = .ok (.putfield 27, 3) := by decide +kernel
theorem dX11_go_149 : decode cX11_go 149 = .ok (.aload_n 0, 1) := by decide +kernel
theorem dX11_go_150 : decode cX11_go 150 = .ok (.dup, 1) := by decide +kernel
theorem dX11_go_151 : decode cX11_go 151 = .ok (.getfield 21, 3) := by decide +kernel
theorem dX11_go_154 : decode cX11_go 154 = .ok (.iconst 1, 1) := by decide +kernel
theorem dX11_go_155 : decode cX11_go 155 = .ok (.iadd, 1) := by decide +kernel
theorem dX11_go_156 : decode cX11_go 156 = .ok (.putfield 21, 3) := by decide +kernel
theorem dX11_go_159 : decode cX11_go 159 = .ok (.return_, 1) := by decide +kernel
theorem dX11_go_160 : decode cX11_go 160 = .ok (.iload_n 1, 1) := by decide +kernel
theorem dX11_go_161 : decode cX11_go 161 = .ok (.invokestatic 30, 3) := by decide +kernel
theorem dX11_go_164 : decode cX11_go 164 = .ok (.istore_n 2, 1) := by decide +kernel
theorem dX11_go_165 : decode cX11_go 165 = .ok (.iconst 1, 1) := by decide +kernel
theorem dX11_go_166 : decode cX11_go 166 = .ok (.istore_n 3, 1) := by decide +kernel
theorem dX11_go_167 : decode cX11_go 167 = .ok (.aload_n 0, 1) := by decide +kernel
theorem dX11_go_168 : decode cX11_go 168 = .ok (.lconst 0, 1) := by decide +kernel
theorem dX11_go_169 : decode cX11_go 169 = .ok (.putfield 37, 3) := by decide +kernel
theorem dX11_go_172 : decode cX11_go 172 = .ok (.aload_n 0, 1) := by decide +kernel
theorem dX11_go_173 : decode cX11_go 173 = .ok (.iconst 0, 1) := by decide +kernel
theorem dX11_go_174 : decode cX11_go 174 = .ok (.putfield 41, 3) := by decide +kernel
theorem dX11_go_177 : decode cX11_go 177 = .ok (.aload_n 0, 1) := by decide +kernel
theorem dX11_go_178 : decode cX11_go 178 = .ok (.aload_n 0, 1) := by decide +kernel
theorem dX11_go_179 : decode cX11_go 179 = .ok (.getfield 21, 3) := by decide +kernel
theorem dX11_go_182 : decode cX11_go 182 = .ok (.invokevirtual 44, 3) := by decide +kernel
theorem dX11_go_185 : decode cX11_go 185 = .ok (.invokestatic 30, 3) := by decide +kernel
theorem dX11_go_188 : decode cX11_go 188 = .ok (.ifCond .ne 17, 3) := by decide +kernel
theorem dX11_go_191 : decode cX11_go 191 = .ok (.aload_n 0, 1) := by decide +kernel
theorem dX11_go_192 : decode cX11_go 192 = .ok (.aload_n 0, 1) := by decide +kernel
theorem dX11_go_193 : decode cX11_go 193 = .ok (.getfield 21, 3) := by decide +kernel
theorem dX11_go_196 : decode cX11_go 196 = .ok (.invokevirtual 44, 3) := by decide +kernel
theorem dX11_go_199 : decode cX11_go 199 = .ok (.invokestatic 34, 3) := by decide +kernel
theorem dX11_go_202 : decode cX11_go 202 = .ok (.ifCond .eq 110, 3) := by decide +kernel
theorem dX11_go_205 : decode cX11_go 205 = .ok (.aload_n 0, 1) := by decide +kernel
theorem dX11_go_206 : decode cX11_go 206 = .ok (.getfield 7, 3) := by decide +kernel
theorem dX11_go_209 : decode cX11_go 209 = .ok (.aload_n 0, 1) := by decide +kernel
theorem dX11_go_210 : decode cX11_go 210 = .ok (.getfield 21, 3) := by decide +kernel
theorem dX11_go_213 : decode cX11_go 213 = .ok (.iaload, 1) := by decide +kernel
theorem dX11_go_214 : decode cX11_go 214 = .ok (.istore 4, 2) := by decide +kernel
theorem dX11_go_216 : decode cX11_go 216 = .ok (.iload_n 3, 1) := by decide +kernel
theorem dX11_go_217 : decode cX11_go 217 = .ok (.ifCond .eq 16, 3) := by decide +kernel
theorem dX11_go_220 : decode cX11_go 220 = .ok (.iload 4, 2) := by decide +kernel
theorem dX11_go_222 : decode cX11_go 222 = .ok (.invokestatic 30, 3) := by decide +kernel
theorem dX11_go_225 : decode cX11_go 225 = .ok (.iload_n 2, 1) := by decide +kernel
theorem dX11_go_226 : decode cX11_go 226 = .ok (.if_icmp .ne 7, 3) := by decide +kernel
theorem dX11_go_229 : decode cX11_go 229 = .ok (.iconst 1, 1) := by decide +kernel
theorem dX11_go_230 : decode cX11_go 230 = .ok (.goto 4, 3) := by decide +kernel
theorem dX11_go_233 : decode cX11_go 233 = .ok (.iconst 0, 1) := by decide +kernel
theorem dX11_go_234 : decode cX11_go 234 = .ok (.istore_n 3, 1) := by decide +kernel
theorem dX11_go_235 : decode cX11_go 235 = .ok (.aload_n 0, 1) := by decide +kernel
theorem dX11_go_236 : decode cX11_go 236 = .ok (.getfield 21, 3) := by decide +kernel
theorem dX11_go_239 : decode cX11_go 239 = .ok (.aload_n 0, 1) := by decide +kernel
theorem dX11_go_240 : decode cX11_go 240 = .ok (.getfield 24, 3) := by decide +kernel
theorem dX11_go_243 : decode cX11_go 243 = .ok (.isub, 1) := by decide +kernel
theorem dX11_go_244 : decode cX11_go 244 = .ok (.bipush 7, 2) := by decide +kernel
theorem dX11_go_246 : decode cX11_go 246 = .ok (.if_icmp .ge 23, 3) := by decide +kernel
theorem dX11_go_249 : decode cX11_go 249 = .ok (.aload_n 0, 1) := by decide +kernel
theorem dX11_go_250 : decode cX11_go 250 = .ok (.ldc2_w 48, 3) := by decide +kernel
theorem dX11_go_253 : decode cX11_go 253 = .ok (.aload_n 0, 1) := by decide +kernel
theorem dX11_go_254 : decode cX11_go 254 = .ok (.getfield 37, 3) := by decide +kernel
theorem dX11_go_257 : decode cX11_go 257 = .ok (.lmul, 1) := by decide +kernel
theorem dX11_go_258 : decode cX11_go 258 = .ok (.iload 4, 2) := by decide +kernel
theorem dX11_go_260 : decode cX11_go 260 = .ok (.i2l, 1) := by decide +kernel
theorem dX11_go_261 : decode cX11_go 261 = .ok (.ladd, 1) := by decide +kernel
theorem dX11_go_262 : decode cX11_go 262 = .ok (.ldc2_w 50, 3) := by decide +kernel
theorem dX11_go_265 : decode cX11_go 265 = .ok (.lsub, 1) := by decide +kernel
theorem dX11_go_266 : decode cX11_go 266 = .ok (.putfield 37, 3) := by decide +kernel
theorem dX11_go_269 : decode cX11_go 269 = .ok (.aload_n 0, 1) := by decide +kernel
theorem dX11_go_270 : decode cX11_go 270 = .ok (.getfield 21, 3) := by decide +kernel
theorem dX11_go_273 : decode cX11_go 273 = .ok (.aload_n 0, 1) := by decide +kernel
theorem dX11_go_274 : decode cX11_go 274 = .ok (.getfield 24, 3) := by decide +kernel
theorem dX11_go_277 : decode cX11_go 277 = .ok (.isub, 1) := by decide +kernel
theorem dX11_go_278 : decode cX11_go 278 = .ok (.iconst 2, 1) := by decide +kernel
theorem dX11_go_279 : decode cX11_go 279 = .ok (.if_icmp .ge 20, 3) := by decide +kernel
theorem dX11_go_282 : decode cX11_go 282 = .ok (.aload_n 0, 1) := by decide +kernel
theorem dX11_go_283 : decode cX11_go 283 = .ok (.bipush 10, 2) := by decide +kernel
theorem dX11_go_285 : decode cX11_go 285 = .ok (.aload_n 0, 1) := by decide +kernel
theorem dX11_go_286 : decode cX11_go 286 = .ok (.getfield 41, 3) := by decide +kernel
theorem dX11_go_289 : decode cX11_go 289 = .ok (.imul, 1) := by decide +kernel
theorem dX11_go_290 : decode cX11_go 290 = .ok (.iload 4, 2) := by decide +kernel
theorem dX11_go_292 : decode cX11_go 292 = .ok (.iadd, 1) := by decide +kernel
theorem dX11_go_293 : decode cX11_go 293 = .ok (.bipush 48, 2) := by decide +kernel
theorem dX11_go_295 : decode cX11_go 295 = .ok (.isub, 1) := by decide +kernel
theorem dX11_go_296 : decode cX11_go 296 = .ok (.putfield 41, 3) := by decide +kernel
theorem dX11_go_299 : decode cX11_go 299 = .ok (.aload_n 0, 1) := by decide +kernel
theorem dX11_go_300 : decode cX11_go 300 = .ok (.dup, 1) := by decide +kernel
theorem dX11_go_301 : decode cX11_go 301 = .ok (.getfield 21, 3) := by decide +kernel
theorem dX11_go_304 : decode cX11_go 304 = .ok (.iconst 1, 1) := by decide +kernel
theorem dX11_go_305 : decode cX11_go 305 = .ok (.iadd, 1) := by decide +kernel
theorem dX11_go_306 : decode cX11_go 306 = .ok (.putfield 21, 3) := by decide +kernel
theorem dX11_go_309 : decode cX11_go 309 = .ok (.goto (-132), 3) := by decide +kernel
theorem dX11_go_312 : decode cX11_go 312 = .ok (.aload_n 0, 1) := by decide +kernel
theorem dX11_go_313 : decode cX11_go 313 = .ok (.iload_n 3, 1) := by decide +kernel
theorem dX11_go_314 : decode cX11_go 314 = .ok (.ifCond .eq 20, 3) := by decide +kernel
theorem dX11_go_317 : decode cX11_go 317 = .ok (.iload_n 2, 1) := by decide +kernel
theorem dX11_go_318 : decode cX11_go 318 = .ok (.ifCond .ne 20, 3) := by decide +kernel
theorem dX11_go_321 : decode cX11_go 321 = .ok (.aload_n 0, 1) := by decide +kernel
theorem dX11_go_322 : decode cX11_go 322 = .ok (.getfield 21, 3) := by decide +kernel
theorem dX11_go_325 : decode cX11_go 325 = .ok (.aload_n 0, 1) := by decide +kernel
theorem dX11_go_326 : decode cX11_go 326 = .ok (.getfield 24, 3) := by decide +kernel
theorem dX11_go_329 : decode cX11_go 329 = .ok (.isub, 1) := by decide +kernel
theorem dX11_go_330 : decode cX11_go 330 = .ok (.iconst 2, 1) := by decide +kernel
theorem dX11_go_331 : decode cX11_go 331 = .ok (.if_icmp .le 7, 3) := by decide +kernel
theorem dX11_go_334 : decode cX11_go 334 = .ok (.iconst 1, 1) := by decide +kernel
theorem dX11_go_335 : decode cX11_go 335 = .ok (.goto 12, 3) := by decide +kernel
theorem dX11_go_338 : decode cX11_go 338 = .ok (.iload_n 2, 1) := by decide +kernel
theorem dX11_go_339 : decode cX11_go 339 = .ok (.ifCond .eq 7, 3) := by decide +kernel
theorem dX11_go_342 : decode cX11_go 342 = .ok (.iconst 2, 1) := by decide +kernel
theorem dX11_go_343 : decode cX11_go 343 = .ok (.goto 4, 3) := by decide +kernel
theorem dX11_go_346 : decode cX11_go 346 = .ok (.iconst 3, 1) := by decide +kernel
theorem dX11_go_347 : decode cX11_go 347 = .ok (.putfield 27, 3) := by decide +kernel
theorem dX11_go_350 : decode cX11_go 350 = .ok (.return_, 1) := by decide +kernel
theorem dX11_handBack_0 : decode cX11_handBack 0 = .ok (.aload_n 0, 1) := by decide +kernel
theorem dX11_handBack_1 : decode cX11_handBack 1 = .ok (.iconst 0, 1) := by decide +kernel
theorem dX11_handBack_2 : decode cX11_handBack 2 = .ok (.putfield 1, 3) := by decide +kernel
theorem dX11_handBack_5 : decode cX11_handBack 5 = .ok (.aload_n 0, 1) := by decide +kernel
theorem dX11_handBack_6 : decode cX11_handBack 6 = .ok (.iload_n 1, 1) := by decide +kernel
theorem dX11_handBack_7 : decode cX11_handBack 7 = .ok (.invokevirtual 189, 3) := by decide +kernel
theorem dX11_handBack_10 : decode cX11_handBack 10 = .ok (.ifCond .eq 19, 3) := by decide +kernel
theorem dX11_handBack_13 : decode cX11_handBack 13 = .ok (.iload_n 2, 1) := by decide +kernel
theorem dX11_handBack_14 : decode cX11_handBack 14 = .ok (.iconst 1, 1) := by decide +kernel
theorem dX11_handBack_15 : decode cX11_handBack 15 = .ok (.if_icmp .lt 14, 3) := by decide +kernel
theorem dX11_handBack_18 : decode cX11_handBack 18 = .ok (.iload_n 2, 1) := by decide +kernel
theorem dX11_handBack_19 : decode cX11_handBack 19 = .ok (.aload_n 0, 1) := by decide +kernel
theorem dX11_handBack_20 : decode cX11_handBack 20 = .ok (.iload_n 1, 1) := by decide +kernel
theorem dX11_handBack_21 : decode cX11_handBack 21 = .ok (.bipush 7, 2) := by decide +kernel
theorem dX11_handBack_23 : decode cX11_handBack 23 = .ok (.invokevirtual 167, 3) := by decide +kernel
theorem dX11_handBack_26 : decode cX11_handBack 26 = .ok (.if_icmp .le 5, 3) := by decide +kernel
theorem dX11_handBack_29 : decode cX11_handBack 29 = .ok (.iconst (-1), 1) := by decide +kernel
theorem dX11_handBack_30 : decode cX11_handBack 30 = .ok (.ireturn, 1) := by decide +kernel
theorem dX11_handBack_31 : decode cX11_handBack 31 = .ok (.aload_n 0, 1) := by decide +kernel
theorem dX11_handBack_32 : decode cX11_handBack 32 = .ok (.invokevirtual 259, 3) := by decide +kernel
theorem dX11_handBack_35 : decode cX11_handBack 35 = .ok (.bipush 7, 2) := by decide +kernel
theorem dX11_handBack_37 : decode cX11_handBack 37 = .ok (.bipush 12, 2) := by decide +kernel
theorem dX11_handBack_39 : decode cX11_handBack 39 = .ok (.iload_n 1, 1) := by decide +kernel
theorem dX11_handBack_40 : decode cX11_handBack 40 = .ok (.imul, 1) := by decide +kernel
theorem dX11_handBack_41 : decode cX11_handBack 41 = .ok (.iadd, 1) := by decide +kernel
theorem dX11_handBack_42 : decode cX11_handBack 42 = .ok (.istore_n 3, 1) := by decide +kernel
theorem dX11_handBack_43 : decode cX11_handBack 43 = .ok (.aload_n 0, 1) := by decide +kernel
theorem dX11_handBack_44 : decode cX11_handBack 44 = .ok (.getfield 72, 3) := by decide +kernel
theorem dX11_handBack_47 : decode cX11_handBack 47 = .ok (.iload_n 3, 1) := by decide +kernel
theorem dX11_handBack_48 : decode cX11_handBack 48 = .ok (.bipush 7, 2) := by decide +kernel
theorem dX11_handBack_50 : decode cX11_handBack 50 = .ok (.iadd, 1) := by decide +kernel
theorem dX11_handBack_51 : decode cX11_handBack 51 = .ok (.dup2, 1) := by decide +kernel
theorem dX11_handBack_52 : decode cX11_handBack 52 = .ok (.iaload, 1) := by decide +kernel
theorem dX11_handBack_53 : decode cX11_handBack 53 = .ok (.iload_n 2, 1) := by decide +kernel
theorem dX11_handBack_54 : decode cX11_handBack 54 = .ok (.isub, 1) := by decide +kernel
theorem dX11_handBack_55 : decode cX11_handBack 55 = .ok (.iastore, 1) := by decide +kernel
theorem dX11_handBack_56 : decode cX11_handBack 56 = .ok (.aload_n 0, 1) := by decide +kernel
