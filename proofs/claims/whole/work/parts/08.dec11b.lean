theorem dX11_handBack_57 : decode cX11_handBack 57 = .ok (.getfield 72, 3) := by decide +kernel
theorem dX11_handBack_60 : decode cX11_handBack 60 = .ok (.iload_n 3, 1) := by decide +kernel
theorem dX11_handBack_61 : decode cX11_handBack 61 = .ok (.bipush 9, 2) := by decide +kernel
theorem dX11_handBack_63 : decode cX11_handBack 63 = .ok (.iadd, 1) := by decide +kernel
theorem dX11_handBack_64 : decode cX11_handBack 64 = .ok (.dup2, 1) := by decide +kernel
theorem dX11_handBack_65 : decode cX11_handBack 65 = .ok (.iaload, 1) := by decide +kernel
theorem dX11_handBack_66 : decode cX11_handBack 66 = .ok (.iload_n 2, 1) := by decide +kernel
theorem dX11_handBack_67 : decode cX11_handBack 67 = .ok (.iadd, 1) := by decide +kernel
theorem dX11_handBack_68 : decode cX11_handBack 68 = .ok (.iastore, 1) := by decide +kernel
theorem dX11_handBack_69 : decode cX11_handBack 69 = .ok (.aload_n 0, 1) := by decide +kernel
theorem dX11_handBack_70 : decode cX11_handBack 70 = .ok (.getfield 72, 3) := by decide +kernel
theorem dX11_handBack_73 : decode cX11_handBack 73 = .ok (.iload_n 3, 1) := by decide +kernel
theorem dX11_handBack_74 : decode cX11_handBack 74 = .ok (.bipush 9, 2) := by decide +kernel
theorem dX11_handBack_76 : decode cX11_handBack 76 = .ok (.iadd, 1) := by decide +kernel
theorem dX11_handBack_77 : decode cX11_handBack 77 = .ok (.iaload, 1) := by decide +kernel
theorem dX11_handBack_78 : decode cX11_handBack 78 = .ok (.aload_n 0, 1) := by decide +kernel
theorem dX11_handBack_79 : decode cX11_handBack 79 = .ok (.getfield 72, 3) := by decide +kernel
theorem dX11_handBack_82 : decode cX11_handBack 82 = .ok (.iconst 1, 1) := by decide +kernel
theorem dX11_handBack_83 : decode cX11_handBack 83 = .ok (.iaload, 1) := by decide +kernel
theorem dX11_handBack_84 : decode cX11_handBack 84 = .ok (.idiv, 1) := by decide +kernel
theorem dX11_handBack_85 : decode cX11_handBack 85 = .ok (.aload_n 0, 1) := by decide +kernel
theorem dX11_handBack_86 : decode cX11_handBack 86 = .ok (.getfield 72, 3) := by decide +kernel
theorem dX11_handBack_89 : decode cX11_handBack 89 = .ok (.iload_n 3, 1) := by decide +kernel
theorem dX11_handBack_90 : decode cX11_handBack 90 = .ok (.bipush 10, 2) := by decide +kernel
theorem dX11_handBack_92 : decode cX11_handBack 92 = .ok (.iadd, 1) := by decide +kernel
theorem dX11_handBack_93 : decode cX11_handBack 93 = .ok (.iaload, 1) := by decide +kernel
theorem dX11_handBack_94 : decode cX11_handBack 94 = .ok (.isub, 1) := by decide +kernel
theorem dX11_handBack_95 : decode cX11_handBack 95 = .ok (.istore 4, 2) := by decide +kernel
theorem dX11_handBack_97 : decode cX11_handBack 97 = .ok (.aload_n 0, 1) := by decide +kernel
theorem dX11_handBack_98 : decode cX11_handBack 98 = .ok (.getfield 72, 3) := by decide +kernel
theorem dX11_handBack_101 : decode cX11_handBack 101 = .ok (.iload_n 3, 1) := by decide +kernel
theorem dX11_handBack_102 : decode cX11_handBack 102 = .ok (.bipush 10, 2) := by decide +kernel
theorem dX11_handBack_104 : decode cX11_handBack 104 = .ok (.iadd, 1) := by decide +kernel
theorem dX11_handBack_105 : decode cX11_handBack 105 = .ok (.dup2, 1) := by decide +kernel
theorem dX11_handBack_106 : decode cX11_handBack 106 = .ok (.iaload, 1) := by decide +kernel
theorem dX11_handBack_107 : decode cX11_handBack 107 = .ok (.iload 4, 2) := by decide +kernel
theorem dX11_handBack_109 : decode cX11_handBack 109 = .ok (.iadd, 1) := by decide +kernel
theorem dX11_handBack_110 : decode cX11_handBack 110 = .ok (.iastore, 1) := by decide +kernel
theorem dX11_handBack_111 : decode cX11_handBack 111 = .ok (.iload 4, 2) := by decide +kernel
theorem dX11_handBack_113 : decode cX11_handBack 113 = .ok (.ireturn, 1) := by decide +kernel
theorem dX11_has_0 : decode cX11_has 0 = .ok (.iload_n 0, 1) := by decide +kernel
theorem dX11_has_1 : decode cX11_has 1 = .ok (.iload_n 1, 1) := by decide +kernel
theorem dX11_has_2 : decode cX11_has 2 = .ok (.ishr, 1) := by decide +kernel
theorem dX11_has_3 : decode cX11_has 3 = .ok (.iconst 1, 1) := by decide +kernel
theorem dX11_has_4 : decode cX11_has 4 = .ok (.iand, 1) := by decide +kernel
theorem dX11_has_5 : decode cX11_has 5 = .ok (.iconst 1, 1) := by decide +kernel
theorem dX11_has_6 : decode cX11_has 6 = .ok (.if_icmp .ne 7, 3) := by decide +kernel
theorem dX11_has_9 : decode cX11_has 9 = .ok (.iconst 1, 1) := by decide +kernel
theorem dX11_has_10 : decode cX11_has 10 = .ok (.goto 4, 3) := by decide +kernel
theorem dX11_has_13 : decode cX11_has 13 = .ok (.iconst 0, 1) := by decide +kernel
theorem dX11_has_14 : decode cX11_has 14 = .ok (.ireturn, 1) := by decide +kernel
theorem dX11_having_0 : decode cX11_having 0 = .ok (.iconst 0, 1) := by decide +kernel
theorem dX11_having_1 : decode cX11_having 1 = .ok (.istore_n 2, 1) := by decide +kernel
theorem dX11_having_2 : decode cX11_having 2 = .ok (.iconst 0, 1) := by decide +kernel
theorem dX11_having_3 : decode cX11_having 3 = .ok (.istore_n 3, 1) := by decide +kernel
theorem dX11_having_4 : decode cX11_having 4 = .ok (.iload_n 3, 1) := by decide +kernel
theorem dX11_having_5 : decode cX11_having 5 = .ok (.aload_n 0, 1) := by decide +kernel
theorem dX11_having_6 : decode cX11_having 6 = .ok (.getfield 72, 3) := by decide +kernel
theorem dX11_having_9 : decode cX11_having 9 = .ok (.iconst 5, 1) := by decide +kernel
theorem dX11_having_10 : decode cX11_having 10 = .ok (.iaload, 1) := by decide +kernel
theorem dX11_having_11 : decode cX11_having 11 = .ok (.if_icmp .ge 22, 3) := by decide +kernel
theorem dX11_having_14 : decode cX11_having 14 = .ok (.aload_n 0, 1) := by decide +kernel
theorem dX11_having_15 : decode cX11_having 15 = .ok (.iload_n 3, 1) := by decide +kernel
theorem dX11_having_16 : decode cX11_having 16 = .ok (.iconst 2, 1) := by decide +kernel
theorem dX11_having_17 : decode cX11_having 17 = .ok (.invokevirtual 160, 3) := by decide +kernel
theorem dX11_having_20 : decode cX11_having 20 = .ok (.iload_n 1, 1) := by decide +kernel
theorem dX11_having_21 : decode cX11_having 21 = .ok (.if_icmp .ne 6, 3) := by decide +kernel
theorem dX11_having_24 : decode cX11_having 24 = .ok (.iinc 2 1, 3) := by decide +kernel
theorem dX11_having_27 : decode cX11_having 27 = .ok (.iinc 3 1, 3) := by decide +kernel
theorem dX11_having_30 : decode cX11_having 30 = .ok (.goto (-26), 3) := by decide +kernel
theorem dX11_having_33 : decode cX11_having 33 = .ok (.iload_n 2, 1) := by decide +kernel
theorem dX11_having_34 : decode cX11_having 34 = .ok (.ireturn, 1) := by decide +kernel
theorem dX11_home_0 : decode cX11_home 0 = .ok (.aload_n 0, 1) := by decide +kernel
theorem dX11_home_1 : decode cX11_home 1 = .ok (.iconst 0, 1) := by decide +kernel
theorem dX11_home_2 : decode cX11_home 2 = .ok (.putfield 1, 3) := by decide +kernel
theorem dX11_home_5 : decode cX11_home 5 = .ok (.aload_n 0, 1) := by decide +kernel
theorem dX11_home_6 : decode cX11_home 6 = .ok (.iload_n 1, 1) := by decide +kernel
theorem dX11_home_7 : decode cX11_home 7 = .ok (.invokevirtual 195, 3) := by decide +kernel
theorem dX11_home_10 : decode cX11_home 10 = .ok (.ifCond .eq 11, 3) := by decide +kernel
theorem dX11_home_13 : decode cX11_home 13 = .ok (.aload_n 0, 1) := by decide +kernel
theorem dX11_home_14 : decode cX11_home 14 = .ok (.iload_n 1, 1) := by decide +kernel
theorem dX11_home_15 : decode cX11_home 15 = .ok (.invokevirtual 201, 3) := by decide +kernel
theorem dX11_home_18 : decode cX11_home 18 = .ok (.goto 4, 3) := by decide +kernel
theorem dX11_home_21 : decode cX11_home 21 = .ok (.iconst (-1), 1) := by decide +kernel
theorem dX11_home_22 : decode cX11_home 22 = .ok (.istore_n 2, 1) := by decide +kernel
theorem dX11_home_23 : decode cX11_home 23 = .ok (.iload_n 2, 1) := by decide +kernel
theorem dX11_home_24 : decode cX11_home 24 = .ok (.iconst (-1), 1) := by decide +kernel
theorem dX11_home_25 : decode cX11_home 25 = .ok (.if_icmp .eq 13, 3) := by decide +kernel
theorem dX11_home_28 : decode cX11_home 28 = .ok (.aload_n 0, 1) := by decide +kernel
theorem dX11_home_29 : decode cX11_home 29 = .ok (.iload_n 2, 1) := by decide +kernel
theorem dX11_home_30 : decode cX11_home 30 = .ok (.iconst 2, 1) := by decide +kernel
theorem dX11_home_31 : decode cX11_home 31 = .ok (.invokevirtual 160, 3) := by decide +kernel
theorem dX11_home_34 : decode cX11_home 34 = .ok (.iconst 1, 1) := by decide +kernel
theorem dX11_home_35 : decode cX11_home 35 = .ok (.if_icmp .eq 8, 3) := by decide +kernel
theorem dX11_home_38 : decode cX11_home 38 = .ok (.aload_n 0, 1) := by decide +kernel
theorem dX11_home_39 : decode cX11_home 39 = .ok (.invokevirtual 198, 3) := by decide +kernel
theorem dX11_home_42 : decode cX11_home 42 = .ok (.ireturn, 1) := by decide +kernel
theorem dX11_home_43 : decode cX11_home 43 = .ok (.aload_n 0, 1) := by decide +kernel
theorem dX11_home_44 : decode cX11_home 44 = .ok (.invokevirtual 259, 3) := by decide +kernel
theorem dX11_home_47 : decode cX11_home 47 = .ok (.aload_n 0, 1) := by decide +kernel
theorem dX11_home_48 : decode cX11_home 48 = .ok (.getfield 72, 3) := by decide +kernel
theorem dX11_home_51 : decode cX11_home 51 = .ok (.bipush 6, 2) := by decide +kernel
theorem dX11_home_53 : decode cX11_home 53 = .ok (.iaload, 1) := by decide +kernel
theorem dX11_home_54 : decode cX11_home 54 = .ok (.aload_n 0, 1) := by decide +kernel
theorem dX11_home_55 : decode cX11_home 55 = .ok (.iload_n 2, 1) := by decide +kernel
theorem dX11_home_56 : decode cX11_home 56 = .ok (.iconst 4, 1) := by decide +kernel
theorem dX11_home_57 : decode cX11_home 57 = .ok (.invokevirtual 160, 3) := by decide +kernel
theorem dX11_home_60 : decode cX11_home 60 = .ok (.isub, 1) := by decide +kernel
theorem dX11_home_61 : decode cX11_home 61 = .ok (.istore_n 3, 1) := by decide +kernel
theorem dX11_home_62 : decode cX11_home 62 = .ok (.aload_n 0, 1) := by decide +kernel
theorem dX11_home_63 : decode cX11_home 63 = .ok (.iload_n 2, 1) := by decide +kernel
theorem dX11_home_64 : decode cX11_home 64 = .ok (.iconst 3, 1) := by decide +kernel
theorem dX11_home_65 : decode cX11_home 65 = .ok (.invokevirtual 160, 3) := by decide +kernel
theorem dX11_home_68 : decode cX11_home 68 = .ok (.istore 4, 2) := by decide +kernel
theorem dX11_home_70 : decode cX11_home 70 = .ok (.iload_n 3, 1) := by decide +kernel
theorem dX11_home_71 : decode cX11_home 71 = .ok (.aload_n 0, 1) := by decide +kernel
theorem dX11_home_72 : decode cX11_home 72 = .ok (.iload 4, 2) := by decide +kernel
theorem dX11_home_74 : decode cX11_home 74 = .ok (.iconst 5, 1) := by decide +kernel
theorem dX11_home_75 : decode cX11_home 75 = .ok (.invokevirtual 167, 3) := by decide +kernel
theorem dX11_home_78 : decode cX11_home 78 = .ok (.if_icmp .le 7, 3) := by decide +kernel
theorem dX11_home_81 : decode cX11_home 81 = .ok (.iconst 1, 1) := by decide +kernel
theorem dX11_home_82 : decode cX11_home 82 = .ok (.goto 4, 3) := by decide +kernel
theorem dX11_home_85 : decode cX11_home 85 = .ok (.iconst 0, 1) := by decide +kernel
theorem dX11_home_86 : decode cX11_home 86 = .ok (.istore 5, 2) := by decide +kernel
theorem dX11_home_88 : decode cX11_home 88 = .ok (.aload_n 0, 1) := by decide +kernel
theorem dX11_home_89 : decode cX11_home 89 = .ok (.getfield 72, 3) := by decide +kernel
theorem dX11_home_92 : decode cX11_home 92 = .ok (.bipush 111, 2) := by decide +kernel
theorem dX11_home_94 : decode cX11_home 94 = .ok (.bipush 13, 2) := by decide +kernel
theorem dX11_home_96 : decode cX11_home 96 = .ok (.iload_n 2, 1) := by decide +kernel
theorem dX11_home_97 : decode cX11_home 97 = .ok (.imul, 1) := by decide +kernel
theorem dX11_home_98 : decode cX11_home 98 = .ok (.iadd, 1) := by decide +kernel
theorem dX11_home_99 : decode cX11_home 99 = .ok (.iconst 2, 1) := by decide +kernel
theorem dX11_home_100 : decode cX11_home 100 = .ok (.iadd, 1) := by decide +kernel
theorem dX11_home_101 : decode cX11_home 101 = .ok (.iconst 2, 1) := by decide +kernel
theorem dX11_home_102 : decode cX11_home 102 = .ok (.iastore, 1) := by decide +kernel
theorem dX11_home_103 : decode cX11_home 103 = .ok (.aload_n 0, 1) := by decide +kernel
theorem dX11_home_104 : decode cX11_home 104 = .ok (.getfield 72, 3) := by decide +kernel
theorem dX11_home_107 : decode cX11_home 107 = .ok (.bipush 111, 2) := by decide +kernel
theorem dX11_home_109 : decode cX11_home 109 = .ok (.bipush 13, 2) := by decide +kernel
theorem dX11_home_111 : decode cX11_home 111 = .ok (.iload_n 2, 1) := by decide +kernel
theorem dX11_home_112 : decode cX11_home 112 = .ok (.imul, 1) := by decide +kernel
theorem dX11_home_113 : decode cX11_home 113 = .ok (.iadd, 1) := by decide +kernel
theorem dX11_home_114 : decode cX11_home 114 = .ok (.iconst 5, 1) := by decide +kernel
theorem dX11_home_115 : decode cX11_home 115 = .ok (.iadd, 1) := by decide +kernel
theorem dX11_home_116 : decode cX11_home 116 = .ok (.aload_n 0, 1) := by decide +kernel
theorem dX11_home_117 : decode cX11_home 117 = .ok (.getfield 72, 3) := by decide +kernel
theorem dX11_home_120 : decode cX11_home 120 = .ok (.bipush 6, 2) := by decide +kernel
theorem dX11_home_122 : decode cX11_home 122 = .ok (.iaload, 1) := by decide +kernel
theorem dX11_home_123 : decode cX11_home 123 = .ok (.iastore, 1) := by decide +kernel
theorem dX11_home_124 : decode cX11_home 124 = .ok (.aload_n 0, 1) := by decide +kernel
theorem dX11_home_125 : decode cX11_home 125 = .ok (.getfield 72, 3) := by decide +kernel
theorem dX11_home_128 : decode cX11_home 128 = .ok (.bipush 111, 2) := by decide +kernel
theorem dX11_home_130 : decode cX11_home 130 = .ok (.bipush 13, 2) := by decide +kernel
theorem dX11_home_132 : decode cX11_home 132 = .ok (.iload_n 2, 1) := by decide +kernel
theorem dX11_home_133 : decode cX11_home 133 = .ok (.imul, 1) := by decide +kernel
theorem dX11_home_134 : decode cX11_home 134 = .ok (.iadd, 1) := by decide +kernel
theorem dX11_home_135 : decode cX11_home 135 = .ok (.bipush 6, 2) := by decide +kernel
theorem dX11_home_137 : decode cX11_home 137 = .ok (.iadd, 1) := by decide +kernel
theorem dX11_home_138 : decode cX11_home 138 = .ok (.iload 5, 2) := by decide +kernel
theorem dX11_home_140 : decode cX11_home 140 = .ok (.ifCond .eq 7, 3) := by decide +kernel
theorem dX11_home_143 : decode cX11_home 143 = .ok (.iconst 1, 1) := by decide +kernel
theorem dX11_home_144 : decode cX11_home 144 = .ok (.goto 4, 3) := by decide +kernel
theorem dX11_home_147 : decode cX11_home 147 = .ok (.iconst 0, 1) := by decide +kernel
theorem dX11_home_148 : decode cX11_home 148 = .ok (.iastore, 1) := by decide +kernel
theorem dX11_home_149 : decode cX11_home 149 = .ok (.iload 5, 2) := by decide +kernel
theorem dX11_home_151 : decode cX11_home 151 = .ok (.ifCond .eq 20, 3) := by decide +kernel
theorem dX11_home_154 : decode cX11_home 154 = .ok (.aload_n 0, 1) := by decide +kernel
theorem dX11_home_155 : decode cX11_home 155 = .ok (.getfield 72, 3) := by decide +kernel
theorem dX11_home_158 : decode cX11_home 158 = .ok (.bipush 79, 2) := by decide +kernel
theorem dX11_home_160 : decode cX11_home 160 = .ok (.iconst 3, 1) := by decide +kernel
theorem dX11_home_161 : decode cX11_home 161 = .ok (.iload_n 1, 1) := by decide +kernel
theorem dX11_home_162 : decode cX11_home 162 = .ok (.imul, 1) := by decide +kernel
theorem dX11_home_163 : decode cX11_home 163 = .ok (.iadd, 1) := by decide +kernel
theorem dX11_home_164 : decode cX11_home 164 = .ok (.iconst 2, 1) := by decide +kernel
theorem dX11_home_165 : decode cX11_home 165 = .ok (.iadd, 1) := by decide +kernel
theorem dX11_home_166 : decode cX11_home 166 = .ok (.dup2, 1) := by decide +kernel
theorem dX11_home_167 : decode cX11_home 167 = .ok (.iaload, 1) := by decide +kernel
theorem dX11_home_168 : decode cX11_home 168 = .ok (.iconst 1, 1) := by decide +kernel
theorem dX11_home_169 : decode cX11_home 169 = .ok (.iadd, 1) := by decide +kernel
theorem dX11_home_170 : decode cX11_home 170 = .ok (.iastore, 1) := by decide +kernel
theorem dX11_home_171 : decode cX11_home 171 = .ok (.aload_n 0, 1) := by decide +kernel
theorem dX11_home_172 : decode cX11_home 172 = .ok (.iload 4, 2) := by decide +kernel
theorem dX11_home_174 : decode cX11_home 174 = .ok (.iconst 0, 1) := by decide +kernel
theorem dX11_home_175 : decode cX11_home 175 = .ok (.invokevirtual 167, 3) := by decide +kernel
theorem dX11_home_178 : decode cX11_home 178 = .ok (.ifCond .ne 33, 3) := by decide +kernel
theorem dX11_home_181 : decode cX11_home 181 = .ok (.aload_n 0, 1) := by decide +kernel
theorem dX11_home_182 : decode cX11_home 182 = .ok (.getfield 72, 3) := by decide +kernel
theorem dX11_home_185 : decode cX11_home 185 = .ok (.bipush 7, 2) := by decide +kernel
theorem dX11_home_187 : decode cX11_home 187 = .ok (.bipush 12, 2) := by decide +kernel
theorem dX11_home_189 : decode cX11_home 189 = .ok (.iload 4, 2) := by decide +kernel
theorem dX11_home_191 : decode cX11_home 191 = .ok (.imul, 1) := by decide +kernel
theorem dX11_home_192 : decode cX11_home 192 = .ok (.iadd, 1) := by decide +kernel
theorem dX11_home_193 : decode cX11_home 193 = .ok (.iload 5, 2) := by decide +kernel
theorem dX11_home_195 : decode cX11_home 195 = .ok (.ifCond .eq 8, 3) := by decide +kernel
theorem dX11_home_198 : decode cX11_home 198 = .ok (.bipush 8, 2) := by decide +kernel
theorem dX11_home_200 : decode cX11_home 200 = .ok (.goto 5, 3) := by decide +kernel
theorem dX11_home_203 : decode cX11_home 203 = .ok (.bipush 7, 2) := by decide +kernel
theorem dX11_home_205 : decode cX11_home 205 = .ok (.iadd, 1) := by decide +kernel
theorem dX11_home_206 : decode cX11_home 206 = .ok (.dup2, 1) := by decide +kernel
theorem dX11_home_207 : decode cX11_home 207 = .ok (.iaload, 1) := by decide +kernel
theorem dX11_home_208 : decode cX11_home 208 = .ok (.iconst 1, 1) := by decide +kernel
theorem dX11_home_209 : decode cX11_home 209 = .ok (.iadd, 1) := by decide +kernel
theorem dX11_home_210 : decode cX11_home 210 = .ok (.iastore, 1) := by decide +kernel
theorem dX11_home_211 : decode cX11_home 211 = .ok (.iload_n 3, 1) := by decide +kernel
theorem dX11_home_212 : decode cX11_home 212 = .ok (.ireturn, 1) := by decide +kernel
theorem dX11_isAsGood_0 : decode cX11_isAsGood 0 = .ok (.iload_n 2, 1) := by decide +kernel
theorem dX11_isAsGood_1 : decode cX11_isAsGood 1 = .ok (.iconst (-1), 1) := by decide +kernel
theorem dX11_isAsGood_2 : decode cX11_isAsGood 2 = .ok (.if_icmp .eq 23, 3) := by decide +kernel
theorem dX11_isAsGood_5 : decode cX11_isAsGood 5 = .ok (.aload_n 0, 1) := by decide +kernel
theorem dX11_isAsGood_6 : decode cX11_isAsGood 6 = .ok (.iload_n 2, 1) := by decide +kernel
theorem dX11_isAsGood_7 : decode cX11_isAsGood 7 = .ok (.iload_n 1, 1) := by decide +kernel
theorem dX11_isAsGood_8 : decode cX11_isAsGood 8 = .ok (.invokevirtual 213, 3) := by decide +kernel
theorem dX11_isAsGood_11 : decode cX11_isAsGood 11 = .ok (.ifCond .eq 12, 3) := by decide +kernel
theorem dX11_isAsGood_14 : decode cX11_isAsGood 14 = .ok (.aload_n 0, 1) := by decide +kernel
theorem dX11_isAsGood_15 : decode cX11_isAsGood 15 = .ok (.getfield 81, 3) := by decide +kernel
theorem dX11_isAsGood_18 : decode cX11_isAsGood 18 = .ok (.iload_n 2, 1) := by decide +kernel
theorem dX11_isAsGood_19 : decode cX11_isAsGood 19 = .ok (.iaload, 1) := by decide +kernel
theorem dX11_isAsGood_20 : decode cX11_isAsGood 20 = .ok (.ifCond .gt 5, 3) := by decide +kernel
theorem dX11_isAsGood_23 : decode cX11_isAsGood 23 = .ok (.iconst 0, 1) := by decide +kernel
theorem dX11_isAsGood_24 : decode cX11_isAsGood 24 = .ok (.ireturn, 1) := by decide +kernel
theorem dX11_isAsGood_25 : decode cX11_isAsGood 25 = .ok (.aload_n 0, 1) := by decide +kernel
theorem dX11_isAsGood_26 : decode cX11_isAsGood 26 = .ok (.getfield 96, 3) := by decide +kernel
theorem dX11_isAsGood_29 : decode cX11_isAsGood 29 = .ok (.iload_n 1, 1) := by decide +kernel
theorem dX11_isAsGood_30 : decode cX11_isAsGood 30 = .ok (.iconst 1, 1) := by decide +kernel
theorem dX11_isAsGood_31 : decode cX11_isAsGood 31 = .ok (.bastore, 1) := by decide +kernel
theorem dX11_isAsGood_32 : decode cX11_isAsGood 32 = .ok (.aload_n 0, 1) := by decide +kernel
theorem dX11_isAsGood_33 : decode cX11_isAsGood 33 = .ok (.getfield 87, 3) := by decide +kernel
theorem dX11_isAsGood_36 : decode cX11_isAsGood 36 = .ok (.iload_n 1, 1) := by decide +kernel
theorem dX11_isAsGood_37 : decode cX11_isAsGood 37 = .ok (.iload_n 2, 1) := by decide +kernel
theorem dX11_isAsGood_38 : decode cX11_isAsGood 38 = .ok (.iastore, 1) := by decide +kernel
theorem dX11_isAsGood_39 : decode cX11_isAsGood 39 = .ok (.aload_n 0, 1) := by decide +kernel
theorem dX11_isAsGood_40 : decode cX11_isAsGood 40 = .ok (.invokevirtual 231, 3) := by decide +kernel
theorem dX11_isAsGood_43 : decode cX11_isAsGood 43 = .ok (.iconst 0, 1) := by decide +kernel
theorem dX11_isAsGood_44 : decode cX11_isAsGood 44 = .ok (.istore 5, 2) := by decide +kernel
theorem dX11_isAsGood_46 : decode cX11_isAsGood 46 = .ok (.iload 5, 2) := by decide +kernel
theorem dX11_isAsGood_48 : decode cX11_isAsGood 48 = .ok (.bipush 6, 2) := by decide +kernel
theorem dX11_isAsGood_50 : decode cX11_isAsGood 50 = .ok (.if_icmp .ge 28, 3) := by decide +kernel
theorem dX11_isAsGood_53 : decode cX11_isAsGood 53 = .ok (.aload_n 0, 1) := by decide +kernel
theorem dX11_isAsGood_54 : decode cX11_isAsGood 54 = .ok (.getfield 84, 3) := by decide +kernel
theorem dX11_isAsGood_57 : decode cX11_isAsGood 57 = .ok (.iload 5, 2) := by decide +kernel
theorem dX11_isAsGood_59 : decode cX11_isAsGood 59 = .ok (.iaload, 1) := by decide +kernel
theorem dX11_isAsGood_60 : decode cX11_isAsGood 60 = .ok (.aload_n 0, 1) := by decide +kernel
theorem dX11_isAsGood_61 : decode cX11_isAsGood 61 = .ok (.getfield 81, 3) := by decide +kernel
theorem dX11_isAsGood_64 : decode cX11_isAsGood 64 = .ok (.iload 5, 2) := by decide +kernel
theorem dX11_isAsGood_66 : decode cX11_isAsGood 66 = .ok (.iaload, 1) := by decide +kernel
theorem dX11_isAsGood_67 : decode cX11_isAsGood 67 = .ok (.if_icmp .le 5, 3) := by decide +kernel
theorem dX11_isAsGood_70 : decode cX11_isAsGood 70 = .ok (.iconst 0, 1) := by decide +kernel
theorem dX11_isAsGood_71 : decode cX11_isAsGood 71 = .ok (.ireturn, 1) := by decide +kernel
theorem dX11_isAsGood_72 : decode cX11_isAsGood 72 = .ok (.iinc 5 1, 3) := by decide +kernel
theorem dX11_isAsGood_75 : decode cX11_isAsGood 75 = .ok (.goto (-29), 3) := by decide +kernel
theorem dX11_isAsGood_78 : decode cX11_isAsGood 78 = .ok (.aload_n 0, 1) := by decide +kernel
theorem dX11_isAsGood_79 : decode cX11_isAsGood 79 = .ok (.getfield 225, 3) := by decide +kernel
theorem dX11_isAsGood_82 : decode cX11_isAsGood 82 = .ok (.iload_n 3, 1) := by decide +kernel
theorem dX11_isAsGood_83 : decode cX11_isAsGood 83 = .ok (.if_icmp .ne 16, 3) := by decide +kernel
theorem dX11_isAsGood_86 : decode cX11_isAsGood 86 = .ok (.aload_n 0, 1) := by decide +kernel
theorem dX11_isAsGood_87 : decode cX11_isAsGood 87 = .ok (.getfield 228, 3) := by decide +kernel
theorem dX11_isAsGood_90 : decode cX11_isAsGood 90 = .ok (.iload 4, 2) := by decide +kernel
theorem dX11_isAsGood_92 : decode cX11_isAsGood 92 = .ok (.if_icmp .ne 7, 3) := by decide +kernel
theorem dX11_isAsGood_95 : decode cX11_isAsGood 95 = .ok (.iconst 1, 1) := by decide +kernel
theorem dX11_isAsGood_96 : decode cX11_isAsGood 96 = .ok (.goto 4, 3) := by decide +kernel
theorem dX11_isAsGood_99 : decode cX11_isAsGood 99 = .ok (.iconst 0, 1) := by decide +kernel
theorem dX11_isAsGood_100 : decode cX11_isAsGood 100 = .ok (.ireturn, 1) := by decide +kernel
theorem dX11_isDigit_0 : decode cX11_isDigit 0 = .ok (.iload_n 0, 1) := by decide +kernel
theorem dX11_isDigit_1 : decode cX11_isDigit 1 = .ok (.bipush 48, 2) := by decide +kernel
theorem dX11_isDigit_3 : decode cX11_isDigit 3 = .ok (.if_icmp .lt 13, 3) := by decide +kernel
theorem dX11_isDigit_6 : decode cX11_isDigit 6 = .ok (.iload_n 0, 1) := by decide +kernel
theorem dX11_isDigit_7 : decode cX11_isDigit 7 = .ok (.bipush 57, 2) := by decide +kernel
theorem dX11_isDigit_9 : decode cX11_isDigit 9 = .ok (.if_icmp .gt 7, 3) := by decide +kernel
theorem dX11_isDigit_12 : decode cX11_isDigit 12 = .ok (.iconst 1, 1) := by decide +kernel
theorem dX11_isDigit_13 : decode cX11_isDigit 13 = .ok (.goto 4, 3) := by decide +kernel
theorem dX11_isDigit_16 : decode cX11_isDigit 16 = .ok (.iconst 0, 1) := by decide +kernel
theorem dX11_isDigit_17 : decode cX11_isDigit 17 = .ok (.ireturn, 1) := by decide +kernel
theorem dX11_isFit_0 : decode cX11_isFit 0 = .ok (.aload_n 0, 1) := by decide +kernel
theorem dX11_isFit_1 : decode cX11_isFit 1 = .ok (.iload_n 2, 1) := by decide +kernel
theorem dX11_isFit_2 : decode cX11_isFit 2 = .ok (.invokevirtual 210, 3) := by decide +kernel
theorem dX11_isFit_5 : decode cX11_isFit 5 = .ok (.iconst 1, 1) := by decide +kernel
theorem dX11_isFit_6 : decode cX11_isFit 6 = .ok (.aload_n 0, 1) := by decide +kernel
theorem dX11_isFit_7 : decode cX11_isFit 7 = .ok (.iload_n 2, 1) := by decide +kernel
theorem dX11_isFit_8 : decode cX11_isFit 8 = .ok (.bipush 7, 2) := by decide +kernel
theorem dX11_isFit_10 : decode cX11_isFit 10 = .ok (.invokevirtual 160, 3) := by decide +kernel
theorem dX11_isFit_13 : decode cX11_isFit 13 = .ok (.ishl, 1) := by decide +kernel
theorem dX11_isFit_14 : decode cX11_isFit 14 = .ok (.iconst (-1), 1) := by decide +kernel
theorem dX11_isFit_15 : decode cX11_isFit 15 = .ok (.ixor, 1) := by decide +kernel
theorem dX11_isFit_16 : decode cX11_isFit 16 = .ok (.iand, 1) := by decide +kernel
theorem dX11_isFit_17 : decode cX11_isFit 17 = .ok (.istore_n 3, 1) := by decide +kernel
theorem dX11_isFit_18 : decode cX11_isFit 18 = .ok (.iload_n 3, 1) := by decide +kernel
theorem dX11_isFit_19 : decode cX11_isFit 19 = .ok (.aload_n 0, 1) := by decide +kernel
theorem dX11_isFit_20 : decode cX11_isFit 20 = .ok (.iload_n 1, 1) := by decide +kernel
theorem dX11_isFit_21 : decode cX11_isFit 21 = .ok (.bipush 6, 2) := by decide +kernel
theorem dX11_isFit_23 : decode cX11_isFit 23 = .ok (.invokevirtual 167, 3) := by decide +kernel
theorem dX11_isFit_26 : decode cX11_isFit 26 = .ok (.iconst (-1), 1) := by decide +kernel
theorem dX11_isFit_27 : decode cX11_isFit 27 = .ok (.ixor, 1) := by decide +kernel
theorem dX11_isFit_28 : decode cX11_isFit 28 = .ok (.iand, 1) := by decide +kernel
theorem dX11_isFit_29 : decode cX11_isFit 29 = .ok (.ifCond .ne 27, 3) := by decide +kernel
theorem dX11_isFit_32 : decode cX11_isFit 32 = .ok (.aload_n 0, 1) := by decide +kernel
theorem dX11_isFit_33 : decode cX11_isFit 33 = .ok (.aload_n 0, 1) := by decide +kernel
theorem dX11_isFit_34 : decode cX11_isFit 34 = .ok (.iload_n 2, 1) := by decide +kernel
theorem dX11_isFit_35 : decode cX11_isFit 35 = .ok (.iconst 0, 1) := by decide +kernel
theorem dX11_isFit_36 : decode cX11_isFit 36 = .ok (.invokevirtual 160, 3) := by decide +kernel
theorem dX11_isFit_39 : decode cX11_isFit 39 = .ok (.iconst 1, 1) := by decide +kernel
theorem dX11_isFit_40 : decode cX11_isFit 40 = .ok (.invokevirtual 176, 3) := by decide +kernel
theorem dX11_isFit_43 : decode cX11_isFit 43 = .ok (.aload_n 0, 1) := by decide +kernel
theorem dX11_isFit_44 : decode cX11_isFit 44 = .ok (.iload_n 1, 1) := by decide +kernel
theorem dX11_isFit_45 : decode cX11_isFit 45 = .ok (.iconst 2, 1) := by decide +kernel
theorem dX11_isFit_46 : decode cX11_isFit 46 = .ok (.invokevirtual 167, 3) := by decide +kernel
theorem dX11_isFit_49 : decode cX11_isFit 49 = .ok (.if_icmp .lt 7, 3) := by decide +kernel
theorem dX11_isFit_52 : decode cX11_isFit 52 = .ok (.iconst 1, 1) := by decide +kernel
theorem dX11_isFit_53 : decode cX11_isFit 53 = .ok (.goto 4, 3) := by decide +kernel
theorem dX11_isFit_56 : decode cX11_isFit 56 = .ok (.iconst 0, 1) := by decide +kernel
theorem dX11_isFit_57 : decode cX11_isFit 57 = .ok (.ireturn, 1) := by decide +kernel
theorem dX11_isIn_0 : decode cX11_isIn 0 = .ok (.iload_n 0, 1) := by decide +kernel
theorem dX11_isIn_1 : decode cX11_isIn 1 = .ok (.iload_n 1, 1) := by decide +kernel
theorem dX11_isIn_2 : decode cX11_isIn 2 = .ok (.if_icmp .lt 12, 3) := by decide +kernel
theorem dX11_isIn_5 : decode cX11_isIn 5 = .ok (.iload_n 0, 1) := by decide +kernel
theorem dX11_isIn_6 : decode cX11_isIn 6 = .ok (.iload_n 2, 1) := by decide +kernel
theorem dX11_isIn_7 : decode cX11_isIn 7 = .ok (.if_icmp .gt 7, 3) := by decide +kernel
theorem dX11_isIn_10 : decode cX11_isIn 10 = .ok (.iconst 1, 1) := by decide +kernel
theorem dX11_isIn_11 : decode cX11_isIn 11 = .ok (.goto 4, 3) := by decide +kernel
theorem dX11_isIn_14 : decode cX11_isIn 14 = .ok (.iconst 0, 1) := by decide +kernel
theorem dX11_isIn_15 : decode cX11_isIn 15 = .ok (.ireturn, 1) := by decide +kernel
theorem dX11_isLand_0 : decode cX11_isLand 0 = .ok (.iload_n 1, 1) := by decide +kernel
theorem dX11_isLand_1 : decode cX11_isLand 1 = .ok (.iconst 0, 1) := by decide +kernel
theorem dX11_isLand_2 : decode cX11_isLand 2 = .ok (.aload_n 0, 1) := by decide +kernel
theorem dX11_isLand_3 : decode cX11_isLand 3 = .ok (.getfield 72, 3) := by decide +kernel
theorem dX11_isLand_6 : decode cX11_isLand 6 = .ok (.iconst 0, 1) := by decide +kernel
theorem dX11_isLand_7 : decode cX11_isLand 7 = .ok (.iaload, 1) := by decide +kernel
theorem dX11_isLand_8 : decode cX11_isLand 8 = .ok (.iconst 1, 1) := by decide +kernel
theorem dX11_isLand_9 : decode cX11_isLand 9 = .ok (.isub, 1) := by decide +kernel
theorem dX11_isLand_10 : decode cX11_isLand 10 = .ok (.invokestatic 106, 3) := by decide +kernel
theorem dX11_isLand_13 : decode cX11_isLand 13 = .ok (.ireturn, 1) := by decide +kernel
theorem dX11_isLetter_0 : decode cX11_isLetter 0 = .ok (.iload_n 0, 1) := by decide +kernel
theorem dX11_isLetter_1 : decode cX11_isLetter 1 = .ok (.bipush 97, 2) := by decide +kernel
theorem dX11_isLetter_3 : decode cX11_isLetter 3 = .ok (.if_icmp .lt 13, 3) := by decide +kernel
theorem dX11_isLetter_6 : decode cX11_isLetter 6 = .ok (.iload_n 0, 1) := by decide +kernel
theorem dX11_isLetter_7 : decode cX11_isLetter 7 = .ok (.bipush 122, 2) := by decide +kernel
theorem dX11_isLetter_9 : decode cX11_isLetter 9 = .ok (.if_icmp .gt 7, 3) := by decide +kernel
theorem dX11_isLetter_12 : decode cX11_isLetter 12 = .ok (.iconst 1, 1) := by decide +kernel
theorem dX11_isLetter_13 : decode cX11_isLetter 13 = .ok (.goto 4, 3) := by decide +kernel
theorem dX11_isLetter_16 : decode cX11_isLetter 16 = .ok (.iconst 0, 1) := by decide +kernel
theorem dX11_isLetter_17 : decode cX11_isLetter 17 = .ok (.ireturn, 1) := by decide +kernel
theorem dX11_isLorry_0 : decode cX11_isLorry 0 = .ok (.iload_n 1, 1) := by decide +kernel
theorem dX11_isLorry_1 : decode cX11_isLorry 1 = .ok (.iconst 0, 1) := by decide +kernel
theorem dX11_isLorry_2 : decode cX11_isLorry 2 = .ok (.aload_n 0, 1) := by decide +kernel
theorem dX11_isLorry_3 : decode cX11_isLorry 3 = .ok (.getfield 72, 3) := by decide +kernel
theorem dX11_isLorry_6 : decode cX11_isLorry 6 = .ok (.iconst 4, 1) := by decide +kernel
theorem dX11_isLorry_7 : decode cX11_isLorry 7 = .ok (.iaload, 1) := by decide +kernel
theorem dX11_isLorry_8 : decode cX11_isLorry 8 = .ok (.iconst 1, 1) := by decide +kernel
theorem dX11_isLorry_9 : decode cX11_isLorry 9 = .ok (.isub, 1) := by decide +kernel
theorem dX11_isLorry_10 : decode cX11_isLorry 10 = .ok (.invokestatic 106, 3) := by decide +kernel
theorem dX11_isLorry_13 : decode cX11_isLorry 13 = .ok (.ireturn, 1) := by decide +kernel
theorem dX11_isOpen_0 : decode cX11_isOpen 0 = .ok (.aload_n 0, 1) := by decide +kernel
theorem dX11_isOpen_1 : decode cX11_isOpen 1 = .ok (.iload_n 1, 1) := by decide +kernel
theorem dX11_isOpen_2 : decode cX11_isOpen 2 = .ok (.iconst 2, 1) := by decide +kernel
theorem dX11_isOpen_3 : decode cX11_isOpen 3 = .ok (.invokevirtual 160, 3) := by decide +kernel
theorem dX11_isOpen_6 : decode cX11_isOpen 6 = .ok (.ifCond .ne 16, 3) := by decide +kernel
theorem dX11_isOpen_9 : decode cX11_isOpen 9 = .ok (.aload_n 0, 1) := by decide +kernel
theorem dX11_isOpen_10 : decode cX11_isOpen 10 = .ok (.getfield 96, 3) := by decide +kernel
theorem dX11_isOpen_13 : decode cX11_isOpen 13 = .ok (.iload_n 1, 1) := by decide +kernel
theorem dX11_isOpen_14 : decode cX11_isOpen 14 = .ok (.baload, 1) := by decide +kernel
theorem dX11_isOpen_15 : decode cX11_isOpen 15 = .ok (.ifCond .ne 7, 3) := by decide +kernel
theorem dX11_isOpen_18 : decode cX11_isOpen 18 = .ok (.iconst 1, 1) := by decide +kernel
theorem dX11_isOpen_19 : decode cX11_isOpen 19 = .ok (.goto 4, 3) := by decide +kernel
theorem dX11_isOpen_22 : decode cX11_isOpen 22 = .ok (.iconst 0, 1) := by decide +kernel
theorem dX11_isOpen_23 : decode cX11_isOpen 23 = .ok (.ireturn, 1) := by decide +kernel
theorem dX11_isTrip_0 : decode cX11_isTrip 0 = .ok (.iload_n 1, 1) := by decide +kernel
theorem dX11_isTrip_1 : decode cX11_isTrip 1 = .ok (.iconst 0, 1) := by decide +kernel
theorem dX11_isTrip_2 : decode cX11_isTrip 2 = .ok (.aload_n 0, 1) := by decide +kernel
theorem dX11_isTrip_3 : decode cX11_isTrip 3 = .ok (.getfield 72, 3) := by decide +kernel
theorem dX11_isTrip_6 : decode cX11_isTrip 6 = .ok (.iconst 5, 1) := by decide +kernel
theorem dX11_isTrip_7 : decode cX11_isTrip 7 = .ok (.iaload, 1) := by decide +kernel
theorem dX11_isTrip_8 : decode cX11_isTrip 8 = .ok (.iconst 1, 1) := by decide +kernel
theorem dX11_isTrip_9 : decode cX11_isTrip 9 = .ok (.isub, 1) := by decide +kernel
theorem dX11_isTrip_10 : decode cX11_isTrip 10 = .ok (.invokestatic 106, 3) := by decide +kernel
theorem dX11_isTrip_13 : decode cX11_isTrip 13 = .ok (.ireturn, 1) := by decide +kernel
theorem dX11_isType_0 : decode cX11_isType 0 = .ok (.iload_n 1, 1) := by decide +kernel
theorem dX11_isType_1 : decode cX11_isType 1 = .ok (.iconst 0, 1) := by decide +kernel
theorem dX11_isType_2 : decode cX11_isType 2 = .ok (.aload_n 0, 1) := by decide +kernel
theorem dX11_isType_3 : decode cX11_isType 3 = .ok (.getfield 72, 3) := by decide +kernel
theorem dX11_isType_6 : decode cX11_isType 6 = .ok (.iconst 3, 1) := by decide +kernel
theorem dX11_isType_7 : decode cX11_isType 7 = .ok (.iaload, 1) := by decide +kernel
theorem dX11_isType_8 : decode cX11_isType 8 = .ok (.iconst 1, 1) := by decide +kernel
theorem dX11_isType_9 : decode cX11_isType 9 = .ok (.isub, 1) := by decide +kernel
theorem dX11_isType_10 : decode cX11_isType 10 = .ok (.invokestatic 106, 3) := by decide +kernel
theorem dX11_isType_13 : decode cX11_isType 13 = .ok (.ireturn, 1) := by decide +kernel
theorem dX11_isWord_0 : decode cX11_isWord 0 = .ok (.aload_n 0, 1) := by decide +kernel
theorem dX11_isWord_1 : decode cX11_isWord 1 = .ok (.getfield 27, 3) := by decide +kernel
theorem dX11_isWord_4 : decode cX11_isWord 4 = .ok (.iconst 2, 1) := by decide +kernel
theorem dX11_isWord_5 : decode cX11_isWord 5 = .ok (.if_icmp .ne 16, 3) := by decide +kernel
theorem dX11_isWord_8 : decode cX11_isWord 8 = .ok (.aload_n 0, 1) := by decide +kernel
theorem dX11_isWord_9 : decode cX11_isWord 9 = .ok (.getfield 37, 3) := by decide +kernel
theorem dX11_isWord_12 : decode cX11_isWord 12 = .ok (.lload_n 1, 1) := by decide +kernel
theorem dX11_isWord_13 : decode cX11_isWord 13 = .ok (.lcmp, 1) := by decide +kernel
theorem dX11_isWord_14 : decode cX11_isWord 14 = .ok (.ifCond .ne 7, 3) := by decide +kernel
theorem dX11_isWord_17 : decode cX11_isWord 17 = .ok (.iconst 1, 1) := by decide +kernel
theorem dX11_isWord_18 : decode cX11_isWord 18 = .ok (.goto 4, 3) := by decide +kernel
theorem dX11_isWord_21 : decode cX11_isWord 21 = .ok (.iconst 0, 1) := by decide +kernel
theorem dX11_isWord_22 : decode cX11_isWord 22 = .ok (.ireturn, 1) := by decide +kernel
theorem dX11_its_0 : decode cX11_its 0 = .ok (.aload_n 0, 1) := by decide +kernel
theorem dX11_its_1 : decode cX11_its 1 = .ok (.getfield 72, 3) := by decide +kernel
theorem dX11_its_4 : decode cX11_its 4 = .ok (.bipush 111, 2) := by decide +kernel
theorem dX11_its_6 : decode cX11_its 6 = .ok (.bipush 13, 2) := by decide +kernel
theorem dX11_its_8 : decode cX11_its 8 = .ok (.iload_n 1, 1) := by decide +kernel
theorem dX11_its_9 : decode cX11_its 9 = .ok (.imul, 1) := by decide +kernel
theorem dX11_its_10 : decode cX11_its 10 = .ok (.iadd, 1) := by decide +kernel
theorem dX11_its_11 : decode cX11_its 11 = .ok (.iload_n 2, 1) := by decide +kernel
theorem dX11_its_12 : decode cX11_its 12 = .ok (.iadd, 1) := by decide +kernel
theorem dX11_its_13 : decode cX11_its 13 = .ok (.iaload, 1) := by decide +kernel
theorem dX11_its_14 : decode cX11_its 14 = .ok (.ireturn, 1) := by decide +kernel
theorem dX11_land_0 : decode cX11_land 0 = .ok (.aload_n 0, 1) := by decide +kernel
theorem dX11_land_1 : decode cX11_land 1 = .ok (.getfield 27, 3) := by decide +kernel
theorem dX11_land_4 : decode cX11_land 4 = .ok (.iconst 3, 1) := by decide +kernel
theorem dX11_land_5 : decode cX11_land 5 = .ok (.if_icmp .eq 9, 3) := by decide +kernel
theorem dX11_land_8 : decode cX11_land 8 = .ok (.aload_n 0, 1) := by decide +kernel
theorem dX11_land_9 : decode cX11_land 9 = .ok (.iconst 1, 1) := by decide +kernel
theorem dX11_land_10 : decode cX11_land 10 = .ok (.invokevirtual 103, 3) := by decide +kernel
theorem dX11_land_13 : decode cX11_land 13 = .ok (.ireturn, 1) := by decide +kernel
theorem dX11_land_14 : decode cX11_land 14 = .ok (.aload_n 0, 1) := by decide +kernel
theorem dX11_land_15 : decode cX11_land 15 = .ok (.getfield 41, 3) := by decide +kernel
theorem dX11_land_18 : decode cX11_land 18 = .ok (.aload_n 0, 1) := by decide +kernel
theorem dX11_land_19 : decode cX11_land 19 = .ok (.getfield 75, 3) := by decide +kernel
theorem dX11_land_22 : decode cX11_land 22 = .ok (.iconst 0, 1) := by decide +kernel
theorem dX11_land_23 : decode cX11_land 23 = .ok (.iaload, 1) := by decide +kernel
theorem dX11_land_24 : decode cX11_land 24 = .ok (.if_icmp .ge 14, 3) := by decide +kernel
theorem dX11_land_27 : decode cX11_land 27 = .ok (.iload_n 1, 1) := by decide +kernel
theorem dX11_land_28 : decode cX11_land 28 = .ok (.aload_n 0, 1) := by decide +kernel
theorem dX11_land_29 : decode cX11_land 29 = .ok (.getfield 41, 3) := by decide +kernel
theorem dX11_land_32 : decode cX11_land 32 = .ok (.invokestatic 113, 3) := by decide +kernel
theorem dX11_land_35 : decode cX11_land 35 = .ok (.ifCond .eq 9, 3) := by decide +kernel
theorem dX11_land_38 : decode cX11_land 38 = .ok (.aload_n 0, 1) := by decide +kernel
theorem dX11_land_39 : decode cX11_land 39 = .ok (.iconst 2, 1) := by decide +kernel
theorem dX11_land_40 : decode cX11_land 40 = .ok (.invokevirtual 103, 3) := by decide +kernel
theorem dX11_land_43 : decode cX11_land 43 = .ok (.ireturn, 1) := by decide +kernel
theorem dX11_land_44 : decode cX11_land 44 = .ok (.aload_n 0, 1) := by decide +kernel
theorem dX11_land_45 : decode cX11_land 45 = .ok (.aload_n 0, 1) := by decide +kernel
theorem dX11_land_46 : decode cX11_land 46 = .ok (.getfield 41, 3) := by decide +kernel
theorem dX11_land_49 : decode cX11_land 49 = .ok (.putfield 117, 3) := by decide +kernel
theorem dX11_land_52 : decode cX11_land 52 = .ok (.aload_n 0, 1) := by decide +kernel
theorem dX11_land_53 : decode cX11_land 53 = .ok (.invokevirtual 110, 3) := by decide +kernel
theorem dX11_land_56 : decode cX11_land 56 = .ok (.iconst 1, 1) := by decide +kernel
theorem dX11_land_57 : decode cX11_land 57 = .ok (.ireturn, 1) := by decide +kernel
theorem dX11_lawful_0 : decode cX11_lawful 0 = .ok (.aload_n 0, 1) := by decide +kernel
theorem dX11_lawful_1 : decode cX11_lawful 1 = .ok (.iconst 0, 1) := by decide +kernel
theorem dX11_lawful_2 : decode cX11_lawful 2 = .ok (.putfield 1, 3) := by decide +kernel
theorem dX11_lawful_5 : decode cX11_lawful 5 = .ok (.aload_n 0, 1) := by decide +kernel
theorem dX11_lawful_6 : decode cX11_lawful 6 = .ok (.iload_n 1, 1) := by decide +kernel
theorem dX11_lawful_7 : decode cX11_lawful 7 = .ok (.invokevirtual 195, 3) := by decide +kernel
theorem dX11_lawful_10 : decode cX11_lawful 10 = .ok (.ifCond .eq 20, 3) := by decide +kernel
theorem dX11_lawful_13 : decode cX11_lawful 13 = .ok (.aload_n 0, 1) := by decide +kernel
theorem dX11_lawful_14 : decode cX11_lawful 14 = .ok (.iload_n 2, 1) := by decide +kernel
theorem dX11_lawful_15 : decode cX11_lawful 15 = .ok (.invokevirtual 250, 3) := by decide +kernel
theorem dX11_lawful_18 : decode cX11_lawful 18 = .ok (.ifCond .eq 12, 3) := by decide +kernel
theorem dX11_lawful_21 : decode cX11_lawful 21 = .ok (.aload_n 0, 1) := by decide +kernel
theorem dX11_lawful_22 : decode cX11_lawful 22 = .ok (.iload_n 1, 1) := by decide +kernel
theorem dX11_lawful_23 : decode cX11_lawful 23 = .ok (.iload_n 2, 1) := by decide +kernel
theorem dX11_lawful_24 : decode cX11_lawful 24 = .ok (.invokevirtual 253, 3) := by decide +kernel
theorem dX11_lawful_27 : decode cX11_lawful 27 = .ok (.goto 4, 3) := by decide +kernel
theorem dX11_lawful_30 : decode cX11_lawful 30 = .ok (.iconst (-1), 1) := by decide +kernel
theorem dX11_lawful_31 : decode cX11_lawful 31 = .ok (.ireturn, 1) := by decide +kernel
theorem dX11_lays_0 : decode cX11_lays 0 = .ok (.bipush 24, 2) := by decide +kernel
theorem dX11_lays_2 : decode cX11_lays 2 = .ok (.istore_n 2, 1) := by decide +kernel
theorem dX11_lays_3 : decode cX11_lays 3 = .ok (.iload_n 2, 1) := by decide +kernel
theorem dX11_lays_4 : decode cX11_lays 4 = .ok (.ifCond .lt 35, 3) := by decide +kernel
theorem dX11_lays_7 : decode cX11_lays 7 = .ok (.aload_n 0, 1) := by decide +kernel
theorem dX11_lays_8 : decode cX11_lays 8 = .ok (.getfield 7, 3) := by decide +kernel
theorem dX11_lays_11 : decode cX11_lays 11 = .ok (.aload_n 0, 1) := by decide +kernel
theorem dX11_lays_12 : decode cX11_lays 12 = .ok (.getfield 11, 3) := by decide +kernel
theorem dX11_lays_15 : decode cX11_lays 15 = .ok (.iload_n 1, 1) := by decide +kernel
theorem dX11_lays_16 : decode cX11_lays 16 = .ok (.iload_n 2, 1) := by decide +kernel
theorem dX11_lays_17 : decode cX11_lays 17 = .ok (.iushr, 1) := by decide +kernel
theorem dX11_lays_18 : decode cX11_lays 18 = .ok (.sipush 255, 3) := by decide +kernel
theorem dX11_lays_21 : decode cX11_lays 21 = .ok (.iand, 1) := by decide +kernel
theorem dX11_lays_22 : decode cX11_lays 22 = .ok (.iastore, 1) := by decide +kernel
theorem dX11_lays_23 : decode cX11_lays 23 = .ok (.aload_n 0, 1) := by decide +kernel
theorem dX11_lays_24 : decode cX11_lays 24 = .ok (.dup, 1) := by decide +kernel
theorem dX11_lays_25 : decode cX11_lays 25 = .ok (.getfield 11, 3) := by decide +kernel
theorem dX11_lays_28 : decode cX11_lays 28 = .ok (.iconst 1, 1) := by decide +kernel
theorem dX11_lays_29 : decode cX11_lays 29 = .ok (.iadd, 1) := by decide +kernel
theorem dX11_lays_30 : decode cX11_lays 30 = .ok (.putfield 11, 3) := by decide +kernel
theorem dX11_lays_33 : decode cX11_lays 33 = .ok (.iinc 2 (-8), 3) := by decide +kernel
theorem dX11_lays_36 : decode cX11_lays 36 = .ok (.goto (-33), 3) := by decide +kernel
theorem dX11_lays_39 : decode cX11_lays 39 = .ok (.return_, 1) := by decide +kernel
theorem dX11_laysFree_0 : decode cX11_laysFree 0 = .ok (.iconst 0, 1) := by decide +kernel
theorem dX11_laysFree_1 : decode cX11_laysFree 1 = .ok (.istore_n 1, 1) := by decide +kernel
theorem dX11_laysFree_2 : decode cX11_laysFree 2 = .ok (.iload_n 1, 1) := by decide +kernel
theorem dX11_laysFree_3 : decode cX11_laysFree 3 = .ok (.bipush 6, 2) := by decide +kernel
theorem dX11_laysFree_5 : decode cX11_laysFree 5 = .ok (.if_icmp .ge 34, 3) := by decide +kernel
theorem dX11_laysFree_8 : decode cX11_laysFree 8 = .ok (.aload_n 0, 1) := by decide +kernel
theorem dX11_laysFree_9 : decode cX11_laysFree 9 = .ok (.getfield 81, 3) := by decide +kernel
theorem dX11_laysFree_12 : decode cX11_laysFree 12 = .ok (.iload_n 1, 1) := by decide +kernel
theorem dX11_laysFree_13 : decode cX11_laysFree 13 = .ok (.iload_n 1, 1) := by decide +kernel
theorem dX11_laysFree_14 : decode cX11_laysFree 14 = .ok (.aload_n 0, 1) := by decide +kernel
theorem dX11_laysFree_15 : decode cX11_laysFree 15 = .ok (.getfield 72, 3) := by decide +kernel
theorem dX11_laysFree_18 : decode cX11_laysFree 18 = .ok (.iconst 3, 1) := by decide +kernel
theorem dX11_laysFree_19 : decode cX11_laysFree 19 = .ok (.iaload, 1) := by decide +kernel
theorem dX11_laysFree_20 : decode cX11_laysFree 20 = .ok (.if_icmp .ge 11, 3) := by decide +kernel
theorem dX11_laysFree_23 : decode cX11_laysFree 23 = .ok (.aload_n 0, 1) := by decide +kernel
theorem dX11_laysFree_24 : decode cX11_laysFree 24 = .ok (.iload_n 1, 1) := by decide +kernel
theorem dX11_laysFree_25 : decode cX11_laysFree 25 = .ok (.invokevirtual 192, 3) := by decide +kernel
theorem dX11_laysFree_28 : decode cX11_laysFree 28 = .ok (.goto 4, 3) := by decide +kernel
theorem dX11_laysFree_31 : decode cX11_laysFree 31 = .ok (.iconst 0, 1) := by decide +kernel
theorem dX11_laysFree_32 : decode cX11_laysFree 32 = .ok (.iastore, 1) := by decide +kernel
theorem dX11_laysFree_33 : decode cX11_laysFree 33 = .ok (.iinc 1 1, 3) := by decide +kernel
theorem dX11_laysFree_36 : decode cX11_laysFree 36 = .ok (.goto (-34), 3) := by decide +kernel
theorem dX11_laysFree_39 : decode cX11_laysFree 39 = .ok (.return_, 1) := by decide +kernel
theorem dX11_laysPlan_0 : decode cX11_laysPlan 0 = .ok (.aload_n 0, 1) := by decide +kernel
theorem dX11_laysPlan_1 : decode cX11_laysPlan 1 = .ok (.invokevirtual 234, 3) := by decide +kernel
theorem dX11_laysPlan_4 : decode cX11_laysPlan 4 = .ok (.aload_n 0, 1) := by decide +kernel
theorem dX11_laysPlan_5 : decode cX11_laysPlan 5 = .ok (.invokevirtual 237, 3) := by decide +kernel
theorem dX11_laysPlan_8 : decode cX11_laysPlan 8 = .ok (.aload_n 0, 1) := by decide +kernel
theorem dX11_laysPlan_9 : decode cX11_laysPlan 9 = .ok (.invokevirtual 231, 3) := by decide +kernel
theorem dX11_laysPlan_12 : decode cX11_laysPlan 12 = .ok (.aload_n 0, 1) := by decide +kernel
theorem dX11_laysPlan_13 : decode cX11_laysPlan 13 = .ok (.getfield 225, 3) := by decide +kernel
theorem dX11_laysPlan_16 : decode cX11_laysPlan 16 = .ok (.istore_n 1, 1) := by decide +kernel
theorem dX11_laysPlan_17 : decode cX11_laysPlan 17 = .ok (.aload_n 0, 1) := by decide +kernel
theorem dX11_laysPlan_18 : decode cX11_laysPlan 18 = .ok (.getfield 228, 3) := by decide +kernel
theorem dX11_laysPlan_21 : decode cX11_laysPlan 21 = .ok (.istore_n 2, 1) := by decide +kernel
theorem dX11_laysPlan_22 : decode cX11_laysPlan 22 = .ok (.iconst 0, 1) := by decide +kernel
theorem dX11_laysPlan_23 : decode cX11_laysPlan 23 = .ok (.istore_n 3, 1) := by decide +kernel
theorem dX11_laysPlan_24 : decode cX11_laysPlan 24 = .ok (.iload_n 3, 1) := by decide +kernel
theorem dX11_laysPlan_25 : decode cX11_laysPlan 25 = .ok (.aload_n 0, 1) := by decide +kernel
theorem dX11_laysPlan_26 : decode cX11_laysPlan 26 = .ok (.getfield 72, 3) := by decide +kernel
theorem dX11_laysPlan_29 : decode cX11_laysPlan 29 = .ok (.iconst 5, 1) := by decide +kernel
theorem dX11_laysPlan_30 : decode cX11_laysPlan 30 = .ok (.iaload, 1) := by decide +kernel
theorem dX11_laysPlan_31 : decode cX11_laysPlan 31 = .ok (.if_icmp .ge 73, 3) := by decide +kernel
theorem dX11_laysPlan_34 : decode cX11_laysPlan 34 = .ok (.aload_n 0, 1) := by decide +kernel
theorem dX11_laysPlan_35 : decode cX11_laysPlan 35 = .ok (.iload_n 3, 1) := by decide +kernel
theorem dX11_laysPlan_36 : decode cX11_laysPlan 36 = .ok (.iconst 2, 1) := by decide +kernel
theorem dX11_laysPlan_37 : decode cX11_laysPlan 37 = .ok (.invokevirtual 160, 3) := by decide +kernel
theorem dX11_laysPlan_40 : decode cX11_laysPlan 40 = .ok (.ifCond .eq 6, 3) := by decide +kernel
theorem dX11_laysPlan_43 : decode cX11_laysPlan 43 = .ok (.goto 55, 3) := by decide +kernel
theorem dX11_laysPlan_46 : decode cX11_laysPlan 46 = .ok (.iconst 0, 1) := by decide +kernel
theorem dX11_laysPlan_47 : decode cX11_laysPlan 47 = .ok (.istore 4, 2) := by decide +kernel
theorem dX11_laysPlan_49 : decode cX11_laysPlan 49 = .ok (.iload 4, 2) := by decide +kernel
theorem dX11_laysPlan_51 : decode cX11_laysPlan 51 = .ok (.aload_n 0, 1) := by decide +kernel
theorem dX11_laysPlan_52 : decode cX11_laysPlan 52 = .ok (.getfield 72, 3) := by decide +kernel
theorem dX11_laysPlan_55 : decode cX11_laysPlan 55 = .ok (.iconst 3, 1) := by decide +kernel
theorem dX11_laysPlan_56 : decode cX11_laysPlan 56 = .ok (.iaload, 1) := by decide +kernel
theorem dX11_laysPlan_57 : decode cX11_laysPlan 57 = .ok (.if_icmp .ge 21, 3) := by decide +kernel
theorem dX11_laysPlan_60 : decode cX11_laysPlan 60 = .ok (.aload_n 0, 1) := by decide +kernel
theorem dX11_laysPlan_61 : decode cX11_laysPlan 61 = .ok (.iload_n 3, 1) := by decide +kernel
theorem dX11_laysPlan_62 : decode cX11_laysPlan 62 = .ok (.iload 4, 2) := by decide +kernel
theorem dX11_laysPlan_64 : decode cX11_laysPlan 64 = .ok (.iload_n 1, 1) := by decide +kernel
theorem dX11_laysPlan_65 : decode cX11_laysPlan 65 = .ok (.iload_n 2, 1) := by decide +kernel
theorem dX11_laysPlan_66 : decode cX11_laysPlan 66 = .ok (.invokevirtual 240, 3) := by decide +kernel
theorem dX11_laysPlan_69 : decode cX11_laysPlan 69 = .ok (.ifCond .ne 9, 3) := by decide +kernel
theorem dX11_laysPlan_72 : decode cX11_laysPlan 72 = .ok (.iinc 4 1, 3) := by decide +kernel
theorem dX11_laysPlan_75 : decode cX11_laysPlan 75 = .ok (.goto (-26), 3) := by decide +kernel
theorem dX11_laysPlan_78 : decode cX11_laysPlan 78 = .ok (.iload 4, 2) := by decide +kernel
theorem dX11_laysPlan_80 : decode cX11_laysPlan 80 = .ok (.aload_n 0, 1) := by decide +kernel
theorem dX11_laysPlan_81 : decode cX11_laysPlan 81 = .ok (.getfield 72, 3) := by decide +kernel
theorem dX11_laysPlan_84 : decode cX11_laysPlan 84 = .ok (.iconst 3, 1) := by decide +kernel
theorem dX11_laysPlan_85 : decode cX11_laysPlan 85 = .ok (.iaload, 1) := by decide +kernel
theorem dX11_laysPlan_86 : decode cX11_laysPlan 86 = .ok (.if_icmp .ne 12, 3) := by decide +kernel
theorem dX11_laysPlan_89 : decode cX11_laysPlan 89 = .ok (.aload_n 0, 1) := by decide +kernel
theorem dX11_laysPlan_90 : decode cX11_laysPlan 90 = .ok (.iload_n 3, 1) := by decide +kernel
theorem dX11_laysPlan_91 : decode cX11_laysPlan 91 = .ok (.iconst (-1), 1) := by decide +kernel
theorem dX11_laysPlan_92 : decode cX11_laysPlan 92 = .ok (.iload_n 1, 1) := by decide +kernel
theorem dX11_laysPlan_93 : decode cX11_laysPlan 93 = .ok (.iload_n 2, 1) := by decide +kernel
theorem dX11_laysPlan_94 : decode cX11_laysPlan 94 = .ok (.invokevirtual 240, 3) := by decide +kernel
theorem dX11_laysPlan_97 : decode cX11_laysPlan 97 = .ok (.pop, 1) := by decide +kernel
theorem dX11_laysPlan_98 : decode cX11_laysPlan 98 = .ok (.iinc 3 1, 3) := by decide +kernel
theorem dX11_laysPlan_101 : decode cX11_laysPlan 101 = .ok (.goto (-77), 3) := by decide +kernel
theorem dX11_laysPlan_104 : decode cX11_laysPlan 104 = .ok (.return_, 1) := by decide +kernel
theorem dX11_ledger_0 : decode cX11_ledger 0 = .ok (.aload_n 0, 1) := by decide +kernel
theorem dX11_ledger_1 : decode cX11_ledger 1 = .ok (.iconst 0, 1) := by decide +kernel
theorem dX11_ledger_2 : decode cX11_ledger 2 = .ok (.putfield 1, 3) := by decide +kernel
theorem dX11_ledger_5 : decode cX11_ledger 5 = .ok (.aload_n 0, 1) := by decide +kernel
theorem dX11_ledger_6 : decode cX11_ledger 6 = .ok (.iload_n 1, 1) := by decide +kernel
theorem dX11_ledger_7 : decode cX11_ledger 7 = .ok (.invokevirtual 189, 3) := by decide +kernel
theorem dX11_ledger_10 : decode cX11_ledger 10 = .ok (.ifCond .eq 12, 3) := by decide +kernel
theorem dX11_ledger_13 : decode cX11_ledger 13 = .ok (.iload_n 2, 1) := by decide +kernel
theorem dX11_ledger_14 : decode cX11_ledger 14 = .ok (.iconst 0, 1) := by decide +kernel
theorem dX11_ledger_15 : decode cX11_ledger 15 = .ok (.iconst 5, 1) := by decide +kernel
theorem dX11_ledger_16 : decode cX11_ledger 16 = .ok (.invokestatic 106, 3) := by decide +kernel
theorem dX11_ledger_19 : decode cX11_ledger 19 = .ok (.ifCond .ne 5, 3) := by decide +kernel
theorem dX11_ledger_22 : decode cX11_ledger 22 = .ok (.iconst (-1), 1) := by decide +kernel
theorem dX11_ledger_23 : decode cX11_ledger 23 = .ok (.ireturn, 1) := by decide +kernel
theorem dX11_ledger_24 : decode cX11_ledger 24 = .ok (.iload_n 2, 1) := by decide +kernel
theorem dX11_ledger_25 : decode cX11_ledger 25 = .ok (.ifCond .ne 11, 3) := by decide +kernel
theorem dX11_ledger_28 : decode cX11_ledger 28 = .ok (.aload_n 0, 1) := by decide +kernel
theorem dX11_ledger_29 : decode cX11_ledger 29 = .ok (.iload_n 1, 1) := by decide +kernel
theorem dX11_ledger_30 : decode cX11_ledger 30 = .ok (.invokevirtual 173, 3) := by decide +kernel
theorem dX11_ledger_33 : decode cX11_ledger 33 = .ok (.goto 27, 3) := by decide +kernel
theorem dX11_ledger_36 : decode cX11_ledger 36 = .ok (.iload_n 2, 1) := by decide +kernel
theorem dX11_ledger_37 : decode cX11_ledger 37 = .ok (.iconst 1, 1) := by decide +kernel
theorem dX11_ledger_38 : decode cX11_ledger 38 = .ok (.if_icmp .ne 11, 3) := by decide +kernel
theorem dX11_ledger_41 : decode cX11_ledger 41 = .ok (.aload_n 0, 1) := by decide +kernel
theorem dX11_ledger_42 : decode cX11_ledger 42 = .ok (.iload_n 1, 1) := by decide +kernel
theorem dX11_ledger_43 : decode cX11_ledger 43 = .ok (.invokevirtual 170, 3) := by decide +kernel
theorem dX11_ledger_46 : decode cX11_ledger 46 = .ok (.goto 14, 3) := by decide +kernel
theorem dX11_ledger_49 : decode cX11_ledger 49 = .ok (.aload_n 0, 1) := by decide +kernel
theorem dX11_ledger_50 : decode cX11_ledger 50 = .ok (.iload_n 1, 1) := by decide +kernel
theorem dX11_ledger_51 : decode cX11_ledger 51 = .ok (.bipush 7, 2) := by decide +kernel
theorem dX11_ledger_53 : decode cX11_ledger 53 = .ok (.iload_n 2, 1) := by decide +kernel
theorem dX11_ledger_54 : decode cX11_ledger 54 = .ok (.iadd, 1) := by decide +kernel
theorem dX11_ledger_55 : decode cX11_ledger 55 = .ok (.iconst 2, 1) := by decide +kernel
theorem dX11_ledger_56 : decode cX11_ledger 56 = .ok (.isub, 1) := by decide +kernel
theorem dX11_ledger_57 : decode cX11_ledger 57 = .ok (.invokevirtual 167, 3) := by decide +kernel
theorem dX11_ledger_60 : decode cX11_ledger 60 = .ok (.ireturn, 1) := by decide +kernel
theorem dX11_lorry_0 : decode cX11_lorry 0 = .ok (.aload_n 0, 1) := by decide +kernel
theorem dX11_lorry_1 : decode cX11_lorry 1 = .ok (.iconst 0, 1) := by decide +kernel
theorem dX11_lorry_2 : decode cX11_lorry 2 = .ok (.putfield 1, 3) := by decide +kernel
theorem dX11_lorry_5 : decode cX11_lorry 5 = .ok (.aload_n 0, 1) := by decide +kernel
theorem dX11_lorry_6 : decode cX11_lorry 6 = .ok (.iload_n 1, 1) := by decide +kernel
theorem dX11_lorry_7 : decode cX11_lorry 7 = .ok (.invokevirtual 195, 3) := by decide +kernel
theorem dX11_lorry_10 : decode cX11_lorry 10 = .ok (.ifCond .ne 8, 3) := by decide +kernel
theorem dX11_lorry_13 : decode cX11_lorry 13 = .ok (.aload_n 0, 1) := by decide +kernel
theorem dX11_lorry_14 : decode cX11_lorry 14 = .ok (.invokevirtual 198, 3) := by decide +kernel
theorem dX11_lorry_17 : decode cX11_lorry 17 = .ok (.ireturn, 1) := by decide +kernel
theorem dX11_lorry_18 : decode cX11_lorry 18 = .ok (.iload_n 2, 1) := by decide +kernel
theorem dX11_lorry_19 : decode cX11_lorry 19 = .ok (.tableswitch 59 0 4 #[33, 33, 40, 46, 53], 33) := by decide +kernel
theorem dX11_lorry_52 : decode cX11_lorry 52 = .ok (.aload_n 0, 1) := by decide +kernel
theorem dX11_lorry_53 : decode cX11_lorry 53 = .ok (.iload_n 1, 1) := by decide +kernel
theorem dX11_lorry_54 : decode cX11_lorry 54 = .ok (.iload_n 2, 1) := by decide +kernel
theorem dX11_lorry_55 : decode cX11_lorry 55 = .ok (.invokevirtual 176, 3) := by decide +kernel
theorem dX11_lorry_58 : decode cX11_lorry 58 = .ok (.ireturn, 1) := by decide +kernel
theorem dX11_lorry_59 : decode cX11_lorry 59 = .ok (.aload_n 0, 1) := by decide +kernel
theorem dX11_lorry_60 : decode cX11_lorry 60 = .ok (.iload_n 1, 1) := by decide +kernel
theorem dX11_lorry_61 : decode cX11_lorry 61 = .ok (.invokevirtual 201, 3) := by decide +kernel
theorem dX11_lorry_64 : decode cX11_lorry 64 = .ok (.ireturn, 1) := by decide +kernel
theorem dX11_lorry_65 : decode cX11_lorry 65 = .ok (.aload_n 0, 1) := by decide +kernel
theorem dX11_lorry_66 : decode cX11_lorry 66 = .ok (.iload_n 1, 1) := by decide +kernel
theorem dX11_lorry_67 : decode cX11_lorry 67 = .ok (.iconst 2, 1) := by decide +kernel
theorem dX11_lorry_68 : decode cX11_lorry 68 = .ok (.invokevirtual 176, 3) := by decide +kernel
theorem dX11_lorry_71 : decode cX11_lorry 71 = .ok (.ireturn, 1) := by decide +kernel
theorem dX11_lorry_72 : decode cX11_lorry 72 = .ok (.aload_n 0, 1) := by decide +kernel
theorem dX11_lorry_73 : decode cX11_lorry 73 = .ok (.iload_n 1, 1) := by decide +kernel
theorem dX11_lorry_74 : decode cX11_lorry 74 = .ok (.invokevirtual 204, 3) := by decide +kernel
theorem dX11_lorry_77 : decode cX11_lorry 77 = .ok (.ireturn, 1) := by decide +kernel
theorem dX11_lorry_78 : decode cX11_lorry 78 = .ok (.aload_n 0, 1) := by decide +kernel
theorem dX11_lorry_79 : decode cX11_lorry 79 = .ok (.invokevirtual 198, 3) := by decide +kernel
theorem dX11_lorry_82 : decode cX11_lorry 82 = .ok (.ireturn, 1) := by decide +kernel
theorem dX11_lorryOf_0 : decode cX11_lorryOf 0 = .ok (.aload_n 0, 1) := by decide +kernel
theorem dX11_lorryOf_1 : decode cX11_lorryOf 1 = .ok (.getfield 72, 3) := by decide +kernel
theorem dX11_lorryOf_4 : decode cX11_lorryOf 4 = .ok (.bipush 79, 2) := by decide +kernel
theorem dX11_lorryOf_6 : decode cX11_lorryOf 6 = .ok (.iconst 3, 1) := by decide +kernel
theorem dX11_lorryOf_7 : decode cX11_lorryOf 7 = .ok (.iload_n 1, 1) := by decide +kernel
theorem dX11_lorryOf_8 : decode cX11_lorryOf 8 = .ok (.imul, 1) := by decide +kernel
theorem dX11_lorryOf_9 : decode cX11_lorryOf 9 = .ok (.iadd, 1) := by decide +kernel
theorem dX11_lorryOf_10 : decode cX11_lorryOf 10 = .ok (.iload_n 2, 1) := by decide +kernel
theorem dX11_lorryOf_11 : decode cX11_lorryOf 11 = .ok (.iadd, 1) := by decide +kernel
theorem dX11_lorryOf_12 : decode cX11_lorryOf 12 = .ok (.iaload, 1) := by decide +kernel
theorem dX11_lorryOf_13 : decode cX11_lorryOf 13 = .ok (.ireturn, 1) := by decide +kernel
theorem dX11_misuses_0 : decode cX11_misuses 0 = .ok (.iconst 0, 1) := by decide +kernel
theorem dX11_misuses_1 : decode cX11_misuses 1 = .ok (.istore_n 1, 1) := by decide +kernel
theorem dX11_misuses_2 : decode cX11_misuses 2 = .ok (.iconst 0, 1) := by decide +kernel
theorem dX11_misuses_3 : decode cX11_misuses 3 = .ok (.istore_n 2, 1) := by decide +kernel
theorem dX11_misuses_4 : decode cX11_misuses 4 = .ok (.iload_n 2, 1) := by decide +kernel
theorem dX11_misuses_5 : decode cX11_misuses 5 = .ok (.aload_n 0, 1) := by decide +kernel
theorem dX11_misuses_6 : decode cX11_misuses 6 = .ok (.getfield 72, 3) := by decide +kernel
theorem dX11_misuses_9 : decode cX11_misuses 9 = .ok (.iconst 4, 1) := by decide +kernel
theorem dX11_misuses_10 : decode cX11_misuses 10 = .ok (.iaload, 1) := by decide +kernel
theorem dX11_misuses_11 : decode cX11_misuses 11 = .ok (.if_icmp .ge 18, 3) := by decide +kernel
theorem dX11_misuses_14 : decode cX11_misuses 14 = .ok (.iload_n 1, 1) := by decide +kernel
theorem dX11_misuses_15 : decode cX11_misuses 15 = .ok (.aload_n 0, 1) := by decide +kernel
theorem dX11_misuses_16 : decode cX11_misuses 16 = .ok (.iload_n 2, 1) := by decide +kernel
theorem dX11_misuses_17 : decode cX11_misuses 17 = .ok (.iconst 2, 1) := by decide +kernel
theorem dX11_misuses_18 : decode cX11_misuses 18 = .ok (.invokevirtual 176, 3) := by decide +kernel
theorem dX11_misuses_21 : decode cX11_misuses 21 = .ok (.iadd, 1) := by decide +kernel
theorem dX11_misuses_22 : decode cX11_misuses 22 = .ok (.istore_n 1, 1) := by decide +kernel
theorem dX11_misuses_23 : decode cX11_misuses 23 = .ok (.iinc 2 1, 3) := by decide +kernel
theorem dX11_misuses_26 : decode cX11_misuses 26 = .ok (.goto (-22), 3) := by decide +kernel
theorem dX11_misuses_29 : decode cX11_misuses 29 = .ok (.iload_n 1, 1) := by decide +kernel
theorem dX11_misuses_30 : decode cX11_misuses 30 = .ok (.ireturn, 1) := by decide +kernel
theorem dX11_needs_0 : decode cX11_needs 0 = .ok (.aload_n 0, 1) := by decide +kernel
theorem dX11_needs_1 : decode cX11_needs 1 = .ok (.iconst 0, 1) := by decide +kernel
theorem dX11_needs_2 : decode cX11_needs 2 = .ok (.putfield 1, 3) := by decide +kernel
theorem dX11_needs_5 : decode cX11_needs 5 = .ok (.aload_n 0, 1) := by decide +kernel
theorem dX11_needs_6 : decode cX11_needs 6 = .ok (.iload_n 1, 1) := by decide +kernel
theorem dX11_needs_7 : decode cX11_needs 7 = .ok (.invokevirtual 189, 3) := by decide +kernel
theorem dX11_needs_10 : decode cX11_needs 10 = .ok (.ifCond .ne 5, 3) := by decide +kernel
theorem dX11_needs_13 : decode cX11_needs 13 = .ok (.iconst (-1), 1) := by decide +kernel
theorem dX11_needs_14 : decode cX11_needs 14 = .ok (.ireturn, 1) := by decide +kernel
theorem dX11_needs_15 : decode cX11_needs 15 = .ok (.aload_n 0, 1) := by decide +kernel
theorem dX11_needs_16 : decode cX11_needs 16 = .ok (.iconst 0, 1) := by decide +kernel
theorem dX11_needs_17 : decode cX11_needs 17 = .ok (.invokevirtual 179, 3) := by decide +kernel
theorem dX11_needs_20 : decode cX11_needs 20 = .ok (.istore_n 2, 1) := by decide +kernel
theorem dX11_needs_21 : decode cX11_needs 21 = .ok (.iconst 0, 1) := by decide +kernel
theorem dX11_needs_22 : decode cX11_needs 22 = .ok (.istore_n 3, 1) := by decide +kernel
theorem dX11_needs_23 : decode cX11_needs 23 = .ok (.iload_n 3, 1) := by decide +kernel
theorem dX11_needs_24 : decode cX11_needs 24 = .ok (.iload_n 2, 1) := by decide +kernel
theorem dX11_needs_25 : decode cX11_needs 25 = .ok (.if_icmp .gt 21, 3) := by decide +kernel
theorem dX11_needs_28 : decode cX11_needs 28 = .ok (.aload_n 0, 1) := by decide +kernel
theorem dX11_needs_29 : decode cX11_needs 29 = .ok (.iload_n 1, 1) := by decide +kernel
theorem dX11_needs_30 : decode cX11_needs 30 = .ok (.iload_n 3, 1) := by decide +kernel
theorem dX11_needs_31 : decode cX11_needs 31 = .ok (.invokevirtual 247, 3) := by decide +kernel
theorem dX11_needs_34 : decode cX11_needs 34 = .ok (.iload_n 2, 1) := by decide +kernel
theorem dX11_needs_35 : decode cX11_needs 35 = .ok (.if_icmp .ne 5, 3) := by decide +kernel
theorem dX11_needs_38 : decode cX11_needs 38 = .ok (.iload_n 3, 1) := by decide +kernel
theorem dX11_needs_39 : decode cX11_needs 39 = .ok (.ireturn, 1) := by decide +kernel
theorem dX11_needs_40 : decode cX11_needs 40 = .ok (.iinc 3 1, 3) := by decide +kernel
theorem dX11_needs_43 : decode cX11_needs 43 = .ok (.goto (-20), 3) := by decide +kernel
theorem dX11_needs_46 : decode cX11_needs 46 = .ok (.bipush (-2), 2) := by decide +kernel
theorem dX11_needs_48 : decode cX11_needs 48 = .ok (.ireturn, 1) := by decide +kernel
theorem dX11_now_0 : decode cX11_now 0 = .ok (.aload_n 0, 1) := by decide +kernel
theorem dX11_now_1 : decode cX11_now 1 = .ok (.iconst 0, 1) := by decide +kernel
theorem dX11_now_2 : decode cX11_now 2 = .ok (.putfield 1, 3) := by decide +kernel
theorem dX11_now_5 : decode cX11_now 5 = .ok (.iload_n 1, 1) := by decide +kernel
theorem dX11_now_6 : decode cX11_now 6 = .ok (.tableswitch 126 0 10 #[58, 66, 73, 80, 87, 94, 100, 106, 111, 116, 121], 58) := by decide +kernel
theorem dX11_now_64 : decode cX11_now 64 = .ok (.aload_n 0, 1) := by decide +kernel
theorem dX11_now_65 : decode cX11_now 65 = .ok (.getfield 72, 3) := by decide +kernel
theorem dX11_now_68 : decode cX11_now 68 = .ok (.bipush 6, 2) := by decide +kernel
theorem dX11_now_70 : decode cX11_now 70 = .ok (.iaload, 1) := by decide +kernel
theorem dX11_now_71 : decode cX11_now 71 = .ok (.ireturn, 1) := by decide +kernel
theorem dX11_now_72 : decode cX11_now 72 = .ok (.aload_n 0, 1) := by decide +kernel
theorem dX11_now_73 : decode cX11_now 73 = .ok (.getfield 72, 3) := by decide +kernel
theorem dX11_now_76 : decode cX11_now 76 = .ok (.iconst 0, 1) := by decide +kernel
theorem dX11_now_77 : decode cX11_now 77 = .ok (.iaload, 1) := by decide +kernel
theorem dX11_now_78 : decode cX11_now 78 = .ok (.ireturn, 1) := by decide +kernel
theorem dX11_now_79 : decode cX11_now 79 = .ok (.aload_n 0, 1) := by decide +kernel
theorem dX11_now_80 : decode cX11_now 80 = .ok (.getfield 72, 3) := by decide +kernel
theorem dX11_now_83 : decode cX11_now 83 = .ok (.iconst 3, 1) := by decide +kernel
theorem dX11_now_84 : decode cX11_now 84 = .ok (.iaload, 1) := by decide +kernel
theorem dX11_now_85 : decode cX11_now 85 = .ok (.ireturn, 1) := by decide +kernel
theorem dX11_now_86 : decode cX11_now 86 = .ok (.aload_n 0, 1) := by decide +kernel
theorem dX11_now_87 : decode cX11_now 87 = .ok (.getfield 72, 3) := by decide +kernel
theorem dX11_now_90 : decode cX11_now 90 = .ok (.iconst 4, 1) := by decide +kernel
theorem dX11_now_91 : decode cX11_now 91 = .ok (.iaload, 1) := by decide +kernel
theorem dX11_now_92 : decode cX11_now 92 = .ok (.ireturn, 1) := by decide +kernel
theorem dX11_now_93 : decode cX11_now 93 = .ok (.aload_n 0, 1) := by decide +kernel
theorem dX11_now_94 : decode cX11_now 94 = .ok (.getfield 72, 3) := by decide +kernel
theorem dX11_now_97 : decode cX11_now 97 = .ok (.iconst 5, 1) := by decide +kernel
theorem dX11_now_98 : decode cX11_now 98 = .ok (.iaload, 1) := by decide +kernel
theorem dX11_now_99 : decode cX11_now 99 = .ok (.ireturn, 1) := by decide +kernel
theorem dX11_now_100 : decode cX11_now 100 = .ok (.aload_n 0, 1) := by decide +kernel
theorem dX11_now_101 : decode cX11_now 101 = .ok (.iconst 0, 1) := by decide +kernel
theorem dX11_now_102 : decode cX11_now 102 = .ok (.invokevirtual 179, 3) := by decide +kernel
theorem dX11_now_105 : decode cX11_now 105 = .ok (.ireturn, 1) := by decide +kernel
theorem dX11_now_106 : decode cX11_now 106 = .ok (.aload_n 0, 1) := by decide +kernel
theorem dX11_now_107 : decode cX11_now 107 = .ok (.iconst 1, 1) := by decide +kernel
theorem dX11_now_108 : decode cX11_now 108 = .ok (.invokevirtual 179, 3) := by decide +kernel
theorem dX11_now_111 : decode cX11_now 111 = .ok (.ireturn, 1) := by decide +kernel
theorem dX11_now_112 : decode cX11_now 112 = .ok (.aload_n 0, 1) := by decide +kernel
theorem dX11_now_113 : decode cX11_now 113 = .ok (.invokevirtual 182, 3) := by decide +kernel
theorem dX11_now_116 : decode cX11_now 116 = .ok (.ireturn, 1) := by decide +kernel
theorem dX11_now_117 : decode cX11_now 117 = .ok (.aload_n 0, 1) := by decide +kernel
theorem dX11_now_118 : decode cX11_now 118 = .ok (.invokevirtual 186, 3) := by decide +kernel
theorem dX11_now_121 : decode cX11_now 121 = .ok (.ireturn, 1) := by decide +kernel
theorem dX11_now_122 : decode cX11_now 122 = .ok (.aload_n 0, 1) := by decide +kernel
theorem dX11_now_123 : decode cX11_now 123 = .ok (.getfield 157, 3) := by decide +kernel
theorem dX11_now_126 : decode cX11_now 126 = .ok (.ireturn, 1) := by decide +kernel
theorem dX11_now_127 : decode cX11_now 127 = .ok (.aload_n 0, 1) := by decide +kernel
theorem dX11_now_128 : decode cX11_now 128 = .ok (.getfield 11, 3) := by decide +kernel
theorem dX11_now_131 : decode cX11_now 131 = .ok (.ireturn, 1) := by decide +kernel
theorem dX11_now_132 : decode cX11_now 132 = .ok (.iconst (-1), 1) := by decide +kernel
theorem dX11_now_133 : decode cX11_now 133 = .ok (.ireturn, 1) := by decide +kernel
theorem dX11_opensAll_0 : decode cX11_opensAll 0 = .ok (.iconst 0, 1) := by decide +kernel
theorem dX11_opensAll_1 : decode cX11_opensAll 1 = .ok (.istore_n 1, 1) := by decide +kernel
theorem dX11_opensAll_2 : decode cX11_opensAll 2 = .ok (.iload_n 1, 1) := by decide +kernel
theorem dX11_opensAll_3 : decode cX11_opensAll 3 = .ok (.bipush 40, 2) := by decide +kernel
theorem dX11_opensAll_5 : decode cX11_opensAll 5 = .ok (.if_icmp .ge 23, 3) := by decide +kernel
theorem dX11_opensAll_8 : decode cX11_opensAll 8 = .ok (.aload_n 0, 1) := by decide +kernel
theorem dX11_opensAll_9 : decode cX11_opensAll 9 = .ok (.getfield 96, 3) := by decide +kernel
theorem dX11_opensAll_12 : decode cX11_opensAll 12 = .ok (.iload_n 1, 1) := by decide +kernel
theorem dX11_opensAll_13 : decode cX11_opensAll 13 = .ok (.iconst 0, 1) := by decide +kernel
theorem dX11_opensAll_14 : decode cX11_opensAll 14 = .ok (.bastore, 1) := by decide +kernel
theorem dX11_opensAll_15 : decode cX11_opensAll 15 = .ok (.aload_n 0, 1) := by decide +kernel
theorem dX11_opensAll_16 : decode cX11_opensAll 16 = .ok (.getfield 87, 3) := by decide +kernel
theorem dX11_opensAll_19 : decode cX11_opensAll 19 = .ok (.iload_n 1, 1) := by decide +kernel
theorem dX11_opensAll_20 : decode cX11_opensAll 20 = .ok (.iconst (-1), 1) := by decide +kernel
theorem dX11_opensAll_21 : decode cX11_opensAll 21 = .ok (.iastore, 1) := by decide +kernel
theorem dX11_opensAll_22 : decode cX11_opensAll 22 = .ok (.iinc 1 1, 3) := by decide +kernel
theorem dX11_opensAll_25 : decode cX11_opensAll 25 = .ok (.goto (-23), 3) := by decide +kernel
theorem dX11_opensAll_28 : decode cX11_opensAll 28 = .ok (.return_, 1) := by decide +kernel
theorem dX11_outBy_0 : decode cX11_outBy 0 = .ok (.iconst 0, 1) := by decide +kernel
theorem dX11_outBy_1 : decode cX11_outBy 1 = .ok (.istore_n 2, 1) := by decide +kernel
theorem dX11_outBy_2 : decode cX11_outBy 2 = .ok (.iconst 0, 1) := by decide +kernel
theorem dX11_outBy_3 : decode cX11_outBy 3 = .ok (.istore_n 3, 1) := by decide +kernel
theorem dX11_outBy_4 : decode cX11_outBy 4 = .ok (.iload_n 3, 1) := by decide +kernel
theorem dX11_outBy_5 : decode cX11_outBy 5 = .ok (.aload_n 0, 1) := by decide +kernel
theorem dX11_outBy_6 : decode cX11_outBy 6 = .ok (.getfield 72, 3) := by decide +kernel
theorem dX11_outBy_9 : decode cX11_outBy 9 = .ok (.iconst 5, 1) := by decide +kernel
theorem dX11_outBy_10 : decode cX11_outBy 10 = .ok (.iaload, 1) := by decide +kernel
theorem dX11_outBy_11 : decode cX11_outBy 11 = .ok (.if_icmp .ge 32, 3) := by decide +kernel
theorem dX11_outBy_14 : decode cX11_outBy 14 = .ok (.aload_n 0, 1) := by decide +kernel
theorem dX11_outBy_15 : decode cX11_outBy 15 = .ok (.iload_n 3, 1) := by decide +kernel
theorem dX11_outBy_16 : decode cX11_outBy 16 = .ok (.iconst 2, 1) := by decide +kernel
theorem dX11_outBy_17 : decode cX11_outBy 17 = .ok (.invokevirtual 160, 3) := by decide +kernel
theorem dX11_outBy_20 : decode cX11_outBy 20 = .ok (.iconst 1, 1) := by decide +kernel
theorem dX11_outBy_21 : decode cX11_outBy 21 = .ok (.if_icmp .ne 16, 3) := by decide +kernel
theorem dX11_outBy_24 : decode cX11_outBy 24 = .ok (.aload_n 0, 1) := by decide +kernel
theorem dX11_outBy_25 : decode cX11_outBy 25 = .ok (.iload_n 3, 1) := by decide +kernel
theorem dX11_outBy_26 : decode cX11_outBy 26 = .ok (.iconst 3, 1) := by decide +kernel
theorem dX11_outBy_27 : decode cX11_outBy 27 = .ok (.invokevirtual 160, 3) := by decide +kernel
theorem dX11_outBy_30 : decode cX11_outBy 30 = .ok (.iload_n 1, 1) := by decide +kernel
theorem dX11_outBy_31 : decode cX11_outBy 31 = .ok (.if_icmp .ne 6, 3) := by decide +kernel
theorem dX11_outBy_34 : decode cX11_outBy 34 = .ok (.iinc 2 1, 3) := by decide +kernel
theorem dX11_outBy_37 : decode cX11_outBy 37 = .ok (.iinc 3 1, 3) := by decide +kernel
theorem dX11_outBy_40 : decode cX11_outBy 40 = .ok (.goto (-36), 3) := by decide +kernel
theorem dX11_outBy_43 : decode cX11_outBy 43 = .ok (.iload_n 2, 1) := by decide +kernel
theorem dX11_outBy_44 : decode cX11_outBy 44 = .ok (.ireturn, 1) := by decide +kernel
theorem dX11_pass_0 : decode cX11_pass 0 = .ok (.aload_n 0, 1) := by decide +kernel
theorem dX11_pass_1 : decode cX11_pass 1 = .ok (.iconst 0, 1) := by decide +kernel
theorem dX11_pass_2 : decode cX11_pass 2 = .ok (.putfield 1, 3) := by decide +kernel
theorem dX11_pass_5 : decode cX11_pass 5 = .ok (.iload_n 1, 1) := by decide +kernel
theorem dX11_pass_6 : decode cX11_pass 6 = .ok (.iconst 1, 1) := by decide +kernel
theorem dX11_pass_7 : decode cX11_pass 7 = .ok (.bipush 99, 2) := by decide +kernel
theorem dX11_pass_9 : decode cX11_pass 9 = .ok (.invokestatic 106, 3) := by decide +kernel
theorem dX11_pass_12 : decode cX11_pass 12 = .ok (.ifCond .eq 18, 3) := by decide +kernel
theorem dX11_pass_15 : decode cX11_pass 15 = .ok (.aload_n 0, 1) := by decide +kernel
theorem dX11_pass_16 : decode cX11_pass 16 = .ok (.getfield 72, 3) := by decide +kernel
theorem dX11_pass_19 : decode cX11_pass 19 = .ok (.bipush 6, 2) := by decide +kernel
theorem dX11_pass_21 : decode cX11_pass 21 = .ok (.iaload, 1) := by decide +kernel
theorem dX11_pass_22 : decode cX11_pass 22 = .ok (.iload_n 1, 1) := by decide +kernel
theorem dX11_pass_23 : decode cX11_pass 23 = .ok (.iadd, 1) := by decide +kernel
theorem dX11_pass_24 : decode cX11_pass 24 = .ok (.sipush 999, 3) := by decide +kernel
theorem dX11_pass_27 : decode cX11_pass 27 = .ok (.if_icmp .le 5, 3) := by decide +kernel
theorem dX11_pass_30 : decode cX11_pass 30 = .ok (.iconst (-1), 1) := by decide +kernel
theorem dX11_pass_31 : decode cX11_pass 31 = .ok (.ireturn, 1) := by decide +kernel
theorem dX11_pass_32 : decode cX11_pass 32 = .ok (.aload_n 0, 1) := by decide +kernel
theorem dX11_pass_33 : decode cX11_pass 33 = .ok (.invokevirtual 259, 3) := by decide +kernel
theorem dX11_pass_36 : decode cX11_pass 36 = .ok (.aload_n 0, 1) := by decide +kernel
theorem dX11_pass_37 : decode cX11_pass 37 = .ok (.getfield 72, 3) := by decide +kernel
theorem dX11_pass_40 : decode cX11_pass 40 = .ok (.bipush 6, 2) := by decide +kernel
theorem dX11_pass_42 : decode cX11_pass 42 = .ok (.dup2, 1) := by decide +kernel
theorem dX11_pass_43 : decode cX11_pass 43 = .ok (.iaload, 1) := by decide +kernel
theorem dX11_pass_44 : decode cX11_pass 44 = .ok (.iload_n 1, 1) := by decide +kernel
theorem dX11_pass_45 : decode cX11_pass 45 = .ok (.iadd, 1) := by decide +kernel
theorem dX11_pass_46 : decode cX11_pass 46 = .ok (.iastore, 1) := by decide +kernel
theorem dX11_pass_47 : decode cX11_pass 47 = .ok (.aload_n 0, 1) := by decide +kernel
theorem dX11_pass_48 : decode cX11_pass 48 = .ok (.getfield 72, 3) := by decide +kernel
theorem dX11_pass_51 : decode cX11_pass 51 = .ok (.bipush 6, 2) := by decide +kernel
theorem dX11_pass_53 : decode cX11_pass 53 = .ok (.iaload, 1) := by decide +kernel
theorem dX11_pass_54 : decode cX11_pass 54 = .ok (.ireturn, 1) := by decide +kernel
theorem dX11_piecesIn_0 : decode cX11_piecesIn 0 = .ok (.aload_n 0, 1) := by decide +kernel
theorem dX11_piecesIn_1 : decode cX11_piecesIn 1 = .ok (.iload_n 1, 1) := by decide +kernel
theorem dX11_piecesIn_2 : decode cX11_piecesIn 2 = .ok (.iconst 4, 1) := by decide +kernel
theorem dX11_piecesIn_3 : decode cX11_piecesIn 3 = .ok (.invokevirtual 167, 3) := by decide +kernel
theorem dX11_piecesIn_6 : decode cX11_piecesIn 6 = .ok (.aload_n 0, 1) := by decide +kernel
theorem dX11_piecesIn_7 : decode cX11_piecesIn 7 = .ok (.iload_n 1, 1) := by decide +kernel
theorem dX11_piecesIn_8 : decode cX11_piecesIn 8 = .ok (.bipush 10, 2) := by decide +kernel
theorem dX11_piecesIn_10 : decode cX11_piecesIn 10 = .ok (.invokevirtual 167, 3) := by decide +kernel
theorem dX11_piecesIn_13 : decode cX11_piecesIn 13 = .ok (.iadd, 1) := by decide +kernel
theorem dX11_piecesIn_14 : decode cX11_piecesIn 14 = .ok (.aload_n 0, 1) := by decide +kernel
theorem dX11_piecesIn_15 : decode cX11_piecesIn 15 = .ok (.iload_n 1, 1) := by decide +kernel
theorem dX11_piecesIn_16 : decode cX11_piecesIn 16 = .ok (.invokevirtual 170, 3) := by decide +kernel
theorem dX11_piecesIn_19 : decode cX11_piecesIn 19 = .ok (.isub, 1) := by decide +kernel
theorem dX11_piecesIn_20 : decode cX11_piecesIn 20 = .ok (.aload_n 0, 1) := by decide +kernel
theorem dX11_piecesIn_21 : decode cX11_piecesIn 21 = .ok (.iload_n 1, 1) := by decide +kernel
theorem dX11_piecesIn_22 : decode cX11_piecesIn 22 = .ok (.bipush 7, 2) := by decide +kernel
theorem dX11_piecesIn_24 : decode cX11_piecesIn 24 = .ok (.invokevirtual 167, 3) := by decide +kernel
theorem dX11_piecesIn_27 : decode cX11_piecesIn 27 = .ok (.isub, 1) := by decide +kernel
theorem dX11_piecesIn_28 : decode cX11_piecesIn 28 = .ok (.aload_n 0, 1) := by decide +kernel
theorem dX11_piecesIn_29 : decode cX11_piecesIn 29 = .ok (.iload_n 1, 1) := by decide +kernel
theorem dX11_piecesIn_30 : decode cX11_piecesIn 30 = .ok (.bipush 8, 2) := by decide +kernel
theorem dX11_piecesIn_32 : decode cX11_piecesIn 32 = .ok (.invokevirtual 167, 3) := by decide +kernel
theorem dX11_piecesIn_35 : decode cX11_piecesIn 35 = .ok (.isub, 1) := by decide +kernel
theorem dX11_piecesIn_36 : decode cX11_piecesIn 36 = .ok (.aload_n 0, 1) := by decide +kernel
theorem dX11_piecesIn_37 : decode cX11_piecesIn 37 = .ok (.iload_n 1, 1) := by decide +kernel
theorem dX11_piecesIn_38 : decode cX11_piecesIn 38 = .ok (.bipush 9, 2) := by decide +kernel
theorem dX11_piecesIn_40 : decode cX11_piecesIn 40 = .ok (.invokevirtual 167, 3) := by decide +kernel
theorem dX11_piecesIn_43 : decode cX11_piecesIn 43 = .ok (.isub, 1) := by decide +kernel
theorem dX11_piecesIn_44 : decode cX11_piecesIn 44 = .ok (.ireturn, 1) := by decide +kernel
theorem dX11_piecesOut_0 : decode cX11_piecesOut 0 = .ok (.aload_n 0, 1) := by decide +kernel
theorem dX11_piecesOut_1 : decode cX11_piecesOut 1 = .ok (.iload_n 1, 1) := by decide +kernel
theorem dX11_piecesOut_2 : decode cX11_piecesOut 2 = .ok (.invokevirtual 164, 3) := by decide +kernel
theorem dX11_piecesOut_5 : decode cX11_piecesOut 5 = .ok (.aload_n 0, 1) := by decide +kernel
theorem dX11_piecesOut_6 : decode cX11_piecesOut 6 = .ok (.iload_n 1, 1) := by decide +kernel
theorem dX11_piecesOut_7 : decode cX11_piecesOut 7 = .ok (.iconst 1, 1) := by decide +kernel
theorem dX11_piecesOut_8 : decode cX11_piecesOut 8 = .ok (.invokevirtual 167, 3) := by decide +kernel
theorem dX11_piecesOut_11 : decode cX11_piecesOut 11 = .ok (.iadd, 1) := by decide +kernel
theorem dX11_piecesOut_12 : decode cX11_piecesOut 12 = .ok (.iconst 1, 1) := by decide +kernel
theorem dX11_piecesOut_13 : decode cX11_piecesOut 13 = .ok (.isub, 1) := by decide +kernel
theorem dX11_piecesOut_14 : decode cX11_piecesOut 14 = .ok (.aload_n 0, 1) := by decide +kernel
theorem dX11_piecesOut_15 : decode cX11_piecesOut 15 = .ok (.iload_n 1, 1) := by decide +kernel
theorem dX11_piecesOut_16 : decode cX11_piecesOut 16 = .ok (.iconst 1, 1) := by decide +kernel
theorem dX11_piecesOut_17 : decode cX11_piecesOut 17 = .ok (.invokevirtual 167, 3) := by decide +kernel
theorem dX11_piecesOut_20 : decode cX11_piecesOut 20 = .ok (.idiv, 1) := by decide +kernel
theorem dX11_piecesOut_21 : decode cX11_piecesOut 21 = .ok (.ireturn, 1) := by decide +kernel
theorem dX11_plan_0 : decode cX11_plan 0 = .ok (.aload_n 0, 1) := by decide +kernel
theorem dX11_plan_1 : decode cX11_plan 1 = .ok (.iconst 0, 1) := by decide +kernel
theorem dX11_plan_2 : decode cX11_plan 2 = .ok (.putfield 1, 3) := by decide +kernel
theorem dX11_plan_5 : decode cX11_plan 5 = .ok (.iload_n 1, 1) := by decide +kernel
theorem dX11_plan_6 : decode cX11_plan 6 = .ok (.iconst 0, 1) := by decide +kernel
theorem dX11_plan_7 : decode cX11_plan 7 = .ok (.iconst 1, 1) := by decide +kernel
theorem dX11_plan_8 : decode cX11_plan 8 = .ok (.invokestatic 106, 3) := by decide +kernel
theorem dX11_plan_11 : decode cX11_plan 11 = .ok (.ifCond .ne 34, 3) := by decide +kernel
theorem dX11_plan_14 : decode cX11_plan 14 = .ok (.iload_n 1, 1) := by decide +kernel
theorem dX11_plan_15 : decode cX11_plan 15 = .ok (.bipush 10, 2) := by decide +kernel
theorem dX11_plan_17 : decode cX11_plan 17 = .ok (.if_icmp .lt 26, 3) := by decide +kernel
theorem dX11_plan_20 : decode cX11_plan 20 = .ok (.aload_n 0, 1) := by decide +kernel
theorem dX11_plan_21 : decode cX11_plan 21 = .ok (.iload_n 1, 1) := by decide +kernel
theorem dX11_plan_22 : decode cX11_plan 22 = .ok (.bipush 10, 2) := by decide +kernel
theorem dX11_plan_24 : decode cX11_plan 24 = .ok (.isub, 1) := by decide +kernel
theorem dX11_plan_25 : decode cX11_plan 25 = .ok (.invokevirtual 207, 3) := by decide +kernel
theorem dX11_plan_28 : decode cX11_plan 28 = .ok (.ifCond .eq 15, 3) := by decide +kernel
theorem dX11_plan_31 : decode cX11_plan 31 = .ok (.aload_n 0, 1) := by decide +kernel
theorem dX11_plan_32 : decode cX11_plan 32 = .ok (.iload_n 1, 1) := by decide +kernel
theorem dX11_plan_33 : decode cX11_plan 33 = .ok (.bipush 10, 2) := by decide +kernel
theorem dX11_plan_35 : decode cX11_plan 35 = .ok (.isub, 1) := by decide +kernel
theorem dX11_plan_36 : decode cX11_plan 36 = .ok (.iconst 2, 1) := by decide +kernel
theorem dX11_plan_37 : decode cX11_plan 37 = .ok (.invokevirtual 160, 3) := by decide +kernel
theorem dX11_plan_40 : decode cX11_plan 40 = .ok (.ifCond .eq 5, 3) := by decide +kernel
theorem dX11_plan_43 : decode cX11_plan 43 = .ok (.iconst (-1), 1) := by decide +kernel
theorem dX11_plan_44 : decode cX11_plan 44 = .ok (.ireturn, 1) := by decide +kernel
theorem dX11_plan_45 : decode cX11_plan 45 = .ok (.aload_n 0, 1) := by decide +kernel
theorem dX11_plan_46 : decode cX11_plan 46 = .ok (.invokevirtual 244, 3) := by decide +kernel
theorem dX11_plan_49 : decode cX11_plan 49 = .ok (.iload_n 1, 1) := by decide +kernel
theorem dX11_plan_50 : decode cX11_plan 50 = .ok (.ifCond .ne 10, 3) := by decide +kernel
theorem dX11_plan_53 : decode cX11_plan 53 = .ok (.aload_n 0, 1) := by decide +kernel
