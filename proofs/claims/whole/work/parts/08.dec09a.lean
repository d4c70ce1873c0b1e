theorem dX9_add_0 : decode cX9_add 0 = .ok (.aload_n 0, 1) := by decide +kernel
theorem dX9_add_1 : decode cX9_add 1 = .ok (.getfield 39, 3) := by decide +kernel
theorem dX9_add_4 : decode cX9_add 4 = .ok (.ifCond .lt 12, 3) := by decide +kernel
theorem dX9_add_7 : decode cX9_add 7 = .ok (.aload_n 0, 1) := by decide +kernel
theorem dX9_add_8 : decode cX9_add 8 = .ok (.getfield 39, 3) := by decide +kernel
theorem dX9_add_11 : decode cX9_add 11 = .ok (.bipush 40, 2) := by decide +kernel
theorem dX9_add_13 : decode cX9_add 13 = .ok (.if_icmp .lt 5, 3) := by decide +kernel
theorem dX9_add_16 : decode cX9_add 16 = .ok (.iconst (-1), 1) := by decide +kernel
theorem dX9_add_17 : decode cX9_add 17 = .ok (.ireturn, 1) := by decide +kernel
theorem dX9_add_18 : decode cX9_add 18 = .ok (.aload_n 0, 1) := by decide +kernel
theorem dX9_add_19 : decode cX9_add 19 = .ok (.getfield 39, 3) := by decide +kernel
theorem dX9_add_22 : decode cX9_add 22 = .ok (.istore 5, 2) := by decide +kernel
theorem dX9_add_24 : decode cX9_add 24 = .ok (.aload_n 0, 1) := by decide +kernel
theorem dX9_add_25 : decode cX9_add 25 = .ok (.getfield 9, 3) := by decide +kernel
theorem dX9_add_28 : decode cX9_add 28 = .ok (.iload 5, 2) := by decide +kernel
theorem dX9_add_30 : decode cX9_add 30 = .ok (.iload_n 1, 1) := by decide +kernel
theorem dX9_add_31 : decode cX9_add 31 = .ok (.iastore, 1) := by decide +kernel
theorem dX9_add_32 : decode cX9_add 32 = .ok (.aload_n 0, 1) := by decide +kernel
theorem dX9_add_33 : decode cX9_add 33 = .ok (.getfield 18, 3) := by decide +kernel
theorem dX9_add_36 : decode cX9_add 36 = .ok (.iload 5, 2) := by decide +kernel
theorem dX9_add_38 : decode cX9_add 38 = .ok (.iload_n 2, 1) := by decide +kernel
theorem dX9_add_39 : decode cX9_add 39 = .ok (.iastore, 1) := by decide +kernel
theorem dX9_add_40 : decode cX9_add 40 = .ok (.aload_n 0, 1) := by decide +kernel
theorem dX9_add_41 : decode cX9_add 41 = .ok (.getfield 15, 3) := by decide +kernel
theorem dX9_add_44 : decode cX9_add 44 = .ok (.iload 5, 2) := by decide +kernel
theorem dX9_add_46 : decode cX9_add 46 = .ok (.iload_n 3, 1) := by decide +kernel
theorem dX9_add_47 : decode cX9_add 47 = .ok (.iastore, 1) := by decide +kernel
theorem dX9_add_48 : decode cX9_add 48 = .ok (.aload_n 0, 1) := by decide +kernel
theorem dX9_add_49 : decode cX9_add 49 = .ok (.getfield 21, 3) := by decide +kernel
theorem dX9_add_52 : decode cX9_add 52 = .ok (.iload 5, 2) := by decide +kernel
theorem dX9_add_54 : decode cX9_add 54 = .ok (.iload 4, 2) := by decide +kernel
theorem dX9_add_56 : decode cX9_add 56 = .ok (.iastore, 1) := by decide +kernel
theorem dX9_add_57 : decode cX9_add 57 = .ok (.aload_n 0, 1) := by decide +kernel
theorem dX9_add_58 : decode cX9_add 58 = .ok (.getfield 24, 3) := by decide +kernel
theorem dX9_add_61 : decode cX9_add 61 = .ok (.iload 5, 2) := by decide +kernel
theorem dX9_add_63 : decode cX9_add 63 = .ok (.iconst 0, 1) := by decide +kernel
theorem dX9_add_64 : decode cX9_add 64 = .ok (.iastore, 1) := by decide +kernel
theorem dX9_add_65 : decode cX9_add 65 = .ok (.aload_n 0, 1) := by decide +kernel
theorem dX9_add_66 : decode cX9_add 66 = .ok (.getfield 27, 3) := by decide +kernel
theorem dX9_add_69 : decode cX9_add 69 = .ok (.iload 5, 2) := by decide +kernel
theorem dX9_add_71 : decode cX9_add 71 = .ok (.iconst (-1), 1) := by decide +kernel
theorem dX9_add_72 : decode cX9_add 72 = .ok (.iastore, 1) := by decide +kernel
theorem dX9_add_73 : decode cX9_add 73 = .ok (.aload_n 0, 1) := by decide +kernel
theorem dX9_add_74 : decode cX9_add 74 = .ok (.getfield 30, 3) := by decide +kernel
theorem dX9_add_77 : decode cX9_add 77 = .ok (.iload 5, 2) := by decide +kernel
theorem dX9_add_79 : decode cX9_add 79 = .ok (.iconst (-1), 1) := by decide +kernel
theorem dX9_add_80 : decode cX9_add 80 = .ok (.iastore, 1) := by decide +kernel
theorem dX9_add_81 : decode cX9_add 81 = .ok (.aload_n 0, 1) := by decide +kernel
theorem dX9_add_82 : decode cX9_add 82 = .ok (.getfield 33, 3) := by decide +kernel
theorem dX9_add_85 : decode cX9_add 85 = .ok (.iload 5, 2) := by decide +kernel
theorem dX9_add_87 : decode cX9_add 87 = .ok (.iconst (-1), 1) := by decide +kernel
theorem dX9_add_88 : decode cX9_add 88 = .ok (.iastore, 1) := by decide +kernel
theorem dX9_add_89 : decode cX9_add 89 = .ok (.aload_n 0, 1) := by decide +kernel
theorem dX9_add_90 : decode cX9_add 90 = .ok (.getfield 36, 3) := by decide +kernel
theorem dX9_add_93 : decode cX9_add 93 = .ok (.iload 5, 2) := by decide +kernel
theorem dX9_add_95 : decode cX9_add 95 = .ok (.iconst 0, 1) := by decide +kernel
theorem dX9_add_96 : decode cX9_add 96 = .ok (.iastore, 1) := by decide +kernel
theorem dX9_add_97 : decode cX9_add 97 = .ok (.aload_n 0, 1) := by decide +kernel
theorem dX9_add_98 : decode cX9_add 98 = .ok (.dup, 1) := by decide +kernel
theorem dX9_add_99 : decode cX9_add 99 = .ok (.getfield 39, 3) := by decide +kernel
theorem dX9_add_102 : decode cX9_add 102 = .ok (.iconst 1, 1) := by decide +kernel
theorem dX9_add_103 : decode cX9_add 103 = .ok (.iadd, 1) := by decide +kernel
theorem dX9_add_104 : decode cX9_add 104 = .ok (.putfield 39, 3) := by decide +kernel
theorem dX9_add_107 : decode cX9_add 107 = .ok (.iload 5, 2) := by decide +kernel
theorem dX9_add_109 : decode cX9_add 109 = .ok (.ireturn, 1) := by decide +kernel
theorem dX9_countIn_0 : decode cX9_countIn 0 = .ok (.iconst 0, 1) := by decide +kernel
theorem dX9_countIn_1 : decode cX9_countIn 1 = .ok (.istore_n 2, 1) := by decide +kernel
theorem dX9_countIn_2 : decode cX9_countIn 2 = .ok (.iconst 0, 1) := by decide +kernel
theorem dX9_countIn_3 : decode cX9_countIn 3 = .ok (.istore_n 3, 1) := by decide +kernel
theorem dX9_countIn_4 : decode cX9_countIn 4 = .ok (.iload_n 3, 1) := by decide +kernel
theorem dX9_countIn_5 : decode cX9_countIn 5 = .ok (.aload_n 0, 1) := by decide +kernel
theorem dX9_countIn_6 : decode cX9_countIn 6 = .ok (.getfield 39, 3) := by decide +kernel
theorem dX9_countIn_9 : decode cX9_countIn 9 = .ok (.if_icmp .ge 22, 3) := by decide +kernel
theorem dX9_countIn_12 : decode cX9_countIn 12 = .ok (.aload_n 0, 1) := by decide +kernel
theorem dX9_countIn_13 : decode cX9_countIn 13 = .ok (.getfield 24, 3) := by decide +kernel
theorem dX9_countIn_16 : decode cX9_countIn 16 = .ok (.iload_n 3, 1) := by decide +kernel
theorem dX9_countIn_17 : decode cX9_countIn 17 = .ok (.iaload, 1) := by decide +kernel
theorem dX9_countIn_18 : decode cX9_countIn 18 = .ok (.iload_n 1, 1) := by decide +kernel
theorem dX9_countIn_19 : decode cX9_countIn 19 = .ok (.if_icmp .ne 6, 3) := by decide +kernel
theorem dX9_countIn_22 : decode cX9_countIn 22 = .ok (.iinc 2 1, 3) := by decide +kernel
theorem dX9_countIn_25 : decode cX9_countIn 25 = .ok (.iinc 3 1, 3) := by decide +kernel
theorem dX9_countIn_28 : decode cX9_countIn 28 = .ok (.goto (-24), 3) := by decide +kernel
theorem dX9_countIn_31 : decode cX9_countIn 31 = .ok (.iload_n 2, 1) := by decide +kernel
theorem dX9_countIn_32 : decode cX9_countIn 32 = .ok (.ireturn, 1) := by decide +kernel
theorem dX9_has_0 : decode cX9_has 0 = .ok (.iload_n 1, 1) := by decide +kernel
theorem dX9_has_1 : decode cX9_has 1 = .ok (.ifCond .lt 15, 3) := by decide +kernel
theorem dX9_has_4 : decode cX9_has 4 = .ok (.iload_n 1, 1) := by decide +kernel
theorem dX9_has_5 : decode cX9_has 5 = .ok (.aload_n 0, 1) := by decide +kernel
theorem dX9_has_6 : decode cX9_has 6 = .ok (.getfield 39, 3) := by decide +kernel
theorem dX9_has_9 : decode cX9_has 9 = .ok (.if_icmp .ge 7, 3) := by decide +kernel
theorem dX9_has_12 : decode cX9_has 12 = .ok (.iconst 1, 1) := by decide +kernel
theorem dX9_has_13 : decode cX9_has 13 = .ok (.goto 4, 3) := by decide +kernel
theorem dX9_has_16 : decode cX9_has 16 = .ok (.iconst 0, 1) := by decide +kernel
theorem dX9_has_17 : decode cX9_has 17 = .ok (.ireturn, 1) := by decide +kernel
theorem dX9_landOf_0 : decode cX9_landOf 0 = .ok (.iload_n 2, 1) := by decide +kernel
theorem dX9_landOf_1 : decode cX9_landOf 1 = .ok (.ifCond .lt 13, 3) := by decide +kernel
theorem dX9_landOf_4 : decode cX9_landOf 4 = .ok (.iload_n 2, 1) := by decide +kernel
theorem dX9_landOf_5 : decode cX9_landOf 5 = .ok (.aload_n 0, 1) := by decide +kernel
theorem dX9_landOf_6 : decode cX9_landOf 6 = .ok (.getfield 15, 3) := by decide +kernel
theorem dX9_landOf_9 : decode cX9_landOf 9 = .ok (.iload_n 1, 1) := by decide +kernel
theorem dX9_landOf_10 : decode cX9_landOf 10 = .ok (.iaload, 1) := by decide +kernel
theorem dX9_landOf_11 : decode cX9_landOf 11 = .ok (.if_icmp .lt 5, 3) := by decide +kernel
theorem dX9_landOf_14 : decode cX9_landOf 14 = .ok (.iconst (-1), 1) := by decide +kernel
theorem dX9_landOf_15 : decode cX9_landOf 15 = .ok (.ireturn, 1) := by decide +kernel
theorem dX9_landOf_16 : decode cX9_landOf 16 = .ok (.aload_n 0, 1) := by decide +kernel
theorem dX9_landOf_17 : decode cX9_landOf 17 = .ok (.getfield 18, 3) := by decide +kernel
theorem dX9_landOf_20 : decode cX9_landOf 20 = .ok (.iload_n 1, 1) := by decide +kernel
theorem dX9_landOf_21 : decode cX9_landOf 21 = .ok (.iaload, 1) := by decide +kernel
theorem dX9_landOf_22 : decode cX9_landOf 22 = .ok (.istore_n 3, 1) := by decide +kernel
theorem dX9_landOf_23 : decode cX9_landOf 23 = .ok (.iconst 0, 1) := by decide +kernel
theorem dX9_landOf_24 : decode cX9_landOf 24 = .ok (.istore 4, 2) := by decide +kernel
theorem dX9_landOf_26 : decode cX9_landOf 26 = .ok (.iload 4, 2) := by decide +kernel
theorem dX9_landOf_28 : decode cX9_landOf 28 = .ok (.iload_n 2, 1) := by decide +kernel
theorem dX9_landOf_29 : decode cX9_landOf 29 = .ok (.if_icmp .ge 14, 3) := by decide +kernel
theorem dX9_landOf_32 : decode cX9_landOf 32 = .ok (.iload_n 3, 1) := by decide +kernel
theorem dX9_landOf_33 : decode cX9_landOf 33 = .ok (.bipush 10, 2) := by decide +kernel
theorem dX9_landOf_35 : decode cX9_landOf 35 = .ok (.idiv, 1) := by decide +kernel
theorem dX9_landOf_36 : decode cX9_landOf 36 = .ok (.istore_n 3, 1) := by decide +kernel
theorem dX9_landOf_37 : decode cX9_landOf 37 = .ok (.iinc 4 1, 3) := by decide +kernel
theorem dX9_landOf_40 : decode cX9_landOf 40 = .ok (.goto (-14), 3) := by decide +kernel
theorem dX9_landOf_43 : decode cX9_landOf 43 = .ok (.iload_n 3, 1) := by decide +kernel
theorem dX9_landOf_44 : decode cX9_landOf 44 = .ok (.bipush 10, 2) := by decide +kernel
theorem dX9_landOf_46 : decode cX9_landOf 46 = .ok (.irem, 1) := by decide +kernel
theorem dX9_landOf_47 : decode cX9_landOf 47 = .ok (.ireturn, 1) := by decide +kernel
