theorem dX5_addFree_0 : decode cX5_addFree 0 = .ok (.aload_n 0, 1) := by decide +kernel
theorem dX5_addFree_1 : decode cX5_addFree 1 = .ok (.getfield 19, 3) := by decide +kernel
theorem dX5_addFree_4 : decode cX5_addFree 4 = .ok (.iload_n 1, 1) := by decide +kernel
theorem dX5_addFree_5 : decode cX5_addFree 5 = .ok (.iconst 0, 1) := by decide +kernel
theorem dX5_addFree_6 : decode cX5_addFree 6 = .ok (.aload_n 0, 1) := by decide +kernel
theorem dX5_addFree_7 : decode cX5_addFree 7 = .ok (.getfield 19, 3) := by decide +kernel
theorem dX5_addFree_10 : decode cX5_addFree 10 = .ok (.iload_n 1, 1) := by decide +kernel
theorem dX5_addFree_11 : decode cX5_addFree 11 = .ok (.iaload, 1) := by decide +kernel
theorem dX5_addFree_12 : decode cX5_addFree 12 = .ok (.iload_n 2, 1) := by decide +kernel
theorem dX5_addFree_13 : decode cX5_addFree 13 = .ok (.iadd, 1) := by decide +kernel
theorem dX5_addFree_14 : decode cX5_addFree 14 = .ok (.invokestatic 86, 3) := by decide +kernel
theorem dX5_addFree_17 : decode cX5_addFree 17 = .ok (.iastore, 1) := by decide +kernel
theorem dX5_addFree_18 : decode cX5_addFree 18 = .ok (.return_, 1) := by decide +kernel
theorem dX5_cheapestOpen_0 : decode cX5_cheapestOpen 0 = .ok (.bipush 6, 2) := by decide +kernel
theorem dX5_cheapestOpen_2 : decode cX5_cheapestOpen 2 = .ok (.istore_n 1, 1) := by decide +kernel
theorem dX5_cheapestOpen_3 : decode cX5_cheapestOpen 3 = .ok (.iconst 0, 1) := by decide +kernel
theorem dX5_cheapestOpen_4 : decode cX5_cheapestOpen 4 = .ok (.istore_n 2, 1) := by decide +kernel
theorem dX5_cheapestOpen_5 : decode cX5_cheapestOpen 5 = .ok (.iload_n 2, 1) := by decide +kernel
theorem dX5_cheapestOpen_6 : decode cX5_cheapestOpen 6 = .ok (.bipush 6, 2) := by decide +kernel
theorem dX5_cheapestOpen_8 : decode cX5_cheapestOpen 8 = .ok (.if_icmp .ge 36, 3) := by decide +kernel
theorem dX5_cheapestOpen_11 : decode cX5_cheapestOpen 11 = .ok (.aload_n 0, 1) := by decide +kernel
theorem dX5_cheapestOpen_12 : decode cX5_cheapestOpen 12 = .ok (.getfield 22, 3) := by decide +kernel
theorem dX5_cheapestOpen_15 : decode cX5_cheapestOpen 15 = .ok (.iload_n 2, 1) := by decide +kernel
theorem dX5_cheapestOpen_16 : decode cX5_cheapestOpen 16 = .ok (.iaload, 1) := by decide +kernel
theorem dX5_cheapestOpen_17 : decode cX5_cheapestOpen 17 = .ok (.ifCond .le 21, 3) := by decide +kernel
theorem dX5_cheapestOpen_20 : decode cX5_cheapestOpen 20 = .ok (.aload_n 0, 1) := by decide +kernel
theorem dX5_cheapestOpen_21 : decode cX5_cheapestOpen 21 = .ok (.getfield 28, 3) := by decide +kernel
theorem dX5_cheapestOpen_24 : decode cX5_cheapestOpen 24 = .ok (.iload_n 2, 1) := by decide +kernel
theorem dX5_cheapestOpen_25 : decode cX5_cheapestOpen 25 = .ok (.laload, 1) := by decide +kernel
theorem dX5_cheapestOpen_26 : decode cX5_cheapestOpen 26 = .ok (.aload_n 0, 1) := by decide +kernel
theorem dX5_cheapestOpen_27 : decode cX5_cheapestOpen 27 = .ok (.getfield 28, 3) := by decide +kernel
theorem dX5_cheapestOpen_30 : decode cX5_cheapestOpen 30 = .ok (.iload_n 1, 1) := by decide +kernel
theorem dX5_cheapestOpen_31 : decode cX5_cheapestOpen 31 = .ok (.laload, 1) := by decide +kernel
theorem dX5_cheapestOpen_32 : decode cX5_cheapestOpen 32 = .ok (.lcmp, 1) := by decide +kernel
theorem dX5_cheapestOpen_33 : decode cX5_cheapestOpen 33 = .ok (.ifCond .ge 5, 3) := by decide +kernel
theorem dX5_cheapestOpen_36 : decode cX5_cheapestOpen 36 = .ok (.iload_n 2, 1) := by decide +kernel
theorem dX5_cheapestOpen_37 : decode cX5_cheapestOpen 37 = .ok (.istore_n 1, 1) := by decide +kernel
theorem dX5_cheapestOpen_38 : decode cX5_cheapestOpen 38 = .ok (.iinc 2 1, 3) := by decide +kernel
theorem dX5_cheapestOpen_41 : decode cX5_cheapestOpen 41 = .ok (.goto (-36), 3) := by decide +kernel
theorem dX5_cheapestOpen_44 : decode cX5_cheapestOpen 44 = .ok (.iload_n 1, 1) := by decide +kernel
theorem dX5_cheapestOpen_45 : decode cX5_cheapestOpen 45 = .ok (.ireturn, 1) := by decide +kernel
theorem dX5_costTogether_0 : decode cX5_costTogether 0 = .ok (.iconst 0, 1) := by decide +kernel
theorem dX5_costTogether_1 : decode cX5_costTogether 1 = .ok (.istore_n 2, 1) := by decide +kernel
theorem dX5_costTogether_2 : decode cX5_costTogether 2 = .ok (.iconst 0, 1) := by decide +kernel
theorem dX5_costTogether_3 : decode cX5_costTogether 3 = .ok (.istore_n 3, 1) := by decide +kernel
theorem dX5_costTogether_4 : decode cX5_costTogether 4 = .ok (.iload_n 3, 1) := by decide +kernel
theorem dX5_costTogether_5 : decode cX5_costTogether 5 = .ok (.aload_n 0, 1) := by decide +kernel
theorem dX5_costTogether_6 : decode cX5_costTogether 6 = .ok (.getfield 34, 3) := by decide +kernel
theorem dX5_costTogether_9 : decode cX5_costTogether 9 = .ok (.if_icmp .ge 36, 3) := by decide +kernel
theorem dX5_costTogether_12 : decode cX5_costTogether 12 = .ok (.aload_n 1, 1) := by decide +kernel
theorem dX5_costTogether_13 : decode cX5_costTogether 13 = .ok (.aload_n 0, 1) := by decide +kernel
theorem dX5_costTogether_14 : decode cX5_costTogether 14 = .ok (.getfield 25, 3) := by decide +kernel
theorem dX5_costTogether_17 : decode cX5_costTogether 17 = .ok (.iload_n 3, 1) := by decide +kernel
theorem dX5_costTogether_18 : decode cX5_costTogether 18 = .ok (.iaload, 1) := by decide +kernel
theorem dX5_costTogether_19 : decode cX5_costTogether 19 = .ok (.invokevirtual 61, 3) := by decide +kernel
theorem dX5_costTogether_22 : decode cX5_costTogether 22 = .ok (.ifCond .eq 17, 3) := by decide +kernel
theorem dX5_costTogether_25 : decode cX5_costTogether 25 = .ok (.iload_n 2, 1) := by decide +kernel
theorem dX5_costTogether_26 : decode cX5_costTogether 26 = .ok (.aload_n 1, 1) := by decide +kernel
theorem dX5_costTogether_27 : decode cX5_costTogether 27 = .ok (.getfield 75, 3) := by decide +kernel
theorem dX5_costTogether_30 : decode cX5_costTogether 30 = .ok (.aload_n 0, 1) := by decide +kernel
theorem dX5_costTogether_31 : decode cX5_costTogether 31 = .ok (.getfield 25, 3) := by decide +kernel
theorem dX5_costTogether_34 : decode cX5_costTogether 34 = .ok (.iload_n 3, 1) := by decide +kernel
theorem dX5_costTogether_35 : decode cX5_costTogether 35 = .ok (.iaload, 1) := by decide +kernel
theorem dX5_costTogether_36 : decode cX5_costTogether 36 = .ok (.iaload, 1) := by decide +kernel
theorem dX5_costTogether_37 : decode cX5_costTogether 37 = .ok (.iadd, 1) := by decide +kernel
theorem dX5_costTogether_38 : decode cX5_costTogether 38 = .ok (.istore_n 2, 1) := by decide +kernel
theorem dX5_costTogether_39 : decode cX5_costTogether 39 = .ok (.iinc 3 1, 3) := by decide +kernel
theorem dX5_costTogether_42 : decode cX5_costTogether 42 = .ok (.goto (-38), 3) := by decide +kernel
theorem dX5_costTogether_45 : decode cX5_costTogether 45 = .ok (.iload_n 2, 1) := by decide +kernel
theorem dX5_costTogether_46 : decode cX5_costTogether 46 = .ok (.ireturn, 1) := by decide +kernel
theorem dX5_findChains_0 : decode cX5_findChains 0 = .ok (.iconst 0, 1) := by decide +kernel
theorem dX5_findChains_1 : decode cX5_findChains 1 = .ok (.istore_n 2, 1) := by decide +kernel
theorem dX5_findChains_2 : decode cX5_findChains 2 = .ok (.iload_n 2, 1) := by decide +kernel
theorem dX5_findChains_3 : decode cX5_findChains 3 = .ok (.bipush 7, 2) := by decide +kernel
theorem dX5_findChains_5 : decode cX5_findChains 5 = .ok (.if_icmp .ge 33, 3) := by decide +kernel
theorem dX5_findChains_8 : decode cX5_findChains 8 = .ok (.aload_n 0, 1) := by decide +kernel
theorem dX5_findChains_9 : decode cX5_findChains 9 = .ok (.getfield 28, 3) := by decide +kernel
theorem dX5_findChains_12 : decode cX5_findChains 12 = .ok (.iload_n 2, 1) := by decide +kernel
theorem dX5_findChains_13 : decode cX5_findChains 13 = .ok (.aload_n 0, 1) := by decide +kernel
theorem dX5_findChains_14 : decode cX5_findChains 14 = .ok (.getfield 15, 3) := by decide +kernel
theorem dX5_findChains_17 : decode cX5_findChains 17 = .ok (.iload_n 1, 1) := by decide +kernel
theorem dX5_findChains_18 : decode cX5_findChains 18 = .ok (.bipush 7, 2) := by decide +kernel
theorem dX5_findChains_20 : decode cX5_findChains 20 = .ok (.imul, 1) := by decide +kernel
theorem dX5_findChains_21 : decode cX5_findChains 21 = .ok (.iload_n 2, 1) := by decide +kernel
theorem dX5_findChains_22 : decode cX5_findChains 22 = .ok (.iadd, 1) := by decide +kernel
theorem dX5_findChains_23 : decode cX5_findChains 23 = .ok (.laload, 1) := by decide +kernel
theorem dX5_findChains_24 : decode cX5_findChains 24 = .ok (.lastore, 1) := by decide +kernel
theorem dX5_findChains_25 : decode cX5_findChains 25 = .ok (.aload_n 0, 1) := by decide +kernel
theorem dX5_findChains_26 : decode cX5_findChains 26 = .ok (.getfield 31, 3) := by decide +kernel
theorem dX5_findChains_29 : decode cX5_findChains 29 = .ok (.iload_n 2, 1) := by decide +kernel
theorem dX5_findChains_30 : decode cX5_findChains 30 = .ok (.iload_n 1, 1) := by decide +kernel
theorem dX5_findChains_31 : decode cX5_findChains 31 = .ok (.iastore, 1) := by decide +kernel
theorem dX5_findChains_32 : decode cX5_findChains 32 = .ok (.iinc 2 1, 3) := by decide +kernel
theorem dX5_findChains_35 : decode cX5_findChains 35 = .ok (.goto (-33), 3) := by decide +kernel
theorem dX5_findChains_38 : decode cX5_findChains 38 = .ok (.iconst 1, 1) := by decide +kernel
theorem dX5_findChains_39 : decode cX5_findChains 39 = .ok (.istore_n 2, 1) := by decide +kernel
theorem dX5_findChains_40 : decode cX5_findChains 40 = .ok (.iconst 0, 1) := by decide +kernel
theorem dX5_findChains_41 : decode cX5_findChains 41 = .ok (.istore_n 3, 1) := by decide +kernel
theorem dX5_findChains_42 : decode cX5_findChains 42 = .ok (.iload_n 3, 1) := by decide +kernel
theorem dX5_findChains_43 : decode cX5_findChains 43 = .ok (.bipush 7, 2) := by decide +kernel
theorem dX5_findChains_45 : decode cX5_findChains 45 = .ok (.if_icmp .ge 41, 3) := by decide +kernel
theorem dX5_findChains_48 : decode cX5_findChains 48 = .ok (.iload_n 2, 1) := by decide +kernel
theorem dX5_findChains_49 : decode cX5_findChains 49 = .ok (.ifCond .eq 37, 3) := by decide +kernel
theorem dX5_findChains_52 : decode cX5_findChains 52 = .ok (.iconst 0, 1) := by decide +kernel
theorem dX5_findChains_53 : decode cX5_findChains 53 = .ok (.istore_n 2, 1) := by decide +kernel
theorem dX5_findChains_54 : decode cX5_findChains 54 = .ok (.iconst 0, 1) := by decide +kernel
theorem dX5_findChains_55 : decode cX5_findChains 55 = .ok (.istore 4, 2) := by decide +kernel
theorem dX5_findChains_57 : decode cX5_findChains 57 = .ok (.iload 4, 2) := by decide +kernel
theorem dX5_findChains_59 : decode cX5_findChains 59 = .ok (.iload_n 1, 1) := by decide +kernel
theorem dX5_findChains_60 : decode cX5_findChains 60 = .ok (.if_icmp .ge 20, 3) := by decide +kernel
theorem dX5_findChains_63 : decode cX5_findChains 63 = .ok (.aload_n 0, 1) := by decide +kernel
theorem dX5_findChains_64 : decode cX5_findChains 64 = .ok (.iload 4, 2) := by decide +kernel
theorem dX5_findChains_66 : decode cX5_findChains 66 = .ok (.invokevirtual 107, 3) := by decide +kernel
theorem dX5_findChains_69 : decode cX5_findChains 69 = .ok (.ifCond .eq 5, 3) := by decide +kernel
theorem dX5_findChains_72 : decode cX5_findChains 72 = .ok (.iconst 1, 1) := by decide +kernel
theorem dX5_findChains_73 : decode cX5_findChains 73 = .ok (.istore_n 2, 1) := by decide +kernel
theorem dX5_findChains_74 : decode cX5_findChains 74 = .ok (.iinc 4 1, 3) := by decide +kernel
theorem dX5_findChains_77 : decode cX5_findChains 77 = .ok (.goto (-20), 3) := by decide +kernel
theorem dX5_findChains_80 : decode cX5_findChains 80 = .ok (.iinc 3 1, 3) := by decide +kernel
theorem dX5_findChains_83 : decode cX5_findChains 83 = .ok (.goto (-41), 3) := by decide +kernel
theorem dX5_findChains_86 : decode cX5_findChains 86 = .ok (.return_, 1) := by decide +kernel
theorem dX5_moveAlong_0 : decode cX5_moveAlong 0 = .ok (.aload_n 0, 1) := by decide +kernel
theorem dX5_moveAlong_1 : decode cX5_moveAlong 1 = .ok (.getfield 22, 3) := by decide +kernel
theorem dX5_moveAlong_4 : decode cX5_moveAlong 4 = .ok (.iload_n 2, 1) := by decide +kernel
theorem dX5_moveAlong_5 : decode cX5_moveAlong 5 = .ok (.dup2, 1) := by decide +kernel
theorem dX5_moveAlong_6 : decode cX5_moveAlong 6 = .ok (.iaload, 1) := by decide +kernel
theorem dX5_moveAlong_7 : decode cX5_moveAlong 7 = .ok (.iconst 1, 1) := by decide +kernel
theorem dX5_moveAlong_8 : decode cX5_moveAlong 8 = .ok (.isub, 1) := by decide +kernel
theorem dX5_moveAlong_9 : decode cX5_moveAlong 9 = .ok (.iastore, 1) := by decide +kernel
theorem dX5_moveAlong_10 : decode cX5_moveAlong 10 = .ok (.iload_n 2, 1) := by decide +kernel
theorem dX5_moveAlong_11 : decode cX5_moveAlong 11 = .ok (.istore_n 3, 1) := by decide +kernel
theorem dX5_moveAlong_12 : decode cX5_moveAlong 12 = .ok (.iconst 0, 1) := by decide +kernel
theorem dX5_moveAlong_13 : decode cX5_moveAlong 13 = .ok (.istore 4, 2) := by decide +kernel
theorem dX5_moveAlong_15 : decode cX5_moveAlong 15 = .ok (.iload 4, 2) := by decide +kernel
theorem dX5_moveAlong_17 : decode cX5_moveAlong 17 = .ok (.bipush 7, 2) := by decide +kernel
theorem dX5_moveAlong_19 : decode cX5_moveAlong 19 = .ok (.if_icmp .ge 51, 3) := by decide +kernel
theorem dX5_moveAlong_22 : decode cX5_moveAlong 22 = .ok (.iload_n 3, 1) := by decide +kernel
theorem dX5_moveAlong_23 : decode cX5_moveAlong 23 = .ok (.ifCond .lt 47, 3) := by decide +kernel
theorem dX5_moveAlong_26 : decode cX5_moveAlong 26 = .ok (.aload_n 0, 1) := by decide +kernel
theorem dX5_moveAlong_27 : decode cX5_moveAlong 27 = .ok (.getfield 31, 3) := by decide +kernel
theorem dX5_moveAlong_30 : decode cX5_moveAlong 30 = .ok (.iload_n 3, 1) := by decide +kernel
theorem dX5_moveAlong_31 : decode cX5_moveAlong 31 = .ok (.iaload, 1) := by decide +kernel
theorem dX5_moveAlong_32 : decode cX5_moveAlong 32 = .ok (.istore 5, 2) := by decide +kernel
theorem dX5_moveAlong_34 : decode cX5_moveAlong 34 = .ok (.aload_n 0, 1) := by decide +kernel
theorem dX5_moveAlong_35 : decode cX5_moveAlong 35 = .ok (.getfield 25, 3) := by decide +kernel
theorem dX5_moveAlong_38 : decode cX5_moveAlong 38 = .ok (.iload 5, 2) := by decide +kernel
theorem dX5_moveAlong_40 : decode cX5_moveAlong 40 = .ok (.iaload, 1) := by decide +kernel
theorem dX5_moveAlong_41 : decode cX5_moveAlong 41 = .ok (.istore 6, 2) := by decide +kernel
theorem dX5_moveAlong_43 : decode cX5_moveAlong 43 = .ok (.aload_n 0, 1) := by decide +kernel
theorem dX5_moveAlong_44 : decode cX5_moveAlong 44 = .ok (.getfield 25, 3) := by decide +kernel
theorem dX5_moveAlong_47 : decode cX5_moveAlong 47 = .ok (.iload 5, 2) := by decide +kernel
theorem dX5_moveAlong_49 : decode cX5_moveAlong 49 = .ok (.iload_n 3, 1) := by decide +kernel
theorem dX5_moveAlong_50 : decode cX5_moveAlong 50 = .ok (.iastore, 1) := by decide +kernel
theorem dX5_moveAlong_51 : decode cX5_moveAlong 51 = .ok (.iload 5, 2) := by decide +kernel
theorem dX5_moveAlong_53 : decode cX5_moveAlong 53 = .ok (.iload_n 1, 1) := by decide +kernel
theorem dX5_moveAlong_54 : decode cX5_moveAlong 54 = .ok (.if_icmp .ne 7, 3) := by decide +kernel
theorem dX5_moveAlong_57 : decode cX5_moveAlong 57 = .ok (.iconst (-1), 1) := by decide +kernel
theorem dX5_moveAlong_58 : decode cX5_moveAlong 58 = .ok (.goto 5, 3) := by decide +kernel
theorem dX5_moveAlong_61 : decode cX5_moveAlong 61 = .ok (.iload 6, 2) := by decide +kernel
theorem dX5_moveAlong_63 : decode cX5_moveAlong 63 = .ok (.istore_n 3, 1) := by decide +kernel
theorem dX5_moveAlong_64 : decode cX5_moveAlong 64 = .ok (.iinc 4 1, 3) := by decide +kernel
theorem dX5_moveAlong_67 : decode cX5_moveAlong 67 = .ok (.goto (-52), 3) := by decide +kernel
theorem dX5_moveAlong_70 : decode cX5_moveAlong 70 = .ok (.return_, 1) := by decide +kernel
theorem dX5_pushOn_0 : decode cX5_pushOn 0 = .ok (.aload_n 0, 1) := by decide +kernel
theorem dX5_pushOn_1 : decode cX5_pushOn 1 = .ok (.getfield 25, 3) := by decide +kernel
theorem dX5_pushOn_4 : decode cX5_pushOn 4 = .ok (.iload_n 1, 1) := by decide +kernel
theorem dX5_pushOn_5 : decode cX5_pushOn 5 = .ok (.iaload, 1) := by decide +kernel
theorem dX5_pushOn_6 : decode cX5_pushOn 6 = .ok (.istore_n 2, 1) := by decide +kernel
theorem dX5_pushOn_7 : decode cX5_pushOn 7 = .ok (.iload_n 2, 1) := by decide +kernel
theorem dX5_pushOn_8 : decode cX5_pushOn 8 = .ok (.ifCond .lt 16, 3) := by decide +kernel
theorem dX5_pushOn_11 : decode cX5_pushOn 11 = .ok (.aload_n 0, 1) := by decide +kernel
theorem dX5_pushOn_12 : decode cX5_pushOn 12 = .ok (.getfield 28, 3) := by decide +kernel
theorem dX5_pushOn_15 : decode cX5_pushOn 15 = .ok (.iload_n 2, 1) := by decide +kernel
theorem dX5_pushOn_16 : decode cX5_pushOn 16 = .ok (.laload, 1) := by decide +kernel
theorem dX5_pushOn_17 : decode cX5_pushOn 17 = .ok (.ldc2_w 80, 3) := by decide +kernel
theorem dX5_pushOn_20 : decode cX5_pushOn 20 = .ok (.lcmp, 1) := by decide +kernel
theorem dX5_pushOn_21 : decode cX5_pushOn 21 = .ok (.ifCond .lt 5, 3) := by decide +kernel
theorem dX5_pushOn_24 : decode cX5_pushOn 24 = .ok (.iconst 0, 1) := by decide +kernel
theorem dX5_pushOn_25 : decode cX5_pushOn 25 = .ok (.ireturn, 1) := by decide +kernel
theorem dX5_pushOn_26 : decode cX5_pushOn 26 = .ok (.iconst 0, 1) := by decide +kernel
theorem dX5_pushOn_27 : decode cX5_pushOn 27 = .ok (.istore_n 3, 1) := by decide +kernel
theorem dX5_pushOn_28 : decode cX5_pushOn 28 = .ok (.iconst 0, 1) := by decide +kernel
theorem dX5_pushOn_29 : decode cX5_pushOn 29 = .ok (.istore 4, 2) := by decide +kernel
theorem dX5_pushOn_31 : decode cX5_pushOn 31 = .ok (.iload 4, 2) := by decide +kernel
theorem dX5_pushOn_33 : decode cX5_pushOn 33 = .ok (.bipush 7, 2) := by decide +kernel
theorem dX5_pushOn_35 : decode cX5_pushOn 35 = .ok (.if_icmp .ge 87, 3) := by decide +kernel
theorem dX5_pushOn_38 : decode cX5_pushOn 38 = .ok (.aload_n 0, 1) := by decide +kernel
theorem dX5_pushOn_39 : decode cX5_pushOn 39 = .ok (.getfield 15, 3) := by decide +kernel
theorem dX5_pushOn_42 : decode cX5_pushOn 42 = .ok (.iload_n 1, 1) := by decide +kernel
theorem dX5_pushOn_43 : decode cX5_pushOn 43 = .ok (.bipush 7, 2) := by decide +kernel
theorem dX5_pushOn_45 : decode cX5_pushOn 45 = .ok (.imul, 1) := by decide +kernel
theorem dX5_pushOn_46 : decode cX5_pushOn 46 = .ok (.iload 4, 2) := by decide +kernel
theorem dX5_pushOn_48 : decode cX5_pushOn 48 = .ok (.iadd, 1) := by decide +kernel
theorem dX5_pushOn_49 : decode cX5_pushOn 49 = .ok (.laload, 1) := by decide +kernel
theorem dX5_pushOn_50 : decode cX5_pushOn 50 = .ok (.lstore 5, 2) := by decide +kernel
theorem dX5_pushOn_52 : decode cX5_pushOn 52 = .ok (.aload_n 0, 1) := by decide +kernel
theorem dX5_pushOn_53 : decode cX5_pushOn 53 = .ok (.getfield 28, 3) := by decide +kernel
theorem dX5_pushOn_56 : decode cX5_pushOn 56 = .ok (.iload_n 2, 1) := by decide +kernel
theorem dX5_pushOn_57 : decode cX5_pushOn 57 = .ok (.laload, 1) := by decide +kernel
theorem dX5_pushOn_58 : decode cX5_pushOn 58 = .ok (.aload_n 0, 1) := by decide +kernel
theorem dX5_pushOn_59 : decode cX5_pushOn 59 = .ok (.getfield 15, 3) := by decide +kernel
theorem dX5_pushOn_62 : decode cX5_pushOn 62 = .ok (.iload_n 1, 1) := by decide +kernel
theorem dX5_pushOn_63 : decode cX5_pushOn 63 = .ok (.bipush 7, 2) := by decide +kernel
theorem dX5_pushOn_65 : decode cX5_pushOn 65 = .ok (.imul, 1) := by decide +kernel
theorem dX5_pushOn_66 : decode cX5_pushOn 66 = .ok (.iload_n 2, 1) := by decide +kernel
theorem dX5_pushOn_67 : decode cX5_pushOn 67 = .ok (.iadd, 1) := by decide +kernel
theorem dX5_pushOn_68 : decode cX5_pushOn 68 = .ok (.laload, 1) := by decide +kernel
theorem dX5_pushOn_69 : decode cX5_pushOn 69 = .ok (.lsub, 1) := by decide +kernel
theorem dX5_pushOn_70 : decode cX5_pushOn 70 = .ok (.lload 5, 2) := by decide +kernel
theorem dX5_pushOn_72 : decode cX5_pushOn 72 = .ok (.ladd, 1) := by decide +kernel
theorem dX5_pushOn_73 : decode cX5_pushOn 73 = .ok (.lstore 7, 2) := by decide +kernel
theorem dX5_pushOn_75 : decode cX5_pushOn 75 = .ok (.lload 5, 2) := by decide +kernel
theorem dX5_pushOn_77 : decode cX5_pushOn 77 = .ok (.ldc2_w 80, 3) := by decide +kernel
theorem dX5_pushOn_80 : decode cX5_pushOn 80 = .ok (.lcmp, 1) := by decide +kernel
theorem dX5_pushOn_81 : decode cX5_pushOn 81 = .ok (.ifCond .ge 35, 3) := by decide +kernel
theorem dX5_pushOn_84 : decode cX5_pushOn 84 = .ok (.lload 7, 2) := by decide +kernel
theorem dX5_pushOn_86 : decode cX5_pushOn 86 = .ok (.aload_n 0, 1) := by decide +kernel
theorem dX5_pushOn_87 : decode cX5_pushOn 87 = .ok (.getfield 28, 3) := by decide +kernel
theorem dX5_pushOn_90 : decode cX5_pushOn 90 = .ok (.iload 4, 2) := by decide +kernel
theorem dX5_pushOn_92 : decode cX5_pushOn 92 = .ok (.laload, 1) := by decide +kernel
theorem dX5_pushOn_93 : decode cX5_pushOn 93 = .ok (.lcmp, 1) := by decide +kernel
theorem dX5_pushOn_94 : decode cX5_pushOn 94 = .ok (.ifCond .ge 22, 3) := by decide +kernel
theorem dX5_pushOn_97 : decode cX5_pushOn 97 = .ok (.aload_n 0, 1) := by decide +kernel
theorem dX5_pushOn_98 : decode cX5_pushOn 98 = .ok (.getfield 28, 3) := by decide +kernel
theorem dX5_pushOn_101 : decode cX5_pushOn 101 = .ok (.iload 4, 2) := by decide +kernel
theorem dX5_pushOn_103 : decode cX5_pushOn 103 = .ok (.lload 7, 2) := by decide +kernel
theorem dX5_pushOn_105 : decode cX5_pushOn 105 = .ok (.lastore, 1) := by decide +kernel
theorem dX5_pushOn_106 : decode cX5_pushOn 106 = .ok (.aload_n 0, 1) := by decide +kernel
theorem dX5_pushOn_107 : decode cX5_pushOn 107 = .ok (.getfield 31, 3) := by decide +kernel
theorem dX5_pushOn_110 : decode cX5_pushOn 110 = .ok (.iload 4, 2) := by decide +kernel
theorem dX5_pushOn_112 : decode cX5_pushOn 112 = .ok (.iload_n 1, 1) := by decide +kernel
theorem dX5_pushOn_113 : decode cX5_pushOn 113 = .ok (.iastore, 1) := by decide +kernel
theorem dX5_pushOn_114 : decode cX5_pushOn 114 = .ok (.iconst 1, 1) := by decide +kernel
theorem dX5_pushOn_115 : decode cX5_pushOn 115 = .ok (.istore_n 3, 1) := by decide +kernel
theorem dX5_pushOn_116 : decode cX5_pushOn 116 = .ok (.iinc 4 1, 3) := by decide +kernel
theorem dX5_pushOn_119 : decode cX5_pushOn 119 = .ok (.goto (-88), 3) := by decide +kernel
theorem dX5_pushOn_122 : decode cX5_pushOn 122 = .ok (.iload_n 3, 1) := by decide +kernel
theorem dX5_pushOn_123 : decode cX5_pushOn 123 = .ok (.ireturn, 1) := by decide +kernel
theorem dX5_setPrices_0 : decode cX5_setPrices 0 = .ok (.iconst 0, 1) := by decide +kernel
theorem dX5_setPrices_1 : decode cX5_setPrices 1 = .ok (.istore 5, 2) := by decide +kernel
theorem dX5_setPrices_3 : decode cX5_setPrices 3 = .ok (.iload 5, 2) := by decide +kernel
theorem dX5_setPrices_5 : decode cX5_setPrices 5 = .ok (.bipush 6, 2) := by decide +kernel
theorem dX5_setPrices_7 : decode cX5_setPrices 7 = .ok (.if_icmp .ge 63, 3) := by decide +kernel
theorem dX5_setPrices_10 : decode cX5_setPrices 10 = .ok (.aload_n 0, 1) := by decide +kernel
theorem dX5_setPrices_11 : decode cX5_setPrices 11 = .ok (.getfield 15, 3) := by decide +kernel
theorem dX5_setPrices_14 : decode cX5_setPrices 14 = .ok (.iload_n 2, 1) := by decide +kernel
theorem dX5_setPrices_15 : decode cX5_setPrices 15 = .ok (.bipush 7, 2) := by decide +kernel
theorem dX5_setPrices_17 : decode cX5_setPrices 17 = .ok (.imul, 1) := by decide +kernel
theorem dX5_setPrices_18 : decode cX5_setPrices 18 = .ok (.iload 5, 2) := by decide +kernel
theorem dX5_setPrices_20 : decode cX5_setPrices 20 = .ok (.iadd, 1) := by decide +kernel
theorem dX5_setPrices_21 : decode cX5_setPrices 21 = .ok (.aload_n 1, 1) := by decide +kernel
theorem dX5_setPrices_22 : decode cX5_setPrices 22 = .ok (.iload 5, 2) := by decide +kernel
theorem dX5_setPrices_24 : decode cX5_setPrices 24 = .ok (.aload_n 0, 1) := by decide +kernel
theorem dX5_setPrices_25 : decode cX5_setPrices 25 = .ok (.getfield 11, 3) := by decide +kernel
theorem dX5_setPrices_28 : decode cX5_setPrices 28 = .ok (.iload_n 2, 1) := by decide +kernel
theorem dX5_setPrices_29 : decode cX5_setPrices 29 = .ok (.iaload, 1) := by decide +kernel
theorem dX5_setPrices_30 : decode cX5_setPrices 30 = .ok (.invokevirtual 71, 3) := by decide +kernel
theorem dX5_setPrices_33 : decode cX5_setPrices 33 = .ok (.ifCond .eq 27, 3) := by decide +kernel
theorem dX5_setPrices_36 : decode cX5_setPrices 36 = .ok (.aload_n 1, 1) := by decide +kernel
theorem dX5_setPrices_37 : decode cX5_setPrices 37 = .ok (.getfield 57, 3) := by decide +kernel
theorem dX5_setPrices_40 : decode cX5_setPrices 40 = .ok (.getfield 75, 3) := by decide +kernel
theorem dX5_setPrices_43 : decode cX5_setPrices 43 = .ok (.iload 5, 2) := by decide +kernel
theorem dX5_setPrices_45 : decode cX5_setPrices 45 = .ok (.iaload, 1) := by decide +kernel
theorem dX5_setPrices_46 : decode cX5_setPrices 46 = .ok (.i2l, 1) := by decide +kernel
theorem dX5_setPrices_47 : decode cX5_setPrices 47 = .ok (.ldc2_w 78, 3) := by decide +kernel
theorem dX5_setPrices_50 : decode cX5_setPrices 50 = .ok (.lmul, 1) := by decide +kernel
theorem dX5_setPrices_51 : decode cX5_setPrices 51 = .ok (.iload 5, 2) := by decide +kernel
theorem dX5_setPrices_53 : decode cX5_setPrices 53 = .ok (.i2l, 1) := by decide +kernel
theorem dX5_setPrices_54 : decode cX5_setPrices 54 = .ok (.lload_n 3, 1) := by decide +kernel
theorem dX5_setPrices_55 : decode cX5_setPrices 55 = .ok (.lmul, 1) := by decide +kernel
theorem dX5_setPrices_56 : decode cX5_setPrices 56 = .ok (.ladd, 1) := by decide +kernel
theorem dX5_setPrices_57 : decode cX5_setPrices 57 = .ok (.goto 6, 3) := by decide +kernel
theorem dX5_setPrices_60 : decode cX5_setPrices 60 = .ok (.ldc2_w 80, 3) := by decide +kernel
theorem dX5_setPrices_63 : decode cX5_setPrices 63 = .ok (.lastore, 1) := by decide +kernel
theorem dX5_setPrices_64 : decode cX5_setPrices 64 = .ok (.iinc 5 1, 3) := by decide +kernel
theorem dX5_setPrices_67 : decode cX5_setPrices 67 = .ok (.goto (-64), 3) := by decide +kernel
theorem dX5_setPrices_70 : decode cX5_setPrices 70 = .ok (.aload_n 0, 1) := by decide +kernel
theorem dX5_setPrices_71 : decode cX5_setPrices 71 = .ok (.getfield 15, 3) := by decide +kernel
theorem dX5_setPrices_74 : decode cX5_setPrices 74 = .ok (.iload_n 2, 1) := by decide +kernel
theorem dX5_setPrices_75 : decode cX5_setPrices 75 = .ok (.bipush 7, 2) := by decide +kernel
theorem dX5_setPrices_77 : decode cX5_setPrices 77 = .ok (.imul, 1) := by decide +kernel
theorem dX5_setPrices_78 : decode cX5_setPrices 78 = .ok (.bipush 6, 2) := by decide +kernel
theorem dX5_setPrices_80 : decode cX5_setPrices 80 = .ok (.iadd, 1) := by decide +kernel
theorem dX5_setPrices_81 : decode cX5_setPrices 81 = .ok (.ldc2_w 82, 3) := by decide +kernel
theorem dX5_setPrices_84 : decode cX5_setPrices 84 = .ok (.ldc2_w 84, 3) := by decide +kernel
theorem dX5_setPrices_87 : decode cX5_setPrices 87 = .ok (.lload_n 3, 1) := by decide +kernel
theorem dX5_setPrices_88 : decode cX5_setPrices 88 = .ok (.lmul, 1) := by decide +kernel
theorem dX5_setPrices_89 : decode cX5_setPrices 89 = .ok (.ladd, 1) := by decide +kernel
theorem dX5_setPrices_90 : decode cX5_setPrices 90 = .ok (.lastore, 1) := by decide +kernel
theorem dX5_setPrices_91 : decode cX5_setPrices 91 = .ok (.return_, 1) := by decide +kernel
theorem dX5_setUp_0 : decode cX5_setUp 0 = .ok (.aload_n 0, 1) := by decide +kernel
theorem dX5_setUp_1 : decode cX5_setUp 1 = .ok (.iconst 0, 1) := by decide +kernel
theorem dX5_setUp_2 : decode cX5_setUp 2 = .ok (.putfield 34, 3) := by decide +kernel
theorem dX5_setUp_5 : decode cX5_setUp 5 = .ok (.iconst 0, 1) := by decide +kernel
theorem dX5_setUp_6 : decode cX5_setUp 6 = .ok (.istore_n 2, 1) := by decide +kernel
theorem dX5_setUp_7 : decode cX5_setUp 7 = .ok (.iload_n 2, 1) := by decide +kernel
theorem dX5_setUp_8 : decode cX5_setUp 8 = .ok (.aload_n 1, 1) := by decide +kernel
theorem dX5_setUp_9 : decode cX5_setUp 9 = .ok (.getfield 38, 3) := by decide +kernel
theorem dX5_setUp_12 : decode cX5_setUp 12 = .ok (.getfield 43, 3) := by decide +kernel
theorem dX5_setUp_15 : decode cX5_setUp 15 = .ok (.if_icmp .ge 50, 3) := by decide +kernel
theorem dX5_setUp_18 : decode cX5_setUp 18 = .ok (.aload_n 1, 1) := by decide +kernel
theorem dX5_setUp_19 : decode cX5_setUp 19 = .ok (.getfield 38, 3) := by decide +kernel
theorem dX5_setUp_22 : decode cX5_setUp 22 = .ok (.getfield 48, 3) := by decide +kernel
theorem dX5_setUp_25 : decode cX5_setUp 25 = .ok (.iload_n 2, 1) := by decide +kernel
theorem dX5_setUp_26 : decode cX5_setUp 26 = .ok (.iaload, 1) := by decide +kernel
theorem dX5_setUp_27 : decode cX5_setUp 27 = .ok (.ifCond .ne 32, 3) := by decide +kernel
theorem dX5_setUp_30 : decode cX5_setUp 30 = .ok (.aload_n 0, 1) := by decide +kernel
theorem dX5_setUp_31 : decode cX5_setUp 31 = .ok (.getfield 34, 3) := by decide +kernel
theorem dX5_setUp_34 : decode cX5_setUp 34 = .ok (.bipush 8, 2) := by decide +kernel
theorem dX5_setUp_36 : decode cX5_setUp 36 = .ok (.if_icmp .ge 23, 3) := by decide +kernel
theorem dX5_setUp_39 : decode cX5_setUp 39 = .ok (.aload_n 0, 1) := by decide +kernel
theorem dX5_setUp_40 : decode cX5_setUp 40 = .ok (.getfield 11, 3) := by decide +kernel
theorem dX5_setUp_43 : decode cX5_setUp 43 = .ok (.aload_n 0, 1) := by decide +kernel
theorem dX5_setUp_44 : decode cX5_setUp 44 = .ok (.getfield 34, 3) := by decide +kernel
theorem dX5_setUp_47 : decode cX5_setUp 47 = .ok (.iload_n 2, 1) := by decide +kernel
theorem dX5_setUp_48 : decode cX5_setUp 48 = .ok (.iastore, 1) := by decide +kernel
theorem dX5_setUp_49 : decode cX5_setUp 49 = .ok (.aload_n 0, 1) := by decide +kernel
theorem dX5_setUp_50 : decode cX5_setUp 50 = .ok (.dup, 1) := by decide +kernel
theorem dX5_setUp_51 : decode cX5_setUp 51 = .ok (.getfield 34, 3) := by decide +kernel
theorem dX5_setUp_54 : decode cX5_setUp 54 = .ok (.iconst 1, 1) := by decide +kernel
theorem dX5_setUp_55 : decode cX5_setUp 55 = .ok (.iadd, 1) := by decide +kernel
theorem dX5_setUp_56 : decode cX5_setUp 56 = .ok (.putfield 34, 3) := by decide +kernel
theorem dX5_setUp_59 : decode cX5_setUp 59 = .ok (.iinc 2 1, 3) := by decide +kernel
theorem dX5_setUp_62 : decode cX5_setUp 62 = .ok (.goto (-55), 3) := by decide +kernel
theorem dX5_setUp_65 : decode cX5_setUp 65 = .ok (.lconst 1, 1) := by decide +kernel
theorem dX5_setUp_66 : decode cX5_setUp 66 = .ok (.lstore_n 2, 1) := by decide +kernel
theorem dX5_setUp_67 : decode cX5_setUp 67 = .ok (.aload_n 0, 1) := by decide +kernel
theorem dX5_setUp_68 : decode cX5_setUp 68 = .ok (.getfield 34, 3) := by decide +kernel
theorem dX5_setUp_71 : decode cX5_setUp 71 = .ok (.iconst 1, 1) := by decide +kernel
theorem dX5_setUp_72 : decode cX5_setUp 72 = .ok (.isub, 1) := by decide +kernel
theorem dX5_setUp_73 : decode cX5_setUp 73 = .ok (.istore 4, 2) := by decide +kernel
theorem dX5_setUp_75 : decode cX5_setUp 75 = .ok (.iload 4, 2) := by decide +kernel
theorem dX5_setUp_77 : decode cX5_setUp 77 = .ok (.ifCond .lt 23, 3) := by decide +kernel
theorem dX5_setUp_80 : decode cX5_setUp 80 = .ok (.aload_n 0, 1) := by decide +kernel
theorem dX5_setUp_81 : decode cX5_setUp 81 = .ok (.aload_n 1, 1) := by decide +kernel
theorem dX5_setUp_82 : decode cX5_setUp 82 = .ok (.iload 4, 2) := by decide +kernel
theorem dX5_setUp_84 : decode cX5_setUp 84 = .ok (.lload_n 2, 1) := by decide +kernel
theorem dX5_setUp_85 : decode cX5_setUp 85 = .ok (.invokevirtual 51, 3) := by decide +kernel
theorem dX5_setUp_88 : decode cX5_setUp 88 = .ok (.lload_n 2, 1) := by decide +kernel
theorem dX5_setUp_89 : decode cX5_setUp 89 = .ok (.ldc2_w 55, 3) := by decide +kernel
theorem dX5_setUp_92 : decode cX5_setUp 92 = .ok (.lmul, 1) := by decide +kernel
theorem dX5_setUp_93 : decode cX5_setUp 93 = .ok (.lstore_n 2, 1) := by decide +kernel
theorem dX5_setUp_94 : decode cX5_setUp 94 = .ok (.iinc 4 (-1), 3) := by decide +kernel
theorem dX5_setUp_97 : decode cX5_setUp 97 = .ok (.goto (-22), 3) := by decide +kernel
theorem dX5_setUp_100 : decode cX5_setUp 100 = .ok (.iconst 0, 1) := by decide +kernel
theorem dX5_setUp_101 : decode cX5_setUp 101 = .ok (.istore 4, 2) := by decide +kernel
theorem dX5_setUp_103 : decode cX5_setUp 103 = .ok (.iload 4, 2) := by decide +kernel
theorem dX5_setUp_105 : decode cX5_setUp 105 = .ok (.bipush 6, 2) := by decide +kernel
theorem dX5_setUp_107 : decode cX5_setUp 107 = .ok (.if_icmp .ge 41, 3) := by decide +kernel
theorem dX5_setUp_110 : decode cX5_setUp 110 = .ok (.aload_n 0, 1) := by decide +kernel
theorem dX5_setUp_111 : decode cX5_setUp 111 = .ok (.getfield 19, 3) := by decide +kernel
theorem dX5_setUp_114 : decode cX5_setUp 114 = .ok (.iload 4, 2) := by decide +kernel
theorem dX5_setUp_116 : decode cX5_setUp 116 = .ok (.aload_n 1, 1) := by decide +kernel
theorem dX5_setUp_117 : decode cX5_setUp 117 = .ok (.getfield 57, 3) := by decide +kernel
theorem dX5_setUp_120 : decode cX5_setUp 120 = .ok (.iload 4, 2) := by decide +kernel
theorem dX5_setUp_122 : decode cX5_setUp 122 = .ok (.invokevirtual 61, 3) := by decide +kernel
theorem dX5_setUp_125 : decode cX5_setUp 125 = .ok (.ifCond .eq 15, 3) := by decide +kernel
theorem dX5_setUp_128 : decode cX5_setUp 128 = .ok (.aload_n 1, 1) := by decide +kernel
theorem dX5_setUp_129 : decode cX5_setUp 129 = .ok (.getfield 57, 3) := by decide +kernel
theorem dX5_setUp_132 : decode cX5_setUp 132 = .ok (.iload 4, 2) := by decide +kernel
theorem dX5_setUp_134 : decode cX5_setUp 134 = .ok (.invokevirtual 67, 3) := by decide +kernel
theorem dX5_setUp_137 : decode cX5_setUp 137 = .ok (.goto 4, 3) := by decide +kernel
theorem dX5_setUp_140 : decode cX5_setUp 140 = .ok (.iconst 0, 1) := by decide +kernel
theorem dX5_setUp_141 : decode cX5_setUp 141 = .ok (.iastore, 1) := by decide +kernel
theorem dX5_setUp_142 : decode cX5_setUp 142 = .ok (.iinc 4 1, 3) := by decide +kernel
theorem dX5_setUp_145 : decode cX5_setUp 145 = .ok (.goto (-42), 3) := by decide +kernel
theorem dX5_setUp_148 : decode cX5_setUp 148 = .ok (.aload_n 0, 1) := by decide +kernel
theorem dX5_setUp_149 : decode cX5_setUp 149 = .ok (.getfield 19, 3) := by decide +kernel
theorem dX5_setUp_152 : decode cX5_setUp 152 = .ok (.bipush 6, 2) := by decide +kernel
theorem dX5_setUp_154 : decode cX5_setUp 154 = .ok (.bipush 8, 2) := by decide +kernel
theorem dX5_setUp_156 : decode cX5_setUp 156 = .ok (.iastore, 1) := by decide +kernel
theorem dX5_setUp_157 : decode cX5_setUp 157 = .ok (.return_, 1) := by decide +kernel
theorem dX5_solve_0 : decode cX5_solve 0 = .ok (.iconst 0, 1) := by decide +kernel
theorem dX5_solve_1 : decode cX5_solve 1 = .ok (.istore_n 1, 1) := by decide +kernel
theorem dX5_solve_2 : decode cX5_solve 2 = .ok (.iload_n 1, 1) := by decide +kernel
theorem dX5_solve_3 : decode cX5_solve 3 = .ok (.bipush 7, 2) := by decide +kernel
theorem dX5_solve_5 : decode cX5_solve 5 = .ok (.if_icmp .ge 21, 3) := by decide +kernel
theorem dX5_solve_8 : decode cX5_solve 8 = .ok (.aload_n 0, 1) := by decide +kernel
theorem dX5_solve_9 : decode cX5_solve 9 = .ok (.getfield 22, 3) := by decide +kernel
theorem dX5_solve_12 : decode cX5_solve 12 = .ok (.iload_n 1, 1) := by decide +kernel
theorem dX5_solve_13 : decode cX5_solve 13 = .ok (.aload_n 0, 1) := by decide +kernel
theorem dX5_solve_14 : decode cX5_solve 14 = .ok (.getfield 19, 3) := by decide +kernel
theorem dX5_solve_17 : decode cX5_solve 17 = .ok (.iload_n 1, 1) := by decide +kernel
theorem dX5_solve_18 : decode cX5_solve 18 = .ok (.iaload, 1) := by decide +kernel
theorem dX5_solve_19 : decode cX5_solve 19 = .ok (.iastore, 1) := by decide +kernel
theorem dX5_solve_20 : decode cX5_solve 20 = .ok (.iinc 1 1, 3) := by decide +kernel
theorem dX5_solve_23 : decode cX5_solve 23 = .ok (.goto (-21), 3) := by decide +kernel
theorem dX5_solve_26 : decode cX5_solve 26 = .ok (.iconst 0, 1) := by decide +kernel
theorem dX5_solve_27 : decode cX5_solve 27 = .ok (.istore_n 1, 1) := by decide +kernel
theorem dX5_solve_28 : decode cX5_solve 28 = .ok (.iload_n 1, 1) := by decide +kernel
theorem dX5_solve_29 : decode cX5_solve 29 = .ok (.aload_n 0, 1) := by decide +kernel
theorem dX5_solve_30 : decode cX5_solve 30 = .ok (.getfield 34, 3) := by decide +kernel
theorem dX5_solve_33 : decode cX5_solve 33 = .ok (.if_icmp .ge 16, 3) := by decide +kernel
theorem dX5_solve_36 : decode cX5_solve 36 = .ok (.aload_n 0, 1) := by decide +kernel
theorem dX5_solve_37 : decode cX5_solve 37 = .ok (.getfield 25, 3) := by decide +kernel
theorem dX5_solve_40 : decode cX5_solve 40 = .ok (.iload_n 1, 1) := by decide +kernel
theorem dX5_solve_41 : decode cX5_solve 41 = .ok (.iconst (-1), 1) := by decide +kernel
theorem dX5_solve_42 : decode cX5_solve 42 = .ok (.iastore, 1) := by decide +kernel
theorem dX5_solve_43 : decode cX5_solve 43 = .ok (.iinc 1 1, 3) := by decide +kernel
theorem dX5_solve_46 : decode cX5_solve 46 = .ok (.goto (-18), 3) := by decide +kernel
theorem dX5_solve_49 : decode cX5_solve 49 = .ok (.iconst 0, 1) := by decide +kernel
theorem dX5_solve_50 : decode cX5_solve 50 = .ok (.istore_n 1, 1) := by decide +kernel
theorem dX5_solve_51 : decode cX5_solve 51 = .ok (.iload_n 1, 1) := by decide +kernel
theorem dX5_solve_52 : decode cX5_solve 52 = .ok (.aload_n 0, 1) := by decide +kernel
theorem dX5_solve_53 : decode cX5_solve 53 = .ok (.getfield 34, 3) := by decide +kernel
theorem dX5_solve_56 : decode cX5_solve 56 = .ok (.if_icmp .ge 23, 3) := by decide +kernel
theorem dX5_solve_59 : decode cX5_solve 59 = .ok (.aload_n 0, 1) := by decide +kernel
theorem dX5_solve_60 : decode cX5_solve 60 = .ok (.iload_n 1, 1) := by decide +kernel
theorem dX5_solve_61 : decode cX5_solve 61 = .ok (.invokevirtual 92, 3) := by decide +kernel
theorem dX5_solve_64 : decode cX5_solve 64 = .ok (.aload_n 0, 1) := by decide +kernel
theorem dX5_solve_65 : decode cX5_solve 65 = .ok (.iload_n 1, 1) := by decide +kernel
theorem dX5_solve_66 : decode cX5_solve 66 = .ok (.aload_n 0, 1) := by decide +kernel
theorem dX5_solve_67 : decode cX5_solve 67 = .ok (.invokevirtual 96, 3) := by decide +kernel
theorem dX5_solve_70 : decode cX5_solve 70 = .ok (.invokevirtual 100, 3) := by decide +kernel
theorem dX5_solve_73 : decode cX5_solve 73 = .ok (.iinc 1 1, 3) := by decide +kernel
theorem dX5_solve_76 : decode cX5_solve 76 = .ok (.goto (-25), 3) := by decide +kernel
theorem dX5_solve_79 : decode cX5_solve 79 = .ok (.aload_n 0, 1) := by decide +kernel
theorem dX5_solve_80 : decode cX5_solve 80 = .ok (.iconst 0, 1) := by decide +kernel
theorem dX5_solve_81 : decode cX5_solve 81 = .ok (.putfield 104, 3) := by decide +kernel
theorem dX5_solve_84 : decode cX5_solve 84 = .ok (.iconst 0, 1) := by decide +kernel
theorem dX5_solve_85 : decode cX5_solve 85 = .ok (.istore_n 1, 1) := by decide +kernel
theorem dX5_solve_86 : decode cX5_solve 86 = .ok (.iload_n 1, 1) := by decide +kernel
theorem dX5_solve_87 : decode cX5_solve 87 = .ok (.aload_n 0, 1) := by decide +kernel
theorem dX5_solve_88 : decode cX5_solve 88 = .ok (.getfield 34, 3) := by decide +kernel
theorem dX5_solve_91 : decode cX5_solve 91 = .ok (.if_icmp .ge 30, 3) := by decide +kernel
theorem dX5_solve_94 : decode cX5_solve 94 = .ok (.aload_n 0, 1) := by decide +kernel
theorem dX5_solve_95 : decode cX5_solve 95 = .ok (.getfield 25, 3) := by decide +kernel
theorem dX5_solve_98 : decode cX5_solve 98 = .ok (.iload_n 1, 1) := by decide +kernel
theorem dX5_solve_99 : decode cX5_solve 99 = .ok (.iaload, 1) := by decide +kernel
theorem dX5_solve_100 : decode cX5_solve 100 = .ok (.bipush 6, 2) := by decide +kernel
theorem dX5_solve_102 : decode cX5_solve 102 = .ok (.if_icmp .eq 13, 3) := by decide +kernel
theorem dX5_solve_105 : decode cX5_solve 105 = .ok (.aload_n 0, 1) := by decide +kernel
theorem dX5_solve_106 : decode cX5_solve 106 = .ok (.dup, 1) := by decide +kernel
theorem dX5_solve_107 : decode cX5_solve 107 = .ok (.getfield 104, 3) := by decide +kernel
theorem dX5_solve_110 : decode cX5_solve 110 = .ok (.iconst 1, 1) := by decide +kernel
theorem dX5_solve_111 : decode cX5_solve 111 = .ok (.iadd, 1) := by decide +kernel
theorem dX5_solve_112 : decode cX5_solve 112 = .ok (.putfield 104, 3) := by decide +kernel
theorem dX5_solve_115 : decode cX5_solve 115 = .ok (.iinc 1 1, 3) := by decide +kernel
theorem dX5_solve_118 : decode cX5_solve 118 = .ok (.goto (-32), 3) := by decide +kernel
theorem dX5_solve_121 : decode cX5_solve 121 = .ok (.return_, 1) := by decide +kernel
theorem dX5_typeFor_0 : decode cX5_typeFor 0 = .ok (.iconst 0, 1) := by decide +kernel
theorem dX5_typeFor_1 : decode cX5_typeFor 1 = .ok (.istore_n 2, 1) := by decide +kernel
theorem dX5_typeFor_2 : decode cX5_typeFor 2 = .ok (.iload_n 2, 1) := by decide +kernel
theorem dX5_typeFor_3 : decode cX5_typeFor 3 = .ok (.aload_n 0, 1) := by decide +kernel
theorem dX5_typeFor_4 : decode cX5_typeFor 4 = .ok (.getfield 34, 3) := by decide +kernel
theorem dX5_typeFor_7 : decode cX5_typeFor 7 = .ok (.if_icmp .ge 37, 3) := by decide +kernel
theorem dX5_typeFor_10 : decode cX5_typeFor 10 = .ok (.aload_n 0, 1) := by decide +kernel
theorem dX5_typeFor_11 : decode cX5_typeFor 11 = .ok (.getfield 11, 3) := by decide +kernel
theorem dX5_typeFor_14 : decode cX5_typeFor 14 = .ok (.iload_n 2, 1) := by decide +kernel
theorem dX5_typeFor_15 : decode cX5_typeFor 15 = .ok (.iaload, 1) := by decide +kernel
theorem dX5_typeFor_16 : decode cX5_typeFor 16 = .ok (.iload_n 1, 1) := by decide +kernel
theorem dX5_typeFor_17 : decode cX5_typeFor 17 = .ok (.if_icmp .ne 21, 3) := by decide +kernel
theorem dX5_typeFor_20 : decode cX5_typeFor 20 = .ok (.aload_n 0, 1) := by decide +kernel
theorem dX5_typeFor_21 : decode cX5_typeFor 21 = .ok (.getfield 25, 3) := by decide +kernel
theorem dX5_typeFor_24 : decode cX5_typeFor 24 = .ok (.iload_n 2, 1) := by decide +kernel
theorem dX5_typeFor_25 : decode cX5_typeFor 25 = .ok (.iaload, 1) := by decide +kernel
theorem dX5_typeFor_26 : decode cX5_typeFor 26 = .ok (.bipush 6, 2) := by decide +kernel
theorem dX5_typeFor_28 : decode cX5_typeFor 28 = .ok (.if_icmp .eq 10, 3) := by decide +kernel
theorem dX5_typeFor_31 : decode cX5_typeFor 31 = .ok (.aload_n 0, 1) := by decide +kernel
theorem dX5_typeFor_32 : decode cX5_typeFor 32 = .ok (.getfield 25, 3) := by decide +kernel
theorem dX5_typeFor_35 : decode cX5_typeFor 35 = .ok (.iload_n 2, 1) := by decide +kernel
theorem dX5_typeFor_36 : decode cX5_typeFor 36 = .ok (.iaload, 1) := by decide +kernel
theorem dX5_typeFor_37 : decode cX5_typeFor 37 = .ok (.ireturn, 1) := by decide +kernel
theorem dX5_typeFor_38 : decode cX5_typeFor 38 = .ok (.iinc 2 1, 3) := by decide +kernel
theorem dX5_typeFor_41 : decode cX5_typeFor 41 = .ok (.goto (-39), 3) := by decide +kernel
theorem dX5_typeFor_44 : decode cX5_typeFor 44 = .ok (.iconst (-1), 1) := by decide +kernel
theorem dX5_typeFor_45 : decode cX5_typeFor 45 = .ok (.ireturn, 1) := by decide +kernel
