theorem dX11_plan_54 : decode cX11_plan 54 = .ok (.getfield 225, 3) := by decide +kernel
theorem dX11_plan_57 : decode cX11_plan 57 = .ok (.goto 24, 3) := by decide +kernel
theorem dX11_plan_60 : decode cX11_plan 60 = .ok (.iload_n 1, 1) := by decide +kernel
theorem dX11_plan_61 : decode cX11_plan 61 = .ok (.iconst 1, 1) := by decide +kernel
theorem dX11_plan_62 : decode cX11_plan 62 = .ok (.if_icmp .ne 10, 3) := by decide +kernel
theorem dX11_plan_65 : decode cX11_plan 65 = .ok (.aload_n 0, 1) := by decide +kernel
theorem dX11_plan_66 : decode cX11_plan 66 = .ok (.getfield 228, 3) := by decide +kernel
theorem dX11_plan_69 : decode cX11_plan 69 = .ok (.goto 12, 3) := by decide +kernel
theorem dX11_plan_72 : decode cX11_plan 72 = .ok (.aload_n 0, 1) := by decide +kernel
theorem dX11_plan_73 : decode cX11_plan 73 = .ok (.getfield 87, 3) := by decide +kernel
theorem dX11_plan_76 : decode cX11_plan 76 = .ok (.iload_n 1, 1) := by decide +kernel
theorem dX11_plan_77 : decode cX11_plan 77 = .ok (.bipush 10, 2) := by decide +kernel
theorem dX11_plan_79 : decode cX11_plan 79 = .ok (.isub, 1) := by decide +kernel
theorem dX11_plan_80 : decode cX11_plan 80 = .ok (.iaload, 1) := by decide +kernel
theorem dX11_plan_81 : decode cX11_plan 81 = .ok (.ireturn, 1) := by decide +kernel
theorem dX11_reaches_0 : decode cX11_reaches 0 = .ok (.iload_n 2, 1) := by decide +kernel
theorem dX11_reaches_1 : decode cX11_reaches 1 = .ok (.istore_n 3, 1) := by decide +kernel
theorem dX11_reaches_2 : decode cX11_reaches 2 = .ok (.iconst 0, 1) := by decide +kernel
theorem dX11_reaches_3 : decode cX11_reaches 3 = .ok (.istore 4, 2) := by decide +kernel
theorem dX11_reaches_5 : decode cX11_reaches 5 = .ok (.iload 4, 2) := by decide +kernel
theorem dX11_reaches_7 : decode cX11_reaches 7 = .ok (.aload_n 0, 1) := by decide +kernel
theorem dX11_reaches_8 : decode cX11_reaches 8 = .ok (.getfield 72, 3) := by decide +kernel
theorem dX11_reaches_11 : decode cX11_reaches 11 = .ok (.iconst 3, 1) := by decide +kernel
theorem dX11_reaches_12 : decode cX11_reaches 12 = .ok (.iaload, 1) := by decide +kernel
theorem dX11_reaches_13 : decode cX11_reaches 13 = .ok (.if_icmp .ge 62, 3) := by decide +kernel
theorem dX11_reaches_16 : decode cX11_reaches 16 = .ok (.aload_n 0, 1) := by decide +kernel
theorem dX11_reaches_17 : decode cX11_reaches 17 = .ok (.getfield 90, 3) := by decide +kernel
theorem dX11_reaches_20 : decode cX11_reaches 20 = .ok (.iload 4, 2) := by decide +kernel
theorem dX11_reaches_22 : decode cX11_reaches 22 = .ok (.iaload, 1) := by decide +kernel
theorem dX11_reaches_23 : decode cX11_reaches 23 = .ok (.iconst (-1), 1) := by decide +kernel
theorem dX11_reaches_24 : decode cX11_reaches 24 = .ok (.if_icmp .ne 45, 3) := by decide +kernel
theorem dX11_reaches_27 : decode cX11_reaches 27 = .ok (.aload_n 0, 1) := by decide +kernel
theorem dX11_reaches_28 : decode cX11_reaches 28 = .ok (.getfield 81, 3) := by decide +kernel
theorem dX11_reaches_31 : decode cX11_reaches 31 = .ok (.iload 4, 2) := by decide +kernel
theorem dX11_reaches_33 : decode cX11_reaches 33 = .ok (.iaload, 1) := by decide +kernel
theorem dX11_reaches_34 : decode cX11_reaches 34 = .ok (.ifCond .le 35, 3) := by decide +kernel
theorem dX11_reaches_37 : decode cX11_reaches 37 = .ok (.aload_n 0, 1) := by decide +kernel
theorem dX11_reaches_38 : decode cX11_reaches 38 = .ok (.iload 4, 2) := by decide +kernel
theorem dX11_reaches_40 : decode cX11_reaches 40 = .ok (.iload_n 1, 1) := by decide +kernel
theorem dX11_reaches_41 : decode cX11_reaches 41 = .ok (.invokevirtual 213, 3) := by decide +kernel
theorem dX11_reaches_44 : decode cX11_reaches 44 = .ok (.ifCond .ne 6, 3) := by decide +kernel
theorem dX11_reaches_47 : decode cX11_reaches 47 = .ok (.goto 22, 3) := by decide +kernel
theorem dX11_reaches_50 : decode cX11_reaches 50 = .ok (.aload_n 0, 1) := by decide +kernel
theorem dX11_reaches_51 : decode cX11_reaches 51 = .ok (.getfield 90, 3) := by decide +kernel
theorem dX11_reaches_54 : decode cX11_reaches 54 = .ok (.iload 4, 2) := by decide +kernel
theorem dX11_reaches_56 : decode cX11_reaches 56 = .ok (.iload_n 1, 1) := by decide +kernel
theorem dX11_reaches_57 : decode cX11_reaches 57 = .ok (.iastore, 1) := by decide +kernel
theorem dX11_reaches_58 : decode cX11_reaches 58 = .ok (.aload_n 0, 1) := by decide +kernel
theorem dX11_reaches_59 : decode cX11_reaches 59 = .ok (.getfield 93, 3) := by decide +kernel
theorem dX11_reaches_62 : decode cX11_reaches 62 = .ok (.iload_n 3, 1) := by decide +kernel
theorem dX11_reaches_63 : decode cX11_reaches 63 = .ok (.iload 4, 2) := by decide +kernel
theorem dX11_reaches_65 : decode cX11_reaches 65 = .ok (.iastore, 1) := by decide +kernel
theorem dX11_reaches_66 : decode cX11_reaches 66 = .ok (.iinc 3 1, 3) := by decide +kernel
theorem dX11_reaches_69 : decode cX11_reaches 69 = .ok (.iinc 4 1, 3) := by decide +kernel
theorem dX11_reaches_72 : decode cX11_reaches 72 = .ok (.goto (-67), 3) := by decide +kernel
theorem dX11_reaches_75 : decode cX11_reaches 75 = .ok (.iload_n 3, 1) := by decide +kernel
theorem dX11_reaches_76 : decode cX11_reaches 76 = .ok (.ireturn, 1) := by decide +kernel
theorem dX11_readBorder_0 : decode cX11_readBorder 0 = .ok (.aload_n 0, 1) := by decide +kernel
theorem dX11_readBorder_1 : decode cX11_readBorder 1 = .ok (.getfield 75, 3) := by decide +kernel
theorem dX11_readBorder_4 : decode cX11_readBorder 4 = .ok (.iconst 2, 1) := by decide +kernel
theorem dX11_readBorder_5 : decode cX11_readBorder 5 = .ok (.iaload, 1) := by decide +kernel
theorem dX11_readBorder_6 : decode cX11_readBorder 6 = .ok (.bipush 28, 2) := by decide +kernel
theorem dX11_readBorder_8 : decode cX11_readBorder 8 = .ok (.if_icmp .ne 9, 3) := by decide +kernel
theorem dX11_readBorder_11 : decode cX11_readBorder 11 = .ok (.aload_n 0, 1) := by decide +kernel
theorem dX11_readBorder_12 : decode cX11_readBorder 12 = .ok (.iconst 3, 1) := by decide +kernel
theorem dX11_readBorder_13 : decode cX11_readBorder 13 = .ok (.invokevirtual 103, 3) := by decide +kernel
theorem dX11_readBorder_16 : decode cX11_readBorder 16 = .ok (.ireturn, 1) := by decide +kernel
theorem dX11_readBorder_17 : decode cX11_readBorder 17 = .ok (.aload_n 0, 1) := by decide +kernel
theorem dX11_readBorder_18 : decode cX11_readBorder 18 = .ok (.invokevirtual 110, 3) := by decide +kernel
theorem dX11_readBorder_21 : decode cX11_readBorder 21 = .ok (.aload_n 0, 1) := by decide +kernel
theorem dX11_readBorder_22 : decode cX11_readBorder 22 = .ok (.iconst 0, 1) := by decide +kernel
theorem dX11_readBorder_23 : decode cX11_readBorder 23 = .ok (.invokevirtual 127, 3) := by decide +kernel
theorem dX11_readBorder_26 : decode cX11_readBorder 26 = .ok (.ifCond .ne 5, 3) := by decide +kernel
theorem dX11_readBorder_29 : decode cX11_readBorder 29 = .ok (.iconst 0, 1) := by decide +kernel
theorem dX11_readBorder_30 : decode cX11_readBorder 30 = .ok (.ireturn, 1) := by decide +kernel
theorem dX11_readBorder_31 : decode cX11_readBorder 31 = .ok (.aload_n 0, 1) := by decide +kernel
theorem dX11_readBorder_32 : decode cX11_readBorder 32 = .ok (.getfield 117, 3) := by decide +kernel
theorem dX11_readBorder_35 : decode cX11_readBorder 35 = .ok (.istore_n 1, 1) := by decide +kernel
theorem dX11_readBorder_36 : decode cX11_readBorder 36 = .ok (.aload_n 0, 1) := by decide +kernel
theorem dX11_readBorder_37 : decode cX11_readBorder 37 = .ok (.iconst 1, 1) := by decide +kernel
theorem dX11_readBorder_38 : decode cX11_readBorder 38 = .ok (.iload_n 1, 1) := by decide +kernel
theorem dX11_readBorder_39 : decode cX11_readBorder 39 = .ok (.ishl, 1) := by decide +kernel
theorem dX11_readBorder_40 : decode cX11_readBorder 40 = .ok (.invokevirtual 127, 3) := by decide +kernel
theorem dX11_readBorder_43 : decode cX11_readBorder 43 = .ok (.ifCond .ne 5, 3) := by decide +kernel
theorem dX11_readBorder_46 : decode cX11_readBorder 46 = .ok (.iconst 0, 1) := by decide +kernel
theorem dX11_readBorder_47 : decode cX11_readBorder 47 = .ok (.ireturn, 1) := by decide +kernel
theorem dX11_readBorder_48 : decode cX11_readBorder 48 = .ok (.aload_n 0, 1) := by decide +kernel
theorem dX11_readBorder_49 : decode cX11_readBorder 49 = .ok (.getfield 75, 3) := by decide +kernel
theorem dX11_readBorder_52 : decode cX11_readBorder 52 = .ok (.bipush 103, 2) := by decide +kernel
theorem dX11_readBorder_54 : decode cX11_readBorder 54 = .ok (.iload_n 1, 1) := by decide +kernel
theorem dX11_readBorder_55 : decode cX11_readBorder 55 = .ok (.iadd, 1) := by decide +kernel
theorem dX11_readBorder_56 : decode cX11_readBorder 56 = .ok (.dup2, 1) := by decide +kernel
theorem dX11_readBorder_57 : decode cX11_readBorder 57 = .ok (.iaload, 1) := by decide +kernel
theorem dX11_readBorder_58 : decode cX11_readBorder 58 = .ok (.iconst 1, 1) := by decide +kernel
theorem dX11_readBorder_59 : decode cX11_readBorder 59 = .ok (.aload_n 0, 1) := by decide +kernel
theorem dX11_readBorder_60 : decode cX11_readBorder 60 = .ok (.getfield 117, 3) := by decide +kernel
theorem dX11_readBorder_63 : decode cX11_readBorder 63 = .ok (.ishl, 1) := by decide +kernel
theorem dX11_readBorder_64 : decode cX11_readBorder 64 = .ok (.ior, 1) := by decide +kernel
theorem dX11_readBorder_65 : decode cX11_readBorder 65 = .ok (.iastore, 1) := by decide +kernel
theorem dX11_readBorder_66 : decode cX11_readBorder 66 = .ok (.aload_n 0, 1) := by decide +kernel
theorem dX11_readBorder_67 : decode cX11_readBorder 67 = .ok (.getfield 75, 3) := by decide +kernel
theorem dX11_readBorder_70 : decode cX11_readBorder 70 = .ok (.bipush 103, 2) := by decide +kernel
theorem dX11_readBorder_72 : decode cX11_readBorder 72 = .ok (.aload_n 0, 1) := by decide +kernel
theorem dX11_readBorder_73 : decode cX11_readBorder 73 = .ok (.getfield 117, 3) := by decide +kernel
theorem dX11_readBorder_76 : decode cX11_readBorder 76 = .ok (.iadd, 1) := by decide +kernel
theorem dX11_readBorder_77 : decode cX11_readBorder 77 = .ok (.dup2, 1) := by decide +kernel
theorem dX11_readBorder_78 : decode cX11_readBorder 78 = .ok (.iaload, 1) := by decide +kernel
theorem dX11_readBorder_79 : decode cX11_readBorder 79 = .ok (.iconst 1, 1) := by decide +kernel
theorem dX11_readBorder_80 : decode cX11_readBorder 80 = .ok (.iload_n 1, 1) := by decide +kernel
theorem dX11_readBorder_81 : decode cX11_readBorder 81 = .ok (.ishl, 1) := by decide +kernel
theorem dX11_readBorder_82 : decode cX11_readBorder 82 = .ok (.ior, 1) := by decide +kernel
theorem dX11_readBorder_83 : decode cX11_readBorder 83 = .ok (.iastore, 1) := by decide +kernel
theorem dX11_readBorder_84 : decode cX11_readBorder 84 = .ok (.aload_n 0, 1) := by decide +kernel
theorem dX11_readBorder_85 : decode cX11_readBorder 85 = .ok (.getfield 75, 3) := by decide +kernel
theorem dX11_readBorder_88 : decode cX11_readBorder 88 = .ok (.iconst 2, 1) := by decide +kernel
theorem dX11_readBorder_89 : decode cX11_readBorder 89 = .ok (.dup2, 1) := by decide +kernel
theorem dX11_readBorder_90 : decode cX11_readBorder 90 = .ok (.iaload, 1) := by decide +kernel
theorem dX11_readBorder_91 : decode cX11_readBorder 91 = .ok (.iconst 1, 1) := by decide +kernel
theorem dX11_readBorder_92 : decode cX11_readBorder 92 = .ok (.iadd, 1) := by decide +kernel
theorem dX11_readBorder_93 : decode cX11_readBorder 93 = .ok (.iastore, 1) := by decide +kernel
theorem dX11_readBorder_94 : decode cX11_readBorder 94 = .ok (.iconst 1, 1) := by decide +kernel
theorem dX11_readBorder_95 : decode cX11_readBorder 95 = .ok (.ireturn, 1) := by decide +kernel
theorem dX11_readEnd_0 : decode cX11_readEnd 0 = .ok (.aload_n 0, 1) := by decide +kernel
theorem dX11_readEnd_1 : decode cX11_readEnd 1 = .ok (.getfield 27, 3) := by decide +kernel
theorem dX11_readEnd_4 : decode cX11_readEnd 4 = .ok (.iconst 4, 1) := by decide +kernel
theorem dX11_readEnd_5 : decode cX11_readEnd 5 = .ok (.if_icmp .eq 9, 3) := by decide +kernel
theorem dX11_readEnd_8 : decode cX11_readEnd 8 = .ok (.aload_n 0, 1) := by decide +kernel
theorem dX11_readEnd_9 : decode cX11_readEnd 9 = .ok (.iconst 1, 1) := by decide +kernel
theorem dX11_readEnd_10 : decode cX11_readEnd 10 = .ok (.invokevirtual 103, 3) := by decide +kernel
theorem dX11_readEnd_13 : decode cX11_readEnd 13 = .ok (.ireturn, 1) := by decide +kernel
theorem dX11_readEnd_14 : decode cX11_readEnd 14 = .ok (.aload_n 0, 1) := by decide +kernel
theorem dX11_readEnd_15 : decode cX11_readEnd 15 = .ok (.invokevirtual 110, 3) := by decide +kernel
theorem dX11_readEnd_18 : decode cX11_readEnd 18 = .ok (.iconst 1, 1) := by decide +kernel
theorem dX11_readEnd_19 : decode cX11_readEnd 19 = .ok (.ireturn, 1) := by decide +kernel
theorem dX11_readKind_0 : decode cX11_readKind 0 = .ok (.aload_n 0, 1) := by decide +kernel
theorem dX11_readKind_1 : decode cX11_readKind 1 = .ok (.bipush 115, 2) := by decide +kernel
theorem dX11_readKind_3 : decode cX11_readKind 3 = .ok (.bipush 104, 2) := by decide +kernel
theorem dX11_readKind_5 : decode cX11_readKind 5 = .ok (.bipush 97, 2) := by decide +kernel
theorem dX11_readKind_7 : decode cX11_readKind 7 = .ok (.bipush 114, 2) := by decide +kernel
theorem dX11_readKind_9 : decode cX11_readKind 9 = .ok (.bipush 101, 2) := by decide +kernel
theorem dX11_readKind_11 : decode cX11_readKind 11 = .ok (.bipush 100, 2) := by decide +kernel
theorem dX11_readKind_13 : decode cX11_readKind 13 = .ok (.invokestatic 130, 3) := by decide +kernel
theorem dX11_readKind_16 : decode cX11_readKind 16 = .ok (.invokevirtual 120, 3) := by decide +kernel
theorem dX11_readKind_19 : decode cX11_readKind 19 = .ok (.istore_n 2, 1) := by decide +kernel
theorem dX11_readKind_20 : decode cX11_readKind 20 = .ok (.aload_n 0, 1) := by decide +kernel
theorem dX11_readKind_21 : decode cX11_readKind 21 = .ok (.bipush 109, 2) := by decide +kernel
theorem dX11_readKind_23 : decode cX11_readKind 23 = .ok (.bipush 117, 2) := by decide +kernel
theorem dX11_readKind_25 : decode cX11_readKind 25 = .ok (.bipush 108, 2) := by decide +kernel
theorem dX11_readKind_27 : decode cX11_readKind 27 = .ok (.bipush 116, 2) := by decide +kernel
theorem dX11_readKind_29 : decode cX11_readKind 29 = .ok (.bipush 105, 2) := by decide +kernel
theorem dX11_readKind_31 : decode cX11_readKind 31 = .ok (.invokestatic 56, 3) := by decide +kernel
theorem dX11_readKind_34 : decode cX11_readKind 34 = .ok (.invokevirtual 120, 3) := by decide +kernel
theorem dX11_readKind_37 : decode cX11_readKind 37 = .ok (.istore_n 3, 1) := by decide +kernel
theorem dX11_readKind_38 : decode cX11_readKind 38 = .ok (.iload_n 2, 1) := by decide +kernel
theorem dX11_readKind_39 : decode cX11_readKind 39 = .ok (.ifCond .ne 35, 3) := by decide +kernel
theorem dX11_readKind_42 : decode cX11_readKind 42 = .ok (.iload_n 3, 1) := by decide +kernel
theorem dX11_readKind_43 : decode cX11_readKind 43 = .ok (.ifCond .ne 31, 3) := by decide +kernel
theorem dX11_readKind_46 : decode cX11_readKind 46 = .ok (.aload_n 0, 1) := by decide +kernel
theorem dX11_readKind_47 : decode cX11_readKind 47 = .ok (.bipush 115, 2) := by decide +kernel
theorem dX11_readKind_49 : decode cX11_readKind 49 = .ok (.bipush 105, 2) := by decide +kernel
theorem dX11_readKind_51 : decode cX11_readKind 51 = .ok (.bipush 110, 2) := by decide +kernel
theorem dX11_readKind_53 : decode cX11_readKind 53 = .ok (.bipush 103, 2) := by decide +kernel
theorem dX11_readKind_55 : decode cX11_readKind 55 = .ok (.bipush 108, 2) := by decide +kernel
theorem dX11_readKind_57 : decode cX11_readKind 57 = .ok (.bipush 101, 2) := by decide +kernel
theorem dX11_readKind_59 : decode cX11_readKind 59 = .ok (.invokestatic 130, 3) := by decide +kernel
theorem dX11_readKind_62 : decode cX11_readKind 62 = .ok (.invokevirtual 120, 3) := by decide +kernel
theorem dX11_readKind_65 : decode cX11_readKind 65 = .ok (.ifCond .ne 9, 3) := by decide +kernel
theorem dX11_readKind_68 : decode cX11_readKind 68 = .ok (.aload_n 0, 1) := by decide +kernel
theorem dX11_readKind_69 : decode cX11_readKind 69 = .ok (.iconst 1, 1) := by decide +kernel
theorem dX11_readKind_70 : decode cX11_readKind 70 = .ok (.invokevirtual 103, 3) := by decide +kernel
theorem dX11_readKind_73 : decode cX11_readKind 73 = .ok (.ireturn, 1) := by decide +kernel
theorem dX11_readKind_74 : decode cX11_readKind 74 = .ok (.aload_n 0, 1) := by decide +kernel
theorem dX11_readKind_75 : decode cX11_readKind 75 = .ok (.getfield 75, 3) := by decide +kernel
theorem dX11_readKind_78 : decode cX11_readKind 78 = .ok (.iload_n 1, 1) := by decide +kernel
theorem dX11_readKind_79 : decode cX11_readKind 79 = .ok (.iconst 0, 1) := by decide +kernel
theorem dX11_readKind_80 : decode cX11_readKind 80 = .ok (.iadd, 1) := by decide +kernel
theorem dX11_readKind_81 : decode cX11_readKind 81 = .ok (.iload_n 2, 1) := by decide +kernel
theorem dX11_readKind_82 : decode cX11_readKind 82 = .ok (.ifCond .eq 7, 3) := by decide +kernel
theorem dX11_readKind_85 : decode cX11_readKind 85 = .ok (.iconst 2, 1) := by decide +kernel
theorem dX11_readKind_86 : decode cX11_readKind 86 = .ok (.goto 12, 3) := by decide +kernel
theorem dX11_readKind_89 : decode cX11_readKind 89 = .ok (.iload_n 3, 1) := by decide +kernel
theorem dX11_readKind_90 : decode cX11_readKind 90 = .ok (.ifCond .eq 7, 3) := by decide +kernel
theorem dX11_readKind_93 : decode cX11_readKind 93 = .ok (.iconst 1, 1) := by decide +kernel
theorem dX11_readKind_94 : decode cX11_readKind 94 = .ok (.goto 4, 3) := by decide +kernel
theorem dX11_readKind_97 : decode cX11_readKind 97 = .ok (.iconst 0, 1) := by decide +kernel
theorem dX11_readKind_98 : decode cX11_readKind 98 = .ok (.iastore, 1) := by decide +kernel
theorem dX11_readKind_99 : decode cX11_readKind 99 = .ok (.aload_n 0, 1) := by decide +kernel
theorem dX11_readKind_100 : decode cX11_readKind 100 = .ok (.getfield 75, 3) := by decide +kernel
theorem dX11_readKind_103 : decode cX11_readKind 103 = .ok (.iload_n 1, 1) := by decide +kernel
theorem dX11_readKind_104 : decode cX11_readKind 104 = .ok (.iconst 1, 1) := by decide +kernel
theorem dX11_readKind_105 : decode cX11_readKind 105 = .ok (.iadd, 1) := by decide +kernel
theorem dX11_readKind_106 : decode cX11_readKind 106 = .ok (.iconst 1, 1) := by decide +kernel
theorem dX11_readKind_107 : decode cX11_readKind 107 = .ok (.iastore, 1) := by decide +kernel
theorem dX11_readKind_108 : decode cX11_readKind 108 = .ok (.aload_n 0, 1) := by decide +kernel
theorem dX11_readKind_109 : decode cX11_readKind 109 = .ok (.invokevirtual 110, 3) := by decide +kernel
theorem dX11_readKind_112 : decode cX11_readKind 112 = .ok (.iload_n 2, 1) := by decide +kernel
theorem dX11_readKind_113 : decode cX11_readKind 113 = .ok (.ifCond .eq 16, 3) := by decide +kernel
theorem dX11_readKind_116 : decode cX11_readKind 116 = .ok (.aload_n 0, 1) := by decide +kernel
theorem dX11_readKind_117 : decode cX11_readKind 117 = .ok (.iload_n 1, 1) := by decide +kernel
theorem dX11_readKind_118 : decode cX11_readKind 118 = .ok (.iconst 1, 1) := by decide +kernel
theorem dX11_readKind_119 : decode cX11_readKind 119 = .ok (.iadd, 1) := by decide +kernel
theorem dX11_readKind_120 : decode cX11_readKind 120 = .ok (.iconst 2, 1) := by decide +kernel
theorem dX11_readKind_121 : decode cX11_readKind 121 = .ok (.bipush 9, 2) := by decide +kernel
theorem dX11_readKind_123 : decode cX11_readKind 123 = .ok (.invokevirtual 124, 3) := by decide +kernel
theorem dX11_readKind_126 : decode cX11_readKind 126 = .ok (.ifCond .eq 7, 3) := by decide +kernel
theorem dX11_readKind_129 : decode cX11_readKind 129 = .ok (.iconst 1, 1) := by decide +kernel
theorem dX11_readKind_130 : decode cX11_readKind 130 = .ok (.goto 4, 3) := by decide +kernel
theorem dX11_readKind_133 : decode cX11_readKind 133 = .ok (.iconst 0, 1) := by decide +kernel
theorem dX11_readKind_134 : decode cX11_readKind 134 = .ok (.ireturn, 1) := by decide +kernel
theorem dX11_readLands_0 : decode cX11_readLands 0 = .ok (.aload_n 0, 1) := by decide +kernel
theorem dX11_readLands_1 : decode cX11_readLands 1 = .ok (.bipush 108, 2) := by decide +kernel
theorem dX11_readLands_3 : decode cX11_readLands 3 = .ok (.bipush 97, 2) := by decide +kernel
theorem dX11_readLands_5 : decode cX11_readLands 5 = .ok (.bipush 110, 2) := by decide +kernel
theorem dX11_readLands_7 : decode cX11_readLands 7 = .ok (.bipush 100, 2) := by decide +kernel
theorem dX11_readLands_9 : decode cX11_readLands 9 = .ok (.bipush 115, 2) := by decide +kernel
theorem dX11_readLands_11 : decode cX11_readLands 11 = .ok (.invokestatic 56, 3) := by decide +kernel
theorem dX11_readLands_14 : decode cX11_readLands 14 = .ok (.invokevirtual 120, 3) := by decide +kernel
theorem dX11_readLands_17 : decode cX11_readLands 17 = .ok (.ifCond .ne 9, 3) := by decide +kernel
theorem dX11_readLands_20 : decode cX11_readLands 20 = .ok (.aload_n 0, 1) := by decide +kernel
theorem dX11_readLands_21 : decode cX11_readLands 21 = .ok (.iconst 1, 1) := by decide +kernel
theorem dX11_readLands_22 : decode cX11_readLands 22 = .ok (.invokevirtual 103, 3) := by decide +kernel
theorem dX11_readLands_25 : decode cX11_readLands 25 = .ok (.ireturn, 1) := by decide +kernel
theorem dX11_readLands_26 : decode cX11_readLands 26 = .ok (.aload_n 0, 1) := by decide +kernel
theorem dX11_readLands_27 : decode cX11_readLands 27 = .ok (.invokevirtual 110, 3) := by decide +kernel
theorem dX11_readLands_30 : decode cX11_readLands 30 = .ok (.aload_n 0, 1) := by decide +kernel
theorem dX11_readLands_31 : decode cX11_readLands 31 = .ok (.iconst 0, 1) := by decide +kernel
theorem dX11_readLands_32 : decode cX11_readLands 32 = .ok (.iconst 1, 1) := by decide +kernel
theorem dX11_readLands_33 : decode cX11_readLands 33 = .ok (.bipush 8, 2) := by decide +kernel
theorem dX11_readLands_35 : decode cX11_readLands 35 = .ok (.invokevirtual 124, 3) := by decide +kernel
theorem dX11_readLands_38 : decode cX11_readLands 38 = .ok (.ifCond .eq 18, 3) := by decide +kernel
theorem dX11_readLands_41 : decode cX11_readLands 41 = .ok (.aload_n 0, 1) := by decide +kernel
theorem dX11_readLands_42 : decode cX11_readLands 42 = .ok (.iconst 1, 1) := by decide +kernel
theorem dX11_readLands_43 : decode cX11_readLands 43 = .ok (.iconst 1, 1) := by decide +kernel
theorem dX11_readLands_44 : decode cX11_readLands 44 = .ok (.bipush 9, 2) := by decide +kernel
theorem dX11_readLands_46 : decode cX11_readLands 46 = .ok (.invokevirtual 124, 3) := by decide +kernel
theorem dX11_readLands_49 : decode cX11_readLands 49 = .ok (.ifCond .eq 7, 3) := by decide +kernel
theorem dX11_readLands_52 : decode cX11_readLands 52 = .ok (.iconst 1, 1) := by decide +kernel
theorem dX11_readLands_53 : decode cX11_readLands 53 = .ok (.goto 4, 3) := by decide +kernel
theorem dX11_readLands_56 : decode cX11_readLands 56 = .ok (.iconst 0, 1) := by decide +kernel
theorem dX11_readLands_57 : decode cX11_readLands 57 = .ok (.ireturn, 1) := by decide +kernel
theorem dX11_readLine_0 : decode cX11_readLine 0 = .ok (.iload_n 1, 1) := by decide +kernel
theorem dX11_readLine_1 : decode cX11_readLine 1 = .ok (.ifCond .eq 8, 3) := by decide +kernel
theorem dX11_readLine_4 : decode cX11_readLine 4 = .ok (.aload_n 0, 1) := by decide +kernel
theorem dX11_readLine_5 : decode cX11_readLine 5 = .ok (.invokevirtual 137, 3) := by decide +kernel
theorem dX11_readLine_8 : decode cX11_readLine 8 = .ok (.ireturn, 1) := by decide +kernel
theorem dX11_readLine_9 : decode cX11_readLine 9 = .ok (.aload_n 0, 1) := by decide +kernel
theorem dX11_readLine_10 : decode cX11_readLine 10 = .ok (.bipush 98, 2) := by decide +kernel
theorem dX11_readLine_12 : decode cX11_readLine 12 = .ok (.bipush 111, 2) := by decide +kernel
theorem dX11_readLine_14 : decode cX11_readLine 14 = .ok (.bipush 114, 2) := by decide +kernel
theorem dX11_readLine_16 : decode cX11_readLine 16 = .ok (.bipush 100, 2) := by decide +kernel
theorem dX11_readLine_18 : decode cX11_readLine 18 = .ok (.bipush 101, 2) := by decide +kernel
theorem dX11_readLine_20 : decode cX11_readLine 20 = .ok (.bipush 114, 2) := by decide +kernel
theorem dX11_readLine_22 : decode cX11_readLine 22 = .ok (.invokestatic 130, 3) := by decide +kernel
theorem dX11_readLine_25 : decode cX11_readLine 25 = .ok (.invokevirtual 120, 3) := by decide +kernel
theorem dX11_readLine_28 : decode cX11_readLine 28 = .ok (.ifCond .eq 8, 3) := by decide +kernel
theorem dX11_readLine_31 : decode cX11_readLine 31 = .ok (.aload_n 0, 1) := by decide +kernel
theorem dX11_readLine_32 : decode cX11_readLine 32 = .ok (.invokevirtual 141, 3) := by decide +kernel
theorem dX11_readLine_35 : decode cX11_readLine 35 = .ok (.ireturn, 1) := by decide +kernel
theorem dX11_readLine_36 : decode cX11_readLine 36 = .ok (.aload_n 0, 1) := by decide +kernel
theorem dX11_readLine_37 : decode cX11_readLine 37 = .ok (.bipush 116, 2) := by decide +kernel
theorem dX11_readLine_39 : decode cX11_readLine 39 = .ok (.bipush 121, 2) := by decide +kernel
theorem dX11_readLine_41 : decode cX11_readLine 41 = .ok (.bipush 112, 2) := by decide +kernel
theorem dX11_readLine_43 : decode cX11_readLine 43 = .ok (.bipush 101, 2) := by decide +kernel
theorem dX11_readLine_45 : decode cX11_readLine 45 = .ok (.invokestatic 52, 3) := by decide +kernel
theorem dX11_readLine_48 : decode cX11_readLine 48 = .ok (.invokevirtual 120, 3) := by decide +kernel
theorem dX11_readLine_51 : decode cX11_readLine 51 = .ok (.ifCond .eq 8, 3) := by decide +kernel
theorem dX11_readLine_54 : decode cX11_readLine 54 = .ok (.aload_n 0, 1) := by decide +kernel
theorem dX11_readLine_55 : decode cX11_readLine 55 = .ok (.invokevirtual 144, 3) := by decide +kernel
theorem dX11_readLine_58 : decode cX11_readLine 58 = .ok (.ireturn, 1) := by decide +kernel
theorem dX11_readLine_59 : decode cX11_readLine 59 = .ok (.aload_n 0, 1) := by decide +kernel
theorem dX11_readLine_60 : decode cX11_readLine 60 = .ok (.bipush 108, 2) := by decide +kernel
theorem dX11_readLine_62 : decode cX11_readLine 62 = .ok (.bipush 111, 2) := by decide +kernel
theorem dX11_readLine_64 : decode cX11_readLine 64 = .ok (.bipush 114, 2) := by decide +kernel
theorem dX11_readLine_66 : decode cX11_readLine 66 = .ok (.bipush 114, 2) := by decide +kernel
theorem dX11_readLine_68 : decode cX11_readLine 68 = .ok (.bipush 121, 2) := by decide +kernel
theorem dX11_readLine_70 : decode cX11_readLine 70 = .ok (.invokestatic 56, 3) := by decide +kernel
theorem dX11_readLine_73 : decode cX11_readLine 73 = .ok (.invokevirtual 120, 3) := by decide +kernel
theorem dX11_readLine_76 : decode cX11_readLine 76 = .ok (.ifCond .eq 10, 3) := by decide +kernel
theorem dX11_readLine_79 : decode cX11_readLine 79 = .ok (.aload_n 0, 1) := by decide +kernel
theorem dX11_readLine_80 : decode cX11_readLine 80 = .ok (.invokevirtual 147, 3) := by decide +kernel
theorem dX11_readLine_83 : decode cX11_readLine 83 = .ok (.goto 8, 3) := by decide +kernel
theorem dX11_readLine_86 : decode cX11_readLine 86 = .ok (.aload_n 0, 1) := by decide +kernel
theorem dX11_readLine_87 : decode cX11_readLine 87 = .ok (.iconst 1, 1) := by decide +kernel
theorem dX11_readLine_88 : decode cX11_readLine 88 = .ok (.invokevirtual 103, 3) := by decide +kernel
theorem dX11_readLine_91 : decode cX11_readLine 91 = .ok (.ireturn, 1) := by decide +kernel
theorem dX11_readLorry_0 : decode cX11_readLorry 0 = .ok (.aload_n 0, 1) := by decide +kernel
theorem dX11_readLorry_1 : decode cX11_readLorry 1 = .ok (.getfield 75, 3) := by decide +kernel
theorem dX11_readLorry_4 : decode cX11_readLorry 4 = .ok (.iconst 4, 1) := by decide +kernel
theorem dX11_readLorry_5 : decode cX11_readLorry 5 = .ok (.iaload, 1) := by decide +kernel
theorem dX11_readLorry_6 : decode cX11_readLorry 6 = .ok (.bipush 8, 2) := by decide +kernel
theorem dX11_readLorry_8 : decode cX11_readLorry 8 = .ok (.if_icmp .ne 9, 3) := by decide +kernel
theorem dX11_readLorry_11 : decode cX11_readLorry 11 = .ok (.aload_n 0, 1) := by decide +kernel
theorem dX11_readLorry_12 : decode cX11_readLorry 12 = .ok (.iconst 3, 1) := by decide +kernel
theorem dX11_readLorry_13 : decode cX11_readLorry 13 = .ok (.invokevirtual 103, 3) := by decide +kernel
theorem dX11_readLorry_16 : decode cX11_readLorry 16 = .ok (.ireturn, 1) := by decide +kernel
theorem dX11_readLorry_17 : decode cX11_readLorry 17 = .ok (.aload_n 0, 1) := by decide +kernel
theorem dX11_readLorry_18 : decode cX11_readLorry 18 = .ok (.invokevirtual 110, 3) := by decide +kernel
theorem dX11_readLorry_21 : decode cX11_readLorry 21 = .ok (.bipush 79, 2) := by decide +kernel
theorem dX11_readLorry_23 : decode cX11_readLorry 23 = .ok (.iconst 3, 1) := by decide +kernel
theorem dX11_readLorry_24 : decode cX11_readLorry 24 = .ok (.aload_n 0, 1) := by decide +kernel
theorem dX11_readLorry_25 : decode cX11_readLorry 25 = .ok (.getfield 75, 3) := by decide +kernel
theorem dX11_readLorry_28 : decode cX11_readLorry 28 = .ok (.iconst 4, 1) := by decide +kernel
theorem dX11_readLorry_29 : decode cX11_readLorry 29 = .ok (.iaload, 1) := by decide +kernel
theorem dX11_readLorry_30 : decode cX11_readLorry 30 = .ok (.imul, 1) := by decide +kernel
theorem dX11_readLorry_31 : decode cX11_readLorry 31 = .ok (.iadd, 1) := by decide +kernel
theorem dX11_readLorry_32 : decode cX11_readLorry 32 = .ok (.istore_n 1, 1) := by decide +kernel
theorem dX11_readLorry_33 : decode cX11_readLorry 33 = .ok (.aload_n 0, 1) := by decide +kernel
theorem dX11_readLorry_34 : decode cX11_readLorry 34 = .ok (.iconst 0, 1) := by decide +kernel
theorem dX11_readLorry_35 : decode cX11_readLorry 35 = .ok (.invokevirtual 127, 3) := by decide +kernel
theorem dX11_readLorry_38 : decode cX11_readLorry 38 = .ok (.ifCond .ne 5, 3) := by decide +kernel
theorem dX11_readLorry_41 : decode cX11_readLorry 41 = .ok (.iconst 0, 1) := by decide +kernel
theorem dX11_readLorry_42 : decode cX11_readLorry 42 = .ok (.ireturn, 1) := by decide +kernel
theorem dX11_readLorry_43 : decode cX11_readLorry 43 = .ok (.aload_n 0, 1) := by decide +kernel
theorem dX11_readLorry_44 : decode cX11_readLorry 44 = .ok (.getfield 75, 3) := by decide +kernel
theorem dX11_readLorry_47 : decode cX11_readLorry 47 = .ok (.iload_n 1, 1) := by decide +kernel
theorem dX11_readLorry_48 : decode cX11_readLorry 48 = .ok (.aload_n 0, 1) := by decide +kernel
theorem dX11_readLorry_49 : decode cX11_readLorry 49 = .ok (.getfield 117, 3) := by decide +kernel
theorem dX11_readLorry_52 : decode cX11_readLorry 52 = .ok (.iastore, 1) := by decide +kernel
theorem dX11_readLorry_53 : decode cX11_readLorry 53 = .ok (.aload_n 0, 1) := by decide +kernel
theorem dX11_readLorry_54 : decode cX11_readLorry 54 = .ok (.iload_n 1, 1) := by decide +kernel
theorem dX11_readLorry_55 : decode cX11_readLorry 55 = .ok (.iconst 1, 1) := by decide +kernel
theorem dX11_readLorry_56 : decode cX11_readLorry 56 = .ok (.iadd, 1) := by decide +kernel
theorem dX11_readLorry_57 : decode cX11_readLorry 57 = .ok (.iconst 1, 1) := by decide +kernel
theorem dX11_readLorry_58 : decode cX11_readLorry 58 = .ok (.bipush 6, 2) := by decide +kernel
theorem dX11_readLorry_60 : decode cX11_readLorry 60 = .ok (.invokevirtual 124, 3) := by decide +kernel
theorem dX11_readLorry_63 : decode cX11_readLorry 63 = .ok (.ifCond .ne 5, 3) := by decide +kernel
theorem dX11_readLorry_66 : decode cX11_readLorry 66 = .ok (.iconst 0, 1) := by decide +kernel
theorem dX11_readLorry_67 : decode cX11_readLorry 67 = .ok (.ireturn, 1) := by decide +kernel
theorem dX11_readLorry_68 : decode cX11_readLorry 68 = .ok (.aload_n 0, 1) := by decide +kernel
theorem dX11_readLorry_69 : decode cX11_readLorry 69 = .ok (.getfield 75, 3) := by decide +kernel
theorem dX11_readLorry_72 : decode cX11_readLorry 72 = .ok (.iconst 4, 1) := by decide +kernel
theorem dX11_readLorry_73 : decode cX11_readLorry 73 = .ok (.dup2, 1) := by decide +kernel
theorem dX11_readLorry_74 : decode cX11_readLorry 74 = .ok (.iaload, 1) := by decide +kernel
theorem dX11_readLorry_75 : decode cX11_readLorry 75 = .ok (.iconst 1, 1) := by decide +kernel
theorem dX11_readLorry_76 : decode cX11_readLorry 76 = .ok (.iadd, 1) := by decide +kernel
theorem dX11_readLorry_77 : decode cX11_readLorry 77 = .ok (.iastore, 1) := by decide +kernel
theorem dX11_readLorry_78 : decode cX11_readLorry 78 = .ok (.iconst 1, 1) := by decide +kernel
theorem dX11_readLorry_79 : decode cX11_readLorry 79 = .ok (.ireturn, 1) := by decide +kernel
theorem dX11_readType_0 : decode cX11_readType 0 = .ok (.aload_n 0, 1) := by decide +kernel
theorem dX11_readType_1 : decode cX11_readType 1 = .ok (.getfield 75, 3) := by decide +kernel
theorem dX11_readType_4 : decode cX11_readType 4 = .ok (.iconst 3, 1) := by decide +kernel
theorem dX11_readType_5 : decode cX11_readType 5 = .ok (.iaload, 1) := by decide +kernel
theorem dX11_readType_6 : decode cX11_readType 6 = .ok (.bipush 6, 2) := by decide +kernel
theorem dX11_readType_8 : decode cX11_readType 8 = .ok (.if_icmp .ne 9, 3) := by decide +kernel
theorem dX11_readType_11 : decode cX11_readType 11 = .ok (.aload_n 0, 1) := by decide +kernel
theorem dX11_readType_12 : decode cX11_readType 12 = .ok (.iconst 3, 1) := by decide +kernel
theorem dX11_readType_13 : decode cX11_readType 13 = .ok (.invokevirtual 103, 3) := by decide +kernel
theorem dX11_readType_16 : decode cX11_readType 16 = .ok (.ireturn, 1) := by decide +kernel
theorem dX11_readType_17 : decode cX11_readType 17 = .ok (.aload_n 0, 1) := by decide +kernel
theorem dX11_readType_18 : decode cX11_readType 18 = .ok (.invokevirtual 110, 3) := by decide +kernel
theorem dX11_readType_21 : decode cX11_readType 21 = .ok (.bipush 7, 2) := by decide +kernel
theorem dX11_readType_23 : decode cX11_readType 23 = .ok (.bipush 12, 2) := by decide +kernel
theorem dX11_readType_25 : decode cX11_readType 25 = .ok (.aload_n 0, 1) := by decide +kernel
theorem dX11_readType_26 : decode cX11_readType 26 = .ok (.getfield 75, 3) := by decide +kernel
theorem dX11_readType_29 : decode cX11_readType 29 = .ok (.iconst 3, 1) := by decide +kernel
theorem dX11_readType_30 : decode cX11_readType 30 = .ok (.iaload, 1) := by decide +kernel
theorem dX11_readType_31 : decode cX11_readType 31 = .ok (.imul, 1) := by decide +kernel
theorem dX11_readType_32 : decode cX11_readType 32 = .ok (.iadd, 1) := by decide +kernel
theorem dX11_readType_33 : decode cX11_readType 33 = .ok (.istore_n 1, 1) := by decide +kernel
theorem dX11_readType_34 : decode cX11_readType 34 = .ok (.aload_n 0, 1) := by decide +kernel
theorem dX11_readType_35 : decode cX11_readType 35 = .ok (.iload_n 1, 1) := by decide +kernel
theorem dX11_readType_36 : decode cX11_readType 36 = .ok (.invokevirtual 134, 3) := by decide +kernel
theorem dX11_readType_39 : decode cX11_readType 39 = .ok (.ifCond .eq 55, 3) := by decide +kernel
theorem dX11_readType_42 : decode cX11_readType 42 = .ok (.aload_n 0, 1) := by decide +kernel
theorem dX11_readType_43 : decode cX11_readType 43 = .ok (.iload_n 1, 1) := by decide +kernel
theorem dX11_readType_44 : decode cX11_readType 44 = .ok (.iconst 2, 1) := by decide +kernel
theorem dX11_readType_45 : decode cX11_readType 45 = .ok (.iadd, 1) := by decide +kernel
theorem dX11_readType_46 : decode cX11_readType 46 = .ok (.iconst 1, 1) := by decide +kernel
theorem dX11_readType_47 : decode cX11_readType 47 = .ok (.bipush 6, 2) := by decide +kernel
theorem dX11_readType_49 : decode cX11_readType 49 = .ok (.invokevirtual 124, 3) := by decide +kernel
theorem dX11_readType_52 : decode cX11_readType 52 = .ok (.ifCond .eq 42, 3) := by decide +kernel
theorem dX11_readType_55 : decode cX11_readType 55 = .ok (.aload_n 0, 1) := by decide +kernel
theorem dX11_readType_56 : decode cX11_readType 56 = .ok (.iload_n 1, 1) := by decide +kernel
theorem dX11_readType_57 : decode cX11_readType 57 = .ok (.iconst 3, 1) := by decide +kernel
theorem dX11_readType_58 : decode cX11_readType 58 = .ok (.iadd, 1) := by decide +kernel
theorem dX11_readType_59 : decode cX11_readType 59 = .ok (.iconst 0, 1) := by decide +kernel
theorem dX11_readType_60 : decode cX11_readType 60 = .ok (.bipush 99, 2) := by decide +kernel
theorem dX11_readType_62 : decode cX11_readType 62 = .ok (.invokevirtual 124, 3) := by decide +kernel
theorem dX11_readType_65 : decode cX11_readType 65 = .ok (.ifCond .eq 29, 3) := by decide +kernel
theorem dX11_readType_68 : decode cX11_readType 68 = .ok (.aload_n 0, 1) := by decide +kernel
theorem dX11_readType_69 : decode cX11_readType 69 = .ok (.iload_n 1, 1) := by decide +kernel
theorem dX11_readType_70 : decode cX11_readType 70 = .ok (.iconst 4, 1) := by decide +kernel
theorem dX11_readType_71 : decode cX11_readType 71 = .ok (.iadd, 1) := by decide +kernel
theorem dX11_readType_72 : decode cX11_readType 72 = .ok (.iconst 0, 1) := by decide +kernel
theorem dX11_readType_73 : decode cX11_readType 73 = .ok (.bipush 9, 2) := by decide +kernel
theorem dX11_readType_75 : decode cX11_readType 75 = .ok (.invokevirtual 124, 3) := by decide +kernel
theorem dX11_readType_78 : decode cX11_readType 78 = .ok (.ifCond .eq 16, 3) := by decide +kernel
theorem dX11_readType_81 : decode cX11_readType 81 = .ok (.aload_n 0, 1) := by decide +kernel
theorem dX11_readType_82 : decode cX11_readType 82 = .ok (.iload_n 1, 1) := by decide +kernel
theorem dX11_readType_83 : decode cX11_readType 83 = .ok (.iconst 5, 1) := by decide +kernel
theorem dX11_readType_84 : decode cX11_readType 84 = .ok (.iadd, 1) := by decide +kernel
theorem dX11_readType_85 : decode cX11_readType 85 = .ok (.iconst 0, 1) := by decide +kernel
theorem dX11_readType_86 : decode cX11_readType 86 = .ok (.bipush 99, 2) := by decide +kernel
theorem dX11_readType_88 : decode cX11_readType 88 = .ok (.invokevirtual 124, 3) := by decide +kernel
theorem dX11_readType_91 : decode cX11_readType 91 = .ok (.ifCond .ne 5, 3) := by decide +kernel
theorem dX11_readType_94 : decode cX11_readType 94 = .ok (.iconst 0, 1) := by decide +kernel
theorem dX11_readType_95 : decode cX11_readType 95 = .ok (.ireturn, 1) := by decide +kernel
theorem dX11_readType_96 : decode cX11_readType 96 = .ok (.aload_n 0, 1) := by decide +kernel
theorem dX11_readType_97 : decode cX11_readType 97 = .ok (.getfield 27, 3) := by decide +kernel
theorem dX11_readType_100 : decode cX11_readType 100 = .ok (.iconst 3, 1) := by decide +kernel
theorem dX11_readType_101 : decode cX11_readType 101 = .ok (.if_icmp .eq 9, 3) := by decide +kernel
theorem dX11_readType_104 : decode cX11_readType 104 = .ok (.aload_n 0, 1) := by decide +kernel
theorem dX11_readType_105 : decode cX11_readType 105 = .ok (.iconst 1, 1) := by decide +kernel
theorem dX11_readType_106 : decode cX11_readType 106 = .ok (.invokevirtual 103, 3) := by decide +kernel
theorem dX11_readType_109 : decode cX11_readType 109 = .ok (.ireturn, 1) := by decide +kernel
theorem dX11_readType_110 : decode cX11_readType 110 = .ok (.aload_n 0, 1) := by decide +kernel
theorem dX11_readType_111 : decode cX11_readType 111 = .ok (.getfield 27, 3) := by decide +kernel
theorem dX11_readType_114 : decode cX11_readType 114 = .ok (.iconst 3, 1) := by decide +kernel
theorem dX11_readType_115 : decode cX11_readType 115 = .ok (.if_icmp .ne 42, 3) := by decide +kernel
theorem dX11_readType_118 : decode cX11_readType 118 = .ok (.aload_n 0, 1) := by decide +kernel
theorem dX11_readType_119 : decode cX11_readType 119 = .ok (.aload_n 0, 1) := by decide +kernel
theorem dX11_readType_120 : decode cX11_readType 120 = .ok (.getfield 75, 3) := by decide +kernel
theorem dX11_readType_123 : decode cX11_readType 123 = .ok (.iload_n 1, 1) := by decide +kernel
theorem dX11_readType_124 : decode cX11_readType 124 = .ok (.bipush 6, 2) := by decide +kernel
theorem dX11_readType_126 : decode cX11_readType 126 = .ok (.iadd, 1) := by decide +kernel
theorem dX11_readType_127 : decode cX11_readType 127 = .ok (.iaload, 1) := by decide +kernel
theorem dX11_readType_128 : decode cX11_readType 128 = .ok (.invokevirtual 127, 3) := by decide +kernel
theorem dX11_readType_131 : decode cX11_readType 131 = .ok (.ifCond .ne 5, 3) := by decide +kernel
theorem dX11_readType_134 : decode cX11_readType 134 = .ok (.iconst 0, 1) := by decide +kernel
theorem dX11_readType_135 : decode cX11_readType 135 = .ok (.ireturn, 1) := by decide +kernel
theorem dX11_readType_136 : decode cX11_readType 136 = .ok (.aload_n 0, 1) := by decide +kernel
theorem dX11_readType_137 : decode cX11_readType 137 = .ok (.getfield 75, 3) := by decide +kernel
theorem dX11_readType_140 : decode cX11_readType 140 = .ok (.iload_n 1, 1) := by decide +kernel
theorem dX11_readType_141 : decode cX11_readType 141 = .ok (.bipush 6, 2) := by decide +kernel
theorem dX11_readType_143 : decode cX11_readType 143 = .ok (.iadd, 1) := by decide +kernel
theorem dX11_readType_144 : decode cX11_readType 144 = .ok (.dup2, 1) := by decide +kernel
theorem dX11_readType_145 : decode cX11_readType 145 = .ok (.iaload, 1) := by decide +kernel
theorem dX11_readType_146 : decode cX11_readType 146 = .ok (.iconst 1, 1) := by decide +kernel
theorem dX11_readType_147 : decode cX11_readType 147 = .ok (.aload_n 0, 1) := by decide +kernel
theorem dX11_readType_148 : decode cX11_readType 148 = .ok (.getfield 117, 3) := by decide +kernel
theorem dX11_readType_151 : decode cX11_readType 151 = .ok (.ishl, 1) := by decide +kernel
theorem dX11_readType_152 : decode cX11_readType 152 = .ok (.ior, 1) := by decide +kernel
theorem dX11_readType_153 : decode cX11_readType 153 = .ok (.iastore, 1) := by decide +kernel
theorem dX11_readType_154 : decode cX11_readType 154 = .ok (.goto (-44), 3) := by decide +kernel
theorem dX11_readType_157 : decode cX11_readType 157 = .ok (.aload_n 0, 1) := by decide +kernel
theorem dX11_readType_158 : decode cX11_readType 158 = .ok (.getfield 75, 3) := by decide +kernel
theorem dX11_readType_161 : decode cX11_readType 161 = .ok (.iconst 3, 1) := by decide +kernel
theorem dX11_readType_162 : decode cX11_readType 162 = .ok (.dup2, 1) := by decide +kernel
theorem dX11_readType_163 : decode cX11_readType 163 = .ok (.iaload, 1) := by decide +kernel
theorem dX11_readType_164 : decode cX11_readType 164 = .ok (.iconst 1, 1) := by decide +kernel
theorem dX11_readType_165 : decode cX11_readType 165 = .ok (.iadd, 1) := by decide +kernel
theorem dX11_readType_166 : decode cX11_readType 166 = .ok (.iastore, 1) := by decide +kernel
theorem dX11_readType_167 : decode cX11_readType 167 = .ok (.iconst 1, 1) := by decide +kernel
theorem dX11_readType_168 : decode cX11_readType 168 = .ok (.ireturn, 1) := by decide +kernel
theorem dX11_refuse_0 : decode cX11_refuse 0 = .ok (.aload_n 0, 1) := by decide +kernel
theorem dX11_refuse_1 : decode cX11_refuse 1 = .ok (.iconst 1, 1) := by decide +kernel
theorem dX11_refuse_2 : decode cX11_refuse 2 = .ok (.putfield 1, 3) := by decide +kernel
theorem dX11_refuse_5 : decode cX11_refuse 5 = .ok (.iconst 0, 1) := by decide +kernel
theorem dX11_refuse_6 : decode cX11_refuse 6 = .ok (.ireturn, 1) := by decide +kernel
theorem dX11_served_0 : decode cX11_served 0 = .ok (.aload_n 0, 1) := by decide +kernel
theorem dX11_served_1 : decode cX11_served 1 = .ok (.iconst 0, 1) := by decide +kernel
theorem dX11_served_2 : decode cX11_served 2 = .ok (.putfield 1, 3) := by decide +kernel
theorem dX11_served_5 : decode cX11_served 5 = .ok (.aload_n 0, 1) := by decide +kernel
theorem dX11_served_6 : decode cX11_served 6 = .ok (.iload_n 1, 1) := by decide +kernel
theorem dX11_served_7 : decode cX11_served 7 = .ok (.invokevirtual 189, 3) := by decide +kernel
theorem dX11_served_10 : decode cX11_served 10 = .ok (.ifCond .eq 23, 3) := by decide +kernel
theorem dX11_served_13 : decode cX11_served 13 = .ok (.iload_n 2, 1) := by decide +kernel
theorem dX11_served_14 : decode cX11_served 14 = .ok (.bipush (-99), 2) := by decide +kernel
theorem dX11_served_16 : decode cX11_served 16 = .ok (.bipush 99, 2) := by decide +kernel
theorem dX11_served_18 : decode cX11_served 18 = .ok (.invokestatic 106, 3) := by decide +kernel
theorem dX11_served_21 : decode cX11_served 21 = .ok (.ifCond .eq 12, 3) := by decide +kernel
theorem dX11_served_24 : decode cX11_served 24 = .ok (.aload_n 0, 1) := by decide +kernel
theorem dX11_served_25 : decode cX11_served 25 = .ok (.iload_n 1, 1) := by decide +kernel
theorem dX11_served_26 : decode cX11_served 26 = .ok (.iload_n 2, 1) := by decide +kernel
theorem dX11_served_27 : decode cX11_served 27 = .ok (.invokevirtual 247, 3) := by decide +kernel
theorem dX11_served_30 : decode cX11_served 30 = .ok (.goto 4, 3) := by decide +kernel
theorem dX11_served_33 : decode cX11_served 33 = .ok (.iconst (-1), 1) := by decide +kernel
theorem dX11_served_34 : decode cX11_served 34 = .ok (.ireturn, 1) := by decide +kernel
theorem dX11_servedWith_0 : decode cX11_servedWith 0 = .ok (.aload_n 0, 1) := by decide +kernel
theorem dX11_servedWith_1 : decode cX11_servedWith 1 = .ok (.invokevirtual 234, 3) := by decide +kernel
theorem dX11_servedWith_4 : decode cX11_servedWith 4 = .ok (.aload_n 0, 1) := by decide +kernel
theorem dX11_servedWith_5 : decode cX11_servedWith 5 = .ok (.getfield 81, 3) := by decide +kernel
theorem dX11_servedWith_8 : decode cX11_servedWith 8 = .ok (.iload_n 1, 1) := by decide +kernel
theorem dX11_servedWith_9 : decode cX11_servedWith 9 = .ok (.aload_n 0, 1) := by decide +kernel
theorem dX11_servedWith_10 : decode cX11_servedWith 10 = .ok (.getfield 81, 3) := by decide +kernel
theorem dX11_servedWith_13 : decode cX11_servedWith 13 = .ok (.iload_n 1, 1) := by decide +kernel
theorem dX11_servedWith_14 : decode cX11_servedWith 14 = .ok (.iaload, 1) := by decide +kernel
theorem dX11_servedWith_15 : decode cX11_servedWith 15 = .ok (.iload_n 2, 1) := by decide +kernel
theorem dX11_servedWith_16 : decode cX11_servedWith 16 = .ok (.iadd, 1) := by decide +kernel
theorem dX11_servedWith_17 : decode cX11_servedWith 17 = .ok (.ifCond .ge 7, 3) := by decide +kernel
theorem dX11_servedWith_20 : decode cX11_servedWith 20 = .ok (.iconst 0, 1) := by decide +kernel
theorem dX11_servedWith_21 : decode cX11_servedWith 21 = .ok (.goto 11, 3) := by decide +kernel
theorem dX11_servedWith_24 : decode cX11_servedWith 24 = .ok (.aload_n 0, 1) := by decide +kernel
theorem dX11_servedWith_25 : decode cX11_servedWith 25 = .ok (.getfield 81, 3) := by decide +kernel
theorem dX11_servedWith_28 : decode cX11_servedWith 28 = .ok (.iload_n 1, 1) := by decide +kernel
theorem dX11_servedWith_29 : decode cX11_servedWith 29 = .ok (.iaload, 1) := by decide +kernel
theorem dX11_servedWith_30 : decode cX11_servedWith 30 = .ok (.iload_n 2, 1) := by decide +kernel
theorem dX11_servedWith_31 : decode cX11_servedWith 31 = .ok (.iadd, 1) := by decide +kernel
theorem dX11_servedWith_32 : decode cX11_servedWith 32 = .ok (.iastore, 1) := by decide +kernel
theorem dX11_servedWith_33 : decode cX11_servedWith 33 = .ok (.aload_n 0, 1) := by decide +kernel
theorem dX11_servedWith_34 : decode cX11_servedWith 34 = .ok (.invokevirtual 237, 3) := by decide +kernel
theorem dX11_servedWith_37 : decode cX11_servedWith 37 = .ok (.aload_n 0, 1) := by decide +kernel
theorem dX11_servedWith_38 : decode cX11_servedWith 38 = .ok (.invokevirtual 231, 3) := by decide +kernel
theorem dX11_servedWith_41 : decode cX11_servedWith 41 = .ok (.aload_n 0, 1) := by decide +kernel
theorem dX11_servedWith_42 : decode cX11_servedWith 42 = .ok (.getfield 225, 3) := by decide +kernel
theorem dX11_servedWith_45 : decode cX11_servedWith 45 = .ok (.ireturn, 1) := by decide +kernel
theorem dX11_serves_0 : decode cX11_serves 0 = .ok (.iconst 0, 1) := by decide +kernel
theorem dX11_serves_1 : decode cX11_serves 1 = .ok (.istore_n 1, 1) := by decide +kernel
theorem dX11_serves_2 : decode cX11_serves 2 = .ok (.iload_n 1, 1) := by decide +kernel
theorem dX11_serves_3 : decode cX11_serves 3 = .ok (.bipush 6, 2) := by decide +kernel
theorem dX11_serves_5 : decode cX11_serves 5 = .ok (.if_icmp .ge 16, 3) := by decide +kernel
theorem dX11_serves_8 : decode cX11_serves 8 = .ok (.aload_n 0, 1) := by decide +kernel
theorem dX11_serves_9 : decode cX11_serves 9 = .ok (.getfield 84, 3) := by decide +kernel
theorem dX11_serves_12 : decode cX11_serves 12 = .ok (.iload_n 1, 1) := by decide +kernel
theorem dX11_serves_13 : decode cX11_serves 13 = .ok (.iconst 0, 1) := by decide +kernel
theorem dX11_serves_14 : decode cX11_serves 14 = .ok (.iastore, 1) := by decide +kernel
theorem dX11_serves_15 : decode cX11_serves 15 = .ok (.iinc 1 1, 3) := by decide +kernel
theorem dX11_serves_18 : decode cX11_serves 18 = .ok (.goto (-16), 3) := by decide +kernel
theorem dX11_serves_21 : decode cX11_serves 21 = .ok (.iconst 0, 1) := by decide +kernel
theorem dX11_serves_22 : decode cX11_serves 22 = .ok (.istore_n 1, 1) := by decide +kernel
theorem dX11_serves_23 : decode cX11_serves 23 = .ok (.iload_n 1, 1) := by decide +kernel
theorem dX11_serves_24 : decode cX11_serves 24 = .ok (.aload_n 0, 1) := by decide +kernel
theorem dX11_serves_25 : decode cX11_serves 25 = .ok (.getfield 72, 3) := by decide +kernel
theorem dX11_serves_28 : decode cX11_serves 28 = .ok (.iconst 5, 1) := by decide +kernel
theorem dX11_serves_29 : decode cX11_serves 29 = .ok (.iaload, 1) := by decide +kernel
theorem dX11_serves_30 : decode cX11_serves 30 = .ok (.if_icmp .ge 67, 3) := by decide +kernel
theorem dX11_serves_33 : decode cX11_serves 33 = .ok (.aload_n 0, 1) := by decide +kernel
theorem dX11_serves_34 : decode cX11_serves 34 = .ok (.iload_n 1, 1) := by decide +kernel
theorem dX11_serves_35 : decode cX11_serves 35 = .ok (.invokevirtual 216, 3) := by decide +kernel
theorem dX11_serves_38 : decode cX11_serves 38 = .ok (.ifCond .eq 10, 3) := by decide +kernel
theorem dX11_serves_41 : decode cX11_serves 41 = .ok (.aload_n 0, 1) := by decide +kernel
theorem dX11_serves_42 : decode cX11_serves 42 = .ok (.getfield 87, 3) := by decide +kernel
theorem dX11_serves_45 : decode cX11_serves 45 = .ok (.iload_n 1, 1) := by decide +kernel
theorem dX11_serves_46 : decode cX11_serves 46 = .ok (.iconst (-1), 1) := by decide +kernel
theorem dX11_serves_47 : decode cX11_serves 47 = .ok (.iastore, 1) := by decide +kernel
theorem dX11_serves_48 : decode cX11_serves 48 = .ok (.aload_n 0, 1) := by decide +kernel
theorem dX11_serves_49 : decode cX11_serves 49 = .ok (.iload_n 1, 1) := by decide +kernel
theorem dX11_serves_50 : decode cX11_serves 50 = .ok (.iconst 2, 1) := by decide +kernel
theorem dX11_serves_51 : decode cX11_serves 51 = .ok (.invokevirtual 160, 3) := by decide +kernel
theorem dX11_serves_54 : decode cX11_serves 54 = .ok (.ifCond .ne 37, 3) := by decide +kernel
theorem dX11_serves_57 : decode cX11_serves 57 = .ok (.aload_n 0, 1) := by decide +kernel
theorem dX11_serves_58 : decode cX11_serves 58 = .ok (.getfield 96, 3) := by decide +kernel
theorem dX11_serves_61 : decode cX11_serves 61 = .ok (.iload_n 1, 1) := by decide +kernel
theorem dX11_serves_62 : decode cX11_serves 62 = .ok (.baload, 1) := by decide +kernel
theorem dX11_serves_63 : decode cX11_serves 63 = .ok (.ifCond .eq 28, 3) := by decide +kernel
theorem dX11_serves_66 : decode cX11_serves 66 = .ok (.aload_n 0, 1) := by decide +kernel
theorem dX11_serves_67 : decode cX11_serves 67 = .ok (.getfield 87, 3) := by decide +kernel
theorem dX11_serves_70 : decode cX11_serves 70 = .ok (.iload_n 1, 1) := by decide +kernel
theorem dX11_serves_71 : decode cX11_serves 71 = .ok (.iaload, 1) := by decide +kernel
theorem dX11_serves_72 : decode cX11_serves 72 = .ok (.iconst (-1), 1) := by decide +kernel
theorem dX11_serves_73 : decode cX11_serves 73 = .ok (.if_icmp .eq 18, 3) := by decide +kernel
theorem dX11_serves_76 : decode cX11_serves 76 = .ok (.aload_n 0, 1) := by decide +kernel
theorem dX11_serves_77 : decode cX11_serves 77 = .ok (.getfield 84, 3) := by decide +kernel
theorem dX11_serves_80 : decode cX11_serves 80 = .ok (.aload_n 0, 1) := by decide +kernel
theorem dX11_serves_81 : decode cX11_serves 81 = .ok (.getfield 87, 3) := by decide +kernel
theorem dX11_serves_84 : decode cX11_serves 84 = .ok (.iload_n 1, 1) := by decide +kernel
theorem dX11_serves_85 : decode cX11_serves 85 = .ok (.iaload, 1) := by decide +kernel
theorem dX11_serves_86 : decode cX11_serves 86 = .ok (.dup2, 1) := by decide +kernel
theorem dX11_serves_87 : decode cX11_serves 87 = .ok (.iaload, 1) := by decide +kernel
theorem dX11_serves_88 : decode cX11_serves 88 = .ok (.iconst 1, 1) := by decide +kernel
theorem dX11_serves_89 : decode cX11_serves 89 = .ok (.iadd, 1) := by decide +kernel
theorem dX11_serves_90 : decode cX11_serves 90 = .ok (.iastore, 1) := by decide +kernel
theorem dX11_serves_91 : decode cX11_serves 91 = .ok (.iinc 1 1, 3) := by decide +kernel
theorem dX11_serves_94 : decode cX11_serves 94 = .ok (.goto (-71), 3) := by decide +kernel
theorem dX11_serves_97 : decode cX11_serves 97 = .ok (.aload_n 0, 1) := by decide +kernel
theorem dX11_serves_98 : decode cX11_serves 98 = .ok (.invokevirtual 222, 3) := by decide +kernel
theorem dX11_serves_101 : decode cX11_serves 101 = .ok (.istore_n 1, 1) := by decide +kernel
theorem dX11_serves_102 : decode cX11_serves 102 = .ok (.iload_n 1, 1) := by decide +kernel
theorem dX11_serves_103 : decode cX11_serves 103 = .ok (.iconst (-1), 1) := by decide +kernel
theorem dX11_serves_104 : decode cX11_serves 104 = .ok (.if_icmp .eq 56, 3) := by decide +kernel
theorem dX11_serves_107 : decode cX11_serves 107 = .ok (.aload_n 0, 1) := by decide +kernel
theorem dX11_serves_108 : decode cX11_serves 108 = .ok (.getfield 84, 3) := by decide +kernel
theorem dX11_serves_111 : decode cX11_serves 111 = .ok (.iload_n 1, 1) := by decide +kernel
theorem dX11_serves_112 : decode cX11_serves 112 = .ok (.dup2, 1) := by decide +kernel
theorem dX11_serves_113 : decode cX11_serves 113 = .ok (.iaload, 1) := by decide +kernel
theorem dX11_serves_114 : decode cX11_serves 114 = .ok (.iconst 1, 1) := by decide +kernel
theorem dX11_serves_115 : decode cX11_serves 115 = .ok (.iadd, 1) := by decide +kernel
theorem dX11_serves_116 : decode cX11_serves 116 = .ok (.iastore, 1) := by decide +kernel
theorem dX11_serves_117 : decode cX11_serves 117 = .ok (.iload_n 1, 1) := by decide +kernel
theorem dX11_serves_118 : decode cX11_serves 118 = .ok (.istore_n 2, 1) := by decide +kernel
theorem dX11_serves_119 : decode cX11_serves 119 = .ok (.iload_n 2, 1) := by decide +kernel
theorem dX11_serves_120 : decode cX11_serves 120 = .ok (.iconst (-1), 1) := by decide +kernel
theorem dX11_serves_121 : decode cX11_serves 121 = .ok (.if_icmp .eq 31, 3) := by decide +kernel
theorem dX11_serves_124 : decode cX11_serves 124 = .ok (.aload_n 0, 1) := by decide +kernel
theorem dX11_serves_125 : decode cX11_serves 125 = .ok (.getfield 90, 3) := by decide +kernel
theorem dX11_serves_128 : decode cX11_serves 128 = .ok (.iload_n 2, 1) := by decide +kernel
theorem dX11_serves_129 : decode cX11_serves 129 = .ok (.iaload, 1) := by decide +kernel
theorem dX11_serves_130 : decode cX11_serves 130 = .ok (.istore_n 3, 1) := by decide +kernel
theorem dX11_serves_131 : decode cX11_serves 131 = .ok (.aload_n 0, 1) := by decide +kernel
theorem dX11_serves_132 : decode cX11_serves 132 = .ok (.getfield 87, 3) := by decide +kernel
theorem dX11_serves_135 : decode cX11_serves 135 = .ok (.iload_n 3, 1) := by decide +kernel
theorem dX11_serves_136 : decode cX11_serves 136 = .ok (.iaload, 1) := by decide +kernel
theorem dX11_serves_137 : decode cX11_serves 137 = .ok (.istore 4, 2) := by decide +kernel
theorem dX11_serves_139 : decode cX11_serves 139 = .ok (.aload_n 0, 1) := by decide +kernel
theorem dX11_serves_140 : decode cX11_serves 140 = .ok (.getfield 87, 3) := by decide +kernel
theorem dX11_serves_143 : decode cX11_serves 143 = .ok (.iload_n 3, 1) := by decide +kernel
theorem dX11_serves_144 : decode cX11_serves 144 = .ok (.iload_n 2, 1) := by decide +kernel
theorem dX11_serves_145 : decode cX11_serves 145 = .ok (.iastore, 1) := by decide +kernel
theorem dX11_serves_146 : decode cX11_serves 146 = .ok (.iload 4, 2) := by decide +kernel
theorem dX11_serves_148 : decode cX11_serves 148 = .ok (.istore_n 2, 1) := by decide +kernel
theorem dX11_serves_149 : decode cX11_serves 149 = .ok (.goto (-30), 3) := by decide +kernel
theorem dX11_serves_152 : decode cX11_serves 152 = .ok (.aload_n 0, 1) := by decide +kernel
theorem dX11_serves_153 : decode cX11_serves 153 = .ok (.invokevirtual 222, 3) := by decide +kernel
theorem dX11_serves_156 : decode cX11_serves 156 = .ok (.istore_n 1, 1) := by decide +kernel
theorem dX11_serves_157 : decode cX11_serves 157 = .ok (.goto (-55), 3) := by decide +kernel
theorem dX11_serves_160 : decode cX11_serves 160 = .ok (.aload_n 0, 1) := by decide +kernel
theorem dX11_serves_161 : decode cX11_serves 161 = .ok (.iconst 0, 1) := by decide +kernel
theorem dX11_serves_162 : decode cX11_serves 162 = .ok (.putfield 225, 3) := by decide +kernel
theorem dX11_serves_165 : decode cX11_serves 165 = .ok (.aload_n 0, 1) := by decide +kernel
theorem dX11_serves_166 : decode cX11_serves 166 = .ok (.iconst 0, 1) := by decide +kernel
theorem dX11_serves_167 : decode cX11_serves 167 = .ok (.putfield 228, 3) := by decide +kernel
theorem dX11_serves_170 : decode cX11_serves 170 = .ok (.iconst 0, 1) := by decide +kernel
theorem dX11_serves_171 : decode cX11_serves 171 = .ok (.istore_n 1, 1) := by decide +kernel
theorem dX11_serves_172 : decode cX11_serves 172 = .ok (.iload_n 1, 1) := by decide +kernel
theorem dX11_serves_173 : decode cX11_serves 173 = .ok (.aload_n 0, 1) := by decide +kernel
theorem dX11_serves_174 : decode cX11_serves 174 = .ok (.getfield 72, 3) := by decide +kernel
theorem dX11_serves_177 : decode cX11_serves 177 = .ok (.iconst 5, 1) := by decide +kernel
theorem dX11_serves_178 : decode cX11_serves 178 = .ok (.iaload, 1) := by decide +kernel
theorem dX11_serves_179 : decode cX11_serves 179 = .ok (.if_icmp .ge 61, 3) := by decide +kernel
theorem dX11_serves_182 : decode cX11_serves 182 = .ok (.aload_n 0, 1) := by decide +kernel
theorem dX11_serves_183 : decode cX11_serves 183 = .ok (.iload_n 1, 1) := by decide +kernel
theorem dX11_serves_184 : decode cX11_serves 184 = .ok (.iconst 2, 1) := by decide +kernel
theorem dX11_serves_185 : decode cX11_serves 185 = .ok (.invokevirtual 160, 3) := by decide +kernel
theorem dX11_serves_188 : decode cX11_serves 188 = .ok (.ifCond .ne 46, 3) := by decide +kernel
theorem dX11_serves_191 : decode cX11_serves 191 = .ok (.aload_n 0, 1) := by decide +kernel
theorem dX11_serves_192 : decode cX11_serves 192 = .ok (.getfield 87, 3) := by decide +kernel
theorem dX11_serves_195 : decode cX11_serves 195 = .ok (.iload_n 1, 1) := by decide +kernel
theorem dX11_serves_196 : decode cX11_serves 196 = .ok (.iaload, 1) := by decide +kernel
theorem dX11_serves_197 : decode cX11_serves 197 = .ok (.iconst (-1), 1) := by decide +kernel
theorem dX11_serves_198 : decode cX11_serves 198 = .ok (.if_icmp .ne 6, 3) := by decide +kernel
theorem dX11_serves_201 : decode cX11_serves 201 = .ok (.goto 33, 3) := by decide +kernel
theorem dX11_serves_204 : decode cX11_serves 204 = .ok (.aload_n 0, 1) := by decide +kernel
theorem dX11_serves_205 : decode cX11_serves 205 = .ok (.dup, 1) := by decide +kernel
theorem dX11_serves_206 : decode cX11_serves 206 = .ok (.getfield 225, 3) := by decide +kernel
theorem dX11_serves_209 : decode cX11_serves 209 = .ok (.iconst 1, 1) := by decide +kernel
theorem dX11_serves_210 : decode cX11_serves 210 = .ok (.iadd, 1) := by decide +kernel
theorem dX11_serves_211 : decode cX11_serves 211 = .ok (.putfield 225, 3) := by decide +kernel
theorem dX11_serves_214 : decode cX11_serves 214 = .ok (.aload_n 0, 1) := by decide +kernel
theorem dX11_serves_215 : decode cX11_serves 215 = .ok (.dup, 1) := by decide +kernel
theorem dX11_serves_216 : decode cX11_serves 216 = .ok (.getfield 228, 3) := by decide +kernel
theorem dX11_serves_219 : decode cX11_serves 219 = .ok (.aload_n 0, 1) := by decide +kernel
theorem dX11_serves_220 : decode cX11_serves 220 = .ok (.aload_n 0, 1) := by decide +kernel
theorem dX11_serves_221 : decode cX11_serves 221 = .ok (.getfield 87, 3) := by decide +kernel
theorem dX11_serves_224 : decode cX11_serves 224 = .ok (.iload_n 1, 1) := by decide +kernel
theorem dX11_serves_225 : decode cX11_serves 225 = .ok (.iaload, 1) := by decide +kernel
theorem dX11_serves_226 : decode cX11_serves 226 = .ok (.iconst 3, 1) := by decide +kernel
theorem dX11_serves_227 : decode cX11_serves 227 = .ok (.invokevirtual 167, 3) := by decide +kernel
theorem dX11_serves_230 : decode cX11_serves 230 = .ok (.iadd, 1) := by decide +kernel
theorem dX11_serves_231 : decode cX11_serves 231 = .ok (.putfield 228, 3) := by decide +kernel
theorem dX11_serves_234 : decode cX11_serves 234 = .ok (.iinc 1 1, 3) := by decide +kernel
theorem dX11_serves_237 : decode cX11_serves 237 = .ok (.goto (-65), 3) := by decide +kernel
theorem dX11_serves_240 : decode cX11_serves 240 = .ok (.return_, 1) := by decide +kernel
theorem dX11_shortest_0 : decode cX11_shortest 0 = .ok (.aload_n 0, 1) := by decide +kernel
theorem dX11_shortest_1 : decode cX11_shortest 1 = .ok (.iconst 0, 1) := by decide +kernel
theorem dX11_shortest_2 : decode cX11_shortest 2 = .ok (.putfield 1, 3) := by decide +kernel
theorem dX11_shortest_5 : decode cX11_shortest 5 = .ok (.aload_n 0, 1) := by decide +kernel
theorem dX11_shortest_6 : decode cX11_shortest 6 = .ok (.iload_n 1, 1) := by decide +kernel
theorem dX11_shortest_7 : decode cX11_shortest 7 = .ok (.invokevirtual 195, 3) := by decide +kernel
theorem dX11_shortest_10 : decode cX11_shortest 10 = .ok (.ifCond .eq 21, 3) := by decide +kernel
theorem dX11_shortest_13 : decode cX11_shortest 13 = .ok (.aload_n 0, 1) := by decide +kernel
theorem dX11_shortest_14 : decode cX11_shortest 14 = .ok (.iload_n 2, 1) := by decide +kernel
theorem dX11_shortest_15 : decode cX11_shortest 15 = .ok (.invokevirtual 250, 3) := by decide +kernel
theorem dX11_shortest_18 : decode cX11_shortest 18 = .ok (.ifCond .eq 13, 3) := by decide +kernel
theorem dX11_shortest_21 : decode cX11_shortest 21 = .ok (.aload_n 0, 1) := by decide +kernel
theorem dX11_shortest_22 : decode cX11_shortest 22 = .ok (.iload_n 1, 1) := by decide +kernel
theorem dX11_shortest_23 : decode cX11_shortest 23 = .ok (.iconst 0, 1) := by decide +kernel
theorem dX11_shortest_24 : decode cX11_shortest 24 = .ok (.invokevirtual 176, 3) := by decide +kernel
theorem dX11_shortest_27 : decode cX11_shortest 27 = .ok (.iload_n 2, 1) := by decide +kernel
theorem dX11_shortest_28 : decode cX11_shortest 28 = .ok (.if_icmp .ne 5, 3) := by decide +kernel
theorem dX11_shortest_31 : decode cX11_shortest 31 = .ok (.iconst (-1), 1) := by decide +kernel
theorem dX11_shortest_32 : decode cX11_shortest 32 = .ok (.ireturn, 1) := by decide +kernel
theorem dX11_shortest_33 : decode cX11_shortest 33 = .ok (.bipush (-2), 2) := by decide +kernel
theorem dX11_shortest_35 : decode cX11_shortest 35 = .ok (.istore_n 3, 1) := by decide +kernel
theorem dX11_shortest_36 : decode cX11_shortest 36 = .ok (.iconst 0, 1) := by decide +kernel
theorem dX11_shortest_37 : decode cX11_shortest 37 = .ok (.istore 4, 2) := by decide +kernel
theorem dX11_shortest_39 : decode cX11_shortest 39 = .ok (.iload 4, 2) := by decide +kernel
theorem dX11_shortest_41 : decode cX11_shortest 41 = .ok (.aload_n 0, 1) := by decide +kernel
theorem dX11_shortest_42 : decode cX11_shortest 42 = .ok (.getfield 72, 3) := by decide +kernel
theorem dX11_shortest_45 : decode cX11_shortest 45 = .ok (.iconst 3, 1) := by decide +kernel
theorem dX11_shortest_46 : decode cX11_shortest 46 = .ok (.iaload, 1) := by decide +kernel
theorem dX11_shortest_47 : decode cX11_shortest 47 = .ok (.if_icmp .ge 149, 3) := by decide +kernel
theorem dX11_shortest_50 : decode cX11_shortest 50 = .ok (.aload_n 0, 1) := by decide +kernel
theorem dX11_shortest_51 : decode cX11_shortest 51 = .ok (.iload 4, 2) := by decide +kernel
theorem dX11_shortest_53 : decode cX11_shortest 53 = .ok (.iconst 2, 1) := by decide +kernel
theorem dX11_shortest_54 : decode cX11_shortest 54 = .ok (.invokevirtual 167, 3) := by decide +kernel
theorem dX11_shortest_57 : decode cX11_shortest 57 = .ok (.aload_n 0, 1) := by decide +kernel
theorem dX11_shortest_58 : decode cX11_shortest 58 = .ok (.iload_n 1, 1) := by decide +kernel
theorem dX11_shortest_59 : decode cX11_shortest 59 = .ok (.iconst 1, 1) := by decide +kernel
theorem dX11_shortest_60 : decode cX11_shortest 60 = .ok (.invokevirtual 176, 3) := by decide +kernel
theorem dX11_shortest_63 : decode cX11_shortest 63 = .ok (.if_icmp .le 6, 3) := by decide +kernel
theorem dX11_shortest_66 : decode cX11_shortest 66 = .ok (.goto 124, 3) := by decide +kernel
theorem dX11_shortest_69 : decode cX11_shortest 69 = .ok (.iconst 1, 1) := by decide +kernel
theorem dX11_shortest_70 : decode cX11_shortest 70 = .ok (.aload_n 0, 1) := by decide +kernel
theorem dX11_shortest_71 : decode cX11_shortest 71 = .ok (.iload_n 1, 1) := by decide +kernel
theorem dX11_shortest_72 : decode cX11_shortest 72 = .ok (.iconst 0, 1) := by decide +kernel
theorem dX11_shortest_73 : decode cX11_shortest 73 = .ok (.invokevirtual 176, 3) := by decide +kernel
theorem dX11_shortest_76 : decode cX11_shortest 76 = .ok (.ishl, 1) := by decide +kernel
theorem dX11_shortest_77 : decode cX11_shortest 77 = .ok (.istore 5, 2) := by decide +kernel
theorem dX11_shortest_79 : decode cX11_shortest 79 = .ok (.iconst 2, 1) := by decide +kernel
theorem dX11_shortest_80 : decode cX11_shortest 80 = .ok (.istore 6, 2) := by decide +kernel
theorem dX11_shortest_82 : decode cX11_shortest 82 = .ok (.iload 6, 2) := by decide +kernel
theorem dX11_shortest_84 : decode cX11_shortest 84 = .ok (.bipush 8, 2) := by decide +kernel
theorem dX11_shortest_86 : decode cX11_shortest 86 = .ok (.if_icmp .gt 104, 3) := by decide +kernel
theorem dX11_shortest_89 : decode cX11_shortest 89 = .ok (.iload 5, 2) := by decide +kernel
theorem dX11_shortest_91 : decode cX11_shortest 91 = .ok (.iload_n 2, 1) := by decide +kernel
theorem dX11_shortest_92 : decode cX11_shortest 92 = .ok (.invokestatic 113, 3) := by decide +kernel
theorem dX11_shortest_95 : decode cX11_shortest 95 = .ok (.ifCond .ne 95, 3) := by decide +kernel
theorem dX11_shortest_98 : decode cX11_shortest 98 = .ok (.iload 5, 2) := by decide +kernel
theorem dX11_shortest_100 : decode cX11_shortest 100 = .ok (.istore 7, 2) := by decide +kernel
theorem dX11_shortest_102 : decode cX11_shortest 102 = .ok (.iconst 0, 1) := by decide +kernel
theorem dX11_shortest_103 : decode cX11_shortest 103 = .ok (.istore 8, 2) := by decide +kernel
theorem dX11_shortest_105 : decode cX11_shortest 105 = .ok (.iload 8, 2) := by decide +kernel
theorem dX11_shortest_107 : decode cX11_shortest 107 = .ok (.aload_n 0, 1) := by decide +kernel
theorem dX11_shortest_108 : decode cX11_shortest 108 = .ok (.getfield 72, 3) := by decide +kernel
theorem dX11_shortest_111 : decode cX11_shortest 111 = .ok (.iconst 0, 1) := by decide +kernel
theorem dX11_shortest_112 : decode cX11_shortest 112 = .ok (.iaload, 1) := by decide +kernel
theorem dX11_shortest_113 : decode cX11_shortest 113 = .ok (.if_icmp .ge 43, 3) := by decide +kernel
theorem dX11_shortest_116 : decode cX11_shortest 116 = .ok (.iload 5, 2) := by decide +kernel
theorem dX11_shortest_118 : decode cX11_shortest 118 = .ok (.iload 8, 2) := by decide +kernel
theorem dX11_shortest_120 : decode cX11_shortest 120 = .ok (.invokestatic 113, 3) := by decide +kernel
theorem dX11_shortest_123 : decode cX11_shortest 123 = .ok (.ifCond .eq 27, 3) := by decide +kernel
theorem dX11_shortest_126 : decode cX11_shortest 126 = .ok (.iload 7, 2) := by decide +kernel
theorem dX11_shortest_128 : decode cX11_shortest 128 = .ok (.aload_n 0, 1) := by decide +kernel
theorem dX11_shortest_129 : decode cX11_shortest 129 = .ok (.getfield 72, 3) := by decide +kernel
theorem dX11_shortest_132 : decode cX11_shortest 132 = .ok (.bipush 103, 2) := by decide +kernel
theorem dX11_shortest_134 : decode cX11_shortest 134 = .ok (.iload 8, 2) := by decide +kernel
theorem dX11_shortest_136 : decode cX11_shortest 136 = .ok (.iadd, 1) := by decide +kernel
theorem dX11_shortest_137 : decode cX11_shortest 137 = .ok (.iaload, 1) := by decide +kernel
theorem dX11_shortest_138 : decode cX11_shortest 138 = .ok (.aload_n 0, 1) := by decide +kernel
theorem dX11_shortest_139 : decode cX11_shortest 139 = .ok (.iload 4, 2) := by decide +kernel
theorem dX11_shortest_141 : decode cX11_shortest 141 = .ok (.bipush 6, 2) := by decide +kernel
theorem dX11_shortest_143 : decode cX11_shortest 143 = .ok (.invokevirtual 167, 3) := by decide +kernel
theorem dX11_shortest_146 : decode cX11_shortest 146 = .ok (.iand, 1) := by decide +kernel
theorem dX11_shortest_147 : decode cX11_shortest 147 = .ok (.ior, 1) := by decide +kernel
theorem dX11_shortest_148 : decode cX11_shortest 148 = .ok (.istore 7, 2) := by decide +kernel
theorem dX11_shortest_150 : decode cX11_shortest 150 = .ok (.iinc 8 1, 3) := by decide +kernel
theorem dX11_shortest_153 : decode cX11_shortest 153 = .ok (.goto (-48), 3) := by decide +kernel
theorem dX11_shortest_156 : decode cX11_shortest 156 = .ok (.iload 7, 2) := by decide +kernel
theorem dX11_shortest_158 : decode cX11_shortest 158 = .ok (.istore 5, 2) := by decide +kernel
theorem dX11_shortest_160 : decode cX11_shortest 160 = .ok (.iload 5, 2) := by decide +kernel
theorem dX11_shortest_162 : decode cX11_shortest 162 = .ok (.iload_n 2, 1) := by decide +kernel
theorem dX11_shortest_163 : decode cX11_shortest 163 = .ok (.invokestatic 113, 3) := by decide +kernel
theorem dX11_shortest_166 : decode cX11_shortest 166 = .ok (.ifCond .eq 18, 3) := by decide +kernel
theorem dX11_shortest_169 : decode cX11_shortest 169 = .ok (.iload_n 3, 1) := by decide +kernel
theorem dX11_shortest_170 : decode cX11_shortest 170 = .ok (.bipush (-2), 2) := by decide +kernel
theorem dX11_shortest_172 : decode cX11_shortest 172 = .ok (.if_icmp .eq 9, 3) := by decide +kernel
theorem dX11_shortest_175 : decode cX11_shortest 175 = .ok (.iload 6, 2) := by decide +kernel
theorem dX11_shortest_177 : decode cX11_shortest 177 = .ok (.iload_n 3, 1) := by decide +kernel
theorem dX11_shortest_178 : decode cX11_shortest 178 = .ok (.if_icmp .ge 6, 3) := by decide +kernel
theorem dX11_shortest_181 : decode cX11_shortest 181 = .ok (.iload 6, 2) := by decide +kernel
theorem dX11_shortest_183 : decode cX11_shortest 183 = .ok (.istore_n 3, 1) := by decide +kernel
theorem dX11_shortest_184 : decode cX11_shortest 184 = .ok (.iinc 6 1, 3) := by decide +kernel
theorem dX11_shortest_187 : decode cX11_shortest 187 = .ok (.goto (-105), 3) := by decide +kernel
theorem dX11_shortest_190 : decode cX11_shortest 190 = .ok (.iinc 4 1, 3) := by decide +kernel
theorem dX11_shortest_193 : decode cX11_shortest 193 = .ok (.goto (-154), 3) := by decide +kernel
theorem dX11_shortest_196 : decode cX11_shortest 196 = .ok (.iload_n 3, 1) := by decide +kernel
theorem dX11_shortest_197 : decode cX11_shortest 197 = .ok (.ireturn, 1) := by decide +kernel
theorem dX11_six_0 : decode cX11_six 0 = .ok (.ldc2_w 48, 3) := by decide +kernel
theorem dX11_six_3 : decode cX11_six 3 = .ok (.iload_n 0, 1) := by decide +kernel
theorem dX11_six_4 : decode cX11_six 4 = .ok (.iload_n 1, 1) := by decide +kernel
theorem dX11_six_5 : decode cX11_six 5 = .ok (.iload_n 2, 1) := by decide +kernel
theorem dX11_six_6 : decode cX11_six 6 = .ok (.iload_n 3, 1) := by decide +kernel
theorem dX11_six_7 : decode cX11_six 7 = .ok (.iload 4, 2) := by decide +kernel
theorem dX11_six_9 : decode cX11_six 9 = .ok (.invokestatic 56, 3) := by decide +kernel
theorem dX11_six_12 : decode cX11_six 12 = .ok (.lmul, 1) := by decide +kernel
theorem dX11_six_13 : decode cX11_six 13 = .ok (.iload 5, 2) := by decide +kernel
theorem dX11_six_15 : decode cX11_six 15 = .ok (.i2l, 1) := by decide +kernel
theorem dX11_six_16 : decode cX11_six 16 = .ok (.ladd, 1) := by decide +kernel
theorem dX11_six_17 : decode cX11_six 17 = .ok (.ldc2_w 50, 3) := by decide +kernel
theorem dX11_six_20 : decode cX11_six 20 = .ok (.lsub, 1) := by decide +kernel
theorem dX11_six_21 : decode cX11_six 21 = .ok (.lreturn, 1) := by decide +kernel
theorem dX11_snap_0 : decode cX11_snap 0 = .ok (.aload_n 0, 1) := by decide +kernel
theorem dX11_snap_1 : decode cX11_snap 1 = .ok (.getfield 157, 3) := by decide +kernel
theorem dX11_snap_4 : decode cX11_snap 4 = .ok (.bipush 10, 2) := by decide +kernel
theorem dX11_snap_6 : decode cX11_snap 6 = .ok (.if_icmp .ne 44, 3) := by decide +kernel
theorem dX11_snap_9 : decode cX11_snap 9 = .ok (.iconst 0, 1) := by decide +kernel
theorem dX11_snap_10 : decode cX11_snap 10 = .ok (.istore_n 1, 1) := by decide +kernel
theorem dX11_snap_11 : decode cX11_snap 11 = .ok (.iload_n 1, 1) := by decide +kernel
theorem dX11_snap_12 : decode cX11_snap 12 = .ok (.sipush 5679, 3) := by decide +kernel
theorem dX11_snap_15 : decode cX11_snap 15 = .ok (.if_icmp .ge 25, 3) := by decide +kernel
theorem dX11_snap_18 : decode cX11_snap 18 = .ok (.aload_n 0, 1) := by decide +kernel
theorem dX11_snap_19 : decode cX11_snap 19 = .ok (.getfield 78, 3) := by decide +kernel
theorem dX11_snap_22 : decode cX11_snap 22 = .ok (.iload_n 1, 1) := by decide +kernel
theorem dX11_snap_23 : decode cX11_snap 23 = .ok (.aload_n 0, 1) := by decide +kernel
theorem dX11_snap_24 : decode cX11_snap 24 = .ok (.getfield 78, 3) := by decide +kernel
theorem dX11_snap_27 : decode cX11_snap 27 = .ok (.iload_n 1, 1) := by decide +kernel
theorem dX11_snap_28 : decode cX11_snap 28 = .ok (.sipush 631, 3) := by decide +kernel
theorem dX11_snap_31 : decode cX11_snap 31 = .ok (.iadd, 1) := by decide +kernel
theorem dX11_snap_32 : decode cX11_snap 32 = .ok (.iaload, 1) := by decide +kernel
theorem dX11_snap_33 : decode cX11_snap 33 = .ok (.iastore, 1) := by decide +kernel
theorem dX11_snap_34 : decode cX11_snap 34 = .ok (.iinc 1 1, 3) := by decide +kernel
theorem dX11_snap_37 : decode cX11_snap 37 = .ok (.goto (-26), 3) := by decide +kernel
theorem dX11_snap_40 : decode cX11_snap 40 = .ok (.aload_n 0, 1) := by decide +kernel
theorem dX11_snap_41 : decode cX11_snap 41 = .ok (.dup, 1) := by decide +kernel
theorem dX11_snap_42 : decode cX11_snap 42 = .ok (.getfield 157, 3) := by decide +kernel
theorem dX11_snap_45 : decode cX11_snap 45 = .ok (.iconst 1, 1) := by decide +kernel
theorem dX11_snap_46 : decode cX11_snap 46 = .ok (.isub, 1) := by decide +kernel
theorem dX11_snap_47 : decode cX11_snap 47 = .ok (.putfield 157, 3) := by decide +kernel
theorem dX11_snap_50 : decode cX11_snap 50 = .ok (.iconst 0, 1) := by decide +kernel
theorem dX11_snap_51 : decode cX11_snap 51 = .ok (.istore_n 1, 1) := by decide +kernel
theorem dX11_snap_52 : decode cX11_snap 52 = .ok (.iload_n 1, 1) := by decide +kernel
theorem dX11_snap_53 : decode cX11_snap 53 = .ok (.sipush 631, 3) := by decide +kernel
theorem dX11_snap_56 : decode cX11_snap 56 = .ok (.if_icmp .ge 30, 3) := by decide +kernel
theorem dX11_snap_59 : decode cX11_snap 59 = .ok (.aload_n 0, 1) := by decide +kernel
theorem dX11_snap_60 : decode cX11_snap 60 = .ok (.getfield 78, 3) := by decide +kernel
theorem dX11_snap_63 : decode cX11_snap 63 = .ok (.sipush 631, 3) := by decide +kernel
theorem dX11_snap_66 : decode cX11_snap 66 = .ok (.aload_n 0, 1) := by decide +kernel
theorem dX11_snap_67 : decode cX11_snap 67 = .ok (.getfield 157, 3) := by decide +kernel
theorem dX11_snap_70 : decode cX11_snap 70 = .ok (.imul, 1) := by decide +kernel
theorem dX11_snap_71 : decode cX11_snap 71 = .ok (.iload_n 1, 1) := by decide +kernel
theorem dX11_snap_72 : decode cX11_snap 72 = .ok (.iadd, 1) := by decide +kernel
theorem dX11_snap_73 : decode cX11_snap 73 = .ok (.aload_n 0, 1) := by decide +kernel
theorem dX11_snap_74 : decode cX11_snap 74 = .ok (.getfield 72, 3) := by decide +kernel
theorem dX11_snap_77 : decode cX11_snap 77 = .ok (.iload_n 1, 1) := by decide +kernel
theorem dX11_snap_78 : decode cX11_snap 78 = .ok (.iaload, 1) := by decide +kernel
theorem dX11_snap_79 : decode cX11_snap 79 = .ok (.iastore, 1) := by decide +kernel
theorem dX11_snap_80 : decode cX11_snap 80 = .ok (.iinc 1 1, 3) := by decide +kernel
theorem dX11_snap_83 : decode cX11_snap 83 = .ok (.goto (-31), 3) := by decide +kernel
theorem dX11_snap_86 : decode cX11_snap 86 = .ok (.aload_n 0, 1) := by decide +kernel
theorem dX11_snap_87 : decode cX11_snap 87 = .ok (.dup, 1) := by decide +kernel
theorem dX11_snap_88 : decode cX11_snap 88 = .ok (.getfield 157, 3) := by decide +kernel
theorem dX11_snap_91 : decode cX11_snap 91 = .ok (.iconst 1, 1) := by decide +kernel
theorem dX11_snap_92 : decode cX11_snap 92 = .ok (.iadd, 1) := by decide +kernel
theorem dX11_snap_93 : decode cX11_snap 93 = .ok (.putfield 157, 3) := by decide +kernel
theorem dX11_snap_96 : decode cX11_snap 96 = .ok (.return_, 1) := by decide +kernel
theorem dX11_stop_0 : decode cX11_stop 0 = .ok (.aload_n 0, 1) := by decide +kernel
theorem dX11_stop_1 : decode cX11_stop 1 = .ok (.iconst 0, 1) := by decide +kernel
theorem dX11_stop_2 : decode cX11_stop 2 = .ok (.putfield 1, 3) := by decide +kernel
theorem dX11_stop_5 : decode cX11_stop 5 = .ok (.aload_n 0, 1) := by decide +kernel
theorem dX11_stop_6 : decode cX11_stop 6 = .ok (.iload_n 1, 1) := by decide +kernel
theorem dX11_stop_7 : decode cX11_stop 7 = .ok (.invokevirtual 195, 3) := by decide +kernel
theorem dX11_stop_10 : decode cX11_stop 10 = .ok (.ifCond .eq 11, 3) := by decide +kernel
theorem dX11_stop_13 : decode cX11_stop 13 = .ok (.aload_n 0, 1) := by decide +kernel
theorem dX11_stop_14 : decode cX11_stop 14 = .ok (.iload_n 2, 1) := by decide +kernel
theorem dX11_stop_15 : decode cX11_stop 15 = .ok (.invokevirtual 250, 3) := by decide +kernel
theorem dX11_stop_18 : decode cX11_stop 18 = .ok (.ifCond .ne 5, 3) := by decide +kernel
theorem dX11_stop_21 : decode cX11_stop 21 = .ok (.iconst (-1), 1) := by decide +kernel
theorem dX11_stop_22 : decode cX11_stop 22 = .ok (.ireturn, 1) := by decide +kernel
theorem dX11_stop_23 : decode cX11_stop 23 = .ok (.aload_n 0, 1) := by decide +kernel
theorem dX11_stop_24 : decode cX11_stop 24 = .ok (.invokevirtual 259, 3) := by decide +kernel
theorem dX11_stop_27 : decode cX11_stop 27 = .ok (.aload_n 0, 1) := by decide +kernel
theorem dX11_stop_28 : decode cX11_stop 28 = .ok (.iload_n 1, 1) := by decide +kernel
theorem dX11_stop_29 : decode cX11_stop 29 = .ok (.iload_n 2, 1) := by decide +kernel
theorem dX11_stop_30 : decode cX11_stop 30 = .ok (.invokevirtual 253, 3) := by decide +kernel
theorem dX11_stop_33 : decode cX11_stop 33 = .ok (.istore_n 3, 1) := by decide +kernel
theorem dX11_stop_34 : decode cX11_stop 34 = .ok (.iload_n 3, 1) := by decide +kernel
theorem dX11_stop_35 : decode cX11_stop 35 = .ok (.ifCond .le 20, 3) := by decide +kernel
theorem dX11_stop_38 : decode cX11_stop 38 = .ok (.aload_n 0, 1) := by decide +kernel
theorem dX11_stop_39 : decode cX11_stop 39 = .ok (.getfield 72, 3) := by decide +kernel
theorem dX11_stop_42 : decode cX11_stop 42 = .ok (.bipush 79, 2) := by decide +kernel
theorem dX11_stop_44 : decode cX11_stop 44 = .ok (.iconst 3, 1) := by decide +kernel
theorem dX11_stop_45 : decode cX11_stop 45 = .ok (.iload_n 1, 1) := by decide +kernel
theorem dX11_stop_46 : decode cX11_stop 46 = .ok (.imul, 1) := by decide +kernel
theorem dX11_stop_47 : decode cX11_stop 47 = .ok (.iadd, 1) := by decide +kernel
theorem dX11_stop_48 : decode cX11_stop 48 = .ok (.iconst 2, 1) := by decide +kernel
theorem dX11_stop_49 : decode cX11_stop 49 = .ok (.iadd, 1) := by decide +kernel
theorem dX11_stop_50 : decode cX11_stop 50 = .ok (.dup2, 1) := by decide +kernel
theorem dX11_stop_51 : decode cX11_stop 51 = .ok (.iaload, 1) := by decide +kernel
theorem dX11_stop_52 : decode cX11_stop 52 = .ok (.iconst 1, 1) := by decide +kernel
theorem dX11_stop_53 : decode cX11_stop 53 = .ok (.iadd, 1) := by decide +kernel
theorem dX11_stop_54 : decode cX11_stop 54 = .ok (.iastore, 1) := by decide +kernel
theorem dX11_stop_55 : decode cX11_stop 55 = .ok (.iload_n 3, 1) := by decide +kernel
theorem dX11_stop_56 : decode cX11_stop 56 = .ok (.ireturn, 1) := by decide +kernel
theorem dX11_tapeAt_0 : decode cX11_tapeAt 0 = .ok (.iload_n 1, 1) := by decide +kernel
theorem dX11_tapeAt_1 : decode cX11_tapeAt 1 = .ok (.aload_n 0, 1) := by decide +kernel
theorem dX11_tapeAt_2 : decode cX11_tapeAt 2 = .ok (.getfield 18, 3) := by decide +kernel
theorem dX11_tapeAt_5 : decode cX11_tapeAt 5 = .ok (.if_icmp .ge 12, 3) := by decide +kernel
theorem dX11_tapeAt_8 : decode cX11_tapeAt 8 = .ok (.aload_n 0, 1) := by decide +kernel
theorem dX11_tapeAt_9 : decode cX11_tapeAt 9 = .ok (.getfield 7, 3) := by decide +kernel
theorem dX11_tapeAt_12 : decode cX11_tapeAt 12 = .ok (.iload_n 1, 1) := by decide +kernel
theorem dX11_tapeAt_13 : decode cX11_tapeAt 13 = .ok (.iaload, 1) := by decide +kernel
theorem dX11_tapeAt_14 : decode cX11_tapeAt 14 = .ok (.goto 4, 3) := by decide +kernel
theorem dX11_tapeAt_17 : decode cX11_tapeAt 17 = .ok (.iconst 0, 1) := by decide +kernel
theorem dX11_tapeAt_18 : decode cX11_tapeAt 18 = .ok (.ireturn, 1) := by decide +kernel
theorem dX11_text_0 : decode cX11_text 0 = .ok (.aload_n 0, 1) := by decide +kernel
theorem dX11_text_1 : decode cX11_text 1 = .ok (.iconst 0, 1) := by decide +kernel
theorem dX11_text_2 : decode cX11_text 2 = .ok (.putfield 1, 3) := by decide +kernel
theorem dX11_text_5 : decode cX11_text 5 = .ok (.aload_n 0, 1) := by decide +kernel
theorem dX11_text_6 : decode cX11_text 6 = .ok (.aload_n 0, 1) := by decide +kernel
theorem dX11_text_7 : decode cX11_text 7 = .ok (.getfield 11, 3) := by decide +kernel
theorem dX11_text_10 : decode cX11_text 10 = .ok (.putfield 18, 3) := by decide +kernel
theorem dX11_text_13 : decode cX11_text 13 = .ok (.aload_n 0, 1) := by decide +kernel
theorem dX11_text_14 : decode cX11_text 14 = .ok (.iconst 0, 1) := by decide +kernel
theorem dX11_text_15 : decode cX11_text 15 = .ok (.putfield 11, 3) := by decide +kernel
theorem dX11_text_18 : decode cX11_text 18 = .ok (.aload_n 0, 1) := by decide +kernel
theorem dX11_text_19 : decode cX11_text 19 = .ok (.iconst 0, 1) := by decide +kernel
theorem dX11_text_20 : decode cX11_text 20 = .ok (.putfield 60, 3) := by decide +kernel
theorem dX11_text_23 : decode cX11_text 23 = .ok (.aload_n 0, 1) := by decide +kernel
theorem dX11_text_24 : decode cX11_text 24 = .ok (.iconst 0, 1) := by decide +kernel
theorem dX11_text_25 : decode cX11_text 25 = .ok (.putfield 21, 3) := by decide +kernel
theorem dX11_text_28 : decode cX11_text 28 = .ok (.iconst 0, 1) := by decide +kernel
theorem dX11_text_29 : decode cX11_text 29 = .ok (.istore_n 1, 1) := by decide +kernel
theorem dX11_text_30 : decode cX11_text 30 = .ok (.iconst 0, 1) := by decide +kernel
theorem dX11_text_31 : decode cX11_text 31 = .ok (.istore_n 2, 1) := by decide +kernel
theorem dX11_text_32 : decode cX11_text 32 = .ok (.iload_n 2, 1) := by decide +kernel
theorem dX11_text_33 : decode cX11_text 33 = .ok (.sipush 631, 3) := by decide +kernel
theorem dX11_text_36 : decode cX11_text 36 = .ok (.if_icmp .ge 16, 3) := by decide +kernel
theorem dX11_text_39 : decode cX11_text 39 = .ok (.aload_n 0, 1) := by decide +kernel
theorem dX11_text_40 : decode cX11_text 40 = .ok (.getfield 75, 3) := by decide +kernel
theorem dX11_text_43 : decode cX11_text 43 = .ok (.iload_n 2, 1) := by decide +kernel
theorem dX11_text_44 : decode cX11_text 44 = .ok (.iconst 0, 1) := by decide +kernel
theorem dX11_text_45 : decode cX11_text 45 = .ok (.iastore, 1) := by decide +kernel
theorem dX11_text_46 : decode cX11_text 46 = .ok (.iinc 2 1, 3) := by decide +kernel
theorem dX11_text_49 : decode cX11_text 49 = .ok (.goto (-17), 3) := by decide +kernel
theorem dX11_text_52 : decode cX11_text 52 = .ok (.aload_n 0, 1) := by decide +kernel
theorem dX11_text_53 : decode cX11_text 53 = .ok (.getfield 75, 3) := by decide +kernel
theorem dX11_text_56 : decode cX11_text 56 = .ok (.iconst 1, 1) := by decide +kernel
theorem dX11_text_57 : decode cX11_text 57 = .ok (.iconst 1, 1) := by decide +kernel
theorem dX11_text_58 : decode cX11_text 58 = .ok (.iastore, 1) := by decide +kernel
theorem dX11_text_59 : decode cX11_text 59 = .ok (.aload_n 0, 1) := by decide +kernel
