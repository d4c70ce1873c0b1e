theorem dX11_text_60 : decode cX11_text 60 = .ok (.invokevirtual 110, 3) := by decide +kernel
theorem dX11_text_63 : decode cX11_text 63 = .ok (.aload_n 0, 1) := by decide +kernel
theorem dX11_text_64 : decode cX11_text 64 = .ok (.getfield 27, 3) := by decide +kernel
theorem dX11_text_67 : decode cX11_text 67 = .ok (.ifCond .eq 39, 3) := by decide +kernel
theorem dX11_text_70 : decode cX11_text 70 = .ok (.aload_n 0, 1) := by decide +kernel
theorem dX11_text_71 : decode cX11_text 71 = .ok (.iload_n 1, 1) := by decide +kernel
theorem dX11_text_72 : decode cX11_text 72 = .ok (.ifCond .ne 7, 3) := by decide +kernel
theorem dX11_text_75 : decode cX11_text 75 = .ok (.iconst 1, 1) := by decide +kernel
theorem dX11_text_76 : decode cX11_text 76 = .ok (.goto 4, 3) := by decide +kernel
theorem dX11_text_79 : decode cX11_text 79 = .ok (.iconst 0, 1) := by decide +kernel
theorem dX11_text_80 : decode cX11_text 80 = .ok (.invokevirtual 150, 3) := by decide +kernel
theorem dX11_text_83 : decode cX11_text 83 = .ok (.ifCond .eq 10, 3) := by decide +kernel
theorem dX11_text_86 : decode cX11_text 86 = .ok (.aload_n 0, 1) := by decide +kernel
theorem dX11_text_87 : decode cX11_text 87 = .ok (.invokevirtual 154, 3) := by decide +kernel
theorem dX11_text_90 : decode cX11_text 90 = .ok (.ifCond .ne 10, 3) := by decide +kernel
theorem dX11_text_93 : decode cX11_text 93 = .ok (.iconst (-1), 1) := by decide +kernel
theorem dX11_text_94 : decode cX11_text 94 = .ok (.aload_n 0, 1) := by decide +kernel
theorem dX11_text_95 : decode cX11_text 95 = .ok (.getfield 63, 3) := by decide +kernel
theorem dX11_text_98 : decode cX11_text 98 = .ok (.isub, 1) := by decide +kernel
theorem dX11_text_99 : decode cX11_text 99 = .ok (.ireturn, 1) := by decide +kernel
theorem dX11_text_100 : decode cX11_text 100 = .ok (.iinc 1 1, 3) := by decide +kernel
theorem dX11_text_103 : decode cX11_text 103 = .ok (.goto (-40), 3) := by decide +kernel
theorem dX11_text_106 : decode cX11_text 106 = .ok (.iconst 0, 1) := by decide +kernel
theorem dX11_text_107 : decode cX11_text 107 = .ok (.istore_n 2, 1) := by decide +kernel
theorem dX11_text_108 : decode cX11_text 108 = .ok (.iload_n 2, 1) := by decide +kernel
theorem dX11_text_109 : decode cX11_text 109 = .ok (.sipush 631, 3) := by decide +kernel
theorem dX11_text_112 : decode cX11_text 112 = .ok (.if_icmp .ge 21, 3) := by decide +kernel
theorem dX11_text_115 : decode cX11_text 115 = .ok (.aload_n 0, 1) := by decide +kernel
theorem dX11_text_116 : decode cX11_text 116 = .ok (.getfield 72, 3) := by decide +kernel
theorem dX11_text_119 : decode cX11_text 119 = .ok (.iload_n 2, 1) := by decide +kernel
theorem dX11_text_120 : decode cX11_text 120 = .ok (.aload_n 0, 1) := by decide +kernel
theorem dX11_text_121 : decode cX11_text 121 = .ok (.getfield 75, 3) := by decide +kernel
theorem dX11_text_124 : decode cX11_text 124 = .ok (.iload_n 2, 1) := by decide +kernel
theorem dX11_text_125 : decode cX11_text 125 = .ok (.iaload, 1) := by decide +kernel
theorem dX11_text_126 : decode cX11_text 126 = .ok (.iastore, 1) := by decide +kernel
theorem dX11_text_127 : decode cX11_text 127 = .ok (.iinc 2 1, 3) := by decide +kernel
theorem dX11_text_130 : decode cX11_text 130 = .ok (.goto (-22), 3) := by decide +kernel
theorem dX11_text_133 : decode cX11_text 133 = .ok (.aload_n 0, 1) := by decide +kernel
theorem dX11_text_134 : decode cX11_text 134 = .ok (.iconst 0, 1) := by decide +kernel
theorem dX11_text_135 : decode cX11_text 135 = .ok (.putfield 157, 3) := by decide +kernel
theorem dX11_text_138 : decode cX11_text 138 = .ok (.iload_n 1, 1) := by decide +kernel
theorem dX11_text_139 : decode cX11_text 139 = .ok (.ireturn, 1) := by decide +kernel
theorem dX11_thrown_0 : decode cX11_thrown 0 = .ok (.aload_n 0, 1) := by decide +kernel
theorem dX11_thrown_1 : decode cX11_thrown 1 = .ok (.getfield 1, 3) := by decide +kernel
theorem dX11_thrown_4 : decode cX11_thrown 4 = .ok (.ireturn, 1) := by decide +kernel
theorem dX11_told_0 : decode cX11_told 0 = .ok (.aload_n 0, 1) := by decide +kernel
theorem dX11_told_1 : decode cX11_told 1 = .ok (.getfield 27, 3) := by decide +kernel
theorem dX11_told_4 : decode cX11_told 4 = .ok (.iconst 3, 1) := by decide +kernel
theorem dX11_told_5 : decode cX11_told 5 = .ok (.if_icmp .eq 9, 3) := by decide +kernel
theorem dX11_told_8 : decode cX11_told 8 = .ok (.aload_n 0, 1) := by decide +kernel
theorem dX11_told_9 : decode cX11_told 9 = .ok (.iconst 1, 1) := by decide +kernel
theorem dX11_told_10 : decode cX11_told 10 = .ok (.invokevirtual 103, 3) := by decide +kernel
theorem dX11_told_13 : decode cX11_told 13 = .ok (.ireturn, 1) := by decide +kernel
theorem dX11_told_14 : decode cX11_told 14 = .ok (.aload_n 0, 1) := by decide +kernel
theorem dX11_told_15 : decode cX11_told 15 = .ok (.getfield 41, 3) := by decide +kernel
theorem dX11_told_18 : decode cX11_told 18 = .ok (.iload_n 2, 1) := by decide +kernel
theorem dX11_told_19 : decode cX11_told 19 = .ok (.iload_n 3, 1) := by decide +kernel
theorem dX11_told_20 : decode cX11_told 20 = .ok (.invokestatic 106, 3) := by decide +kernel
theorem dX11_told_23 : decode cX11_told 23 = .ok (.ifCond .ne 9, 3) := by decide +kernel
theorem dX11_told_26 : decode cX11_told 26 = .ok (.aload_n 0, 1) := by decide +kernel
theorem dX11_told_27 : decode cX11_told 27 = .ok (.iconst 2, 1) := by decide +kernel
theorem dX11_told_28 : decode cX11_told 28 = .ok (.invokevirtual 103, 3) := by decide +kernel
theorem dX11_told_31 : decode cX11_told 31 = .ok (.ireturn, 1) := by decide +kernel
theorem dX11_told_32 : decode cX11_told 32 = .ok (.aload_n 0, 1) := by decide +kernel
theorem dX11_told_33 : decode cX11_told 33 = .ok (.getfield 75, 3) := by decide +kernel
theorem dX11_told_36 : decode cX11_told 36 = .ok (.iload_n 1, 1) := by decide +kernel
theorem dX11_told_37 : decode cX11_told 37 = .ok (.aload_n 0, 1) := by decide +kernel
theorem dX11_told_38 : decode cX11_told 38 = .ok (.getfield 41, 3) := by decide +kernel
theorem dX11_told_41 : decode cX11_told 41 = .ok (.iastore, 1) := by decide +kernel
theorem dX11_told_42 : decode cX11_told 42 = .ok (.aload_n 0, 1) := by decide +kernel
theorem dX11_told_43 : decode cX11_told 43 = .ok (.invokevirtual 110, 3) := by decide +kernel
theorem dX11_told_46 : decode cX11_told 46 = .ok (.iconst 1, 1) := by decide +kernel
theorem dX11_told_47 : decode cX11_told 47 = .ok (.ireturn, 1) := by decide +kernel
theorem dX11_trip_0 : decode cX11_trip 0 = .ok (.aload_n 0, 1) := by decide +kernel
theorem dX11_trip_1 : decode cX11_trip 1 = .ok (.iconst 0, 1) := by decide +kernel
theorem dX11_trip_2 : decode cX11_trip 2 = .ok (.putfield 1, 3) := by decide +kernel
theorem dX11_trip_5 : decode cX11_trip 5 = .ok (.aload_n 0, 1) := by decide +kernel
theorem dX11_trip_6 : decode cX11_trip 6 = .ok (.iload_n 1, 1) := by decide +kernel
theorem dX11_trip_7 : decode cX11_trip 7 = .ok (.invokevirtual 207, 3) := by decide +kernel
theorem dX11_trip_10 : decode cX11_trip 10 = .ok (.ifCond .ne 5, 3) := by decide +kernel
theorem dX11_trip_13 : decode cX11_trip 13 = .ok (.iconst (-1), 1) := by decide +kernel
theorem dX11_trip_14 : decode cX11_trip 14 = .ok (.ireturn, 1) := by decide +kernel
theorem dX11_trip_15 : decode cX11_trip 15 = .ok (.iload_n 2, 1) := by decide +kernel
theorem dX11_trip_16 : decode cX11_trip 16 = .ok (.bipush 10, 2) := by decide +kernel
theorem dX11_trip_18 : decode cX11_trip 18 = .ok (.bipush 9, 2) := by decide +kernel
theorem dX11_trip_20 : decode cX11_trip 20 = .ok (.aload_n 0, 1) := by decide +kernel
theorem dX11_trip_21 : decode cX11_trip 21 = .ok (.iload_n 1, 1) := by decide +kernel
theorem dX11_trip_22 : decode cX11_trip 22 = .ok (.iconst 1, 1) := by decide +kernel
theorem dX11_trip_23 : decode cX11_trip 23 = .ok (.invokevirtual 160, 3) := by decide +kernel
theorem dX11_trip_26 : decode cX11_trip 26 = .ok (.iadd, 1) := by decide +kernel
theorem dX11_trip_27 : decode cX11_trip 27 = .ok (.invokestatic 106, 3) := by decide +kernel
theorem dX11_trip_30 : decode cX11_trip 30 = .ok (.ifCond .eq 16, 3) := by decide +kernel
theorem dX11_trip_33 : decode cX11_trip 33 = .ok (.aload_n 0, 1) := by decide +kernel
theorem dX11_trip_34 : decode cX11_trip 34 = .ok (.iload_n 1, 1) := by decide +kernel
theorem dX11_trip_35 : decode cX11_trip 35 = .ok (.bipush 7, 2) := by decide +kernel
theorem dX11_trip_37 : decode cX11_trip 37 = .ok (.iload_n 2, 1) := by decide +kernel
theorem dX11_trip_38 : decode cX11_trip 38 = .ok (.iadd, 1) := by decide +kernel
theorem dX11_trip_39 : decode cX11_trip 39 = .ok (.bipush 10, 2) := by decide +kernel
theorem dX11_trip_41 : decode cX11_trip 41 = .ok (.isub, 1) := by decide +kernel
theorem dX11_trip_42 : decode cX11_trip 42 = .ok (.invokevirtual 160, 3) := by decide +kernel
theorem dX11_trip_45 : decode cX11_trip 45 = .ok (.ireturn, 1) := by decide +kernel
theorem dX11_trip_46 : decode cX11_trip 46 = .ok (.iload_n 2, 1) := by decide +kernel
theorem dX11_trip_47 : decode cX11_trip 47 = .ok (.iconst 0, 1) := by decide +kernel
theorem dX11_trip_48 : decode cX11_trip 48 = .ok (.bipush 6, 2) := by decide +kernel
theorem dX11_trip_50 : decode cX11_trip 50 = .ok (.invokestatic 106, 3) := by decide +kernel
theorem dX11_trip_53 : decode cX11_trip 53 = .ok (.ifCond .eq 12, 3) := by decide +kernel
theorem dX11_trip_56 : decode cX11_trip 56 = .ok (.aload_n 0, 1) := by decide +kernel
theorem dX11_trip_57 : decode cX11_trip 57 = .ok (.iload_n 1, 1) := by decide +kernel
theorem dX11_trip_58 : decode cX11_trip 58 = .ok (.iload_n 2, 1) := by decide +kernel
theorem dX11_trip_59 : decode cX11_trip 59 = .ok (.invokevirtual 160, 3) := by decide +kernel
theorem dX11_trip_62 : decode cX11_trip 62 = .ok (.goto 4, 3) := by decide +kernel
theorem dX11_trip_65 : decode cX11_trip 65 = .ok (.iconst (-1), 1) := by decide +kernel
theorem dX11_trip_66 : decode cX11_trip 66 = .ok (.ireturn, 1) := by decide +kernel
theorem dX11_tripOf_0 : decode cX11_tripOf 0 = .ok (.iconst 0, 1) := by decide +kernel
theorem dX11_tripOf_1 : decode cX11_tripOf 1 = .ok (.istore_n 2, 1) := by decide +kernel
theorem dX11_tripOf_2 : decode cX11_tripOf 2 = .ok (.iload_n 2, 1) := by decide +kernel
theorem dX11_tripOf_3 : decode cX11_tripOf 3 = .ok (.aload_n 0, 1) := by decide +kernel
theorem dX11_tripOf_4 : decode cX11_tripOf 4 = .ok (.getfield 72, 3) := by decide +kernel
theorem dX11_tripOf_7 : decode cX11_tripOf 7 = .ok (.iconst 5, 1) := by decide +kernel
theorem dX11_tripOf_8 : decode cX11_tripOf 8 = .ok (.iaload, 1) := by decide +kernel
theorem dX11_tripOf_9 : decode cX11_tripOf 9 = .ok (.if_icmp .ge 31, 3) := by decide +kernel
theorem dX11_tripOf_12 : decode cX11_tripOf 12 = .ok (.aload_n 0, 1) := by decide +kernel
theorem dX11_tripOf_13 : decode cX11_tripOf 13 = .ok (.iload_n 2, 1) := by decide +kernel
theorem dX11_tripOf_14 : decode cX11_tripOf 14 = .ok (.iconst 0, 1) := by decide +kernel
theorem dX11_tripOf_15 : decode cX11_tripOf 15 = .ok (.invokevirtual 160, 3) := by decide +kernel
theorem dX11_tripOf_18 : decode cX11_tripOf 18 = .ok (.iload_n 1, 1) := by decide +kernel
theorem dX11_tripOf_19 : decode cX11_tripOf 19 = .ok (.if_icmp .ne 15, 3) := by decide +kernel
theorem dX11_tripOf_22 : decode cX11_tripOf 22 = .ok (.aload_n 0, 1) := by decide +kernel
theorem dX11_tripOf_23 : decode cX11_tripOf 23 = .ok (.iload_n 2, 1) := by decide +kernel
theorem dX11_tripOf_24 : decode cX11_tripOf 24 = .ok (.iconst 2, 1) := by decide +kernel
theorem dX11_tripOf_25 : decode cX11_tripOf 25 = .ok (.invokevirtual 160, 3) := by decide +kernel
theorem dX11_tripOf_28 : decode cX11_tripOf 28 = .ok (.iconst 2, 1) := by decide +kernel
theorem dX11_tripOf_29 : decode cX11_tripOf 29 = .ok (.if_icmp .eq 5, 3) := by decide +kernel
theorem dX11_tripOf_32 : decode cX11_tripOf 32 = .ok (.iload_n 2, 1) := by decide +kernel
theorem dX11_tripOf_33 : decode cX11_tripOf 33 = .ok (.ireturn, 1) := by decide +kernel
theorem dX11_tripOf_34 : decode cX11_tripOf 34 = .ok (.iinc 2 1, 3) := by decide +kernel
theorem dX11_tripOf_37 : decode cX11_tripOf 37 = .ok (.goto (-35), 3) := by decide +kernel
theorem dX11_tripOf_40 : decode cX11_tripOf 40 = .ok (.iconst (-1), 1) := by decide +kernel
theorem dX11_tripOf_41 : decode cX11_tripOf 41 = .ok (.ireturn, 1) := by decide +kernel
theorem dX11_type_0 : decode cX11_type 0 = .ok (.aload_n 0, 1) := by decide +kernel
theorem dX11_type_1 : decode cX11_type 1 = .ok (.iconst 0, 1) := by decide +kernel
theorem dX11_type_2 : decode cX11_type 2 = .ok (.putfield 1, 3) := by decide +kernel
theorem dX11_type_5 : decode cX11_type 5 = .ok (.aload_n 0, 1) := by decide +kernel
theorem dX11_type_6 : decode cX11_type 6 = .ok (.iload_n 1, 1) := by decide +kernel
theorem dX11_type_7 : decode cX11_type 7 = .ok (.invokevirtual 189, 3) := by decide +kernel
theorem dX11_type_10 : decode cX11_type 10 = .ok (.ifCond .eq 13, 3) := by decide +kernel
theorem dX11_type_13 : decode cX11_type 13 = .ok (.iload_n 2, 1) := by decide +kernel
theorem dX11_type_14 : decode cX11_type 14 = .ok (.iconst 0, 1) := by decide +kernel
theorem dX11_type_15 : decode cX11_type 15 = .ok (.bipush 7, 2) := by decide +kernel
theorem dX11_type_17 : decode cX11_type 17 = .ok (.invokestatic 106, 3) := by decide +kernel
theorem dX11_type_20 : decode cX11_type 20 = .ok (.ifCond .ne 7, 3) := by decide +kernel
theorem dX11_type_23 : decode cX11_type 23 = .ok (.iconst (-1), 1) := by decide +kernel
theorem dX11_type_24 : decode cX11_type 24 = .ok (.goto 23, 3) := by decide +kernel
theorem dX11_type_27 : decode cX11_type 27 = .ok (.iload_n 2, 1) := by decide +kernel
theorem dX11_type_28 : decode cX11_type 28 = .ok (.bipush 7, 2) := by decide +kernel
theorem dX11_type_30 : decode cX11_type 30 = .ok (.if_icmp .ge 12, 3) := by decide +kernel
theorem dX11_type_33 : decode cX11_type 33 = .ok (.aload_n 0, 1) := by decide +kernel
theorem dX11_type_34 : decode cX11_type 34 = .ok (.iload_n 1, 1) := by decide +kernel
theorem dX11_type_35 : decode cX11_type 35 = .ok (.iload_n 2, 1) := by decide +kernel
theorem dX11_type_36 : decode cX11_type 36 = .ok (.invokevirtual 167, 3) := by decide +kernel
theorem dX11_type_39 : decode cX11_type 39 = .ok (.goto 8, 3) := by decide +kernel
theorem dX11_type_42 : decode cX11_type 42 = .ok (.aload_n 0, 1) := by decide +kernel
theorem dX11_type_43 : decode cX11_type 43 = .ok (.iload_n 1, 1) := by decide +kernel
theorem dX11_type_44 : decode cX11_type 44 = .ok (.invokevirtual 192, 3) := by decide +kernel
theorem dX11_type_47 : decode cX11_type 47 = .ok (.ireturn, 1) := by decide +kernel
theorem dX11_typed_0 : decode cX11_typed 0 = .ok (.aload_n 0, 1) := by decide +kernel
theorem dX11_typed_1 : decode cX11_typed 1 = .ok (.getfield 72, 3) := by decide +kernel
theorem dX11_typed_4 : decode cX11_typed 4 = .ok (.bipush 7, 2) := by decide +kernel
theorem dX11_typed_6 : decode cX11_typed 6 = .ok (.bipush 12, 2) := by decide +kernel
theorem dX11_typed_8 : decode cX11_typed 8 = .ok (.iload_n 1, 1) := by decide +kernel
theorem dX11_typed_9 : decode cX11_typed 9 = .ok (.imul, 1) := by decide +kernel
theorem dX11_typed_10 : decode cX11_typed 10 = .ok (.iadd, 1) := by decide +kernel
theorem dX11_typed_11 : decode cX11_typed 11 = .ok (.iload_n 2, 1) := by decide +kernel
theorem dX11_typed_12 : decode cX11_typed 12 = .ok (.iadd, 1) := by decide +kernel
theorem dX11_typed_13 : decode cX11_typed 13 = .ok (.iaload, 1) := by decide +kernel
theorem dX11_typed_14 : decode cX11_typed 14 = .ok (.ireturn, 1) := by decide +kernel
theorem dX11_undo_0 : decode cX11_undo 0 = .ok (.aload_n 0, 1) := by decide +kernel
theorem dX11_undo_1 : decode cX11_undo 1 = .ok (.iconst 0, 1) := by decide +kernel
theorem dX11_undo_2 : decode cX11_undo 2 = .ok (.putfield 1, 3) := by decide +kernel
theorem dX11_undo_5 : decode cX11_undo 5 = .ok (.aload_n 0, 1) := by decide +kernel
theorem dX11_undo_6 : decode cX11_undo 6 = .ok (.getfield 157, 3) := by decide +kernel
theorem dX11_undo_9 : decode cX11_undo 9 = .ok (.ifCond .ne 5, 3) := by decide +kernel
theorem dX11_undo_12 : decode cX11_undo 12 = .ok (.iconst (-1), 1) := by decide +kernel
theorem dX11_undo_13 : decode cX11_undo 13 = .ok (.ireturn, 1) := by decide +kernel
theorem dX11_undo_14 : decode cX11_undo 14 = .ok (.aload_n 0, 1) := by decide +kernel
theorem dX11_undo_15 : decode cX11_undo 15 = .ok (.dup, 1) := by decide +kernel
theorem dX11_undo_16 : decode cX11_undo 16 = .ok (.getfield 157, 3) := by decide +kernel
theorem dX11_undo_19 : decode cX11_undo 19 = .ok (.iconst 1, 1) := by decide +kernel
theorem dX11_undo_20 : decode cX11_undo 20 = .ok (.isub, 1) := by decide +kernel
theorem dX11_undo_21 : decode cX11_undo 21 = .ok (.putfield 157, 3) := by decide +kernel
theorem dX11_undo_24 : decode cX11_undo 24 = .ok (.iconst 0, 1) := by decide +kernel
theorem dX11_undo_25 : decode cX11_undo 25 = .ok (.istore_n 1, 1) := by decide +kernel
theorem dX11_undo_26 : decode cX11_undo 26 = .ok (.iload_n 1, 1) := by decide +kernel
theorem dX11_undo_27 : decode cX11_undo 27 = .ok (.sipush 631, 3) := by decide +kernel
theorem dX11_undo_30 : decode cX11_undo 30 = .ok (.if_icmp .ge 30, 3) := by decide +kernel
theorem dX11_undo_33 : decode cX11_undo 33 = .ok (.aload_n 0, 1) := by decide +kernel
theorem dX11_undo_34 : decode cX11_undo 34 = .ok (.getfield 72, 3) := by decide +kernel
theorem dX11_undo_37 : decode cX11_undo 37 = .ok (.iload_n 1, 1) := by decide +kernel
theorem dX11_undo_38 : decode cX11_undo 38 = .ok (.aload_n 0, 1) := by decide +kernel
theorem dX11_undo_39 : decode cX11_undo 39 = .ok (.getfield 78, 3) := by decide +kernel
theorem dX11_undo_42 : decode cX11_undo 42 = .ok (.sipush 631, 3) := by decide +kernel
theorem dX11_undo_45 : decode cX11_undo 45 = .ok (.aload_n 0, 1) := by decide +kernel
theorem dX11_undo_46 : decode cX11_undo 46 = .ok (.getfield 157, 3) := by decide +kernel
theorem dX11_undo_49 : decode cX11_undo 49 = .ok (.imul, 1) := by decide +kernel
theorem dX11_undo_50 : decode cX11_undo 50 = .ok (.iload_n 1, 1) := by decide +kernel
theorem dX11_undo_51 : decode cX11_undo 51 = .ok (.iadd, 1) := by decide +kernel
theorem dX11_undo_52 : decode cX11_undo 52 = .ok (.iaload, 1) := by decide +kernel
theorem dX11_undo_53 : decode cX11_undo 53 = .ok (.iastore, 1) := by decide +kernel
theorem dX11_undo_54 : decode cX11_undo 54 = .ok (.iinc 1 1, 3) := by decide +kernel
theorem dX11_undo_57 : decode cX11_undo 57 = .ok (.goto (-31), 3) := by decide +kernel
theorem dX11_undo_60 : decode cX11_undo 60 = .ok (.aload_n 0, 1) := by decide +kernel
theorem dX11_undo_61 : decode cX11_undo 61 = .ok (.getfield 157, 3) := by decide +kernel
theorem dX11_undo_64 : decode cX11_undo 64 = .ok (.ireturn, 1) := by decide +kernel
theorem dX11_wayOf_0 : decode cX11_wayOf 0 = .ok (.iconst 0, 1) := by decide +kernel
theorem dX11_wayOf_1 : decode cX11_wayOf 1 = .ok (.istore_n 2, 1) := by decide +kernel
theorem dX11_wayOf_2 : decode cX11_wayOf 2 = .ok (.iconst 0, 1) := by decide +kernel
theorem dX11_wayOf_3 : decode cX11_wayOf 3 = .ok (.istore_n 3, 1) := by decide +kernel
theorem dX11_wayOf_4 : decode cX11_wayOf 4 = .ok (.iload_n 3, 1) := by decide +kernel
theorem dX11_wayOf_5 : decode cX11_wayOf 5 = .ok (.aload_n 0, 1) := by decide +kernel
theorem dX11_wayOf_6 : decode cX11_wayOf 6 = .ok (.iload_n 1, 1) := by decide +kernel
theorem dX11_wayOf_7 : decode cX11_wayOf 7 = .ok (.iconst 1, 1) := by decide +kernel
theorem dX11_wayOf_8 : decode cX11_wayOf 8 = .ok (.invokevirtual 160, 3) := by decide +kernel
theorem dX11_wayOf_11 : decode cX11_wayOf 11 = .ok (.if_icmp .ge 23, 3) := by decide +kernel
theorem dX11_wayOf_14 : decode cX11_wayOf 14 = .ok (.iload_n 2, 1) := by decide +kernel
theorem dX11_wayOf_15 : decode cX11_wayOf 15 = .ok (.iconst 1, 1) := by decide +kernel
theorem dX11_wayOf_16 : decode cX11_wayOf 16 = .ok (.aload_n 0, 1) := by decide +kernel
theorem dX11_wayOf_17 : decode cX11_wayOf 17 = .ok (.iload_n 1, 1) := by decide +kernel
theorem dX11_wayOf_18 : decode cX11_wayOf 18 = .ok (.bipush 7, 2) := by decide +kernel
theorem dX11_wayOf_20 : decode cX11_wayOf 20 = .ok (.iload_n 3, 1) := by decide +kernel
theorem dX11_wayOf_21 : decode cX11_wayOf 21 = .ok (.iadd, 1) := by decide +kernel
theorem dX11_wayOf_22 : decode cX11_wayOf 22 = .ok (.invokevirtual 160, 3) := by decide +kernel
theorem dX11_wayOf_25 : decode cX11_wayOf 25 = .ok (.ishl, 1) := by decide +kernel
theorem dX11_wayOf_26 : decode cX11_wayOf 26 = .ok (.ior, 1) := by decide +kernel
theorem dX11_wayOf_27 : decode cX11_wayOf 27 = .ok (.istore_n 2, 1) := by decide +kernel
theorem dX11_wayOf_28 : decode cX11_wayOf 28 = .ok (.iinc 3 1, 3) := by decide +kernel
theorem dX11_wayOf_31 : decode cX11_wayOf 31 = .ok (.goto (-27), 3) := by decide +kernel
theorem dX11_wayOf_34 : decode cX11_wayOf 34 = .ok (.iload_n 2, 1) := by decide +kernel
theorem dX11_wayOf_35 : decode cX11_wayOf 35 = .ok (.ireturn, 1) := by decide +kernel
theorem dX11_whyStopped_0 : decode cX11_whyStopped 0 = .ok (.aload_n 0, 1) := by decide +kernel
theorem dX11_whyStopped_1 : decode cX11_whyStopped 1 = .ok (.iload_n 1, 1) := by decide +kernel
theorem dX11_whyStopped_2 : decode cX11_whyStopped 2 = .ok (.invokevirtual 201, 3) := by decide +kernel
theorem dX11_whyStopped_5 : decode cX11_whyStopped 5 = .ok (.istore_n 3, 1) := by decide +kernel
theorem dX11_whyStopped_6 : decode cX11_whyStopped 6 = .ok (.iload_n 3, 1) := by decide +kernel
theorem dX11_whyStopped_7 : decode cX11_whyStopped 7 = .ok (.iconst (-1), 1) := by decide +kernel
theorem dX11_whyStopped_8 : decode cX11_whyStopped 8 = .ok (.if_icmp .eq 13, 3) := by decide +kernel
theorem dX11_whyStopped_11 : decode cX11_whyStopped 11 = .ok (.aload_n 0, 1) := by decide +kernel
theorem dX11_whyStopped_12 : decode cX11_whyStopped 12 = .ok (.iload_n 3, 1) := by decide +kernel
theorem dX11_whyStopped_13 : decode cX11_whyStopped 13 = .ok (.iconst 2, 1) := by decide +kernel
theorem dX11_whyStopped_14 : decode cX11_whyStopped 14 = .ok (.invokevirtual 160, 3) := by decide +kernel
theorem dX11_whyStopped_17 : decode cX11_whyStopped 17 = .ok (.iconst 1, 1) := by decide +kernel
theorem dX11_whyStopped_18 : decode cX11_whyStopped 18 = .ok (.if_icmp .eq 5, 3) := by decide +kernel
theorem dX11_whyStopped_21 : decode cX11_whyStopped 21 = .ok (.iconst 1, 1) := by decide +kernel
theorem dX11_whyStopped_22 : decode cX11_whyStopped 22 = .ok (.ireturn, 1) := by decide +kernel
theorem dX11_whyStopped_23 : decode cX11_whyStopped 23 = .ok (.aload_n 0, 1) := by decide +kernel
theorem dX11_whyStopped_24 : decode cX11_whyStopped 24 = .ok (.iload_n 3, 1) := by decide +kernel
theorem dX11_whyStopped_25 : decode cX11_whyStopped 25 = .ok (.invokevirtual 210, 3) := by decide +kernel
theorem dX11_whyStopped_28 : decode cX11_whyStopped 28 = .ok (.iload_n 2, 1) := by decide +kernel
theorem dX11_whyStopped_29 : decode cX11_whyStopped 29 = .ok (.invokestatic 113, 3) := by decide +kernel
theorem dX11_whyStopped_32 : decode cX11_whyStopped 32 = .ok (.ifCond .ne 5, 3) := by decide +kernel
theorem dX11_whyStopped_35 : decode cX11_whyStopped 35 = .ok (.iconst 2, 1) := by decide +kernel
theorem dX11_whyStopped_36 : decode cX11_whyStopped 36 = .ok (.ireturn, 1) := by decide +kernel
theorem dX11_whyStopped_37 : decode cX11_whyStopped 37 = .ok (.aload_n 0, 1) := by decide +kernel
theorem dX11_whyStopped_38 : decode cX11_whyStopped 38 = .ok (.getfield 72, 3) := by decide +kernel
theorem dX11_whyStopped_41 : decode cX11_whyStopped 41 = .ok (.bipush 6, 2) := by decide +kernel
theorem dX11_whyStopped_43 : decode cX11_whyStopped 43 = .ok (.iaload, 1) := by decide +kernel
theorem dX11_whyStopped_44 : decode cX11_whyStopped 44 = .ok (.aload_n 0, 1) := by decide +kernel
theorem dX11_whyStopped_45 : decode cX11_whyStopped 45 = .ok (.iload_n 3, 1) := by decide +kernel
theorem dX11_whyStopped_46 : decode cX11_whyStopped 46 = .ok (.iconst 4, 1) := by decide +kernel
theorem dX11_whyStopped_47 : decode cX11_whyStopped 47 = .ok (.invokevirtual 160, 3) := by decide +kernel
theorem dX11_whyStopped_50 : decode cX11_whyStopped 50 = .ok (.isub, 1) := by decide +kernel
theorem dX11_whyStopped_51 : decode cX11_whyStopped 51 = .ok (.aload_n 0, 1) := by decide +kernel
theorem dX11_whyStopped_52 : decode cX11_whyStopped 52 = .ok (.aload_n 0, 1) := by decide +kernel
theorem dX11_whyStopped_53 : decode cX11_whyStopped 53 = .ok (.iload_n 3, 1) := by decide +kernel
theorem dX11_whyStopped_54 : decode cX11_whyStopped 54 = .ok (.iconst 3, 1) := by decide +kernel
theorem dX11_whyStopped_55 : decode cX11_whyStopped 55 = .ok (.invokevirtual 160, 3) := by decide +kernel
theorem dX11_whyStopped_58 : decode cX11_whyStopped 58 = .ok (.iconst 5, 1) := by decide +kernel
theorem dX11_whyStopped_59 : decode cX11_whyStopped 59 = .ok (.invokevirtual 167, 3) := by decide +kernel
theorem dX11_whyStopped_62 : decode cX11_whyStopped 62 = .ok (.if_icmp .le 7, 3) := by decide +kernel
theorem dX11_whyStopped_65 : decode cX11_whyStopped 65 = .ok (.iconst 3, 1) := by decide +kernel
theorem dX11_whyStopped_66 : decode cX11_whyStopped 66 = .ok (.goto 4, 3) := by decide +kernel
theorem dX11_whyStopped_69 : decode cX11_whyStopped 69 = .ok (.iconst 0, 1) := by decide +kernel
theorem dX11_whyStopped_70 : decode cX11_whyStopped 70 = .ok (.ireturn, 1) := by decide +kernel
