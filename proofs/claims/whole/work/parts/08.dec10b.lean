theorem dX10_type_96 : decode cX10_type 96 = .ok (.iload_n 1, 1) := by decide +kernel
theorem dX10_type_97 : decode cX10_type 97 = .ok (.iaload, 1) := by decide +kernel
theorem dX10_type_98 : decode cX10_type 98 = .ok (.ireturn, 1) := by decide +kernel
theorem dX10_type_99 : decode cX10_type 99 = .ok (.aload_n 3, 1) := by decide +kernel
theorem dX10_type_100 : decode cX10_type 100 = .ok (.getfield 147, 3) := by decide +kernel
theorem dX10_type_103 : decode cX10_type 103 = .ok (.iload_n 1, 1) := by decide +kernel
theorem dX10_type_104 : decode cX10_type 104 = .ok (.iaload, 1) := by decide +kernel
theorem dX10_type_105 : decode cX10_type 105 = .ok (.ireturn, 1) := by decide +kernel
theorem dX10_type_106 : decode cX10_type 106 = .ok (.aload_n 3, 1) := by decide +kernel
theorem dX10_type_107 : decode cX10_type 107 = .ok (.getfield 150, 3) := by decide +kernel
theorem dX10_type_110 : decode cX10_type 110 = .ok (.iload_n 1, 1) := by decide +kernel
theorem dX10_type_111 : decode cX10_type 111 = .ok (.iaload, 1) := by decide +kernel
theorem dX10_type_112 : decode cX10_type 112 = .ok (.ireturn, 1) := by decide +kernel
theorem dX10_type_113 : decode cX10_type 113 = .ok (.aload_n 3, 1) := by decide +kernel
theorem dX10_type_114 : decode cX10_type 114 = .ok (.iload_n 1, 1) := by decide +kernel
theorem dX10_type_115 : decode cX10_type 115 = .ok (.invokevirtual 153, 3) := by decide +kernel
theorem dX10_type_118 : decode cX10_type 118 = .ok (.ireturn, 1) := by decide +kernel
theorem dX10_type_119 : decode cX10_type 119 = .ok (.iconst (-1), 1) := by decide +kernel
theorem dX10_type_120 : decode cX10_type 120 = .ok (.ireturn, 1) := by decide +kernel
theorem dX10_undo_0 : decode cX10_undo 0 = .ok (.aload_n 0, 1) := by decide +kernel
theorem dX10_undo_1 : decode cX10_undo 1 = .ok (.getfield 40, 3) := by decide +kernel
theorem dX10_undo_4 : decode cX10_undo 4 = .ok (.getfield 118, 3) := by decide +kernel
theorem dX10_undo_7 : decode cX10_undo 7 = .ok (.astore_n 1, 1) := by decide +kernel
theorem dX10_undo_8 : decode cX10_undo 8 = .ok (.aload_n 1, 1) := by decide +kernel
theorem dX10_undo_9 : decode cX10_undo 9 = .ok (.getfield 122, 3) := by decide +kernel
theorem dX10_undo_12 : decode cX10_undo 12 = .ok (.ifCond .gt 5, 3) := by decide +kernel
theorem dX10_undo_15 : decode cX10_undo 15 = .ok (.iconst (-1), 1) := by decide +kernel
theorem dX10_undo_16 : decode cX10_undo 16 = .ok (.ireturn, 1) := by decide +kernel
theorem dX10_undo_17 : decode cX10_undo 17 = .ok (.aload_n 1, 1) := by decide +kernel
theorem dX10_undo_18 : decode cX10_undo 18 = .ok (.invokevirtual 293, 3) := by decide +kernel
theorem dX10_undo_21 : decode cX10_undo 21 = .ok (.istore_n 2, 1) := by decide +kernel
theorem dX10_undo_22 : decode cX10_undo 22 = .ok (.aload_n 0, 1) := by decide +kernel
theorem dX10_undo_23 : decode cX10_undo 23 = .ok (.getfield 40, 3) := by decide +kernel
theorem dX10_undo_26 : decode cX10_undo 26 = .ok (.aload_n 1, 1) := by decide +kernel
theorem dX10_undo_27 : decode cX10_undo 27 = .ok (.getfield 296, 3) := by decide +kernel
theorem dX10_undo_30 : decode cX10_undo 30 = .ok (.iload_n 2, 1) := by decide +kernel
theorem dX10_undo_31 : decode cX10_undo 31 = .ok (.iaload, 1) := by decide +kernel
theorem dX10_undo_32 : decode cX10_undo 32 = .ok (.aload_n 1, 1) := by decide +kernel
theorem dX10_undo_33 : decode cX10_undo 33 = .ok (.getfield 297, 3) := by decide +kernel
theorem dX10_undo_36 : decode cX10_undo 36 = .ok (.iload_n 2, 1) := by decide +kernel
theorem dX10_undo_37 : decode cX10_undo 37 = .ok (.iaload, 1) := by decide +kernel
theorem dX10_undo_38 : decode cX10_undo 38 = .ok (.aload_n 1, 1) := by decide +kernel
theorem dX10_undo_39 : decode cX10_undo 39 = .ok (.getfield 300, 3) := by decide +kernel
theorem dX10_undo_42 : decode cX10_undo 42 = .ok (.iload_n 2, 1) := by decide +kernel
theorem dX10_undo_43 : decode cX10_undo 43 = .ok (.iaload, 1) := by decide +kernel
theorem dX10_undo_44 : decode cX10_undo 44 = .ok (.invokevirtual 303, 3) := by decide +kernel
theorem dX10_undo_47 : decode cX10_undo 47 = .ok (.aload_n 1, 1) := by decide +kernel
theorem dX10_undo_48 : decode cX10_undo 48 = .ok (.getfield 122, 3) := by decide +kernel
theorem dX10_undo_51 : decode cX10_undo 51 = .ok (.ireturn, 1) := by decide +kernel
