def RJ0 : String := "java/lang/String"
abbrev cJ0_length_8abf5 : ByteArray := prog_20_method_54_code
def yJ0_length_8abf5 : MethodName := ⟨RJ0, "length", "()I"⟩
abbrev cJ0_charAt_5068e : ByteArray := prog_20_method_56_code
def yJ0_charAt_5068e : MethodName := ⟨RJ0, "charAt", "(I)C"⟩
abbrev cJ0_coder_7d493 : ByteArray := prog_20_method_152_code
def yJ0_coder_7d493 : MethodName := ⟨RJ0, "coder", "()B"⟩
abbrev cJ0_isLatin1_aae02 : ByteArray := prog_20_method_154_code
def yJ0_isLatin1_aae02 : MethodName := ⟨RJ0, "isLatin1", "()Z"⟩
abbrev cJ0_checkIndex_df160 : ByteArray := prog_20_method_155_code
def yJ0_checkIndex_df160 : MethodName := ⟨RJ0, "checkIndex", "(II)V"⟩
def RJ1 : String := "java/lang/StringLatin1"
abbrev cJ1_charAt_3b067 : ByteArray := prog_21_method_2_code
def yJ1_charAt_3b067 : MethodName := ⟨RJ1, "charAt", "([BI)C"⟩
def RJ3 : String := "jdk/internal/util/Preconditions"
abbrev cJ3_checkIndex_8e157 : ByteArray := prog_27_method_11_code
def yJ3_checkIndex_8e157 : MethodName := ⟨RJ3, "checkIndex", "(IILjava/util/function/BiFunction;)I"⟩
theorem dJ0_length_8abf5_0 : decode cJ0_length_8abf5 0 = .ok (.aload_n 0, 1) := by decide +kernel
theorem dJ0_length_8abf5_1 : decode cJ0_length_8abf5 1 = .ok (.getfield 9, 3) := by decide +kernel
theorem dJ0_length_8abf5_4 : decode cJ0_length_8abf5 4 = .ok (.arraylength, 1) := by decide +kernel
theorem dJ0_length_8abf5_5 : decode cJ0_length_8abf5 5 = .ok (.aload_n 0, 1) := by decide +kernel
theorem dJ0_length_8abf5_6 : decode cJ0_length_8abf5 6 = .ok (.invokevirtual 335, 3) := by decide +kernel
theorem dJ0_length_8abf5_9 : decode cJ0_length_8abf5 9 = .ok (.ishr, 1) := by decide +kernel
theorem dJ0_length_8abf5_10 : decode cJ0_length_8abf5 10 = .ok (.ireturn, 1) := by decide +kernel
theorem dJ0_charAt_5068e_0 : decode cJ0_charAt_5068e 0 = .ok (.aload_n 0, 1) := by decide +kernel
theorem dJ0_charAt_5068e_1 : decode cJ0_charAt_5068e 1 = .ok (.invokevirtual 492, 3) := by decide +kernel
theorem dJ0_charAt_5068e_4 : decode cJ0_charAt_5068e 4 = .ok (.ifCond .eq 12, 3) := by decide +kernel
theorem dJ0_charAt_5068e_7 : decode cJ0_charAt_5068e 7 = .ok (.aload_n 0, 1) := by decide +kernel
theorem dJ0_charAt_5068e_8 : decode cJ0_charAt_5068e 8 = .ok (.getfield 9, 3) := by decide +kernel
theorem dJ0_charAt_5068e_11 : decode cJ0_charAt_5068e 11 = .ok (.iload_n 1, 1) := by decide +kernel
theorem dJ0_charAt_5068e_12 : decode cJ0_charAt_5068e 12 = .ok (.invokestatic 495, 3) := by decide +kernel
theorem dJ0_charAt_5068e_15 : decode cJ0_charAt_5068e 15 = .ok (.ireturn, 1) := by decide +kernel
theorem dJ0_charAt_5068e_16 : decode cJ0_charAt_5068e 16 = .ok (.aload_n 0, 1) := by decide +kernel
theorem dJ0_charAt_5068e_17 : decode cJ0_charAt_5068e 17 = .ok (.getfield 9, 3) := by decide +kernel
theorem dJ0_charAt_5068e_20 : decode cJ0_charAt_5068e 20 = .ok (.iload_n 1, 1) := by decide +kernel
theorem dJ0_charAt_5068e_21 : decode cJ0_charAt_5068e 21 = .ok (.invokestatic 498, 3) := by decide +kernel
theorem dJ0_charAt_5068e_24 : decode cJ0_charAt_5068e 24 = .ok (.ireturn, 1) := by decide +kernel
theorem dJ0_coder_7d493_0 : decode cJ0_coder_7d493 0 = .ok (.getstatic 38, 3) := by decide +kernel
theorem dJ0_coder_7d493_3 : decode cJ0_coder_7d493 3 = .ok (.ifCond .eq 10, 3) := by decide +kernel
theorem dJ0_coder_7d493_6 : decode cJ0_coder_7d493 6 = .ok (.aload_n 0, 1) := by decide +kernel
theorem dJ0_coder_7d493_7 : decode cJ0_coder_7d493 7 = .ok (.getfield 15, 3) := by decide +kernel
theorem dJ0_coder_7d493_10 : decode cJ0_coder_7d493 10 = .ok (.goto 4, 3) := by decide +kernel
theorem dJ0_coder_7d493_13 : decode cJ0_coder_7d493 13 = .ok (.iconst 1, 1) := by decide +kernel
theorem dJ0_coder_7d493_14 : decode cJ0_coder_7d493 14 = .ok (.ireturn, 1) := by decide +kernel
theorem dJ0_isLatin1_aae02_0 : decode cJ0_isLatin1_aae02 0 = .ok (.getstatic 38, 3) := by decide +kernel
theorem dJ0_isLatin1_aae02_3 : decode cJ0_isLatin1_aae02 3 = .ok (.ifCond .eq 14, 3) := by decide +kernel
theorem dJ0_isLatin1_aae02_6 : decode cJ0_isLatin1_aae02 6 = .ok (.aload_n 0, 1) := by decide +kernel
theorem dJ0_isLatin1_aae02_7 : decode cJ0_isLatin1_aae02 7 = .ok (.getfield 15, 3) := by decide +kernel
theorem dJ0_isLatin1_aae02_10 : decode cJ0_isLatin1_aae02 10 = .ok (.ifCond .ne 7, 3) := by decide +kernel
theorem dJ0_isLatin1_aae02_13 : decode cJ0_isLatin1_aae02 13 = .ok (.iconst 1, 1) := by decide +kernel
theorem dJ0_isLatin1_aae02_14 : decode cJ0_isLatin1_aae02 14 = .ok (.goto 4, 3) := by decide +kernel
theorem dJ0_isLatin1_aae02_17 : decode cJ0_isLatin1_aae02 17 = .ok (.iconst 0, 1) := by decide +kernel
theorem dJ0_isLatin1_aae02_18 : decode cJ0_isLatin1_aae02 18 = .ok (.ireturn, 1) := by decide +kernel
theorem dJ0_checkIndex_df160_0 : decode cJ0_checkIndex_df160 0 = .ok (.iload_n 0, 1) := by decide +kernel
theorem dJ0_checkIndex_df160_1 : decode cJ0_checkIndex_df160 1 = .ok (.iload_n 1, 1) := by decide +kernel
theorem dJ0_checkIndex_df160_2 : decode cJ0_checkIndex_df160 2 = .ok (.getstatic 1053, 3) := by decide +kernel
theorem dJ0_checkIndex_df160_5 : decode cJ0_checkIndex_df160 5 = .ok (.invokestatic 1059, 3) := by decide +kernel
theorem dJ0_checkIndex_df160_8 : decode cJ0_checkIndex_df160 8 = .ok (.pop, 1) := by decide +kernel
theorem dJ0_checkIndex_df160_9 : decode cJ0_checkIndex_df160 9 = .ok (.return_, 1) := by decide +kernel
theorem dJ1_charAt_3b067_0 : decode cJ1_charAt_3b067 0 = .ok (.iload_n 1, 1) := by decide +kernel
theorem dJ1_charAt_3b067_1 : decode cJ1_charAt_3b067 1 = .ok (.aload_n 0, 1) := by decide +kernel
theorem dJ1_charAt_3b067_2 : decode cJ1_charAt_3b067 2 = .ok (.arraylength, 1) := by decide +kernel
theorem dJ1_charAt_3b067_3 : decode cJ1_charAt_3b067 3 = .ok (.invokestatic 9, 3) := by decide +kernel
theorem dJ1_charAt_3b067_6 : decode cJ1_charAt_3b067 6 = .ok (.aload_n 0, 1) := by decide +kernel
theorem dJ1_charAt_3b067_7 : decode cJ1_charAt_3b067 7 = .ok (.iload_n 1, 1) := by decide +kernel
theorem dJ1_charAt_3b067_8 : decode cJ1_charAt_3b067 8 = .ok (.baload, 1) := by decide +kernel
theorem dJ1_charAt_3b067_9 : decode cJ1_charAt_3b067 9 = .ok (.sipush 255, 3) := by decide +kernel
theorem dJ1_charAt_3b067_12 : decode cJ1_charAt_3b067 12 = .ok (.iand, 1) := by decide +kernel
theorem dJ1_charAt_3b067_13 : decode cJ1_charAt_3b067 13 = .ok (.i2c, 1) := by decide +kernel
theorem dJ1_charAt_3b067_14 : decode cJ1_charAt_3b067 14 = .ok (.ireturn, 1) := by decide +kernel
theorem dJ3_checkIndex_8e157_0 : decode cJ3_checkIndex_8e157 0 = .ok (.iload_n 0, 1) := by decide +kernel
theorem dJ3_checkIndex_8e157_1 : decode cJ3_checkIndex_8e157 1 = .ok (.ifCond .lt 8, 3) := by decide +kernel
theorem dJ3_checkIndex_8e157_4 : decode cJ3_checkIndex_8e157 4 = .ok (.iload_n 0, 1) := by decide +kernel
theorem dJ3_checkIndex_8e157_5 : decode cJ3_checkIndex_8e157 5 = .ok (.iload_n 1, 1) := by decide +kernel
theorem dJ3_checkIndex_8e157_6 : decode cJ3_checkIndex_8e157 6 = .ok (.if_icmp .lt 10, 3) := by decide +kernel
theorem dJ3_checkIndex_8e157_9 : decode cJ3_checkIndex_8e157 9 = .ok (.aload_n 2, 1) := by decide +kernel
theorem dJ3_checkIndex_8e157_10 : decode cJ3_checkIndex_8e157 10 = .ok (.iload_n 0, 1) := by decide +kernel
theorem dJ3_checkIndex_8e157_11 : decode cJ3_checkIndex_8e157 11 = .ok (.iload_n 1, 1) := by decide +kernel
theorem dJ3_checkIndex_8e157_12 : decode cJ3_checkIndex_8e157 12 = .ok (.invokestatic 95, 3) := by decide +kernel
theorem dJ3_checkIndex_8e157_15 : decode cJ3_checkIndex_8e157 15 = .ok (.athrow, 1) := by decide +kernel
theorem dJ3_checkIndex_8e157_16 : decode cJ3_checkIndex_8e157 16 = .ok (.iload_n 0, 1) := by decide +kernel
theorem dJ3_checkIndex_8e157_17 : decode cJ3_checkIndex_8e157 17 = .ok (.ireturn, 1) := by decide +kernel
theorem wj_length : WV yJ0_length_8abf5 cJ0_length_8abf5 1 (some .int) 0 := ⟨⟨memI 560 (by decide +kernel) (by decide +kernel), memI 82 (by decide +kernel) (by decide +kernel), by decide, by decide +kernel⟩, memI 558 (by decide +kernel) (by decide +kernel), memI 559 (by decide +kernel) (by decide +kernel)⟩
theorem wj_charAt : WV yJ0_charAt_5068e cJ0_charAt_5068e 2 (some .char) 1 := ⟨⟨memI 570 (by decide +kernel) (by decide +kernel), memI 82 (by decide +kernel) (by decide +kernel), by decide, by decide +kernel⟩, memI 568 (by decide +kernel) (by decide +kernel), memI 569 (by decide +kernel) (by decide +kernel)⟩
theorem wj_coder : WV yJ0_coder_7d493 cJ0_coder_7d493 1 (some .byte) 0 := ⟨⟨memI 564 (by decide +kernel) (by decide +kernel), memI 82 (by decide +kernel) (by decide +kernel), by decide, by decide +kernel⟩, memI 562 (by decide +kernel) (by decide +kernel), memI 563 (by decide +kernel) (by decide +kernel)⟩
theorem wj_isLatin1 : WV yJ0_isLatin1_aae02 cJ0_isLatin1_aae02 1 (some .boolean) 0 := ⟨⟨memI 574 (by decide +kernel) (by decide +kernel), memI 82 (by decide +kernel) (by decide +kernel), by decide, by decide +kernel⟩, memI 572 (by decide +kernel) (by decide +kernel), memI 573 (by decide +kernel) (by decide +kernel)⟩
theorem wj_checkIndex : WS yJ0_checkIndex_df160 cJ0_checkIndex_df160 2 none 2 := ⟨⟨memI 580 (by decide +kernel) (by decide +kernel), memI 82 (by decide +kernel) (by decide +kernel), by decide, by decide +kernel⟩, memI 579 (by decide +kernel) (by decide +kernel)⟩
theorem wj_charAt1 : WS yJ1_charAt_3b067 cJ1_charAt_3b067 2 (some .char) 2 := ⟨⟨memI 577 (by decide +kernel) (by decide +kernel), memI 83 (by decide +kernel) (by decide +kernel), by decide, by decide +kernel⟩, memI 576 (by decide +kernel) (by decide +kernel)⟩
theorem wj_checkIndex3 : WS yJ3_checkIndex_8e157 cJ3_checkIndex_8e157 3 (some .int) 3 := ⟨⟨memI 585 (by decide +kernel) (by decide +kernel), memI 84 (by decide +kernel) (by decide +kernel), by decide, by decide +kernel⟩, memI 584 (by decide +kernel) (by decide +kernel)⟩
theorem mj_8_56 : Cond.methodLink RX8 56 yJ0_length_8abf5 ∈ gtbl := memI 557 (by decide +kernel) (by decide +kernel)
theorem mj_8_61 : Cond.methodLink RX8 61 yJ0_charAt_5068e ∈ gtbl := memI 567 (by decide +kernel) (by decide +kernel)
theorem mj_335 : Cond.methodLink RJ0 335 yJ0_coder_7d493 ∈ gtbl := memI 561 (by decide +kernel) (by decide +kernel)
theorem mj_492 : Cond.methodLink RJ0 492 yJ0_isLatin1_aae02 ∈ gtbl := memI 571 (by decide +kernel) (by decide +kernel)
theorem mj_495 : Cond.methodLink RJ0 495 yJ1_charAt_3b067 ∈ gtbl := memI 575 (by decide +kernel) (by decide +kernel)
theorem mj_9 : Cond.methodLink RJ1 9 yJ0_checkIndex_df160 ∈ gtbl := memI 578 (by decide +kernel) (by decide +kernel)
theorem mj_1059 : Cond.methodLink RJ0 1059 yJ3_checkIndex_8e157 ∈ gtbl := memI 583 (by decide +kernel) (by decide +kernel)
theorem fj_9 : Cond.fieldLink RJ0 9 "java/lang/String" "value" "[B" ∈ gtbl := memI 1423 (by decide +kernel) (by decide +kernel)
theorem fj_15 : Cond.fieldLink RJ0 15 "java/lang/String" "coder" "B" ∈ gtbl := memI 1424 (by decide +kernel) (by decide +kernel)
theorem fj_38 : Cond.fieldLink RJ0 38 "java/lang/String" "COMPACT_STRINGS" "Z" ∈ gtbl := memI 565 (by decide +kernel) (by decide +kernel)
theorem fj_1053 : Cond.fieldLink RJ0 1053 "jdk/internal/util/Preconditions" "SIOOBE_FORMATTER" "Ljava/util/function/BiFunction;" ∈ gtbl := memI 581 (by decide +kernel) (by decide +kernel)
theorem fj_6_148 : Cond.fieldLink RX6 148 "PermitOffice$Reader" "LEAST" "[I" ∈ gtbl := memI 664 (by decide +kernel) (by decide +kernel)
theorem fj_6_151 : Cond.fieldLink RX6 151 "PermitOffice$Reader" "MOST" "[I" ∈ gtbl := memI 666 (by decide +kernel) (by decide +kernel)
/-! what stood there before: texts and statics -/
def sK (G : GG) (i : Nat) : Nat := G.2.2.2.2 (2 + i)
def sV (G : GG) (i : Nat) : Nat := G.2.2.2.2 (12 + i)
section AJDK
variable {l : Launch} {G : GG} {d : Nat} {own : String} {cc : ByteArray} {nL : Nat} {ret : Option FieldType} {pc : Nat} {lv : List (Option Value)} {st : List Value} {h : AH} {Q : Option Value → AH → Prop}
theorem a_ldcS {i index : Nat} (hi : i < 10) (ho : ownS i = own) (hx : idxS.getD i 0 = index) (hdg : decode cc pc = .ok (.ldc index, 2)) (k : AW l G d own cc nL ret (pc + 2) lv (.ref (sK G i) :: st) h Q) : AW l G d own cc nL ret pc lv st h Q := by
  intro p e s m args below meth c H locs ls C hW hS hl
  have hR := C.2.2.2.2.2.2.2.2.1.2.2.2.2.2.2.2 i hi
  rw [ho, hx] at hR
  exact va_ldcS C.1 C.2.1 C.2.2.2.1 hR hdg (k p e s m args below meth c H locs ls C hW hS hl)
theorem a_sval {i index : Nat} (hi : i < 10) (hw : Cond.fieldLink own index "java/lang/String" "value" "[B" ∈ gtbl) (hdg : decode cc pc = .ok (.getfield index, 3)) (k : AW l G d own cc nL ret (pc + 3) lv (.ref (sV G i) :: st) h Q) : AW l G d own cc nL ret pc lv (.ref (sK G i) :: st) h Q := fun p e s m args below meth c H locs ls C hW hS hl =>
  vk_getf C.1 C.2.1 (C.2.2.2.2.2.2.2.2.1.2.2.2.2.2.2.1.1 i hi).2.2.1 hS C.2.2.2.1 (C.2.2.2.2.1 _ hw) (fun _ q => q) hdg (k p e s m args below meth c H locs ls C hW hS hl)
theorem a_scod {i index : Nat} (hi : i < 10) (hw : Cond.fieldLink own index "java/lang/String" "coder" "B" ∈ gtbl) (hdg : decode cc pc = .ok (.getfield index, 3)) (k : AW l G d own cc nL ret (pc + 3) lv (.int 0 :: st) h Q) : AW l G d own cc nL ret pc lv (.ref (sK G i) :: st) h Q := fun p e s m args below meth c H locs ls C hW hS hl =>
  vk_getf C.1 C.2.1 (C.2.2.2.2.2.2.2.2.1.2.2.2.2.2.2.1.1 i hi).2.1 hS C.2.2.2.1 (C.2.2.2.2.1 _ hw) (fun _ q => q) hdg (k p e s m args below meth c H locs ls C hW hS hl)
theorem a_scmp {index : Nat} (hw : Cond.fieldLink own index "java/lang/String" "COMPACT_STRINGS" "Z" ∈ gtbl) (hdg : decode cc pc = .ok (.getstatic index, 3)) (k : AW l G d own cc nL ret (pc + 3) lv (.int 1 :: st) h Q) : AW l G d own cc nL ret pc lv st h Q := fun p e s m args below meth c H locs ls C hW hS hl =>
  va_gets C.1 C.2.1 C.2.2.2.2.2.2.2.2.1.1 hS C.2.2.2.1 (C.2.2.2.2.1 _ hw) (fun _ q => q) hdg (k p e s m args below meth c H locs ls C hW hS hl)
theorem a_slst {index : Nat} (hw : Cond.fieldLink own index "PermitOffice$Reader" "LEAST" "[I" ∈ gtbl) (hdg : decode cc pc = .ok (.getstatic index, 3)) (k : AW l G d own cc nL ret (pc + 3) lv (.ref (G.2.2.2.2 0) :: st) h Q) : AW l G d own cc nL ret pc lv st h Q := fun p e s m args below meth c H locs ls C hW hS hl =>
  va_gets (ref := "PermitOffice$Reader") C.1 C.2.1 C.2.2.2.2.2.2.2.2.1.2.1 hS C.2.2.2.1 (C.2.2.2.2.1 _ hw) (fun _ q => q) hdg (k p e s m args below meth c H locs ls C hW hS hl)
theorem a_smst {index : Nat} (hw : Cond.fieldLink own index "PermitOffice$Reader" "MOST" "[I" ∈ gtbl) (hdg : decode cc pc = .ok (.getstatic index, 3)) (k : AW l G d own cc nL ret (pc + 3) lv (.ref (G.2.2.2.2 1) :: st) h Q) : AW l G d own cc nL ret pc lv st h Q := fun p e s m args below meth c H locs ls C hW hS hl =>
  va_gets (ref := "PermitOffice$Reader") C.1 C.2.1 C.2.2.2.2.2.2.2.2.1.2.2.1 hS C.2.2.2.1 (C.2.2.2.2.1 _ hw) (fun _ q => q) hdg (k p e s m args below meth c H locs ls C hW hS hl)
theorem a_sfmt {index : Nat} (hw : Cond.fieldLink own index "jdk/internal/util/Preconditions" "SIOOBE_FORMATTER" "Ljava/util/function/BiFunction;" ∈ gtbl) (hdg : decode cc pc = .ok (.getstatic index, 3)) (k : ∀ v : Value, v.category = 1 → AW l G d own cc nL ret (pc + 3) lv (v :: st) h Q) : AW l G d own cc nL ret pc lv st h Q := by
  intro p e s m args below meth c H locs ls C hW hS hl
  rcases C.2.2.2.2.2.2.2.2.1.2.2.2.2.2.1 with hz | ⟨t, hz⟩
  · exact va_gets C.1 C.2.1 hz hS C.2.2.2.1 (C.2.2.2.2.1 _ hw) (fun _ q => q) hdg (k .null rfl p e s m args below meth c H locs ls C hW hS hl)
  · exact va_gets C.1 C.2.1 hz hS C.2.2.2.1 (C.2.2.2.2.1 _ hw) (fun _ q => q) hdg (k (.ref t) rfl p e s m args below meth c H locs ls C hW hS hl)
theorem a_slen {i : Nat} (hi : i < 10) (hdg : decode cc pc = .ok (.arraylength, 1)) (k : AW l G d own cc nL ret (pc + 1) lv (.int (nI (lenS.getD i 0)) :: st) h Q) : AW l G d own cc nL ret pc lv (.ref (sV G i) :: st) h Q := fun p e s m args below meth c H locs ls C hW hS hl =>
  va_tlen C.1 C.2.1 (C.2.2.2.2.2.2.2.2.1.2.2.2.2.2.2.1.1 i hi).2.2.2 hS rfl hdg (k p e s m args below meth c H locs ls C hW hS hl)
theorem a_sbyt {i : Nat} {x : Int32} (hi : i < 10) (hin : vp_in x (lenS.getD i 0)) (hdg : decode cc pc = .ok (.baload, 1)) (k : AW l G d own cc nL ret (pc + 1) lv (.int ((bytS.getD i []).getD x.toNatClampNeg 0) :: st) h Q) : AW l G d own cc nL ret pc lv (.int x :: .ref (sV G i) :: st) h Q := fun p e s m args below meth c H locs ls C hW hS hl =>
  va_tb C.1 C.2.1 (C.2.2.2.2.2.2.2.2.1.2.2.2.2.2.2.1.1 i hi).2.2.2 hS hin rfl hdg (k p e s m args below meth c H locs ls C hW hS hl)
theorem a_llen (hdg : decode cc pc = .ok (.arraylength, 1)) (k : AW l G d own cc nL ret (pc + 1) lv (.int 7 :: st) h Q) : AW l G d own cc nL ret pc lv (.ref (G.2.2.2.2 0) :: st) h Q := fun p e s m args below meth c H locs ls C hW hS hl =>
  va_tlen (v := 7) C.1 C.2.1 C.2.2.2.2.2.2.2.2.1.2.2.2.1 hS rfl hdg (k p e s m args below meth c H locs ls C hW hS hl)
theorem a_mlen (hdg : decode cc pc = .ok (.arraylength, 1)) (k : AW l G d own cc nL ret (pc + 1) lv (.int 7 :: st) h Q) : AW l G d own cc nL ret pc lv (.ref (G.2.2.2.2 1) :: st) h Q := fun p e s m args below meth c H locs ls C hW hS hl =>
  va_tlen (v := 7) C.1 C.2.1 C.2.2.2.2.2.2.2.2.1.2.2.2.2.1 hS rfl hdg (k p e s m args below meth c H locs ls C hW hS hl)
theorem a_lld {x : Int32} (hin : vp_in x 7) (hdg : decode cc pc = .ok (.iaload, 1)) (k : AW l G d own cc nL ret (pc + 1) lv (.int (lstV.getD x.toNatClampNeg 0) :: st) h Q) : AW l G d own cc nL ret pc lv (.int x :: .ref (G.2.2.2.2 0) :: st) h Q := fun p e s m args below meth c H locs ls C hW hS hl =>
  va_ti C.1 C.2.1 C.2.2.2.2.2.2.2.2.1.2.2.2.1 hS hin rfl hdg (k p e s m args below meth c H locs ls C hW hS hl)
theorem a_mld {x : Int32} (hin : vp_in x 7) (hdg : decode cc pc = .ok (.iaload, 1)) (k : AW l G d own cc nL ret (pc + 1) lv (.int (mstV.getD x.toNatClampNeg 0) :: st) h Q) : AW l G d own cc nL ret pc lv (.int x :: .ref (G.2.2.2.2 1) :: st) h Q := fun p e s m args below meth c H locs ls C hW hS hl =>
  va_ti C.1 C.2.1 C.2.2.2.2.2.2.2.2.1.2.2.2.2.1 hS hin rfl hdg (k p e s m args below meth c H locs ls C hW hS hl)
/-- a call of a text's method -/
theorem a_callT {d' index i : Nat} {y : MethodName} {cy : ByteArray} {ny : Nat} {ry : Option FieldType} {As rest : List Value} {P : Option Value → AH → Prop} (hi : i < 10) (hcl : y.cls = "java/lang/String") (hdg : decode cc pc = .ok (.invokevirtual index, 3)) (hl : Cond.methodLink own index y ∈ gtbl) (hw : WV y cy ny ry As.length) (hd : d' < d) (hr : (rest.map fun v => v.category).sum ≤ 8)
    (hM : Ct l G d' y cy ny ry (.ref (sK G i) :: As) h P) (kk : ∀ v h', P v h' → AW l G d own cc nL ret (pc + 3) lv (v.toList ++ rest) h' Q) : AW l G d own cc nL ret pc lv (As.reverse ++ .ref (sK G i) :: rest) h Q := by
  refine a_callG (Av := (Value.ref (sK G i) :: As).toArray) (P := P) (d' := d') (mc0 := 0) (fun p e s m args below meth c H locs ls C hW hS hlv => ?_) kk
  have hts := C.2.2.2.2.1
  have hsel := hts _ hw.2.2
  rw [hcl] at hsel
  exact va_runV (C := "java/lang/String") (As := As) (rest := rest) ⟨C.1, C.2.1, C.2.2.1, C.2.2.2.1, hts⟩ hM ⟨hw.1.callB hts hl hd, hts _ hw.2.1, hsel⟩ ⟨preA_blind, vk_recv C.2.2.2.2.2.2.2.2.1.2.2.2.2.2.2.1 hi hS, fun U hU hwU => ⟨rfl, preA_at C hW hS hU hwU⟩⟩ rfl rfl hlv.1 rfl (lv_room hr) hdg ⟨Nat.zero_le _, Nat.zero_le _⟩
theorem a_cT0i {d' index i : Nat} {y : MethodName} {cy : ByteArray} {ny : Nat} {ry : Option FieldType} {rest : List Value} {r : Int32} {h2 : AH} (hi : i < 10) (hcl : y.cls = "java/lang/String") (hdg : decode cc pc = .ok (.invokevirtual index, 3)) (hl : Cond.methodLink own index y ∈ gtbl) (hw : WV y cy ny ry 0) (hd : d' < d) (hr : (rest.map fun v => v.category).sum ≤ 8)
    (hM : Ct l G d' y cy ny ry [.ref (sK G i)] h (fun v h' => v = some (.int r) ∧ h' = h2)) (kk : AW l G d own cc nL ret (pc + 3) lv (.int r :: rest) h2 Q) : AW l G d own cc nL ret pc lv (.ref (sK G i) :: rest) h Q := a_callT (As := []) hi hcl hdg hl hw hd hr hM (fun v h' q => by obtain ⟨rfl, rfl⟩ := q; exact kk)
theorem a_cT1i {d' index i : Nat} {y : MethodName} {cy : ByteArray} {ny : Nat} {ry : Option FieldType} {rest : List Value} {x0 : Value} {r : Int32} {h2 : AH} (hi : i < 10) (hcl : y.cls = "java/lang/String") (hdg : decode cc pc = .ok (.invokevirtual index, 3)) (hl : Cond.methodLink own index y ∈ gtbl) (hw : WV y cy ny ry 1) (hd : d' < d) (hr : (rest.map fun v => v.category).sum ≤ 8)
    (hM : Ct l G d' y cy ny ry [.ref (sK G i), x0] h (fun v h' => v = some (.int r) ∧ h' = h2)) (kk : AW l G d own cc nL ret (pc + 3) lv (.int r :: rest) h2 Q) : AW l G d own cc nL ret pc lv (x0 :: .ref (sK G i) :: rest) h Q := a_callT (As := [x0]) hi hcl hdg hl hw hd hr hM (fun v h' q => by obtain ⟨rfl, rfl⟩ := q; exact kk)
end AJDK
theorem a_loadv {l : Launch} {G : GG} {d : Nat} {own : String} {cc : ByteArray} {nL : Nat} {ret : Option FieldType} {pc : Nat} {lv : List (Option Value)} {st : List Value} {h : AH} {Q : Option Value → AH → Prop} : True := trivial
def chI (i k : Nat) : Int32 := (bytS.getD i []).getD k 0
theorem chI_ok : ∀ i, i < 10 → ∀ k, k < lenS.getD i 0 → (((chI i k) &&& 255).toUInt32 % 65536).toInt32 = chI i k ∧ narrow .char (.int (chI i k)) = .int (chI i k) := by decide +kernel
theorem lenS_ok : ∀ i, i < 10 → lenS.getD i 0 < 100 := by decide
theorem cj_coder {l : Launch} {G : GG} {h : AH} {Q : Option Value → AH → Prop} {i : Nat} (hi : i < 10) (hQ : Q (some (.int 0)) h) : Ct l G 0 yJ0_coder_7d493 cJ0_coder_7d493 1 (some .byte) [.ref (sK G i)] h Q := by
  refine Ct.of (by decide) (Nat.le_of_ble_eq_true rfl) ?_
  show AW l G 0 RJ0 cJ0_coder_7d493 1 (some .byte) 0 [some (.ref (sK G i))] [] h Q
  refine a_scmp fj_38 dJ0_coder_7d493_0 ?_
  refine a_if_eq dJ0_coder_7d493_3 (tgt := 13) (by decide) (fun c => absurd c (by decide)) (fun _ => ?_)
  refine a_aload_n dJ0_coder_7d493_6 rfl ?_
  refine a_scod hi fj_15 dJ0_coder_7d493_7 ?_
  refine a_goto dJ0_coder_7d493_10 (tgt := 14) (by decide) ?_
  exact a_zret dJ0_coder_7d493_14 rfl rfl hQ
theorem cj_length {l : Launch} {G : GG} {h : AH} {Q : Option Value → AH → Prop} {i : Nat} (hi : i < 10) (hQ : Q (some (.int (nI (lenS.getD i 0)))) h) : Ct l G 1 yJ0_length_8abf5 cJ0_length_8abf5 1 (some .int) [.ref (sK G i)] h Q := by
  refine Ct.of (by decide) (Nat.le_of_ble_eq_true rfl) ?_
  show AW l G 1 RJ0 cJ0_length_8abf5 1 (some .int) 0 [some (.ref (sK G i))] [] h Q
  refine a_aload_n dJ0_length_8abf5_0 rfl ?_
  refine a_sval hi fj_9 dJ0_length_8abf5_1 ?_
  refine a_slen hi dJ0_length_8abf5_4 ?_
  refine a_aload_n dJ0_length_8abf5_5 rfl ?_
  refine a_cT0i hi rfl dJ0_length_8abf5_6 mj_335 wj_coder (by decide) (Nat.le_of_ble_eq_true rfl) (cj_coder hi ⟨rfl, rfl⟩) ?_
  refine a_ishr dJ0_length_8abf5_9 ?_
  rw [sc_shr0 (by have := lenS_ok i hi; omega)]
  exact a_iret dJ0_length_8abf5_10 rfl hQ
theorem cj_isLatin1 {l : Launch} {G : GG} {h : AH} {Q : Option Value → AH → Prop} {i : Nat} (hi : i < 10) (hQ : Q (some (.int 1)) h) : Ct l G 0 yJ0_isLatin1_aae02 cJ0_isLatin1_aae02 1 (some .boolean) [.ref (sK G i)] h Q := by
  refine Ct.of (by decide) (Nat.le_of_ble_eq_true rfl) ?_
  show AW l G 0 RJ0 cJ0_isLatin1_aae02 1 (some .boolean) 0 [some (.ref (sK G i))] [] h Q
  refine a_scmp fj_38 dJ0_isLatin1_aae02_0 ?_
  refine a_if_eq dJ0_isLatin1_aae02_3 (tgt := 17) (by decide) (fun c => absurd c (by decide)) (fun _ => ?_)
  refine a_aload_n dJ0_isLatin1_aae02_6 rfl ?_
  refine a_scod hi fj_15 dJ0_isLatin1_aae02_7 ?_
  refine a_if_ne dJ0_isLatin1_aae02_10 (tgt := 17) (by decide) (fun c => absurd rfl c) (fun _ => ?_)
  refine a_iconst (v := 1) dJ0_isLatin1_aae02_13 (by decide) ?_
  refine a_goto dJ0_isLatin1_aae02_14 (tgt := 18) (by decide) ?_
  exact a_zret dJ0_isLatin1_aae02_18 rfl rfl hQ
theorem cj_checkIndex3 {l : Launch} {G : GG} {h : AH} {Q : Option Value → AH → Prop} {x y : Int32} {v : Value} (hv1 : v.category = 1) (h0 : ¬ x < 0) (h1 : x < y) (hQ : Q (some (.int x)) h) : Ct l G 0 yJ3_checkIndex_8e157 cJ3_checkIndex_8e157 3 (some .int) [.int x, .int y, v] h Q := by
  refine Ct.of (by decide) (by cases v <;> first | exact Nat.le_of_ble_eq_true rfl | (simp [Value.category] at hv1)) ?_
  have ee : ∃ w, ent [.int x, .int y, v] = [some (.int x), some (.int y), w] ∨ ∃ w2, ent [.int x, .int y, v] = [some (.int x), some (.int y), w, w2] := by
    cases v <;> first | exact ⟨_, Or.inl rfl⟩ | exact ⟨_, Or.inr ⟨_, rfl⟩⟩
  obtain ⟨w, ee⟩ := ee
  refine a_take 2 ?_
  have e2 : (ent [.int x, .int y, v]).take 2 = [some (.int x), some (.int y)] := by
    rcases ee with e | ⟨w2, e⟩ <;> rw [e] <;> rfl
  rw [e2]
  show AW l G 0 RJ3 cJ3_checkIndex_8e157 3 (some .int) 0 [some (.int x), some (.int y)] [] h Q
  refine a_iload_n dJ3_checkIndex_8e157_0 rfl ?_
  refine a_if_lt dJ3_checkIndex_8e157_1 (tgt := 9) (by decide) (fun c => absurd c h0) (fun _ => ?_)
  refine a_iload_n dJ3_checkIndex_8e157_4 rfl ?_
  refine a_iload_n dJ3_checkIndex_8e157_5 rfl ?_
  refine a_icmp_lt dJ3_checkIndex_8e157_6 (tgt := 16) (by decide) (fun _ => ?_) (fun c => absurd h1 c)
  refine a_iload_n dJ3_checkIndex_8e157_16 rfl ?_
  exact a_iret dJ3_checkIndex_8e157_17 rfl hQ
theorem cj_checkIndex {l : Launch} {G : GG} {h : AH} {Q : Option Value → AH → Prop} {x y : Int32} (h0 : ¬ x < 0) (h1 : x < y) (hQ : Q none h) : Ct l G 1 yJ0_checkIndex_df160 cJ0_checkIndex_df160 2 none [.int x, .int y] h Q := by
  refine Ct.of (by decide) (Nat.le_of_ble_eq_true rfl) ?_
  show AW l G 1 RJ0 cJ0_checkIndex_df160 2 none 0 [some (.int x), some (.int y)] [] h Q
  refine a_iload_n dJ0_checkIndex_df160_0 rfl ?_
  refine a_iload_n dJ0_checkIndex_df160_1 rfl ?_
  refine a_sfmt fj_1053 dJ0_checkIndex_df160_2 (fun v hv1 => ?_)
  refine a_cS3i dJ0_checkIndex_df160_5 mj_1059 wj_checkIndex3 (by decide) (Nat.le_of_ble_eq_true rfl) (cj_checkIndex3 hv1 h0 h1 ⟨rfl, rfl⟩) ?_
  refine a_pop dJ0_checkIndex_df160_8 rfl ?_
  exact a_vret dJ0_checkIndex_df160_9 rfl hQ
theorem cj_charAt1 {l : Launch} {G : GG} {h : AH} {Q : Option Value → AH → Prop} {i k : Nat} (hi : i < 10) (hk : k < lenS.getD i 0) (hQ : Q (some (.int (chI i k))) h) : Ct l G 2 yJ1_charAt_3b067 cJ1_charAt_3b067 2 (some .char) [.ref (sV G i), .int (nI k)] h Q := by
  have hl := lenS_ok i hi
  have hki : (nI k).toNatClampNeg = k := nI_clamp (by omega)
  obtain ⟨e1, e2⟩ := chI_ok i hi k hk
  refine Ct.of (by decide) (Nat.le_of_ble_eq_true rfl) ?_
  show AW l G 2 RJ1 cJ1_charAt_3b067 2 (some .char) 0 [some (.ref (sV G i)), some (.int (nI k))] [] h Q
  refine a_iload_n dJ1_charAt_3b067_0 rfl ?_
  refine a_aload_n dJ1_charAt_3b067_1 rfl ?_
  refine a_slen hi dJ1_charAt_3b067_2 ?_
  refine a_cS2v dJ1_charAt_3b067_3 mj_9 wj_checkIndex (by decide) (Nat.le_of_ble_eq_true rfl) (cj_checkIndex (nI_pos (by omega)) (nI_lt hk (by omega)) ⟨rfl, rfl⟩) ?_
  refine a_aload_n dJ1_charAt_3b067_6 rfl ?_
  refine a_iload_n dJ1_charAt_3b067_7 rfl ?_
  refine a_sbyt hi (vp_in_nI hk (by omega)) dJ1_charAt_3b067_8 ?_
  refine a_sipush (v := 255) dJ1_charAt_3b067_9 (by decide) ?_
  refine a_iand dJ1_charAt_3b067_12 ?_
  refine a_i2c dJ1_charAt_3b067_13 ?_
  rw [hki, show (bytS.getD i []).getD k 0 = chI i k from rfl, e1]
  exact a_zret dJ1_charAt_3b067_14 rfl e2 hQ
theorem cj_charAt {l : Launch} {G : GG} {h : AH} {Q : Option Value → AH → Prop} {i k : Nat} (hi : i < 10) (hk : k < lenS.getD i 0) (hQ : Q (some (.int (chI i k))) h) : Ct l G 3 yJ0_charAt_5068e cJ0_charAt_5068e 2 (some .char) [.ref (sK G i), .int (nI k)] h Q := by
  refine Ct.of (by decide) (Nat.le_of_ble_eq_true rfl) ?_
  show AW l G 3 RJ0 cJ0_charAt_5068e 2 (some .char) 0 [some (.ref (sK G i)), some (.int (nI k))] [] h Q
  refine a_aload_n dJ0_charAt_5068e_0 rfl ?_
  refine a_cT0i hi rfl dJ0_charAt_5068e_1 mj_492 wj_isLatin1 (by decide) (Nat.le_of_ble_eq_true rfl) (cj_isLatin1 hi ⟨rfl, rfl⟩) ?_
  refine a_if_eq dJ0_charAt_5068e_4 (tgt := 16) (by decide) (fun c => absurd c (by decide)) (fun _ => ?_)
  refine a_aload_n dJ0_charAt_5068e_7 rfl ?_
  refine a_sval hi fj_9 dJ0_charAt_5068e_8 ?_
  refine a_iload_n dJ0_charAt_5068e_11 rfl ?_
  refine a_cS2i dJ0_charAt_5068e_12 mj_495 wj_charAt1 (by decide) (Nat.le_of_ble_eq_true rfl) (cj_charAt1 hi hk ⟨rfl, rfl⟩) ?_
  exact a_zret dJ0_charAt_5068e_15 rfl (chI_ok i hi k hk).2 hQ
