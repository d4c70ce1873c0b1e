/-! the constructors' walks -/
theorem ac_b : Cond.arrayClass .byte ∈ gtbl := memI 113 (by decide +kernel) (by decide +kernel)
theorem ac_i : Cond.arrayClass .int ∈ gtbl := memI 179 (by decide +kernel) (by decide +kernel)
theorem ac_l : Cond.arrayClass .long ∈ gtbl := memI 218 (by decide +kernel) (by decide +kernel)
theorem ac_z : Cond.arrayClass .boolean ∈ gtbl := memI 1119 (by decide +kernel) (by decide +kernel)
theorem dX7_init_0 : decode cX7_init 0 = .ok (.aload_n 0, 1) := by decide +kernel
theorem dX7_init_1 : decode cX7_init 1 = .ok (.invokespecial 3, 3) := by decide +kernel
theorem dX7_init_4 : decode cX7_init 4 = .ok (.aload_n 0, 1) := by decide +kernel
theorem dX7_init_5 : decode cX7_init 5 = .ok (.sipush 740, 3) := by decide +kernel
theorem dX7_init_8 : decode cX7_init 8 = .ok (.newarray .byte, 2) := by decide +kernel
theorem dX7_init_10 : decode cX7_init 10 = .ok (.putfield 9, 3) := by decide +kernel
theorem dX7_init_13 : decode cX7_init 13 = .ok (.return_, 1) := by decide +kernel
theorem ol_7 : Cond.methodLink RX7 3 objectInit ∈ gtbl := memI 103 (by decide +kernel) (by decide +kernel)
theorem wi_7 : WI yX7_init cX7_init 1 0 := ⟨memI 102 (by decide +kernel) (by decide +kernel), memI 70 (by decide +kernel) (by decide +kernel), memI 101 (by decide +kernel) (by decide +kernel), rfl, by decide +kernel⟩
theorem fc_7_9 : Cond.fieldLink RX7 9 (TX7 0).1 (TX7 0).2.1 (TX7 0).2.2.1 ∈ gtbl := memI 104 (by decide +kernel) (by decide +kernel)
def FS7 (G : GG) (n : Nat) : List Value := [.ref (G.2.1 + (n + 0)), .int 0]
def NW7 (G : GG) (_ : Nat) : List va_E := [.inl (G.2.2.2.1.2.1, 740, .inl (fun _ => 0))]
def df7 : List Value := [.null, .int 0]
theorem k_7 {l : Launch} {G : GG} (ws : List va_E) (i : Nat) (h : ws[i]? = some (.inr (7, df7))) : Nt l G 2 yX7_init cX7_init 1 1 740 [.ref (G.2.1 + i)] ws (ws.set i (.inr (7, FS7 G ws.length)) ++ NW7 G ws.length) := by
  refine Nt.of (by decide) rfl (Nat.le_of_ble_eq_true rfl) ?_
  have hi : i < ws.length := (List.getElem?_eq_some_iff.mp h).1
  show AN l G (rmN 2 1 740) _ _ "<init>" RX7 cX7_init 1 none 0 0 0 [some (.ref (G.2.1 + i))] [] ws
  refine n_aload_n dX7_init_0 rfl ?_
  refine n_obj dX7_init_1 ol_7 (by decide) (by decide) rfl ?_
  generalize hE : EN G 1 740 (ws.set i (.inr (7, FS7 G ws.length)) ++ NW7 G ws.length) = E
  rw [← wl_id h]
  unfold df7
  refine n_aload_n dX7_init_4 rfl ?_
  refine n_sipush (v := 740) dX7_init_5 (by decide) ?_
  refine n_arr (a0 := (740, .inl (fun _ => 0))) hi rfl dX7_init_8 dX7_init_10 rfl ac_b (t0 := 1) rfl (fun _ _ h => h) (fun _ => rfl) (by decide) (by decide) (by decide) (ci := 7) (j := 0) rfl (by decide) (by simp) fc_7_9 rfl rfl rfl (fun _ => rfl) (fun _ => rfl) (Nat.le_of_ble_eq_true rfl) (Nat.le_of_ble_eq_true rfl) ?_
  rw [← hE]
  exact n_vret dX7_init_13
theorem dX5_init_0 : decode cX5_init 0 = .ok (.aload_n 0, 1) := by decide +kernel
theorem dX5_init_1 : decode cX5_init 1 = .ok (.invokespecial 5, 3) := by decide +kernel
theorem dX5_init_4 : decode cX5_init 4 = .ok (.aload_n 0, 1) := by decide +kernel
theorem dX5_init_5 : decode cX5_init 5 = .ok (.bipush 8, 2) := by decide +kernel
theorem dX5_init_7 : decode cX5_init 7 = .ok (.newarray .int, 2) := by decide +kernel
theorem dX5_init_9 : decode cX5_init 9 = .ok (.putfield 11, 3) := by decide +kernel
theorem dX5_init_12 : decode cX5_init 12 = .ok (.aload_n 0, 1) := by decide +kernel
theorem dX5_init_13 : decode cX5_init 13 = .ok (.bipush 56, 2) := by decide +kernel
theorem dX5_init_15 : decode cX5_init 15 = .ok (.newarray .long, 2) := by decide +kernel
theorem dX5_init_17 : decode cX5_init 17 = .ok (.putfield 15, 3) := by decide +kernel
theorem dX5_init_20 : decode cX5_init 20 = .ok (.aload_n 0, 1) := by decide +kernel
theorem dX5_init_21 : decode cX5_init 21 = .ok (.bipush 7, 2) := by decide +kernel
theorem dX5_init_23 : decode cX5_init 23 = .ok (.newarray .int, 2) := by decide +kernel
theorem dX5_init_25 : decode cX5_init 25 = .ok (.putfield 19, 3) := by decide +kernel
theorem dX5_init_28 : decode cX5_init 28 = .ok (.aload_n 0, 1) := by decide +kernel
theorem dX5_init_29 : decode cX5_init 29 = .ok (.bipush 7, 2) := by decide +kernel
theorem dX5_init_31 : decode cX5_init 31 = .ok (.newarray .int, 2) := by decide +kernel
theorem dX5_init_33 : decode cX5_init 33 = .ok (.putfield 22, 3) := by decide +kernel
theorem dX5_init_36 : decode cX5_init 36 = .ok (.aload_n 0, 1) := by decide +kernel
theorem dX5_init_37 : decode cX5_init 37 = .ok (.bipush 8, 2) := by decide +kernel
theorem dX5_init_39 : decode cX5_init 39 = .ok (.newarray .int, 2) := by decide +kernel
theorem dX5_init_41 : decode cX5_init 41 = .ok (.putfield 25, 3) := by decide +kernel
theorem dX5_init_44 : decode cX5_init 44 = .ok (.aload_n 0, 1) := by decide +kernel
theorem dX5_init_45 : decode cX5_init 45 = .ok (.bipush 7, 2) := by decide +kernel
theorem dX5_init_47 : decode cX5_init 47 = .ok (.newarray .long, 2) := by decide +kernel
theorem dX5_init_49 : decode cX5_init 49 = .ok (.putfield 28, 3) := by decide +kernel
theorem dX5_init_52 : decode cX5_init 52 = .ok (.aload_n 0, 1) := by decide +kernel
theorem dX5_init_53 : decode cX5_init 53 = .ok (.bipush 7, 2) := by decide +kernel
theorem dX5_init_55 : decode cX5_init 55 = .ok (.newarray .int, 2) := by decide +kernel
theorem dX5_init_57 : decode cX5_init 57 = .ok (.putfield 31, 3) := by decide +kernel
theorem dX5_init_60 : decode cX5_init 60 = .ok (.return_, 1) := by decide +kernel
theorem ol_5 : Cond.methodLink RX5 5 objectInit ∈ gtbl := memI 185 (by decide +kernel) (by decide +kernel)
theorem wi_5 : WI yX5_init cX5_init 1 0 := ⟨memI 184 (by decide +kernel) (by decide +kernel), memI 73 (by decide +kernel) (by decide +kernel), memI 183 (by decide +kernel) (by decide +kernel), rfl, by decide +kernel⟩
theorem fc_5_11 : Cond.fieldLink RX5 11 (TX5 0).1 (TX5 0).2.1 (TX5 0).2.2.1 ∈ gtbl := memI 186 (by decide +kernel) (by decide +kernel)
theorem fc_5_15 : Cond.fieldLink RX5 15 (TX5 1).1 (TX5 1).2.1 (TX5 1).2.2.1 ∈ gtbl := memI 188 (by decide +kernel) (by decide +kernel)
theorem fc_5_19 : Cond.fieldLink RX5 19 (TX5 2).1 (TX5 2).2.1 (TX5 2).2.2.1 ∈ gtbl := memI 189 (by decide +kernel) (by decide +kernel)
theorem fc_5_22 : Cond.fieldLink RX5 22 (TX5 3).1 (TX5 3).2.1 (TX5 3).2.2.1 ∈ gtbl := memI 190 (by decide +kernel) (by decide +kernel)
theorem fc_5_25 : Cond.fieldLink RX5 25 (TX5 4).1 (TX5 4).2.1 (TX5 4).2.2.1 ∈ gtbl := memI 191 (by decide +kernel) (by decide +kernel)
theorem fc_5_28 : Cond.fieldLink RX5 28 (TX5 5).1 (TX5 5).2.1 (TX5 5).2.2.1 ∈ gtbl := memI 193 (by decide +kernel) (by decide +kernel)
theorem fc_5_31 : Cond.fieldLink RX5 31 (TX5 6).1 (TX5 6).2.1 (TX5 6).2.2.1 ∈ gtbl := memI 194 (by decide +kernel) (by decide +kernel)
def FS5 (G : GG) (n : Nat) : List Value := [.ref (G.2.1 + (n + 0)), .ref (G.2.1 + (n + 1)), .ref (G.2.1 + (n + 2)), .ref (G.2.1 + (n + 3)), .ref (G.2.1 + (n + 4)), .ref (G.2.1 + (n + 5)), .ref (G.2.1 + (n + 6)), .int 0, .int 0]
def NW5 (G : GG) (_ : Nat) : List va_E := [.inl (G.2.2.2.1.1, 8, .inl (fun _ => 0)), .inl (G.2.2.2.1.2.2.1, 56, .inr (.inl (fun _ => 0))), .inl (G.2.2.2.1.1, 7, .inl (fun _ => 0)), .inl (G.2.2.2.1.1, 7, .inl (fun _ => 0)), .inl (G.2.2.2.1.1, 8, .inl (fun _ => 0)), .inl (G.2.2.2.1.2.2.1, 7, .inr (.inl (fun _ => 0))), .inl (G.2.2.2.1.1, 7, .inl (fun _ => 0))]
def df5 : List Value := [.null, .null, .null, .null, .null, .null, .null, .int 0, .int 0]
theorem k_5 {l : Launch} {G : GG} (ws : List va_E) (i : Nat) (h : ws[i]? = some (.inr (5, df5))) : Nt l G 2 yX5_init cX5_init 1 7 100 [.ref (G.2.1 + i)] ws (ws.set i (.inr (5, FS5 G ws.length)) ++ NW5 G ws.length) := by
  refine Nt.of (by decide) rfl (Nat.le_of_ble_eq_true rfl) ?_
  have hi : i < ws.length := (List.getElem?_eq_some_iff.mp h).1
  show AN l G (rmN 2 7 100) _ _ "<init>" RX5 cX5_init 1 none 0 0 0 [some (.ref (G.2.1 + i))] [] ws
  refine n_aload_n dX5_init_0 rfl ?_
  refine n_obj dX5_init_1 ol_5 (by decide) (by decide) rfl ?_
  generalize hE : EN G 7 100 (ws.set i (.inr (5, FS5 G ws.length)) ++ NW5 G ws.length) = E
  rw [← wl_id h]
  unfold df5
  refine n_aload_n dX5_init_4 rfl ?_
  refine n_bipush (v := 8) dX5_init_5 (by decide) ?_
  refine n_arr (a0 := (8, .inl (fun _ => 0))) hi rfl dX5_init_7 dX5_init_9 rfl ac_i (t0 := 0) rfl (fun _ _ h => h) (fun _ => rfl) (by decide) (by decide) (by decide) (ci := 5) (j := 0) rfl (by decide) (by simp) fc_5_11 rfl rfl rfl (fun _ => rfl) (fun _ => rfl) (Nat.le_of_ble_eq_true rfl) (Nat.le_of_ble_eq_true rfl) ?_
  refine n_aload_n dX5_init_12 rfl ?_
  refine n_bipush (v := 56) dX5_init_13 (by decide) ?_
  refine n_arr (a0 := (56, .inr (.inl (fun _ => 0)))) hi rfl dX5_init_15 dX5_init_17 rfl ac_l (t0 := 2) rfl (fun _ _ h => h) (fun _ => rfl) (by decide) (by decide) (by decide) (ci := 5) (j := 1) rfl (by decide) (by simp) fc_5_15 rfl rfl rfl (fun _ => rfl) (fun _ => rfl) (Nat.le_of_ble_eq_true rfl) (Nat.le_of_ble_eq_true rfl) ?_
  refine n_aload_n dX5_init_20 rfl ?_
  refine n_bipush (v := 7) dX5_init_21 (by decide) ?_
  refine n_arr (a0 := (7, .inl (fun _ => 0))) hi rfl dX5_init_23 dX5_init_25 rfl ac_i (t0 := 0) rfl (fun _ _ h => h) (fun _ => rfl) (by decide) (by decide) (by decide) (ci := 5) (j := 2) rfl (by decide) (by simp) fc_5_19 rfl rfl rfl (fun _ => rfl) (fun _ => rfl) (Nat.le_of_ble_eq_true rfl) (Nat.le_of_ble_eq_true rfl) ?_
  refine n_aload_n dX5_init_28 rfl ?_
  refine n_bipush (v := 7) dX5_init_29 (by decide) ?_
  refine n_arr (a0 := (7, .inl (fun _ => 0))) hi rfl dX5_init_31 dX5_init_33 rfl ac_i (t0 := 0) rfl (fun _ _ h => h) (fun _ => rfl) (by decide) (by decide) (by decide) (ci := 5) (j := 3) rfl (by decide) (by simp) fc_5_22 rfl rfl rfl (fun _ => rfl) (fun _ => rfl) (Nat.le_of_ble_eq_true rfl) (Nat.le_of_ble_eq_true rfl) ?_
  refine n_aload_n dX5_init_36 rfl ?_
  refine n_bipush (v := 8) dX5_init_37 (by decide) ?_
  refine n_arr (a0 := (8, .inl (fun _ => 0))) hi rfl dX5_init_39 dX5_init_41 rfl ac_i (t0 := 0) rfl (fun _ _ h => h) (fun _ => rfl) (by decide) (by decide) (by decide) (ci := 5) (j := 4) rfl (by decide) (by simp) fc_5_25 rfl rfl rfl (fun _ => rfl) (fun _ => rfl) (Nat.le_of_ble_eq_true rfl) (Nat.le_of_ble_eq_true rfl) ?_
  refine n_aload_n dX5_init_44 rfl ?_
  refine n_bipush (v := 7) dX5_init_45 (by decide) ?_
  refine n_arr (a0 := (7, .inr (.inl (fun _ => 0)))) hi rfl dX5_init_47 dX5_init_49 rfl ac_l (t0 := 2) rfl (fun _ _ h => h) (fun _ => rfl) (by decide) (by decide) (by decide) (ci := 5) (j := 5) rfl (by decide) (by simp) fc_5_28 rfl rfl rfl (fun _ => rfl) (fun _ => rfl) (Nat.le_of_ble_eq_true rfl) (Nat.le_of_ble_eq_true rfl) ?_
  refine n_aload_n dX5_init_52 rfl ?_
  refine n_bipush (v := 7) dX5_init_53 (by decide) ?_
  refine n_arr (a0 := (7, .inl (fun _ => 0))) hi rfl dX5_init_55 dX5_init_57 rfl ac_i (t0 := 0) rfl (fun _ _ h => h) (fun _ => rfl) (by decide) (by decide) (by decide) (ci := 5) (j := 6) rfl (by decide) (by simp) fc_5_31 rfl rfl rfl (fun _ => rfl) (fun _ => rfl) (Nat.le_of_ble_eq_true rfl) (Nat.le_of_ble_eq_true rfl) ?_
  rw [← hE]
  exact n_vret dX5_init_60
theorem dX2_init_0 : decode cX2_init 0 = .ok (.aload_n 0, 1) := by decide +kernel
theorem dX2_init_1 : decode cX2_init 1 = .ok (.invokespecial 3, 3) := by decide +kernel
theorem dX2_init_4 : decode cX2_init 4 = .ok (.aload_n 0, 1) := by decide +kernel
theorem dX2_init_5 : decode cX2_init 5 = .ok (.bipush 8, 2) := by decide +kernel
theorem dX2_init_7 : decode cX2_init 7 = .ok (.newarray .int, 2) := by decide +kernel
theorem dX2_init_9 : decode cX2_init 9 = .ok (.putfield 9, 3) := by decide +kernel
theorem dX2_init_12 : decode cX2_init 12 = .ok (.return_, 1) := by decide +kernel
theorem ol_2 : Cond.methodLink RX2 3 objectInit ∈ gtbl := memI 230 (by decide +kernel) (by decide +kernel)
theorem wi_2 : WI yX2_init cX2_init 1 0 := ⟨memI 229 (by decide +kernel) (by decide +kernel), memI 75 (by decide +kernel) (by decide +kernel), memI 228 (by decide +kernel) (by decide +kernel), rfl, by decide +kernel⟩
theorem fc_2_9 : Cond.fieldLink RX2 9 (TX2 0).1 (TX2 0).2.1 (TX2 0).2.2.1 ∈ gtbl := memI 231 (by decide +kernel) (by decide +kernel)
def FS2 (G : GG) (n : Nat) : List Value := [.ref (G.2.1 + (n + 0)), .int 0, .int 0]
def NW2 (G : GG) (_ : Nat) : List va_E := [.inl (G.2.2.2.1.1, 8, .inl (fun _ => 0))]
def df2 : List Value := [.null, .int 0, .int 0]
theorem k_2 {l : Launch} {G : GG} (ws : List va_E) (i : Nat) (h : ws[i]? = some (.inr (2, df2))) : Nt l G 2 yX2_init cX2_init 1 1 8 [.ref (G.2.1 + i)] ws (ws.set i (.inr (2, FS2 G ws.length)) ++ NW2 G ws.length) := by
  refine Nt.of (by decide) rfl (Nat.le_of_ble_eq_true rfl) ?_
  have hi : i < ws.length := (List.getElem?_eq_some_iff.mp h).1
  show AN l G (rmN 2 1 8) _ _ "<init>" RX2 cX2_init 1 none 0 0 0 [some (.ref (G.2.1 + i))] [] ws
  refine n_aload_n dX2_init_0 rfl ?_
  refine n_obj dX2_init_1 ol_2 (by decide) (by decide) rfl ?_
  generalize hE : EN G 1 8 (ws.set i (.inr (2, FS2 G ws.length)) ++ NW2 G ws.length) = E
  rw [← wl_id h]
  unfold df2
  refine n_aload_n dX2_init_4 rfl ?_
  refine n_bipush (v := 8) dX2_init_5 (by decide) ?_
  refine n_arr (a0 := (8, .inl (fun _ => 0))) hi rfl dX2_init_7 dX2_init_9 rfl ac_i (t0 := 0) rfl (fun _ _ h => h) (fun _ => rfl) (by decide) (by decide) (by decide) (ci := 2) (j := 0) rfl (by decide) (by simp) fc_2_9 rfl rfl rfl (fun _ => rfl) (fun _ => rfl) (Nat.le_of_ble_eq_true rfl) (Nat.le_of_ble_eq_true rfl) ?_
  rw [← hE]
  exact n_vret dX2_init_12
theorem dX4_init_0 : decode cX4_init 0 = .ok (.aload_n 0, 1) := by decide +kernel
theorem dX4_init_1 : decode cX4_init 1 = .ok (.invokespecial 3, 3) := by decide +kernel
theorem dX4_init_4 : decode cX4_init 4 = .ok (.aload_n 0, 1) := by decide +kernel
theorem dX4_init_5 : decode cX4_init 5 = .ok (.bipush 6, 2) := by decide +kernel
theorem dX4_init_7 : decode cX4_init 7 = .ok (.newarray .int, 2) := by decide +kernel
theorem dX4_init_9 : decode cX4_init 9 = .ok (.putfield 9, 3) := by decide +kernel
theorem dX4_init_12 : decode cX4_init 12 = .ok (.aload_n 0, 1) := by decide +kernel
theorem dX4_init_13 : decode cX4_init 13 = .ok (.bipush 6, 2) := by decide +kernel
theorem dX4_init_15 : decode cX4_init 15 = .ok (.newarray .int, 2) := by decide +kernel
theorem dX4_init_17 : decode cX4_init 17 = .ok (.putfield 15, 3) := by decide +kernel
theorem dX4_init_20 : decode cX4_init 20 = .ok (.aload_n 0, 1) := by decide +kernel
theorem dX4_init_21 : decode cX4_init 21 = .ok (.bipush 6, 2) := by decide +kernel
theorem dX4_init_23 : decode cX4_init 23 = .ok (.newarray .int, 2) := by decide +kernel
theorem dX4_init_25 : decode cX4_init 25 = .ok (.putfield 18, 3) := by decide +kernel
theorem dX4_init_28 : decode cX4_init 28 = .ok (.aload_n 0, 1) := by decide +kernel
theorem dX4_init_29 : decode cX4_init 29 = .ok (.bipush 6, 2) := by decide +kernel
theorem dX4_init_31 : decode cX4_init 31 = .ok (.newarray .int, 2) := by decide +kernel
theorem dX4_init_33 : decode cX4_init 33 = .ok (.putfield 21, 3) := by decide +kernel
theorem dX4_init_36 : decode cX4_init 36 = .ok (.aload_n 0, 1) := by decide +kernel
theorem dX4_init_37 : decode cX4_init 37 = .ok (.bipush 6, 2) := by decide +kernel
theorem dX4_init_39 : decode cX4_init 39 = .ok (.newarray .int, 2) := by decide +kernel
theorem dX4_init_41 : decode cX4_init 41 = .ok (.putfield 24, 3) := by decide +kernel
theorem dX4_init_44 : decode cX4_init 44 = .ok (.aload_n 0, 1) := by decide +kernel
theorem dX4_init_45 : decode cX4_init 45 = .ok (.bipush 6, 2) := by decide +kernel
theorem dX4_init_47 : decode cX4_init 47 = .ok (.newarray .int, 2) := by decide +kernel
theorem dX4_init_49 : decode cX4_init 49 = .ok (.putfield 27, 3) := by decide +kernel
theorem dX4_init_52 : decode cX4_init 52 = .ok (.aload_n 0, 1) := by decide +kernel
theorem dX4_init_53 : decode cX4_init 53 = .ok (.bipush 6, 2) := by decide +kernel
theorem dX4_init_55 : decode cX4_init 55 = .ok (.newarray .int, 2) := by decide +kernel
theorem dX4_init_57 : decode cX4_init 57 = .ok (.putfield 30, 3) := by decide +kernel
theorem dX4_init_60 : decode cX4_init 60 = .ok (.aload_n 0, 1) := by decide +kernel
theorem dX4_init_61 : decode cX4_init 61 = .ok (.bipush 6, 2) := by decide +kernel
theorem dX4_init_63 : decode cX4_init 63 = .ok (.newarray .int, 2) := by decide +kernel
theorem dX4_init_65 : decode cX4_init 65 = .ok (.putfield 33, 3) := by decide +kernel
theorem dX4_init_68 : decode cX4_init 68 = .ok (.aload_n 0, 1) := by decide +kernel
theorem dX4_init_69 : decode cX4_init 69 = .ok (.bipush 6, 2) := by decide +kernel
theorem dX4_init_71 : decode cX4_init 71 = .ok (.newarray .int, 2) := by decide +kernel
theorem dX4_init_73 : decode cX4_init 73 = .ok (.putfield 36, 3) := by decide +kernel
theorem dX4_init_76 : decode cX4_init 76 = .ok (.aload_n 0, 1) := by decide +kernel
theorem dX4_init_77 : decode cX4_init 77 = .ok (.bipush 6, 2) := by decide +kernel
theorem dX4_init_79 : decode cX4_init 79 = .ok (.newarray .int, 2) := by decide +kernel
theorem dX4_init_81 : decode cX4_init 81 = .ok (.putfield 39, 3) := by decide +kernel
theorem dX4_init_84 : decode cX4_init 84 = .ok (.aload_n 0, 1) := by decide +kernel
theorem dX4_init_85 : decode cX4_init 85 = .ok (.bipush 6, 2) := by decide +kernel
theorem dX4_init_87 : decode cX4_init 87 = .ok (.newarray .int, 2) := by decide +kernel
theorem dX4_init_89 : decode cX4_init 89 = .ok (.putfield 42, 3) := by decide +kernel
theorem dX4_init_92 : decode cX4_init 92 = .ok (.aload_n 0, 1) := by decide +kernel
theorem dX4_init_93 : decode cX4_init 93 = .ok (.iconst 1, 1) := by decide +kernel
theorem dX4_init_94 : decode cX4_init 94 = .ok (.putfield 45, 3) := by decide +kernel
theorem dX4_init_97 : decode cX4_init 97 = .ok (.return_, 1) := by decide +kernel
theorem ol_4 : Cond.methodLink RX4 3 objectInit ∈ gtbl := memI 249 (by decide +kernel) (by decide +kernel)
theorem wi_4 : WI yX4_init cX4_init 1 0 := ⟨memI 248 (by decide +kernel) (by decide +kernel), memI 76 (by decide +kernel) (by decide +kernel), memI 247 (by decide +kernel) (by decide +kernel), rfl, by decide +kernel⟩
theorem fc_4_9 : Cond.fieldLink RX4 9 (TX4 0).1 (TX4 0).2.1 (TX4 0).2.2.1 ∈ gtbl := memI 250 (by decide +kernel) (by decide +kernel)
theorem fc_4_15 : Cond.fieldLink RX4 15 (TX4 1).1 (TX4 1).2.1 (TX4 1).2.2.1 ∈ gtbl := memI 252 (by decide +kernel) (by decide +kernel)
theorem fc_4_18 : Cond.fieldLink RX4 18 (TX4 2).1 (TX4 2).2.1 (TX4 2).2.2.1 ∈ gtbl := memI 254 (by decide +kernel) (by decide +kernel)
theorem fc_4_21 : Cond.fieldLink RX4 21 (TX4 3).1 (TX4 3).2.1 (TX4 3).2.2.1 ∈ gtbl := memI 256 (by decide +kernel) (by decide +kernel)
theorem fc_4_24 : Cond.fieldLink RX4 24 (TX4 4).1 (TX4 4).2.1 (TX4 4).2.2.1 ∈ gtbl := memI 259 (by decide +kernel) (by decide +kernel)
theorem fc_4_27 : Cond.fieldLink RX4 27 (TX4 5).1 (TX4 5).2.1 (TX4 5).2.2.1 ∈ gtbl := memI 261 (by decide +kernel) (by decide +kernel)
theorem fc_4_30 : Cond.fieldLink RX4 30 (TX4 6).1 (TX4 6).2.1 (TX4 6).2.2.1 ∈ gtbl := memI 264 (by decide +kernel) (by decide +kernel)
theorem fc_4_33 : Cond.fieldLink RX4 33 (TX4 7).1 (TX4 7).2.1 (TX4 7).2.2.1 ∈ gtbl := memI 266 (by decide +kernel) (by decide +kernel)
theorem fc_4_36 : Cond.fieldLink RX4 36 (TX4 8).1 (TX4 8).2.1 (TX4 8).2.2.1 ∈ gtbl := memI 268 (by decide +kernel) (by decide +kernel)
theorem fc_4_39 : Cond.fieldLink RX4 39 (TX4 9).1 (TX4 9).2.1 (TX4 9).2.2.1 ∈ gtbl := memI 270 (by decide +kernel) (by decide +kernel)
theorem fc_4_42 : Cond.fieldLink RX4 42 (TX4 10).1 (TX4 10).2.1 (TX4 10).2.2.1 ∈ gtbl := memI 272 (by decide +kernel) (by decide +kernel)
theorem fc_4_45 : Cond.fieldLink RX4 45 (TX4 12).1 (TX4 12).2.1 (TX4 12).2.2.1 ∈ gtbl := memI 277 (by decide +kernel) (by decide +kernel)
def FS4 (G : GG) (n : Nat) : List Value := [.ref (G.2.1 + (n + 0)), .ref (G.2.1 + (n + 1)), .ref (G.2.1 + (n + 2)), .ref (G.2.1 + (n + 3)), .ref (G.2.1 + (n + 4)), .ref (G.2.1 + (n + 5)), .ref (G.2.1 + (n + 6)), .ref (G.2.1 + (n + 7)), .ref (G.2.1 + (n + 8)), .ref (G.2.1 + (n + 9)), .ref (G.2.1 + (n + 10)), .int 0, .int 1]
def NW4 (G : GG) (_ : Nat) : List va_E := [.inl (G.2.2.2.1.1, 6, .inl (fun _ => 0)), .inl (G.2.2.2.1.1, 6, .inl (fun _ => 0)), .inl (G.2.2.2.1.1, 6, .inl (fun _ => 0)), .inl (G.2.2.2.1.1, 6, .inl (fun _ => 0)), .inl (G.2.2.2.1.1, 6, .inl (fun _ => 0)), .inl (G.2.2.2.1.1, 6, .inl (fun _ => 0)), .inl (G.2.2.2.1.1, 6, .inl (fun _ => 0)), .inl (G.2.2.2.1.1, 6, .inl (fun _ => 0)), .inl (G.2.2.2.1.1, 6, .inl (fun _ => 0)), .inl (G.2.2.2.1.1, 6, .inl (fun _ => 0)), .inl (G.2.2.2.1.1, 6, .inl (fun _ => 0))]
def df4 : List Value := [.null, .null, .null, .null, .null, .null, .null, .null, .null, .null, .null, .int 0, .int 0]
theorem k_4 {l : Launch} {G : GG} (ws : List va_E) (i : Nat) (h : ws[i]? = some (.inr (4, df4))) : Nt l G 2 yX4_init cX4_init 1 11 66 [.ref (G.2.1 + i)] ws (ws.set i (.inr (4, FS4 G ws.length)) ++ NW4 G ws.length) := by
  refine Nt.of (by decide) rfl (Nat.le_of_ble_eq_true rfl) ?_
  have hi : i < ws.length := (List.getElem?_eq_some_iff.mp h).1
  show AN l G (rmN 2 11 66) _ _ "<init>" RX4 cX4_init 1 none 0 0 0 [some (.ref (G.2.1 + i))] [] ws
  refine n_aload_n dX4_init_0 rfl ?_
  refine n_obj dX4_init_1 ol_4 (by decide) (by decide) rfl ?_
  generalize hE : EN G 11 66 (ws.set i (.inr (4, FS4 G ws.length)) ++ NW4 G ws.length) = E
  rw [← wl_id h]
  unfold df4
  refine n_aload_n dX4_init_4 rfl ?_
  refine n_bipush (v := 6) dX4_init_5 (by decide) ?_
  refine n_arr (a0 := (6, .inl (fun _ => 0))) hi rfl dX4_init_7 dX4_init_9 rfl ac_i (t0 := 0) rfl (fun _ _ h => h) (fun _ => rfl) (by decide) (by decide) (by decide) (ci := 4) (j := 0) rfl (by decide) (by simp) fc_4_9 rfl rfl rfl (fun _ => rfl) (fun _ => rfl) (Nat.le_of_ble_eq_true rfl) (Nat.le_of_ble_eq_true rfl) ?_
  refine n_aload_n dX4_init_12 rfl ?_
  refine n_bipush (v := 6) dX4_init_13 (by decide) ?_
  refine n_arr (a0 := (6, .inl (fun _ => 0))) hi rfl dX4_init_15 dX4_init_17 rfl ac_i (t0 := 0) rfl (fun _ _ h => h) (fun _ => rfl) (by decide) (by decide) (by decide) (ci := 4) (j := 1) rfl (by decide) (by simp) fc_4_15 rfl rfl rfl (fun _ => rfl) (fun _ => rfl) (Nat.le_of_ble_eq_true rfl) (Nat.le_of_ble_eq_true rfl) ?_
  refine n_aload_n dX4_init_20 rfl ?_
  refine n_bipush (v := 6) dX4_init_21 (by decide) ?_
  refine n_arr (a0 := (6, .inl (fun _ => 0))) hi rfl dX4_init_23 dX4_init_25 rfl ac_i (t0 := 0) rfl (fun _ _ h => h) (fun _ => rfl) (by decide) (by decide) (by decide) (ci := 4) (j := 2) rfl (by decide) (by simp) fc_4_18 rfl rfl rfl (fun _ => rfl) (fun _ => rfl) (Nat.le_of_ble_eq_true rfl) (Nat.le_of_ble_eq_true rfl) ?_
  refine n_aload_n dX4_init_28 rfl ?_
  refine n_bipush (v := 6) dX4_init_29 (by decide) ?_
  refine n_arr (a0 := (6, .inl (fun _ => 0))) hi rfl dX4_init_31 dX4_init_33 rfl ac_i (t0 := 0) rfl (fun _ _ h => h) (fun _ => rfl) (by decide) (by decide) (by decide) (ci := 4) (j := 3) rfl (by decide) (by simp) fc_4_21 rfl rfl rfl (fun _ => rfl) (fun _ => rfl) (Nat.le_of_ble_eq_true rfl) (Nat.le_of_ble_eq_true rfl) ?_
  refine n_aload_n dX4_init_36 rfl ?_
  refine n_bipush (v := 6) dX4_init_37 (by decide) ?_
  refine n_arr (a0 := (6, .inl (fun _ => 0))) hi rfl dX4_init_39 dX4_init_41 rfl ac_i (t0 := 0) rfl (fun _ _ h => h) (fun _ => rfl) (by decide) (by decide) (by decide) (ci := 4) (j := 4) rfl (by decide) (by simp) fc_4_24 rfl rfl rfl (fun _ => rfl) (fun _ => rfl) (Nat.le_of_ble_eq_true rfl) (Nat.le_of_ble_eq_true rfl) ?_
  refine n_aload_n dX4_init_44 rfl ?_
  refine n_bipush (v := 6) dX4_init_45 (by decide) ?_
  refine n_arr (a0 := (6, .inl (fun _ => 0))) hi rfl dX4_init_47 dX4_init_49 rfl ac_i (t0 := 0) rfl (fun _ _ h => h) (fun _ => rfl) (by decide) (by decide) (by decide) (ci := 4) (j := 5) rfl (by decide) (by simp) fc_4_27 rfl rfl rfl (fun _ => rfl) (fun _ => rfl) (Nat.le_of_ble_eq_true rfl) (Nat.le_of_ble_eq_true rfl) ?_
  refine n_aload_n dX4_init_52 rfl ?_
  refine n_bipush (v := 6) dX4_init_53 (by decide) ?_
  refine n_arr (a0 := (6, .inl (fun _ => 0))) hi rfl dX4_init_55 dX4_init_57 rfl ac_i (t0 := 0) rfl (fun _ _ h => h) (fun _ => rfl) (by decide) (by decide) (by decide) (ci := 4) (j := 6) rfl (by decide) (by simp) fc_4_30 rfl rfl rfl (fun _ => rfl) (fun _ => rfl) (Nat.le_of_ble_eq_true rfl) (Nat.le_of_ble_eq_true rfl) ?_
  refine n_aload_n dX4_init_60 rfl ?_
  refine n_bipush (v := 6) dX4_init_61 (by decide) ?_
  refine n_arr (a0 := (6, .inl (fun _ => 0))) hi rfl dX4_init_63 dX4_init_65 rfl ac_i (t0 := 0) rfl (fun _ _ h => h) (fun _ => rfl) (by decide) (by decide) (by decide) (ci := 4) (j := 7) rfl (by decide) (by simp) fc_4_33 rfl rfl rfl (fun _ => rfl) (fun _ => rfl) (Nat.le_of_ble_eq_true rfl) (Nat.le_of_ble_eq_true rfl) ?_
  refine n_aload_n dX4_init_68 rfl ?_
  refine n_bipush (v := 6) dX4_init_69 (by decide) ?_
  refine n_arr (a0 := (6, .inl (fun _ => 0))) hi rfl dX4_init_71 dX4_init_73 rfl ac_i (t0 := 0) rfl (fun _ _ h => h) (fun _ => rfl) (by decide) (by decide) (by decide) (ci := 4) (j := 8) rfl (by decide) (by simp) fc_4_36 rfl rfl rfl (fun _ => rfl) (fun _ => rfl) (Nat.le_of_ble_eq_true rfl) (Nat.le_of_ble_eq_true rfl) ?_
  refine n_aload_n dX4_init_76 rfl ?_
  refine n_bipush (v := 6) dX4_init_77 (by decide) ?_
  refine n_arr (a0 := (6, .inl (fun _ => 0))) hi rfl dX4_init_79 dX4_init_81 rfl ac_i (t0 := 0) rfl (fun _ _ h => h) (fun _ => rfl) (by decide) (by decide) (by decide) (ci := 4) (j := 9) rfl (by decide) (by simp) fc_4_39 rfl rfl rfl (fun _ => rfl) (fun _ => rfl) (Nat.le_of_ble_eq_true rfl) (Nat.le_of_ble_eq_true rfl) ?_
  refine n_aload_n dX4_init_84 rfl ?_
  refine n_bipush (v := 6) dX4_init_85 (by decide) ?_
  refine n_arr (a0 := (6, .inl (fun _ => 0))) hi rfl dX4_init_87 dX4_init_89 rfl ac_i (t0 := 0) rfl (fun _ _ h => h) (fun _ => rfl) (by decide) (by decide) (by decide) (ci := 4) (j := 10) rfl (by decide) (by simp) fc_4_42 rfl rfl rfl (fun _ => rfl) (fun _ => rfl) (Nat.le_of_ble_eq_true rfl) (Nat.le_of_ble_eq_true rfl) ?_
  refine n_aload_n dX4_init_92 rfl ?_
  refine n_iconst (v := 1) dX4_init_93 (by decide) ?_
  refine n_putN (i := i) dX4_init_94 (wl_at hi) rfl (j := 12) (by decide) (by simp) fc_4_45 rfl rfl rfl rfl ?_
  rw [wl_set hi]
  rw [← hE]
  exact n_vret dX4_init_97
theorem dX3_init_0 : decode cX3_init 0 = .ok (.aload_n 0, 1) := by decide +kernel
theorem dX3_init_1 : decode cX3_init 1 = .ok (.invokespecial 3, 3) := by decide +kernel
theorem dX3_init_4 : decode cX3_init 4 = .ok (.aload_n 0, 1) := by decide +kernel
theorem dX3_init_5 : decode cX3_init 5 = .ok (.bipush 8, 2) := by decide +kernel
theorem dX3_init_7 : decode cX3_init 7 = .ok (.newarray .int, 2) := by decide +kernel
theorem dX3_init_9 : decode cX3_init 9 = .ok (.putfield 9, 3) := by decide +kernel
theorem dX3_init_12 : decode cX3_init 12 = .ok (.aload_n 0, 1) := by decide +kernel
theorem dX3_init_13 : decode cX3_init 13 = .ok (.bipush 8, 2) := by decide +kernel
theorem dX3_init_15 : decode cX3_init 15 = .ok (.newarray .int, 2) := by decide +kernel
theorem dX3_init_17 : decode cX3_init 17 = .ok (.putfield 15, 3) := by decide +kernel
theorem dX3_init_20 : decode cX3_init 20 = .ok (.aload_n 0, 1) := by decide +kernel
theorem dX3_init_21 : decode cX3_init 21 = .ok (.bipush 8, 2) := by decide +kernel
theorem dX3_init_23 : decode cX3_init 23 = .ok (.newarray .int, 2) := by decide +kernel
theorem dX3_init_25 : decode cX3_init 25 = .ok (.putfield 18, 3) := by decide +kernel
theorem dX3_init_28 : decode cX3_init 28 = .ok (.aload_n 0, 1) := by decide +kernel
theorem dX3_init_29 : decode cX3_init 29 = .ok (.bipush 8, 2) := by decide +kernel
theorem dX3_init_31 : decode cX3_init 31 = .ok (.newarray .int, 2) := by decide +kernel
theorem dX3_init_33 : decode cX3_init 33 = .ok (.putfield 21, 3) := by decide +kernel
theorem dX3_init_36 : decode cX3_init 36 = .ok (.aload_n 0, 1) := by decide +kernel
theorem dX3_init_37 : decode cX3_init 37 = .ok (.bipush 8, 2) := by decide +kernel
theorem dX3_init_39 : decode cX3_init 39 = .ok (.newarray .int, 2) := by decide +kernel
theorem dX3_init_41 : decode cX3_init 41 = .ok (.putfield 24, 3) := by decide +kernel
theorem dX3_init_44 : decode cX3_init 44 = .ok (.return_, 1) := by decide +kernel
theorem ol_3 : Cond.methodLink RX3 3 objectInit ∈ gtbl := memI 311 (by decide +kernel) (by decide +kernel)
theorem wi_3 : WI yX3_init cX3_init 1 0 := ⟨memI 310 (by decide +kernel) (by decide +kernel), memI 77 (by decide +kernel) (by decide +kernel), memI 309 (by decide +kernel) (by decide +kernel), rfl, by decide +kernel⟩
theorem fc_3_9 : Cond.fieldLink RX3 9 (TX3 0).1 (TX3 0).2.1 (TX3 0).2.2.1 ∈ gtbl := memI 312 (by decide +kernel) (by decide +kernel)
theorem fc_3_15 : Cond.fieldLink RX3 15 (TX3 1).1 (TX3 1).2.1 (TX3 1).2.2.1 ∈ gtbl := memI 315 (by decide +kernel) (by decide +kernel)
theorem fc_3_18 : Cond.fieldLink RX3 18 (TX3 2).1 (TX3 2).2.1 (TX3 2).2.2.1 ∈ gtbl := memI 318 (by decide +kernel) (by decide +kernel)
theorem fc_3_21 : Cond.fieldLink RX3 21 (TX3 3).1 (TX3 3).2.1 (TX3 3).2.2.1 ∈ gtbl := memI 321 (by decide +kernel) (by decide +kernel)
theorem fc_3_24 : Cond.fieldLink RX3 24 (TX3 4).1 (TX3 4).2.1 (TX3 4).2.2.1 ∈ gtbl := memI 324 (by decide +kernel) (by decide +kernel)
def FS3 (G : GG) (n : Nat) : List Value := [.ref (G.2.1 + (n + 0)), .ref (G.2.1 + (n + 1)), .ref (G.2.1 + (n + 2)), .ref (G.2.1 + (n + 3)), .ref (G.2.1 + (n + 4)), .int 0]
def NW3 (G : GG) (_ : Nat) : List va_E := [.inl (G.2.2.2.1.1, 8, .inl (fun _ => 0)), .inl (G.2.2.2.1.1, 8, .inl (fun _ => 0)), .inl (G.2.2.2.1.1, 8, .inl (fun _ => 0)), .inl (G.2.2.2.1.1, 8, .inl (fun _ => 0)), .inl (G.2.2.2.1.1, 8, .inl (fun _ => 0))]
def df3 : List Value := [.null, .null, .null, .null, .null, .int 0]
theorem k_3 {l : Launch} {G : GG} (ws : List va_E) (i : Nat) (h : ws[i]? = some (.inr (3, df3))) : Nt l G 2 yX3_init cX3_init 1 5 40 [.ref (G.2.1 + i)] ws (ws.set i (.inr (3, FS3 G ws.length)) ++ NW3 G ws.length) := by
  refine Nt.of (by decide) rfl (Nat.le_of_ble_eq_true rfl) ?_
  have hi : i < ws.length := (List.getElem?_eq_some_iff.mp h).1
  show AN l G (rmN 2 5 40) _ _ "<init>" RX3 cX3_init 1 none 0 0 0 [some (.ref (G.2.1 + i))] [] ws
  refine n_aload_n dX3_init_0 rfl ?_
  refine n_obj dX3_init_1 ol_3 (by decide) (by decide) rfl ?_
  generalize hE : EN G 5 40 (ws.set i (.inr (3, FS3 G ws.length)) ++ NW3 G ws.length) = E
  rw [← wl_id h]
  unfold df3
  refine n_aload_n dX3_init_4 rfl ?_
  refine n_bipush (v := 8) dX3_init_5 (by decide) ?_
  refine n_arr (a0 := (8, .inl (fun _ => 0))) hi rfl dX3_init_7 dX3_init_9 rfl ac_i (t0 := 0) rfl (fun _ _ h => h) (fun _ => rfl) (by decide) (by decide) (by decide) (ci := 3) (j := 0) rfl (by decide) (by simp) fc_3_9 rfl rfl rfl (fun _ => rfl) (fun _ => rfl) (Nat.le_of_ble_eq_true rfl) (Nat.le_of_ble_eq_true rfl) ?_
  refine n_aload_n dX3_init_12 rfl ?_
  refine n_bipush (v := 8) dX3_init_13 (by decide) ?_
  refine n_arr (a0 := (8, .inl (fun _ => 0))) hi rfl dX3_init_15 dX3_init_17 rfl ac_i (t0 := 0) rfl (fun _ _ h => h) (fun _ => rfl) (by decide) (by decide) (by decide) (ci := 3) (j := 1) rfl (by decide) (by simp) fc_3_15 rfl rfl rfl (fun _ => rfl) (fun _ => rfl) (Nat.le_of_ble_eq_true rfl) (Nat.le_of_ble_eq_true rfl) ?_
  refine n_aload_n dX3_init_20 rfl ?_
  refine n_bipush (v := 8) dX3_init_21 (by decide) ?_
  refine n_arr (a0 := (8, .inl (fun _ => 0))) hi rfl dX3_init_23 dX3_init_25 rfl ac_i (t0 := 0) rfl (fun _ _ h => h) (fun _ => rfl) (by decide) (by decide) (by decide) (ci := 3) (j := 2) rfl (by decide) (by simp) fc_3_18 rfl rfl rfl (fun _ => rfl) (fun _ => rfl) (Nat.le_of_ble_eq_true rfl) (Nat.le_of_ble_eq_true rfl) ?_
  refine n_aload_n dX3_init_28 rfl ?_
  refine n_bipush (v := 8) dX3_init_29 (by decide) ?_
  refine n_arr (a0 := (8, .inl (fun _ => 0))) hi rfl dX3_init_31 dX3_init_33 rfl ac_i (t0 := 0) rfl (fun _ _ h => h) (fun _ => rfl) (by decide) (by decide) (by decide) (ci := 3) (j := 3) rfl (by decide) (by simp) fc_3_21 rfl rfl rfl (fun _ => rfl) (fun _ => rfl) (Nat.le_of_ble_eq_true rfl) (Nat.le_of_ble_eq_true rfl) ?_
  refine n_aload_n dX3_init_36 rfl ?_
  refine n_bipush (v := 8) dX3_init_37 (by decide) ?_
  refine n_arr (a0 := (8, .inl (fun _ => 0))) hi rfl dX3_init_39 dX3_init_41 rfl ac_i (t0 := 0) rfl (fun _ _ h => h) (fun _ => rfl) (by decide) (by decide) (by decide) (ci := 3) (j := 4) rfl (by decide) (by simp) fc_3_24 rfl rfl rfl (fun _ => rfl) (fun _ => rfl) (Nat.le_of_ble_eq_true rfl) (Nat.le_of_ble_eq_true rfl) ?_
  rw [← hE]
  exact n_vret dX3_init_44
theorem dX9_init_0 : decode cX9_init 0 = .ok (.aload_n 0, 1) := by decide +kernel
theorem dX9_init_1 : decode cX9_init 1 = .ok (.invokespecial 3, 3) := by decide +kernel
theorem dX9_init_4 : decode cX9_init 4 = .ok (.aload_n 0, 1) := by decide +kernel
theorem dX9_init_5 : decode cX9_init 5 = .ok (.bipush 40, 2) := by decide +kernel
theorem dX9_init_7 : decode cX9_init 7 = .ok (.newarray .int, 2) := by decide +kernel
theorem dX9_init_9 : decode cX9_init 9 = .ok (.putfield 9, 3) := by decide +kernel
theorem dX9_init_12 : decode cX9_init 12 = .ok (.aload_n 0, 1) := by decide +kernel
theorem dX9_init_13 : decode cX9_init 13 = .ok (.bipush 40, 2) := by decide +kernel
theorem dX9_init_15 : decode cX9_init 15 = .ok (.newarray .int, 2) := by decide +kernel
theorem dX9_init_17 : decode cX9_init 17 = .ok (.putfield 15, 3) := by decide +kernel
theorem dX9_init_20 : decode cX9_init 20 = .ok (.aload_n 0, 1) := by decide +kernel
theorem dX9_init_21 : decode cX9_init 21 = .ok (.bipush 40, 2) := by decide +kernel
theorem dX9_init_23 : decode cX9_init 23 = .ok (.newarray .int, 2) := by decide +kernel
theorem dX9_init_25 : decode cX9_init 25 = .ok (.putfield 18, 3) := by decide +kernel
theorem dX9_init_28 : decode cX9_init 28 = .ok (.aload_n 0, 1) := by decide +kernel
theorem dX9_init_29 : decode cX9_init 29 = .ok (.bipush 40, 2) := by decide +kernel
theorem dX9_init_31 : decode cX9_init 31 = .ok (.newarray .int, 2) := by decide +kernel
theorem dX9_init_33 : decode cX9_init 33 = .ok (.putfield 21, 3) := by decide +kernel
theorem dX9_init_36 : decode cX9_init 36 = .ok (.aload_n 0, 1) := by decide +kernel
theorem dX9_init_37 : decode cX9_init 37 = .ok (.bipush 40, 2) := by decide +kernel
theorem dX9_init_39 : decode cX9_init 39 = .ok (.newarray .int, 2) := by decide +kernel
theorem dX9_init_41 : decode cX9_init 41 = .ok (.putfield 24, 3) := by decide +kernel
theorem dX9_init_44 : decode cX9_init 44 = .ok (.aload_n 0, 1) := by decide +kernel
theorem dX9_init_45 : decode cX9_init 45 = .ok (.bipush 40, 2) := by decide +kernel
theorem dX9_init_47 : decode cX9_init 47 = .ok (.newarray .int, 2) := by decide +kernel
theorem dX9_init_49 : decode cX9_init 49 = .ok (.putfield 27, 3) := by decide +kernel
theorem dX9_init_52 : decode cX9_init 52 = .ok (.aload_n 0, 1) := by decide +kernel
theorem dX9_init_53 : decode cX9_init 53 = .ok (.bipush 40, 2) := by decide +kernel
theorem dX9_init_55 : decode cX9_init 55 = .ok (.newarray .int, 2) := by decide +kernel
theorem dX9_init_57 : decode cX9_init 57 = .ok (.putfield 30, 3) := by decide +kernel
theorem dX9_init_60 : decode cX9_init 60 = .ok (.aload_n 0, 1) := by decide +kernel
theorem dX9_init_61 : decode cX9_init 61 = .ok (.bipush 40, 2) := by decide +kernel
theorem dX9_init_63 : decode cX9_init 63 = .ok (.newarray .int, 2) := by decide +kernel
theorem dX9_init_65 : decode cX9_init 65 = .ok (.putfield 33, 3) := by decide +kernel
theorem dX9_init_68 : decode cX9_init 68 = .ok (.aload_n 0, 1) := by decide +kernel
theorem dX9_init_69 : decode cX9_init 69 = .ok (.bipush 40, 2) := by decide +kernel
theorem dX9_init_71 : decode cX9_init 71 = .ok (.newarray .int, 2) := by decide +kernel
theorem dX9_init_73 : decode cX9_init 73 = .ok (.putfield 36, 3) := by decide +kernel
theorem dX9_init_76 : decode cX9_init 76 = .ok (.return_, 1) := by decide +kernel
theorem ol_9 : Cond.methodLink RX9 3 objectInit ∈ gtbl := memI 349 (by decide +kernel) (by decide +kernel)
theorem wi_9 : WI yX9_init cX9_init 1 0 := ⟨memI 348 (by decide +kernel) (by decide +kernel), memI 78 (by decide +kernel) (by decide +kernel), memI 347 (by decide +kernel) (by decide +kernel), rfl, by decide +kernel⟩
theorem fc_9_9 : Cond.fieldLink RX9 9 (TX9 0).1 (TX9 0).2.1 (TX9 0).2.2.1 ∈ gtbl := memI 350 (by decide +kernel) (by decide +kernel)
theorem fc_9_15 : Cond.fieldLink RX9 15 (TX9 1).1 (TX9 1).2.1 (TX9 1).2.2.1 ∈ gtbl := memI 353 (by decide +kernel) (by decide +kernel)
theorem fc_9_18 : Cond.fieldLink RX9 18 (TX9 2).1 (TX9 2).2.1 (TX9 2).2.2.1 ∈ gtbl := memI 355 (by decide +kernel) (by decide +kernel)
theorem fc_9_21 : Cond.fieldLink RX9 21 (TX9 3).1 (TX9 3).2.1 (TX9 3).2.2.1 ∈ gtbl := memI 356 (by decide +kernel) (by decide +kernel)
theorem fc_9_24 : Cond.fieldLink RX9 24 (TX9 4).1 (TX9 4).2.1 (TX9 4).2.2.1 ∈ gtbl := memI 358 (by decide +kernel) (by decide +kernel)
theorem fc_9_27 : Cond.fieldLink RX9 27 (TX9 5).1 (TX9 5).2.1 (TX9 5).2.2.1 ∈ gtbl := memI 362 (by decide +kernel) (by decide +kernel)
theorem fc_9_30 : Cond.fieldLink RX9 30 (TX9 6).1 (TX9 6).2.1 (TX9 6).2.2.1 ∈ gtbl := memI 365 (by decide +kernel) (by decide +kernel)
theorem fc_9_33 : Cond.fieldLink RX9 33 (TX9 7).1 (TX9 7).2.1 (TX9 7).2.2.1 ∈ gtbl := memI 368 (by decide +kernel) (by decide +kernel)
theorem fc_9_36 : Cond.fieldLink RX9 36 (TX9 8).1 (TX9 8).2.1 (TX9 8).2.2.1 ∈ gtbl := memI 371 (by decide +kernel) (by decide +kernel)
def FS9 (G : GG) (n : Nat) : List Value := [.ref (G.2.1 + (n + 0)), .ref (G.2.1 + (n + 1)), .ref (G.2.1 + (n + 2)), .ref (G.2.1 + (n + 3)), .ref (G.2.1 + (n + 4)), .ref (G.2.1 + (n + 5)), .ref (G.2.1 + (n + 6)), .ref (G.2.1 + (n + 7)), .ref (G.2.1 + (n + 8)), .int 0]
def NW9 (G : GG) (_ : Nat) : List va_E := [.inl (G.2.2.2.1.1, 40, .inl (fun _ => 0)), .inl (G.2.2.2.1.1, 40, .inl (fun _ => 0)), .inl (G.2.2.2.1.1, 40, .inl (fun _ => 0)), .inl (G.2.2.2.1.1, 40, .inl (fun _ => 0)), .inl (G.2.2.2.1.1, 40, .inl (fun _ => 0)), .inl (G.2.2.2.1.1, 40, .inl (fun _ => 0)), .inl (G.2.2.2.1.1, 40, .inl (fun _ => 0)), .inl (G.2.2.2.1.1, 40, .inl (fun _ => 0)), .inl (G.2.2.2.1.1, 40, .inl (fun _ => 0))]
def df9 : List Value := [.null, .null, .null, .null, .null, .null, .null, .null, .null, .int 0]
theorem k_9 {l : Launch} {G : GG} (ws : List va_E) (i : Nat) (h : ws[i]? = some (.inr (9, df9))) : Nt l G 2 yX9_init cX9_init 1 9 360 [.ref (G.2.1 + i)] ws (ws.set i (.inr (9, FS9 G ws.length)) ++ NW9 G ws.length) := by
  refine Nt.of (by decide) rfl (Nat.le_of_ble_eq_true rfl) ?_
  have hi : i < ws.length := (List.getElem?_eq_some_iff.mp h).1
  show AN l G (rmN 2 9 360) _ _ "<init>" RX9 cX9_init 1 none 0 0 0 [some (.ref (G.2.1 + i))] [] ws
  refine n_aload_n dX9_init_0 rfl ?_
  refine n_obj dX9_init_1 ol_9 (by decide) (by decide) rfl ?_
  generalize hE : EN G 9 360 (ws.set i (.inr (9, FS9 G ws.length)) ++ NW9 G ws.length) = E
  rw [← wl_id h]
  unfold df9
  refine n_aload_n dX9_init_4 rfl ?_
  refine n_bipush (v := 40) dX9_init_5 (by decide) ?_
  refine n_arr (a0 := (40, .inl (fun _ => 0))) hi rfl dX9_init_7 dX9_init_9 rfl ac_i (t0 := 0) rfl (fun _ _ h => h) (fun _ => rfl) (by decide) (by decide) (by decide) (ci := 9) (j := 0) rfl (by decide) (by simp) fc_9_9 rfl rfl rfl (fun _ => rfl) (fun _ => rfl) (Nat.le_of_ble_eq_true rfl) (Nat.le_of_ble_eq_true rfl) ?_
  refine n_aload_n dX9_init_12 rfl ?_
  refine n_bipush (v := 40) dX9_init_13 (by decide) ?_
  refine n_arr (a0 := (40, .inl (fun _ => 0))) hi rfl dX9_init_15 dX9_init_17 rfl ac_i (t0 := 0) rfl (fun _ _ h => h) (fun _ => rfl) (by decide) (by decide) (by decide) (ci := 9) (j := 1) rfl (by decide) (by simp) fc_9_15 rfl rfl rfl (fun _ => rfl) (fun _ => rfl) (Nat.le_of_ble_eq_true rfl) (Nat.le_of_ble_eq_true rfl) ?_
  refine n_aload_n dX9_init_20 rfl ?_
  refine n_bipush (v := 40) dX9_init_21 (by decide) ?_
  refine n_arr (a0 := (40, .inl (fun _ => 0))) hi rfl dX9_init_23 dX9_init_25 rfl ac_i (t0 := 0) rfl (fun _ _ h => h) (fun _ => rfl) (by decide) (by decide) (by decide) (ci := 9) (j := 2) rfl (by decide) (by simp) fc_9_18 rfl rfl rfl (fun _ => rfl) (fun _ => rfl) (Nat.le_of_ble_eq_true rfl) (Nat.le_of_ble_eq_true rfl) ?_
  refine n_aload_n dX9_init_28 rfl ?_
  refine n_bipush (v := 40) dX9_init_29 (by decide) ?_
  refine n_arr (a0 := (40, .inl (fun _ => 0))) hi rfl dX9_init_31 dX9_init_33 rfl ac_i (t0 := 0) rfl (fun _ _ h => h) (fun _ => rfl) (by decide) (by decide) (by decide) (ci := 9) (j := 3) rfl (by decide) (by simp) fc_9_21 rfl rfl rfl (fun _ => rfl) (fun _ => rfl) (Nat.le_of_ble_eq_true rfl) (Nat.le_of_ble_eq_true rfl) ?_
  refine n_aload_n dX9_init_36 rfl ?_
  refine n_bipush (v := 40) dX9_init_37 (by decide) ?_
  refine n_arr (a0 := (40, .inl (fun _ => 0))) hi rfl dX9_init_39 dX9_init_41 rfl ac_i (t0 := 0) rfl (fun _ _ h => h) (fun _ => rfl) (by decide) (by decide) (by decide) (ci := 9) (j := 4) rfl (by decide) (by simp) fc_9_24 rfl rfl rfl (fun _ => rfl) (fun _ => rfl) (Nat.le_of_ble_eq_true rfl) (Nat.le_of_ble_eq_true rfl) ?_
  refine n_aload_n dX9_init_44 rfl ?_
  refine n_bipush (v := 40) dX9_init_45 (by decide) ?_
  refine n_arr (a0 := (40, .inl (fun _ => 0))) hi rfl dX9_init_47 dX9_init_49 rfl ac_i (t0 := 0) rfl (fun _ _ h => h) (fun _ => rfl) (by decide) (by decide) (by decide) (ci := 9) (j := 5) rfl (by decide) (by simp) fc_9_27 rfl rfl rfl (fun _ => rfl) (fun _ => rfl) (Nat.le_of_ble_eq_true rfl) (Nat.le_of_ble_eq_true rfl) ?_
  refine n_aload_n dX9_init_52 rfl ?_
  refine n_bipush (v := 40) dX9_init_53 (by decide) ?_
  refine n_arr (a0 := (40, .inl (fun _ => 0))) hi rfl dX9_init_55 dX9_init_57 rfl ac_i (t0 := 0) rfl (fun _ _ h => h) (fun _ => rfl) (by decide) (by decide) (by decide) (ci := 9) (j := 6) rfl (by decide) (by simp) fc_9_30 rfl rfl rfl (fun _ => rfl) (fun _ => rfl) (Nat.le_of_ble_eq_true rfl) (Nat.le_of_ble_eq_true rfl) ?_
  refine n_aload_n dX9_init_60 rfl ?_
  refine n_bipush (v := 40) dX9_init_61 (by decide) ?_
  refine n_arr (a0 := (40, .inl (fun _ => 0))) hi rfl dX9_init_63 dX9_init_65 rfl ac_i (t0 := 0) rfl (fun _ _ h => h) (fun _ => rfl) (by decide) (by decide) (by decide) (ci := 9) (j := 7) rfl (by decide) (by simp) fc_9_33 rfl rfl rfl (fun _ => rfl) (fun _ => rfl) (Nat.le_of_ble_eq_true rfl) (Nat.le_of_ble_eq_true rfl) ?_
  refine n_aload_n dX9_init_68 rfl ?_
  refine n_bipush (v := 40) dX9_init_69 (by decide) ?_
  refine n_arr (a0 := (40, .inl (fun _ => 0))) hi rfl dX9_init_71 dX9_init_73 rfl ac_i (t0 := 0) rfl (fun _ _ h => h) (fun _ => rfl) (by decide) (by decide) (by decide) (ci := 9) (j := 8) rfl (by decide) (by simp) fc_9_36 rfl rfl rfl (fun _ => rfl) (fun _ => rfl) (Nat.le_of_ble_eq_true rfl) (Nat.le_of_ble_eq_true rfl) ?_
  rw [← hE]
  exact n_vret dX9_init_76
theorem dX0_init_0 : decode cX0_init 0 = .ok (.aload_n 0, 1) := by decide +kernel
theorem dX0_init_1 : decode cX0_init 1 = .ok (.invokespecial 3, 3) := by decide +kernel
theorem dX0_init_4 : decode cX0_init 4 = .ok (.aload_n 0, 1) := by decide +kernel
theorem dX0_init_5 : decode cX0_init 5 = .ok (.bipush 10, 2) := by decide +kernel
theorem dX0_init_7 : decode cX0_init 7 = .ok (.newarray .int, 2) := by decide +kernel
theorem dX0_init_9 : decode cX0_init 9 = .ok (.putfield 9, 3) := by decide +kernel
theorem dX0_init_12 : decode cX0_init 12 = .ok (.aload_n 0, 1) := by decide +kernel
theorem dX0_init_13 : decode cX0_init 13 = .ok (.bipush 10, 2) := by decide +kernel
theorem dX0_init_15 : decode cX0_init 15 = .ok (.newarray .int, 2) := by decide +kernel
theorem dX0_init_17 : decode cX0_init 17 = .ok (.putfield 15, 3) := by decide +kernel
theorem dX0_init_20 : decode cX0_init 20 = .ok (.aload_n 0, 1) := by decide +kernel
theorem dX0_init_21 : decode cX0_init 21 = .ok (.bipush 10, 2) := by decide +kernel
theorem dX0_init_23 : decode cX0_init 23 = .ok (.newarray .int, 2) := by decide +kernel
theorem dX0_init_25 : decode cX0_init 25 = .ok (.putfield 18, 3) := by decide +kernel
theorem dX0_init_28 : decode cX0_init 28 = .ok (.return_, 1) := by decide +kernel
theorem ol_0 : Cond.methodLink RX0 3 objectInit ∈ gtbl := memI 404 (by decide +kernel) (by decide +kernel)
theorem wi_0 : WI yX0_init cX0_init 1 0 := ⟨memI 403 (by decide +kernel) (by decide +kernel), memI 79 (by decide +kernel) (by decide +kernel), memI 402 (by decide +kernel) (by decide +kernel), rfl, by decide +kernel⟩
theorem fc_0_9 : Cond.fieldLink RX0 9 (TX0 0).1 (TX0 0).2.1 (TX0 0).2.2.1 ∈ gtbl := memI 405 (by decide +kernel) (by decide +kernel)
theorem fc_0_15 : Cond.fieldLink RX0 15 (TX0 1).1 (TX0 1).2.1 (TX0 1).2.2.1 ∈ gtbl := memI 407 (by decide +kernel) (by decide +kernel)
theorem fc_0_18 : Cond.fieldLink RX0 18 (TX0 2).1 (TX0 2).2.1 (TX0 2).2.2.1 ∈ gtbl := memI 409 (by decide +kernel) (by decide +kernel)
def FS0 (G : GG) (n : Nat) : List Value := [.ref (G.2.1 + (n + 0)), .ref (G.2.1 + (n + 1)), .ref (G.2.1 + (n + 2)), .int 0, .int 0]
def NW0 (G : GG) (_ : Nat) : List va_E := [.inl (G.2.2.2.1.1, 10, .inl (fun _ => 0)), .inl (G.2.2.2.1.1, 10, .inl (fun _ => 0)), .inl (G.2.2.2.1.1, 10, .inl (fun _ => 0))]
def df0 : List Value := [.null, .null, .null, .int 0, .int 0]
theorem k_0 {l : Launch} {G : GG} (ws : List va_E) (i : Nat) (h : ws[i]? = some (.inr (0, df0))) : Nt l G 2 yX0_init cX0_init 1 3 30 [.ref (G.2.1 + i)] ws (ws.set i (.inr (0, FS0 G ws.length)) ++ NW0 G ws.length) := by
  refine Nt.of (by decide) rfl (Nat.le_of_ble_eq_true rfl) ?_
  have hi : i < ws.length := (List.getElem?_eq_some_iff.mp h).1
  show AN l G (rmN 2 3 30) _ _ "<init>" RX0 cX0_init 1 none 0 0 0 [some (.ref (G.2.1 + i))] [] ws
  refine n_aload_n dX0_init_0 rfl ?_
  refine n_obj dX0_init_1 ol_0 (by decide) (by decide) rfl ?_
  generalize hE : EN G 3 30 (ws.set i (.inr (0, FS0 G ws.length)) ++ NW0 G ws.length) = E
  rw [← wl_id h]
  unfold df0
  refine n_aload_n dX0_init_4 rfl ?_
  refine n_bipush (v := 10) dX0_init_5 (by decide) ?_
  refine n_arr (a0 := (10, .inl (fun _ => 0))) hi rfl dX0_init_7 dX0_init_9 rfl ac_i (t0 := 0) rfl (fun _ _ h => h) (fun _ => rfl) (by decide) (by decide) (by decide) (ci := 0) (j := 0) rfl (by decide) (by simp) fc_0_9 rfl rfl rfl (fun _ => rfl) (fun _ => rfl) (Nat.le_of_ble_eq_true rfl) (Nat.le_of_ble_eq_true rfl) ?_
  refine n_aload_n dX0_init_12 rfl ?_
  refine n_bipush (v := 10) dX0_init_13 (by decide) ?_
  refine n_arr (a0 := (10, .inl (fun _ => 0))) hi rfl dX0_init_15 dX0_init_17 rfl ac_i (t0 := 0) rfl (fun _ _ h => h) (fun _ => rfl) (by decide) (by decide) (by decide) (ci := 0) (j := 1) rfl (by decide) (by simp) fc_0_15 rfl rfl rfl (fun _ => rfl) (fun _ => rfl) (Nat.le_of_ble_eq_true rfl) (Nat.le_of_ble_eq_true rfl) ?_
  refine n_aload_n dX0_init_20 rfl ?_
  refine n_bipush (v := 10) dX0_init_21 (by decide) ?_
  refine n_arr (a0 := (10, .inl (fun _ => 0))) hi rfl dX0_init_23 dX0_init_25 rfl ac_i (t0 := 0) rfl (fun _ _ h => h) (fun _ => rfl) (by decide) (by decide) (by decide) (ci := 0) (j := 2) rfl (by decide) (by simp) fc_0_18 rfl rfl rfl (fun _ => rfl) (fun _ => rfl) (Nat.le_of_ble_eq_true rfl) (Nat.le_of_ble_eq_true rfl) ?_
  rw [← hE]
  exact n_vret dX0_init_28
theorem dX11_init_0 : decode cX11_init 0 = .ok (.aload_n 0, 1) := by decide +kernel
theorem dX11_init_1 : decode cX11_init 1 = .ok (.invokespecial 66, 3) := by decide +kernel
theorem dX11_init_4 : decode cX11_init 4 = .ok (.aload_n 0, 1) := by decide +kernel
theorem dX11_init_5 : decode cX11_init 5 = .ok (.sipush 740, 3) := by decide +kernel
theorem dX11_init_8 : decode cX11_init 8 = .ok (.newarray .int, 2) := by decide +kernel
theorem dX11_init_10 : decode cX11_init 10 = .ok (.putfield 7, 3) := by decide +kernel
theorem dX11_init_13 : decode cX11_init 13 = .ok (.aload_n 0, 1) := by decide +kernel
theorem dX11_init_14 : decode cX11_init 14 = .ok (.sipush 631, 3) := by decide +kernel
theorem dX11_init_17 : decode cX11_init 17 = .ok (.newarray .int, 2) := by decide +kernel
theorem dX11_init_19 : decode cX11_init 19 = .ok (.putfield 72, 3) := by decide +kernel
theorem dX11_init_22 : decode cX11_init 22 = .ok (.aload_n 0, 1) := by decide +kernel
theorem dX11_init_23 : decode cX11_init 23 = .ok (.sipush 631, 3) := by decide +kernel
theorem dX11_init_26 : decode cX11_init 26 = .ok (.newarray .int, 2) := by decide +kernel
theorem dX11_init_28 : decode cX11_init 28 = .ok (.putfield 75, 3) := by decide +kernel
theorem dX11_init_31 : decode cX11_init 31 = .ok (.aload_n 0, 1) := by decide +kernel
theorem dX11_init_32 : decode cX11_init 32 = .ok (.sipush 6310, 3) := by decide +kernel
theorem dX11_init_35 : decode cX11_init 35 = .ok (.newarray .int, 2) := by decide +kernel
theorem dX11_init_37 : decode cX11_init 37 = .ok (.putfield 78, 3) := by decide +kernel
theorem dX11_init_40 : decode cX11_init 40 = .ok (.aload_n 0, 1) := by decide +kernel
theorem dX11_init_41 : decode cX11_init 41 = .ok (.bipush 6, 2) := by decide +kernel
theorem dX11_init_43 : decode cX11_init 43 = .ok (.newarray .int, 2) := by decide +kernel
theorem dX11_init_45 : decode cX11_init 45 = .ok (.putfield 81, 3) := by decide +kernel
theorem dX11_init_48 : decode cX11_init 48 = .ok (.aload_n 0, 1) := by decide +kernel
theorem dX11_init_49 : decode cX11_init 49 = .ok (.bipush 6, 2) := by decide +kernel
theorem dX11_init_51 : decode cX11_init 51 = .ok (.newarray .int, 2) := by decide +kernel
theorem dX11_init_53 : decode cX11_init 53 = .ok (.putfield 84, 3) := by decide +kernel
theorem dX11_init_56 : decode cX11_init 56 = .ok (.aload_n 0, 1) := by decide +kernel
theorem dX11_init_57 : decode cX11_init 57 = .ok (.bipush 40, 2) := by decide +kernel
theorem dX11_init_59 : decode cX11_init 59 = .ok (.newarray .int, 2) := by decide +kernel
theorem dX11_init_61 : decode cX11_init 61 = .ok (.putfield 87, 3) := by decide +kernel
theorem dX11_init_64 : decode cX11_init 64 = .ok (.aload_n 0, 1) := by decide +kernel
theorem dX11_init_65 : decode cX11_init 65 = .ok (.bipush 6, 2) := by decide +kernel
theorem dX11_init_67 : decode cX11_init 67 = .ok (.newarray .int, 2) := by decide +kernel
theorem dX11_init_69 : decode cX11_init 69 = .ok (.putfield 90, 3) := by decide +kernel
theorem dX11_init_72 : decode cX11_init 72 = .ok (.aload_n 0, 1) := by decide +kernel
theorem dX11_init_73 : decode cX11_init 73 = .ok (.bipush 6, 2) := by decide +kernel
theorem dX11_init_75 : decode cX11_init 75 = .ok (.newarray .int, 2) := by decide +kernel
theorem dX11_init_77 : decode cX11_init 77 = .ok (.putfield 93, 3) := by decide +kernel
theorem dX11_init_80 : decode cX11_init 80 = .ok (.aload_n 0, 1) := by decide +kernel
theorem dX11_init_81 : decode cX11_init 81 = .ok (.bipush 40, 2) := by decide +kernel
theorem dX11_init_83 : decode cX11_init 83 = .ok (.newarray .boolean, 2) := by decide +kernel
theorem dX11_init_85 : decode cX11_init 85 = .ok (.putfield 96, 3) := by decide +kernel
theorem dX11_init_88 : decode cX11_init 88 = .ok (.aload_n 0, 1) := by decide +kernel
theorem dX11_init_89 : decode cX11_init 89 = .ok (.bipush 6, 2) := by decide +kernel
theorem dX11_init_91 : decode cX11_init 91 = .ok (.newarray .int, 2) := by decide +kernel
theorem dX11_init_93 : decode cX11_init 93 = .ok (.putfield 100, 3) := by decide +kernel
theorem dX11_init_96 : decode cX11_init 96 = .ok (.aload_n 0, 1) := by decide +kernel
theorem dX11_init_97 : decode cX11_init 97 = .ok (.getfield 72, 3) := by decide +kernel
theorem dX11_init_100 : decode cX11_init 100 = .ok (.iconst 1, 1) := by decide +kernel
theorem dX11_init_101 : decode cX11_init 101 = .ok (.iconst 1, 1) := by decide +kernel
theorem dX11_init_102 : decode cX11_init 102 = .ok (.iastore, 1) := by decide +kernel
theorem dX11_init_103 : decode cX11_init 103 = .ok (.return_, 1) := by decide +kernel
theorem ol_11 : Cond.methodLink RX11 66 objectInit ∈ gtbl := memI 1042 (by decide +kernel) (by decide +kernel)
theorem wi_11 : WI yX11_init cX11_init 1 0 := ⟨memI 1041 (by decide +kernel) (by decide +kernel), memI 80 (by decide +kernel) (by decide +kernel), memI 1040 (by decide +kernel) (by decide +kernel), rfl, by decide +kernel⟩
theorem fc_11_7 : Cond.fieldLink RX11 7 (TX11 1).1 (TX11 1).2.1 (TX11 1).2.2.1 ∈ gtbl := memI 1044 (by decide +kernel) (by decide +kernel)
theorem fc_11_72 : Cond.fieldLink RX11 72 (TX11 11).1 (TX11 11).2.1 (TX11 11).2.2.1 ∈ gtbl := memI 1054 (by decide +kernel) (by decide +kernel)
theorem fc_11_75 : Cond.fieldLink RX11 75 (TX11 12).1 (TX11 12).2.1 (TX11 12).2.2.1 ∈ gtbl := memI 1055 (by decide +kernel) (by decide +kernel)
theorem fc_11_78 : Cond.fieldLink RX11 78 (TX11 13).1 (TX11 13).2.1 (TX11 13).2.2.1 ∈ gtbl := memI 1056 (by decide +kernel) (by decide +kernel)
theorem fc_11_81 : Cond.fieldLink RX11 81 (TX11 16).1 (TX11 16).2.1 (TX11 16).2.2.1 ∈ gtbl := memI 1059 (by decide +kernel) (by decide +kernel)
theorem fc_11_84 : Cond.fieldLink RX11 84 (TX11 17).1 (TX11 17).2.1 (TX11 17).2.2.1 ∈ gtbl := memI 1060 (by decide +kernel) (by decide +kernel)
theorem fc_11_87 : Cond.fieldLink RX11 87 (TX11 18).1 (TX11 18).2.1 (TX11 18).2.2.1 ∈ gtbl := memI 1061 (by decide +kernel) (by decide +kernel)
theorem fc_11_90 : Cond.fieldLink RX11 90 (TX11 19).1 (TX11 19).2.1 (TX11 19).2.2.1 ∈ gtbl := memI 1062 (by decide +kernel) (by decide +kernel)
theorem fc_11_93 : Cond.fieldLink RX11 93 (TX11 20).1 (TX11 20).2.1 (TX11 20).2.2.1 ∈ gtbl := memI 1063 (by decide +kernel) (by decide +kernel)
theorem fc_11_96 : Cond.fieldLink RX11 96 (TX11 21).1 (TX11 21).2.1 (TX11 21).2.2.1 ∈ gtbl := memI 1064 (by decide +kernel) (by decide +kernel)
theorem fc_11_100 : Cond.fieldLink RX11 100 (TX11 24).1 (TX11 24).2.1 (TX11 24).2.2.1 ∈ gtbl := memI 1067 (by decide +kernel) (by decide +kernel)
def FS11 (G : GG) (n : Nat) : List Value := [.int 0, .ref (G.2.1 + (n + 0)), .int 0, .int 0, .int 0, .int 0, .int 0, .int 0, .int 0, .int 0, .long 0, .ref (G.2.1 + (n + 1)), .ref (G.2.1 + (n + 2)), .ref (G.2.1 + (n + 3)), .int 0, .int 0, .ref (G.2.1 + (n + 4)), .ref (G.2.1 + (n + 5)), .ref (G.2.1 + (n + 6)), .ref (G.2.1 + (n + 7)), .ref (G.2.1 + (n + 8)), .ref (G.2.1 + (n + 9)), .int 0, .int 0, .ref (G.2.1 + (n + 10))]
def NW11 (G : GG) (_ : Nat) : List va_E := [.inl (G.2.2.2.1.1, 740, .inl (fun _ => 0)), .inl (G.2.2.2.1.1, 631, .inl (fun q => if q = (1 : Int32).toNatClampNeg then 1 else 0)), .inl (G.2.2.2.1.1, 631, .inl (fun _ => 0)), .inl (G.2.2.2.1.1, 6310, .inl (fun _ => 0)), .inl (G.2.2.2.1.1, 6, .inl (fun _ => 0)), .inl (G.2.2.2.1.1, 6, .inl (fun _ => 0)), .inl (G.2.2.2.1.1, 40, .inl (fun _ => 0)), .inl (G.2.2.2.1.1, 6, .inl (fun _ => 0)), .inl (G.2.2.2.1.1, 6, .inl (fun _ => 0)), .inl (G.2.2.2.1.2.2.2, 40, .inl (fun _ => 0)), .inl (G.2.2.2.1.1, 6, .inl (fun _ => 0))]
def df11 : List Value := [.int 0, .null, .int 0, .int 0, .int 0, .int 0, .int 0, .int 0, .int 0, .int 0, .long 0, .null, .null, .null, .int 0, .int 0, .null, .null, .null, .null, .null, .null, .int 0, .int 0, .null]
theorem k_11 {l : Launch} {G : GG} (ws : List va_E) (i : Nat) (h : ws[i]? = some (.inr (11, df11))) : Nt l G 2 yX11_init cX11_init 1 11 8422 [.ref (G.2.1 + i)] ws (ws.set i (.inr (11, FS11 G ws.length)) ++ NW11 G ws.length) := by
  refine Nt.of (by decide) rfl (Nat.le_of_ble_eq_true rfl) ?_
  have hi : i < ws.length := (List.getElem?_eq_some_iff.mp h).1
  show AN l G (rmN 2 11 8422) _ _ "<init>" RX11 cX11_init 1 none 0 0 0 [some (.ref (G.2.1 + i))] [] ws
  refine n_aload_n dX11_init_0 rfl ?_
  refine n_obj dX11_init_1 ol_11 (by decide) (by decide) rfl ?_
  generalize hE : EN G 11 8422 (ws.set i (.inr (11, FS11 G ws.length)) ++ NW11 G ws.length) = E
  rw [← wl_id h]
  unfold df11
  refine n_aload_n dX11_init_4 rfl ?_
  refine n_sipush (v := 740) dX11_init_5 (by decide) ?_
  refine n_arr (a0 := (740, .inl (fun _ => 0))) hi rfl dX11_init_8 dX11_init_10 rfl ac_i (t0 := 0) rfl (fun _ _ h => h) (fun _ => rfl) (by decide) (by decide) (by decide) (ci := 11) (j := 1) rfl (by decide) (by simp) fc_11_7 rfl rfl rfl (fun _ => rfl) (fun _ => rfl) (Nat.le_of_ble_eq_true rfl) (Nat.le_of_ble_eq_true rfl) ?_
  refine n_aload_n dX11_init_13 rfl ?_
  refine n_sipush (v := 631) dX11_init_14 (by decide) ?_
  refine n_arr (a0 := (631, .inl (fun _ => 0))) hi rfl dX11_init_17 dX11_init_19 rfl ac_i (t0 := 0) rfl (fun _ _ h => h) (fun _ => rfl) (by decide) (by decide) (by decide) (ci := 11) (j := 11) rfl (by decide) (by simp) fc_11_72 rfl rfl rfl (fun _ => rfl) (fun _ => rfl) (Nat.le_of_ble_eq_true rfl) (Nat.le_of_ble_eq_true rfl) ?_
  refine n_aload_n dX11_init_22 rfl ?_
  refine n_sipush (v := 631) dX11_init_23 (by decide) ?_
  refine n_arr (a0 := (631, .inl (fun _ => 0))) hi rfl dX11_init_26 dX11_init_28 rfl ac_i (t0 := 0) rfl (fun _ _ h => h) (fun _ => rfl) (by decide) (by decide) (by decide) (ci := 11) (j := 12) rfl (by decide) (by simp) fc_11_75 rfl rfl rfl (fun _ => rfl) (fun _ => rfl) (Nat.le_of_ble_eq_true rfl) (Nat.le_of_ble_eq_true rfl) ?_
  refine n_aload_n dX11_init_31 rfl ?_
  refine n_sipush (v := 6310) dX11_init_32 (by decide) ?_
  refine n_arr (a0 := (6310, .inl (fun _ => 0))) hi rfl dX11_init_35 dX11_init_37 rfl ac_i (t0 := 0) rfl (fun _ _ h => h) (fun _ => rfl) (by decide) (by decide) (by decide) (ci := 11) (j := 13) rfl (by decide) (by simp) fc_11_78 rfl rfl rfl (fun _ => rfl) (fun _ => rfl) (Nat.le_of_ble_eq_true rfl) (Nat.le_of_ble_eq_true rfl) ?_
  refine n_aload_n dX11_init_40 rfl ?_
  refine n_bipush (v := 6) dX11_init_41 (by decide) ?_
  refine n_arr (a0 := (6, .inl (fun _ => 0))) hi rfl dX11_init_43 dX11_init_45 rfl ac_i (t0 := 0) rfl (fun _ _ h => h) (fun _ => rfl) (by decide) (by decide) (by decide) (ci := 11) (j := 16) rfl (by decide) (by simp) fc_11_81 rfl rfl rfl (fun _ => rfl) (fun _ => rfl) (Nat.le_of_ble_eq_true rfl) (Nat.le_of_ble_eq_true rfl) ?_
  refine n_aload_n dX11_init_48 rfl ?_
  refine n_bipush (v := 6) dX11_init_49 (by decide) ?_
  refine n_arr (a0 := (6, .inl (fun _ => 0))) hi rfl dX11_init_51 dX11_init_53 rfl ac_i (t0 := 0) rfl (fun _ _ h => h) (fun _ => rfl) (by decide) (by decide) (by decide) (ci := 11) (j := 17) rfl (by decide) (by simp) fc_11_84 rfl rfl rfl (fun _ => rfl) (fun _ => rfl) (Nat.le_of_ble_eq_true rfl) (Nat.le_of_ble_eq_true rfl) ?_
  refine n_aload_n dX11_init_56 rfl ?_
  refine n_bipush (v := 40) dX11_init_57 (by decide) ?_
  refine n_arr (a0 := (40, .inl (fun _ => 0))) hi rfl dX11_init_59 dX11_init_61 rfl ac_i (t0 := 0) rfl (fun _ _ h => h) (fun _ => rfl) (by decide) (by decide) (by decide) (ci := 11) (j := 18) rfl (by decide) (by simp) fc_11_87 rfl rfl rfl (fun _ => rfl) (fun _ => rfl) (Nat.le_of_ble_eq_true rfl) (Nat.le_of_ble_eq_true rfl) ?_
  refine n_aload_n dX11_init_64 rfl ?_
  refine n_bipush (v := 6) dX11_init_65 (by decide) ?_
  refine n_arr (a0 := (6, .inl (fun _ => 0))) hi rfl dX11_init_67 dX11_init_69 rfl ac_i (t0 := 0) rfl (fun _ _ h => h) (fun _ => rfl) (by decide) (by decide) (by decide) (ci := 11) (j := 19) rfl (by decide) (by simp) fc_11_90 rfl rfl rfl (fun _ => rfl) (fun _ => rfl) (Nat.le_of_ble_eq_true rfl) (Nat.le_of_ble_eq_true rfl) ?_
  refine n_aload_n dX11_init_72 rfl ?_
  refine n_bipush (v := 6) dX11_init_73 (by decide) ?_
  refine n_arr (a0 := (6, .inl (fun _ => 0))) hi rfl dX11_init_75 dX11_init_77 rfl ac_i (t0 := 0) rfl (fun _ _ h => h) (fun _ => rfl) (by decide) (by decide) (by decide) (ci := 11) (j := 20) rfl (by decide) (by simp) fc_11_93 rfl rfl rfl (fun _ => rfl) (fun _ => rfl) (Nat.le_of_ble_eq_true rfl) (Nat.le_of_ble_eq_true rfl) ?_
  refine n_aload_n dX11_init_80 rfl ?_
  refine n_bipush (v := 40) dX11_init_81 (by decide) ?_
  refine n_arr (a0 := (40, .inl (fun _ => 0))) hi rfl dX11_init_83 dX11_init_85 rfl ac_z (t0 := 3) rfl (fun _ _ h => h) (fun _ => rfl) (by decide) (by decide) (by decide) (ci := 11) (j := 21) rfl (by decide) (by simp) fc_11_96 rfl rfl rfl (fun _ => rfl) (fun _ => rfl) (Nat.le_of_ble_eq_true rfl) (Nat.le_of_ble_eq_true rfl) ?_
  refine n_aload_n dX11_init_88 rfl ?_
  refine n_bipush (v := 6) dX11_init_89 (by decide) ?_
  refine n_arr (a0 := (6, .inl (fun _ => 0))) hi rfl dX11_init_91 dX11_init_93 rfl ac_i (t0 := 0) rfl (fun _ _ h => h) (fun _ => rfl) (by decide) (by decide) (by decide) (ci := 11) (j := 24) rfl (by decide) (by simp) fc_11_100 rfl rfl rfl (fun _ => rfl) (fun _ => rfl) (Nat.le_of_ble_eq_true rfl) (Nat.le_of_ble_eq_true rfl) ?_
  refine n_aload_n dX11_init_96 rfl ?_
  refine n_get (i := i) (v := .ref (G.2.1 + (ws.length + 1))) dX11_init_97 (wl_at hi) rfl (j := 11) (by decide) fc_11_72 rfl ?_
  refine n_iconst (v := 1) dX11_init_100 (by decide) ?_
  refine n_iconst (v := 1) dX11_init_101 (by decide) ?_
  refine n_iast (i := ws.length + 1) (n := 631) (f := fun _ => 0) dX11_init_102 (wl_in.trans rfl) (by rw [vp_in_iff]; decide) ?_
  rw [wl_seti]
  rw [← hE]
  exact n_vret dX11_init_103
