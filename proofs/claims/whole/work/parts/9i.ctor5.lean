/-! the office's constructor -/
theorem dX10_init_0 : decode cX10_init 0 = .ok (.aload_n 0, 1) := by decide +kernel
theorem dX10_init_1 : decode cX10_init 1 = .ok (.invokespecial 1, 3) := by decide +kernel
theorem dX10_init_4 : decode cX10_init 4 = .ok (.aload_n 0, 1) := by decide +kernel
theorem dX10_init_5 : decode cX10_init 5 = .ok (.new 7, 3) := by decide +kernel
theorem dX10_init_8 : decode cX10_init 8 = .ok (.dup, 1) := by decide +kernel
theorem dX10_init_9 : decode cX10_init 9 = .ok (.invokespecial 9, 3) := by decide +kernel
theorem dX10_init_12 : decode cX10_init 12 = .ok (.putfield 10, 3) := by decide +kernel
theorem dX10_init_15 : decode cX10_init 15 = .ok (.aload_n 0, 1) := by decide +kernel
theorem dX10_init_16 : decode cX10_init 16 = .ok (.new 16, 3) := by decide +kernel
theorem dX10_init_19 : decode cX10_init 19 = .ok (.dup, 1) := by decide +kernel
theorem dX10_init_20 : decode cX10_init 20 = .ok (.new 18, 3) := by decide +kernel
theorem dX10_init_23 : decode cX10_init 23 = .ok (.dup, 1) := by decide +kernel
theorem dX10_init_24 : decode cX10_init 24 = .ok (.aload_n 0, 1) := by decide +kernel
theorem dX10_init_25 : decode cX10_init 25 = .ok (.getfield 10, 3) := by decide +kernel
theorem dX10_init_28 : decode cX10_init 28 = .ok (.invokespecial 20, 3) := by decide +kernel
theorem dX10_init_31 : decode cX10_init 31 = .ok (.invokespecial 23, 3) := by decide +kernel
theorem dX10_init_34 : decode cX10_init 34 = .ok (.putfield 26, 3) := by decide +kernel
theorem dX10_init_37 : decode cX10_init 37 = .ok (.aload_n 0, 1) := by decide +kernel
theorem dX10_init_38 : decode cX10_init 38 = .ok (.new 30, 3) := by decide +kernel
theorem dX10_init_41 : decode cX10_init 41 = .ok (.dup, 1) := by decide +kernel
theorem dX10_init_42 : decode cX10_init 42 = .ok (.invokespecial 32, 3) := by decide +kernel
theorem dX10_init_45 : decode cX10_init 45 = .ok (.putfield 33, 3) := by decide +kernel
theorem dX10_init_48 : decode cX10_init 48 = .ok (.aload_n 0, 1) := by decide +kernel
theorem dX10_init_49 : decode cX10_init 49 = .ok (.new 37, 3) := by decide +kernel
theorem dX10_init_52 : decode cX10_init 52 = .ok (.dup, 1) := by decide +kernel
theorem dX10_init_53 : decode cX10_init 53 = .ok (.invokespecial 39, 3) := by decide +kernel
theorem dX10_init_56 : decode cX10_init 56 = .ok (.putfield 40, 3) := by decide +kernel
theorem dX10_init_59 : decode cX10_init 59 = .ok (.aload_n 0, 1) := by decide +kernel
theorem dX10_init_60 : decode cX10_init 60 = .ok (.new 37, 3) := by decide +kernel
theorem dX10_init_63 : decode cX10_init 63 = .ok (.dup, 1) := by decide +kernel
theorem dX10_init_64 : decode cX10_init 64 = .ok (.invokespecial 39, 3) := by decide +kernel
theorem dX10_init_67 : decode cX10_init 67 = .ok (.putfield 44, 3) := by decide +kernel
theorem dX10_init_70 : decode cX10_init 70 = .ok (.return_, 1) := by decide +kernel
theorem ol_10 : Cond.methodLink RX10 1 objectInit ∈ gtbl := memI 95 (by decide +kernel) (by decide +kernel)
theorem wi_10 : WI yX10_init cX10_init 1 0 := ⟨memI 94 (by decide +kernel) (by decide +kernel), memI 69 (by decide +kernel) (by decide +kernel), memI 93 (by decide +kernel) (by decide +kernel), rfl, by decide +kernel⟩
def df10 : List Value := [.null, .null, .null, .null, .null, .int 0]
theorem cl_10_7 : Cond.classLink RX10 7 RX7 ∈ gtbl := memI 98 (by decide +kernel) (by decide +kernel)
theorem ib_10_7 : Cond.instantiable RX7 2 ∈ gtbl := memI 99 (by decide +kernel) (by decide +kernel)
theorem in_10_7 : Cond.initialized RX7 ∈ gtbl := memI 70 (by decide +kernel) (by decide +kernel)
theorem df_10_7 : ∀ j, j < 2 → defaultValue (tyX7 j) = vp_V df7 j := fun j hj => by
    match j, hj with
    | 0, _ => rfl
    | 1, _ => rfl
    | k + 2, hj => exact absurd hj (by omega)
theorem fc_10_10 : Cond.fieldLink RX10 10 (TX10 0).1 (TX10 0).2.1 (TX10 0).2.2.1 ∈ gtbl := memI 456 (by decide +kernel) (by decide +kernel)
theorem cl_10_5 : Cond.classLink RX10 30 RX5 ∈ gtbl := memI 180 (by decide +kernel) (by decide +kernel)
theorem ib_10_5 : Cond.instantiable RX5 9 ∈ gtbl := memI 181 (by decide +kernel) (by decide +kernel)
theorem in_10_5 : Cond.initialized RX5 ∈ gtbl := memI 73 (by decide +kernel) (by decide +kernel)
theorem df_10_5 : ∀ j, j < 9 → defaultValue (tyX5 j) = vp_V df5 j := fun j hj => by
    match j, hj with
    | 0, _ => rfl
    | 1, _ => rfl
    | 2, _ => rfl
    | 3, _ => rfl
    | 4, _ => rfl
    | 5, _ => rfl
    | 6, _ => rfl
    | 7, _ => rfl
    | 8, _ => rfl
    | k + 9, hj => exact absurd hj (by omega)
theorem fc_10_33 : Cond.fieldLink RX10 33 (TX10 2).1 (TX10 2).2.1 (TX10 2).2.2.1 ∈ gtbl := memI 458 (by decide +kernel) (by decide +kernel)
theorem cl_10_1 : Cond.classLink RX10 37 RX1 ∈ gtbl := memI 219 (by decide +kernel) (by decide +kernel)
theorem ib_10_1 : Cond.instantiable RX1 6 ∈ gtbl := memI 220 (by decide +kernel) (by decide +kernel)
theorem in_10_1 : Cond.initialized RX1 ∈ gtbl := memI 74 (by decide +kernel) (by decide +kernel)
theorem df_10_1 : ∀ j, j < 6 → defaultValue (tyX1 j) = vp_V df1 j := fun j hj => by
    match j, hj with
    | 0, _ => rfl
    | 1, _ => rfl
    | 2, _ => rfl
    | 3, _ => rfl
    | 4, _ => rfl
    | 5, _ => rfl
    | k + 6, hj => exact absurd hj (by omega)
theorem fc_10_40 : Cond.fieldLink RX10 40 (TX10 3).1 (TX10 3).2.1 (TX10 3).2.2.1 ∈ gtbl := memI 459 (by decide +kernel) (by decide +kernel)
theorem fc_10_44 : Cond.fieldLink RX10 44 (TX10 4).1 (TX10 4).2.1 (TX10 4).2.2.1 ∈ gtbl := memI 460 (by decide +kernel) (by decide +kernel)
theorem cl_10_6 : Cond.classLink RX10 16 RX6 ∈ gtbl := memI 114 (by decide +kernel) (by decide +kernel)
theorem ib_10_6 : Cond.instantiable RX6 10 ∈ gtbl := memI 115 (by decide +kernel) (by decide +kernel)
theorem in_10_6 : Cond.initialized RX6 ∈ gtbl := memI 71 (by decide +kernel) (by decide +kernel)
theorem df_10_6 : ∀ j, j < 10 → defaultValue (tyX6 j) = vp_V df6 j := fun j hj => by
    match j, hj with
    | 0, _ => rfl
    | 1, _ => rfl
    | 2, _ => rfl
    | 3, _ => rfl
    | 4, _ => rfl
    | 5, _ => rfl
    | 6, _ => rfl
    | 7, _ => rfl
    | 8, _ => rfl
    | 9, _ => rfl
    | k + 10, hj => exact absurd hj (by omega)
theorem cl_10_8 : Cond.classLink RX10 18 RX8 ∈ gtbl := memI 116 (by decide +kernel) (by decide +kernel)
theorem ib_10_8 : Cond.instantiable RX8 5 ∈ gtbl := memI 117 (by decide +kernel) (by decide +kernel)
theorem in_10_8 : Cond.initialized RX8 ∈ gtbl := memI 72 (by decide +kernel) (by decide +kernel)
theorem df_10_8 : ∀ j, j < 5 → defaultValue (tyX8 j) = vp_V df8 j := fun j hj => by
    match j, hj with
    | 0, _ => rfl
    | 1, _ => rfl
    | 2, _ => rfl
    | 3, _ => rfl
    | 4, _ => rfl
    | k + 5, hj => exact absurd hj (by omega)
theorem fc_10_26 : Cond.fieldLink RX10 26 (TX10 1).1 (TX10 1).2.1 (TX10 1).2.2.1 ∈ gtbl := memI 457 (by decide +kernel) (by decide +kernel)
theorem lt_8 : Cond.methodLink RX10 20 yX8_init ∈ gtbl := memI 118 (by decide +kernel) (by decide +kernel)
theorem lt_6 : Cond.methodLink RX10 23 yX6_init ∈ gtbl := memI 141 (by decide +kernel) (by decide +kernel)
def FS10 (G : GG) (n : Nat) : List Value := [.ref (G.2.1 + (n + 0)), .ref (G.2.1 + (n + 2)), .ref (G.2.1 + (n + 5)), .ref (G.2.1 + (n + 13)), .ref (G.2.1 + (n + 48)), .int 0]
def NW10 (G : GG) (n : Nat) : List va_E := [.inr (7, FS7 G (n + 1)), .inl (G.2.2.2.1.2.1, 740, .inl (fun _ => 0)), .inr (6, FS6 G (G.2.1 + (n + 3)) (n + 4)), .inr (8, [.ref (G.2.1 + (n + 0)), .int 0, .int 0, .int 0, .int 0]), .inl (G.2.2.2.1.1, 5, .inl (fun _ => 0))] ++ ((.inr (5, FS5 G (n + 6)) :: NW5 G (n + 6)) ++ ((.inr (1, FS1 G (n + 14)) :: NW1 G (n + 14)) ++ (.inr (1, FS1 G (n + 49)) :: NW1 G (n + 49))))
theorem k_10 {l : Launch} {G : GG} (ws : List va_E) (i : Nat) (h : ws[i]? = some (.inr (10, df10))) : Nt l G 4 yX10_init cX10_init 1 83 1965 [.ref (G.2.1 + i)] ws (ws.set i (.inr (10, FS10 G ws.length)) ++ NW10 G ws.length) := by
  refine Nt.of (by decide) rfl (Nat.le_of_ble_eq_true rfl) ?_
  have hi : i < ws.length := (List.getElem?_eq_some_iff.mp h).1
  show AN l G (rmN 4 83 1965) _ _ "<init>" RX10 cX10_init 1 none 0 0 0 [some (.ref (G.2.1 + i))] [] ws
  refine n_aload_n dX10_init_0 rfl ?_
  refine n_obj dX10_init_1 ol_10 (by decide) (by decide) rfl ?_
  generalize hE : EN G 83 1965 (ws.set i (.inr (10, FS10 G ws.length)) ++ NW10 G ws.length) = E
  rw [← wl_id h]
  unfold df10
  refine n_sub (ty := tyX7) (i := i) (dfl := df7) (FS := FS7 G) (NEWS := NW7 G) hi rfl rfl dX10_init_4 dX10_init_5 dX10_init_8 dX10_init_9 dX10_init_12 (ci2 := 7) rfl tyX7_ok df_10_7 cl_10_7 ib_10_7 in_10_7 (host := RX10) (by simp [mnL]) wi_7 (by decide) k_7 (ci := 10) (j := 0) rfl (by decide) (by simp) fc_10_10 rfl rfl (fun _ => rfl) (fun _ => rfl) (Nat.le_of_ble_eq_true rfl) (Nat.le_of_ble_eq_true rfl) ?_
  show AN l G (rmN 4 83 1965) E _ "<init>" RX10 cX10_init 1 none 2 742 15 [some (.ref (G.2.1 + i))] [] (ws.set i (.inr (10, [.ref (G.2.1 + (ws.length + 0)), .null, .null, .null, .null, .int 0])) ++ [.inr (7, FS7 G (ws.length + 1)), .inl (G.2.2.2.1.2.1, 740, .inl (fun _ => 0))])
  refine n_aload_n dX10_init_15 rfl ?_
  refine n_new (ci := 6) (fs := df6) tyX6 dX10_init_16 rfl tyX6_ok df_10_6 cl_10_6 ib_10_6 in_10_6 (Nat.le_of_ble_eq_true rfl) (Nat.le_of_ble_eq_true rfl) ?_
  rw [List.append_assoc, List.length_append, List.length_set]
  show AN l G (rmN 4 83 1965) E _ "<init>" RX10 cX10_init 1 none 3 752 19 [some (.ref (G.2.1 + i))] [.ref (G.2.1 + (ws.length + 2)), .ref (G.2.1 + i)] (ws.set i (.inr (10, [.ref (G.2.1 + (ws.length + 0)), .null, .null, .null, .null, .int 0])) ++ [.inr (7, FS7 G (ws.length + 1)), .inl (G.2.2.2.1.2.1, 740, .inl (fun _ => 0)), .inr (6, df6)])
  refine n_dup dX10_init_19 rfl ?_
  refine n_new (ci := 8) (fs := df8) tyX8 dX10_init_20 rfl tyX8_ok df_10_8 cl_10_8 ib_10_8 in_10_8 (Nat.le_of_ble_eq_true rfl) (Nat.le_of_ble_eq_true rfl) ?_
  rw [List.append_assoc, List.length_append, List.length_set]
  show AN l G (rmN 4 83 1965) E _ "<init>" RX10 cX10_init 1 none 4 757 23 [some (.ref (G.2.1 + i))] [.ref (G.2.1 + (ws.length + 3)), .ref (G.2.1 + (ws.length + 2)), .ref (G.2.1 + (ws.length + 2)), .ref (G.2.1 + i)] (ws.set i (.inr (10, [.ref (G.2.1 + (ws.length + 0)), .null, .null, .null, .null, .int 0])) ++ [.inr (7, FS7 G (ws.length + 1)), .inl (G.2.2.2.1.2.1, 740, .inl (fun _ => 0)), .inr (6, df6), .inr (8, df8)])
  refine n_dup dX10_init_23 rfl ?_
  refine n_aload_n dX10_init_24 rfl ?_
  refine n_get (i := i) (v := .ref (G.2.1 + (ws.length + 0))) dX10_init_25 (wl_at hi) rfl (j := 0) (by decide) fc_10_10 rfl ?_
  refine n_ctorP (As := [.ref (G.2.1 + (ws.length + 0))]) (i := ws.length + 3) (rest := [.ref (G.2.1 + (ws.length + 3)), .ref (G.2.1 + (ws.length + 2)), .ref (G.2.1 + (ws.length + 2)), .ref (G.2.1 + i)]) dX10_init_28 lt_8 wi_8 (d' := 2) (by decide) (by decide) (Nat.le_of_ble_eq_true rfl) (k_8 _ _ _ (wl_in.trans rfl)) ?_
  rw [wl_seti]
  show AN l G (rmN 4 83 1965) E _ "<init>" RX10 cX10_init 1 none 4 757 31 [some (.ref (G.2.1 + i))] [.ref (G.2.1 + (ws.length + 3)), .ref (G.2.1 + (ws.length + 2)), .ref (G.2.1 + (ws.length + 2)), .ref (G.2.1 + i)] (ws.set i (.inr (10, [.ref (G.2.1 + (ws.length + 0)), .null, .null, .null, .null, .int 0])) ++ [.inr (7, FS7 G (ws.length + 1)), .inl (G.2.2.2.1.2.1, 740, .inl (fun _ => 0)), .inr (6, df6), .inr (8, [.ref (G.2.1 + (ws.length + 0)), .int 0, .int 0, .int 0, .int 0])])
  refine n_ctorP (As := [.ref (G.2.1 + (ws.length + 3))]) (i := ws.length + 2) (rest := [.ref (G.2.1 + (ws.length + 2)), .ref (G.2.1 + i)]) dX10_init_31 lt_6 wi_6 (d' := 2) (by decide) (by decide) (Nat.le_of_ble_eq_true rfl) (k_6 _ _ _ (wl_in.trans rfl)) ?_
  rw [wl_seti, List.append_assoc, List.length_append, List.length_set]
  show AN l G (rmN 4 83 1965) E _ "<init>" RX10 cX10_init 1 none 5 762 34 [some (.ref (G.2.1 + i))] [.ref (G.2.1 + (ws.length + 2)), .ref (G.2.1 + i)] (ws.set i (.inr (10, [.ref (G.2.1 + (ws.length + 0)), .null, .null, .null, .null, .int 0])) ++ [.inr (7, FS7 G (ws.length + 1)), .inl (G.2.2.2.1.2.1, 740, .inl (fun _ => 0)), .inr (6, FS6 G (G.2.1 + (ws.length + 3)) (ws.length + 4)), .inr (8, [.ref (G.2.1 + (ws.length + 0)), .int 0, .int 0, .int 0, .int 0]), .inl (G.2.2.2.1.1, 5, .inl (fun _ => 0))])
  refine n_putF (i := i) dX10_init_34 rfl (wl_at hi) rfl (j := 1) (by decide) (by simp) fc_10_26 rfl rfl rfl rfl rfl ?_
  rw [wl_set hi]
  show AN l G (rmN 4 83 1965) E _ "<init>" RX10 cX10_init 1 none 5 762 37 [some (.ref (G.2.1 + i))] [] (ws.set i (.inr (10, [.ref (G.2.1 + (ws.length + 0)), .ref (G.2.1 + (ws.length + 2)), .null, .null, .null, .int 0])) ++ [.inr (7, FS7 G (ws.length + 1)), .inl (G.2.2.2.1.2.1, 740, .inl (fun _ => 0)), .inr (6, FS6 G (G.2.1 + (ws.length + 3)) (ws.length + 4)), .inr (8, [.ref (G.2.1 + (ws.length + 0)), .int 0, .int 0, .int 0, .int 0]), .inl (G.2.2.2.1.1, 5, .inl (fun _ => 0))])
  refine n_sub (ty := tyX5) (i := i) (dfl := df5) (FS := FS5 G) (NEWS := NW5 G) hi rfl rfl dX10_init_37 dX10_init_38 dX10_init_41 dX10_init_42 dX10_init_45 (ci2 := 5) rfl tyX5_ok df_10_5 cl_10_5 ib_10_5 in_10_5 (host := RX10) (by simp [mnL]) wi_5 (by decide) k_5 (ci := 10) (j := 2) rfl (by decide) (by simp) fc_10_33 rfl rfl (fun _ => rfl) (fun _ => rfl) (Nat.le_of_ble_eq_true rfl) (Nat.le_of_ble_eq_true rfl) ?_
  refine n_sub (ty := tyX1) (i := i) (dfl := df1) (FS := FS1 G) (NEWS := NW1 G) hi rfl rfl dX10_init_48 dX10_init_49 dX10_init_52 dX10_init_53 dX10_init_56 (ci2 := 1) rfl tyX1_ok df_10_1 cl_10_1 ib_10_1 in_10_1 (host := RX10) (by simp [mnL]) wi_1 (by decide) k_1 (ci := 10) (j := 3) rfl (by decide) (by simp) fc_10_40 rfl rfl (fun _ => rfl) (fun _ => rfl) (Nat.le_of_ble_eq_true rfl) (Nat.le_of_ble_eq_true rfl) ?_
  refine n_sub (ty := tyX1) (i := i) (dfl := df1) (FS := FS1 G) (NEWS := NW1 G) hi rfl rfl dX10_init_59 dX10_init_60 dX10_init_63 dX10_init_64 dX10_init_67 (ci2 := 1) rfl tyX1_ok df_10_1 cl_10_1 ib_10_1 in_10_1 (host := RX10) (by simp [mnL]) wi_1 (by decide) k_1 (ci := 10) (j := 4) rfl (by decide) (by simp) fc_10_44 rfl rfl (fun _ => rfl) (fun _ => rfl) (Nat.le_of_ble_eq_true rfl) (Nat.le_of_ble_eq_true rfl) ?_
  rw [← hE]
  exact n_vret dX10_init_70
