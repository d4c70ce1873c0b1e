/-! the constructors' walks, the second half -/
theorem dX8_init_0 : decode cX8_init 0 = .ok (.aload_n 0, 1) := by decide +kernel
theorem dX8_init_1 : decode cX8_init 1 = .ok (.invokespecial 3, 3) := by decide +kernel
theorem dX8_init_4 : decode cX8_init 4 = .ok (.aload_n 0, 1) := by decide +kernel
theorem dX8_init_5 : decode cX8_init 5 = .ok (.aload_n 1, 1) := by decide +kernel
theorem dX8_init_6 : decode cX8_init 6 = .ok (.putfield 9, 3) := by decide +kernel
theorem dX8_init_9 : decode cX8_init 9 = .ok (.return_, 1) := by decide +kernel
theorem ol_8 : Cond.methodLink RX8 3 objectInit ∈ gtbl := memI 121 (by decide +kernel) (by decide +kernel)
theorem wi_8 : WI yX8_init cX8_init 2 1 := ⟨memI 120 (by decide +kernel) (by decide +kernel), memI 72 (by decide +kernel) (by decide +kernel), memI 119 (by decide +kernel) (by decide +kernel), rfl, by decide +kernel⟩
def df8 : List Value := [.null, .int 0, .int 0, .int 0, .int 0]
theorem dX6_init_0 : decode cX6_init 0 = .ok (.aload_n 0, 1) := by decide +kernel
theorem dX6_init_1 : decode cX6_init 1 = .ok (.invokespecial 3, 3) := by decide +kernel
theorem dX6_init_4 : decode cX6_init 4 = .ok (.aload_n 0, 1) := by decide +kernel
theorem dX6_init_5 : decode cX6_init 5 = .ok (.iconst 5, 1) := by decide +kernel
theorem dX6_init_6 : decode cX6_init 6 = .ok (.newarray .int, 2) := by decide +kernel
theorem dX6_init_8 : decode cX6_init 8 = .ok (.putfield 9, 3) := by decide +kernel
theorem dX6_init_11 : decode cX6_init 11 = .ok (.aload_n 0, 1) := by decide +kernel
theorem dX6_init_12 : decode cX6_init 12 = .ok (.aload_n 1, 1) := by decide +kernel
theorem dX6_init_13 : decode cX6_init 13 = .ok (.putfield 15, 3) := by decide +kernel
theorem dX6_init_16 : decode cX6_init 16 = .ok (.return_, 1) := by decide +kernel
theorem ol_6 : Cond.methodLink RX6 3 objectInit ∈ gtbl := memI 144 (by decide +kernel) (by decide +kernel)
theorem wi_6 : WI yX6_init cX6_init 2 1 := ⟨memI 143 (by decide +kernel) (by decide +kernel), memI 71 (by decide +kernel) (by decide +kernel), memI 142 (by decide +kernel) (by decide +kernel), rfl, by decide +kernel⟩
def df6 : List Value := [.null, .null, .int 0, .int 0, .int 0, .int 0, .int 0, .int 0, .int 0, .int 0]
theorem fc_8_9 : Cond.fieldLink RX8 9 (TX8 0).1 (TX8 0).2.1 (TX8 0).2.2.1 ∈ gtbl := memI 122 (by decide +kernel) (by decide +kernel)
theorem k_8 {l : Launch} {G : GG} (ws : List va_E) (i t : Nat) (h : ws[i]? = some (.inr (8, df8))) : Nt l G 2 yX8_init cX8_init 2 0 0 [.ref (G.2.1 + i), .ref t] ws (ws.set i (.inr (8, [.ref t, .int 0, .int 0, .int 0, .int 0]))) := by
  refine Nt.of (by decide) rfl (Nat.le_of_ble_eq_true rfl) ?_
  show AN l G (rmN 2 0 0) _ _ "<init>" RX8 cX8_init 2 none 0 0 0 [some (.ref (G.2.1 + i)), some (.ref t)] [] ws
  refine n_aload_n dX8_init_0 rfl ?_
  refine n_obj dX8_init_1 ol_8 (by decide) (by decide) rfl ?_
  refine n_aload_n dX8_init_4 rfl ?_
  refine n_aload_n dX8_init_5 rfl ?_
  refine n_putF dX8_init_6 rfl h rfl (j := 0) (by decide) (by decide) fc_8_9 rfl rfl rfl rfl rfl ?_
  exact n_vret dX8_init_9
theorem fc_6_9 : Cond.fieldLink RX6 9 (TX6 1).1 (TX6 1).2.1 (TX6 1).2.2.1 ∈ gtbl := memI 146 (by decide +kernel) (by decide +kernel)
theorem fc_6_15 : Cond.fieldLink RX6 15 (TX6 0).1 (TX6 0).2.1 (TX6 0).2.2.1 ∈ gtbl := memI 145 (by decide +kernel) (by decide +kernel)
def FS6 (G : GG) (t n : Nat) : List Value := [.ref t, .ref (G.2.1 + (n + 0)), .int 0, .int 0, .int 0, .int 0, .int 0, .int 0, .int 0, .int 0]
theorem k_6 {l : Launch} {G : GG} (ws : List va_E) (i t : Nat) (h : ws[i]? = some (.inr (6, df6))) : Nt l G 2 yX6_init cX6_init 2 1 5 [.ref (G.2.1 + i), .ref t] ws (ws.set i (.inr (6, FS6 G t ws.length)) ++ [.inl (G.2.2.2.1.1, 5, .inl (fun _ => 0))]) := by
  refine Nt.of (by decide) rfl (Nat.le_of_ble_eq_true rfl) ?_
  have hi : i < ws.length := (List.getElem?_eq_some_iff.mp h).1
  show AN l G (rmN 2 1 5) _ _ "<init>" RX6 cX6_init 2 none 0 0 0 [some (.ref (G.2.1 + i)), some (.ref t)] [] ws
  refine n_aload_n dX6_init_0 rfl ?_
  refine n_obj dX6_init_1 ol_6 (by decide) (by decide) rfl ?_
  generalize hE : EN G 1 5 (ws.set i (.inr (6, FS6 G t ws.length)) ++ [.inl (G.2.2.2.1.1, 5, .inl (fun _ => 0))]) = E
  rw [← wl_id h]
  unfold df6
  refine n_aload_n dX6_init_4 rfl ?_
  refine n_iconst (v := 5) dX6_init_5 (by decide) ?_
  refine n_arr (a0 := (5, .inl (fun _ => 0))) hi rfl dX6_init_6 dX6_init_8 rfl ac_i (t0 := 0) rfl (fun _ _ h => h) (fun _ => rfl) (by decide) (by decide) (by decide) (ci := 6) (j := 1) rfl (by decide) (by simp) fc_6_9 rfl rfl rfl (fun _ => rfl) (fun _ => rfl) (Nat.le_of_ble_eq_true rfl) (Nat.le_of_ble_eq_true rfl) ?_
  refine n_aload_n dX6_init_11 rfl ?_
  refine n_aload_n dX6_init_12 rfl ?_
  refine n_putF (i := i) dX6_init_13 rfl (wl_at hi) rfl (j := 0) (by decide) (by simp) fc_6_15 rfl rfl rfl rfl rfl ?_
  rw [wl_set hi]
  rw [← hE]
  exact n_vret dX6_init_16
theorem dX1_init_0 : decode cX1_init 0 = .ok (.aload_n 0, 1) := by decide +kernel
theorem dX1_init_1 : decode cX1_init 1 = .ok (.invokespecial 3, 3) := by decide +kernel
theorem dX1_init_4 : decode cX1_init 4 = .ok (.aload_n 0, 1) := by decide +kernel
theorem dX1_init_5 : decode cX1_init 5 = .ok (.new 9, 3) := by decide +kernel
theorem dX1_init_8 : decode cX1_init 8 = .ok (.dup, 1) := by decide +kernel
theorem dX1_init_9 : decode cX1_init 9 = .ok (.invokespecial 11, 3) := by decide +kernel
theorem dX1_init_12 : decode cX1_init 12 = .ok (.putfield 12, 3) := by decide +kernel
theorem dX1_init_15 : decode cX1_init 15 = .ok (.aload_n 0, 1) := by decide +kernel
theorem dX1_init_16 : decode cX1_init 16 = .ok (.new 18, 3) := by decide +kernel
theorem dX1_init_19 : decode cX1_init 19 = .ok (.dup, 1) := by decide +kernel
theorem dX1_init_20 : decode cX1_init 20 = .ok (.invokespecial 20, 3) := by decide +kernel
theorem dX1_init_23 : decode cX1_init 23 = .ok (.putfield 21, 3) := by decide +kernel
theorem dX1_init_26 : decode cX1_init 26 = .ok (.aload_n 0, 1) := by decide +kernel
theorem dX1_init_27 : decode cX1_init 27 = .ok (.new 25, 3) := by decide +kernel
theorem dX1_init_30 : decode cX1_init 30 = .ok (.dup, 1) := by decide +kernel
theorem dX1_init_31 : decode cX1_init 31 = .ok (.invokespecial 27, 3) := by decide +kernel
theorem dX1_init_34 : decode cX1_init 34 = .ok (.putfield 28, 3) := by decide +kernel
theorem dX1_init_37 : decode cX1_init 37 = .ok (.aload_n 0, 1) := by decide +kernel
theorem dX1_init_38 : decode cX1_init 38 = .ok (.new 32, 3) := by decide +kernel
theorem dX1_init_41 : decode cX1_init 41 = .ok (.dup, 1) := by decide +kernel
theorem dX1_init_42 : decode cX1_init 42 = .ok (.invokespecial 34, 3) := by decide +kernel
theorem dX1_init_45 : decode cX1_init 45 = .ok (.putfield 35, 3) := by decide +kernel
theorem dX1_init_48 : decode cX1_init 48 = .ok (.aload_n 0, 1) := by decide +kernel
theorem dX1_init_49 : decode cX1_init 49 = .ok (.new 39, 3) := by decide +kernel
theorem dX1_init_52 : decode cX1_init 52 = .ok (.dup, 1) := by decide +kernel
theorem dX1_init_53 : decode cX1_init 53 = .ok (.invokespecial 41, 3) := by decide +kernel
theorem dX1_init_56 : decode cX1_init 56 = .ok (.putfield 42, 3) := by decide +kernel
theorem dX1_init_59 : decode cX1_init 59 = .ok (.return_, 1) := by decide +kernel
theorem ol_1 : Cond.methodLink RX1 3 objectInit ∈ gtbl := memI 224 (by decide +kernel) (by decide +kernel)
theorem wi_1 : WI yX1_init cX1_init 1 0 := ⟨memI 223 (by decide +kernel) (by decide +kernel), memI 74 (by decide +kernel) (by decide +kernel), memI 222 (by decide +kernel) (by decide +kernel), rfl, by decide +kernel⟩
def df1 : List Value := [.null, .null, .null, .null, .null, .int 0]
theorem cl_1_2 : Cond.classLink RX1 9 RX2 ∈ gtbl := memI 225 (by decide +kernel) (by decide +kernel)
theorem ib_1_2 : Cond.instantiable RX2 3 ∈ gtbl := memI 226 (by decide +kernel) (by decide +kernel)
theorem in_1_2 : Cond.initialized RX2 ∈ gtbl := memI 75 (by decide +kernel) (by decide +kernel)
theorem df_1_2 : ∀ j, j < 3 → defaultValue (tyX2 j) = vp_V df2 j := fun j hj => by
    match j, hj with
    | 0, _ => rfl
    | 1, _ => rfl
    | 2, _ => rfl
    | k + 3, hj => exact absurd hj (by omega)
theorem fc_1_12 : Cond.fieldLink RX1 12 (TX1 0).1 (TX1 0).2.1 (TX1 0).2.2.1 ∈ gtbl := memI 426 (by decide +kernel) (by decide +kernel)
theorem cl_1_4 : Cond.classLink RX1 18 RX4 ∈ gtbl := memI 244 (by decide +kernel) (by decide +kernel)
theorem ib_1_4 : Cond.instantiable RX4 13 ∈ gtbl := memI 245 (by decide +kernel) (by decide +kernel)
theorem in_1_4 : Cond.initialized RX4 ∈ gtbl := memI 76 (by decide +kernel) (by decide +kernel)
theorem df_1_4 : ∀ j, j < 13 → defaultValue (tyX4 j) = vp_V df4 j := fun j hj => by
    match j, hj with
    | 0, _ => rfl
    | 1, _ => rfl
    | 2, _ => rfl
    | 3, _ => rfl
    | 4, _ => rfl
    | 5, _ => rfl
    | 6, _ => rfl
    | 7, _ => rfl
    | 8, _ => rfl
    | 9, _ => rfl
    | 10, _ => rfl
    | 11, _ => rfl
    | 12, _ => rfl
    | k + 13, hj => exact absurd hj (by omega)
theorem fc_1_21 : Cond.fieldLink RX1 21 (TX1 1).1 (TX1 1).2.1 (TX1 1).2.2.1 ∈ gtbl := memI 429 (by decide +kernel) (by decide +kernel)
theorem cl_1_3 : Cond.classLink RX1 25 RX3 ∈ gtbl := memI 306 (by decide +kernel) (by decide +kernel)
theorem ib_1_3 : Cond.instantiable RX3 6 ∈ gtbl := memI 307 (by decide +kernel) (by decide +kernel)
theorem in_1_3 : Cond.initialized RX3 ∈ gtbl := memI 77 (by decide +kernel) (by decide +kernel)
theorem df_1_3 : ∀ j, j < 6 → defaultValue (tyX3 j) = vp_V df3 j := fun j hj => by
    match j, hj with
    | 0, _ => rfl
    | 1, _ => rfl
    | 2, _ => rfl
    | 3, _ => rfl
    | 4, _ => rfl
    | 5, _ => rfl
    | k + 6, hj => exact absurd hj (by omega)
theorem fc_1_28 : Cond.fieldLink RX1 28 (TX1 2).1 (TX1 2).2.1 (TX1 2).2.2.1 ∈ gtbl := memI 433 (by decide +kernel) (by decide +kernel)
theorem cl_1_9 : Cond.classLink RX1 32 RX9 ∈ gtbl := memI 344 (by decide +kernel) (by decide +kernel)
theorem ib_1_9 : Cond.instantiable RX9 10 ∈ gtbl := memI 345 (by decide +kernel) (by decide +kernel)
theorem in_1_9 : Cond.initialized RX9 ∈ gtbl := memI 78 (by decide +kernel) (by decide +kernel)
theorem df_1_9 : ∀ j, j < 10 → defaultValue (tyX9 j) = vp_V df9 j := fun j hj => by
    match j, hj with
    | 0, _ => rfl
    | 1, _ => rfl
    | 2, _ => rfl
    | 3, _ => rfl
    | 4, _ => rfl
    | 5, _ => rfl
    | 6, _ => rfl
    | 7, _ => rfl
    | 8, _ => rfl
    | 9, _ => rfl
    | k + 10, hj => exact absurd hj (by omega)
theorem fc_1_35 : Cond.fieldLink RX1 35 (TX1 3).1 (TX1 3).2.1 (TX1 3).2.2.1 ∈ gtbl := memI 436 (by decide +kernel) (by decide +kernel)
theorem cl_1_0 : Cond.classLink RX1 39 RX0 ∈ gtbl := memI 399 (by decide +kernel) (by decide +kernel)
theorem ib_1_0 : Cond.instantiable RX0 5 ∈ gtbl := memI 400 (by decide +kernel) (by decide +kernel)
theorem in_1_0 : Cond.initialized RX0 ∈ gtbl := memI 79 (by decide +kernel) (by decide +kernel)
theorem df_1_0 : ∀ j, j < 5 → defaultValue (tyX0 j) = vp_V df0 j := fun j hj => by
    match j, hj with
    | 0, _ => rfl
    | 1, _ => rfl
    | 2, _ => rfl
    | 3, _ => rfl
    | 4, _ => rfl
    | k + 5, hj => exact absurd hj (by omega)
theorem fc_1_42 : Cond.fieldLink RX1 42 (TX1 4).1 (TX1 4).2.1 (TX1 4).2.2.1 ∈ gtbl := memI 439 (by decide +kernel) (by decide +kernel)
def FS1 (G : GG) (n : Nat) : List Value := [.ref (G.2.1 + (n + 0)), .ref (G.2.1 + (n + 2)), .ref (G.2.1 + (n + 14)), .ref (G.2.1 + (n + 20)), .ref (G.2.1 + (n + 30)), .int 0]
def NW1 (G : GG) (n : Nat) : List va_E := (.inr (2, FS2 G (n + 1)) :: NW2 G (n + 1)) ++ ((.inr (4, FS4 G (n + 3)) :: NW4 G (n + 3)) ++ ((.inr (3, FS3 G (n + 15)) :: NW3 G (n + 15)) ++ ((.inr (9, FS9 G (n + 21)) :: NW9 G (n + 21)) ++ ((.inr (0, FS0 G (n + 31)) :: NW0 G (n + 31))))))
theorem k_1 {l : Launch} {G : GG} (ws : List va_E) (i : Nat) (h : ws[i]? = some (.inr (1, df1))) : Nt l G 3 yX1_init cX1_init 1 34 541 [.ref (G.2.1 + i)] ws (ws.set i (.inr (1, FS1 G ws.length)) ++ NW1 G ws.length) := by
  refine Nt.of (by decide) rfl (Nat.le_of_ble_eq_true rfl) ?_
  have hi : i < ws.length := (List.getElem?_eq_some_iff.mp h).1
  show AN l G (rmN 3 34 541) _ _ "<init>" RX1 cX1_init 1 none 0 0 0 [some (.ref (G.2.1 + i))] [] ws
  refine n_aload_n dX1_init_0 rfl ?_
  refine n_obj dX1_init_1 ol_1 (by decide) (by decide) rfl ?_
  generalize hE : EN G 34 541 (ws.set i (.inr (1, FS1 G ws.length)) ++ NW1 G ws.length) = E
  rw [← wl_id h]
  unfold df1
  refine n_sub (ty := tyX2) (i := i) (dfl := df2) (FS := FS2 G) (NEWS := NW2 G) hi rfl rfl dX1_init_4 dX1_init_5 dX1_init_8 dX1_init_9 dX1_init_12 (ci2 := 2) rfl tyX2_ok df_1_2 cl_1_2 ib_1_2 in_1_2 (host := RX10) (by simp [mnL]) wi_2 (by decide) k_2 (ci := 1) (j := 0) rfl (by decide) (by simp) fc_1_12 rfl rfl (fun _ => rfl) (fun _ => rfl) (Nat.le_of_ble_eq_true rfl) (Nat.le_of_ble_eq_true rfl) ?_
  refine n_sub (ty := tyX4) (i := i) (dfl := df4) (FS := FS4 G) (NEWS := NW4 G) hi rfl rfl dX1_init_15 dX1_init_16 dX1_init_19 dX1_init_20 dX1_init_23 (ci2 := 4) rfl tyX4_ok df_1_4 cl_1_4 ib_1_4 in_1_4 (host := RX10) (by simp [mnL]) wi_4 (by decide) k_4 (ci := 1) (j := 1) rfl (by decide) (by simp) fc_1_21 rfl rfl (fun _ => rfl) (fun _ => rfl) (Nat.le_of_ble_eq_true rfl) (Nat.le_of_ble_eq_true rfl) ?_
  refine n_sub (ty := tyX3) (i := i) (dfl := df3) (FS := FS3 G) (NEWS := NW3 G) hi rfl rfl dX1_init_26 dX1_init_27 dX1_init_30 dX1_init_31 dX1_init_34 (ci2 := 3) rfl tyX3_ok df_1_3 cl_1_3 ib_1_3 in_1_3 (host := RX10) (by simp [mnL]) wi_3 (by decide) k_3 (ci := 1) (j := 2) rfl (by decide) (by simp) fc_1_28 rfl rfl (fun _ => rfl) (fun _ => rfl) (Nat.le_of_ble_eq_true rfl) (Nat.le_of_ble_eq_true rfl) ?_
  refine n_sub (ty := tyX9) (i := i) (dfl := df9) (FS := FS9 G) (NEWS := NW9 G) hi rfl rfl dX1_init_37 dX1_init_38 dX1_init_41 dX1_init_42 dX1_init_45 (ci2 := 9) rfl tyX9_ok df_1_9 cl_1_9 ib_1_9 in_1_9 (host := RX10) (by simp [mnL]) wi_9 (by decide) k_9 (ci := 1) (j := 3) rfl (by decide) (by simp) fc_1_35 rfl rfl (fun _ => rfl) (fun _ => rfl) (Nat.le_of_ble_eq_true rfl) (Nat.le_of_ble_eq_true rfl) ?_
  refine n_sub (ty := tyX0) (i := i) (dfl := df0) (FS := FS0 G) (NEWS := NW0 G) hi rfl rfl dX1_init_48 dX1_init_49 dX1_init_52 dX1_init_53 dX1_init_56 (ci2 := 0) rfl tyX0_ok df_1_0 cl_1_0 ib_1_0 in_1_0 (host := RX10) (by simp [mnL]) wi_0 (by decide) k_0 (ci := 1) (j := 4) rfl (by decide) (by simp) fc_1_42 rfl rfl (fun _ => rfl) (fun _ => rfl) (Nat.le_of_ble_eq_true rfl) (Nat.le_of_ble_eq_true rfl) ?_
  rw [← hE]
  exact n_vret dX1_init_59
