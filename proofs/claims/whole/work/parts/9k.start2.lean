/-! the law from its entry to the loop -/
theorem dL_law_0 : decode cL_law 0 = .ok (.new 8, 3) := by decide +kernel
theorem dL_law_3 : decode cL_law 3 = .ok (.dup, 1) := by decide +kernel
theorem dL_law_4 : decode cL_law 4 = .ok (.invokespecial 19, 3) := by decide +kernel
theorem dL_law_7 : decode cL_law 7 = .ok (.astore_n 1, 1) := by decide +kernel
theorem dL_law_8 : decode cL_law 8 = .ok (.new 20, 3) := by decide +kernel
theorem dL_law_11 : decode cL_law 11 = .ok (.dup, 1) := by decide +kernel
theorem dL_law_12 : decode cL_law 12 = .ok (.invokespecial 22, 3) := by decide +kernel
theorem dL_law_15 : decode cL_law 15 = .ok (.astore_n 2, 1) := by decide +kernel
theorem cl_L_10 : Cond.classLink RL 8 RX10 ∈ gtbl := memI 90 (by decide +kernel) (by decide +kernel)
theorem ib_L_10 : Cond.instantiable RX10 6 ∈ gtbl := memI 91 (by decide +kernel) (by decide +kernel)
theorem in_L_10 : Cond.initialized RX10 ∈ gtbl := memI 69 (by decide +kernel) (by decide +kernel)
theorem df_L_10 : ∀ j, j < 6 → defaultValue (tyX10 j) = vp_V df10 j := fun j hj => by
    match j, hj with
    | 0, _ => rfl
    | 1, _ => rfl
    | 2, _ => rfl
    | 3, _ => rfl
    | 4, _ => rfl
    | 5, _ => rfl
    | k + 6, hj => exact absurd hj (by omega)
theorem cl_L_11 : Cond.classLink RL 20 RX11 ∈ gtbl := memI 1038 (by decide +kernel) (by decide +kernel)
theorem ib_L_11 : Cond.instantiable RX11 25 ∈ gtbl := memI 1032 (by decide +kernel) (by decide +kernel)
theorem in_L_11 : Cond.initialized RX11 ∈ gtbl := memI 80 (by decide +kernel) (by decide +kernel)
theorem df_L_11 : ∀ j, j < 25 → defaultValue (tyX11 j) = vp_V df11 j := fun j hj => by
    match j, hj with
    | 0, _ => rfl
    | 1, _ => rfl
    | 2, _ => rfl
    | 3, _ => rfl
    | 4, _ => rfl
    | 5, _ => rfl
    | 6, _ => rfl
    | 7, _ => rfl
    | 8, _ => rfl
    | 9, _ => rfl
    | 10, _ => rfl
    | 11, _ => rfl
    | 12, _ => rfl
    | 13, _ => rfl
    | 14, _ => rfl
    | 15, _ => rfl
    | 16, _ => rfl
    | 17, _ => rfl
    | 18, _ => rfl
    | 19, _ => rfl
    | 20, _ => rfl
    | 21, _ => rfl
    | 22, _ => rfl
    | 23, _ => rfl
    | 24, _ => rfl
    | k + 25, hj => exact absurd hj (by omega)
theorem ll_19 : Cond.methodLink RL 19 yX10_init ∈ gtbl := memI 92 (by decide +kernel) (by decide +kernel)
theorem ll_22 : Cond.methodLink RL 22 yX11_init ∈ gtbl := memI 1039 (by decide +kernel) (by decide +kernel)
theorem l_start {l : Launch} {base : Nat} {D : va_G} {ids : ClassId × ClassId × ClassId × ClassId} {sa : Nat → Nat} {b L : Nat} {xs : Nat → Int32} {nm : String} (hl : l.stackTraces = false) (hL : L ≤ 3072) :
    AN l (GO base D ids sa) room_1 lw_Z (ZL (GO base D ids sa) b L xs) nm RL cL_law 7 (some .boolean) 0 0 0 [some (.ref b)] [] [] := by
  generalize hG : GO base D ids sa = G
  refine n_new (ci := 10) (fs := df10) tyX10 dL_law_0 rfl tyX10_ok df_L_10 cl_L_10 ib_L_10 in_L_10 (Nat.le_of_ble_eq_true rfl) (Nat.le_of_ble_eq_true rfl) ?_
  refine n_dup dL_law_3 rfl ?_
  refine n_ctorP (As := []) (i := 0) (rest := [.ref (G.2.1 + 0)]) dL_law_4 ll_19 wi_10 (d' := 4) (by decide) (by decide) (Nat.le_of_ble_eq_true rfl) (k_10 _ 0 rfl) ?_
  show AN l G room_1 lw_Z (ZL G b L xs) nm RL cL_law 7 (some .boolean) 84 1971 7 [some (.ref b)] [.ref (G.2.1 + 0)] (WO G)
  refine n_astore_n dL_law_7 (by decide) rfl ?_
  refine n_new (ci := 11) (fs := df11) tyX11 dL_law_8 rfl tyX11_ok df_L_11 cl_L_11 ib_L_11 in_L_11 (Nat.le_of_ble_eq_true rfl) (Nat.le_of_ble_eq_true rfl) ?_
  rw [WO_len]
  refine n_dup dL_law_11 rfl ?_
  refine n_ctorP (As := []) (i := 84) (rest := [.ref (G.2.1 + 84)]) dL_law_12 ll_22 wi_11 (d' := 2) (by decide) (by decide) (Nat.le_of_ble_eq_true rfl) (k_11 _ 84 rfl) ?_
  show AN l G room_1 lw_Z (ZL G b L xs) nm RL cL_law 7 (some .boolean) 96 10418 15 [some (.ref b), some (.ref (G.2.1 + 0))] [.ref (G.2.1 + 84)] (WO G ++ WM1 G)
  refine n_astore_n dL_law_15 (by decide) rfl ?_
  refine n_iconst (v := 1) dL_law_16 (by decide) ?_
  refine n_newa (a0 := (1, .inr (.inl (fun _ => 0)))) dL_law_17 rfl ac_l (t0 := 2) rfl (fun _ _ h => h) (fun _ => rfl) (by decide) (N' := 1) (by decide) (by decide) (Nat.le_of_ble_eq_true rfl) (Nat.le_of_ble_eq_true rfl) ?_
  rw [List.append_assoc]
  show AN l G room_1 lw_Z (ZL G b L xs) nm RL cL_law 7 (some .boolean) 97 10419 19 [some (.ref b), some (.ref (G.2.1 + 0)), some (.ref (G.2.1 + 84))] [.ref (G.2.1 + 96)] (WF G)
  refine n_astore_n dL_law_19 (by decide) rfl ?_
  refine n_iconst (v := 0) dL_law_20 (by decide) ?_
  refine n_istore dL_law_21 (by decide) rfl ?_
  subst hG
  intro p e s m args below meth c H locs ls C hZ hV hS hlv
  exact l_loop hl hL 513 0 h0 (by omega) (by omega) CPL_0 p e s m args below meth c H locs ls C hZ.2.2 (Wd_O hV) hS hlv
