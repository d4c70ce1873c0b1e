theorem c2_has {l : Launch} {G : GG} {h : AH} {Q : Option Value → AH → Prop} {b : Nat} (hb : isB b) {x : Int32} (hQ : Q (some (.int (hasI (h.1 b 1 1) x))) h) : Ct l G 0 yX2_has cX2_has 2 (some .boolean) [.ref (G.1 b 1), .int x] h Q := by
  refine Ct.of (by decide) (Nat.le_of_ble_eq_true rfl) ?_
  show AW l G 0 RX2 cX2_has 2 (some .boolean) 0 [some (.ref (G.1 b 1)), some (.int x)] [] h Q
  refine a_iload_n dX2_has_0 rfl ?_
  refine a_if_lt dX2_has_1 (tgt := 16) (by decide) (fun c1 => ?_) (fun c1 => ?_)
  · refine a_iconst (v := 0) dX2_has_16 (by decide) ?_
    exact a_zret dX2_has_17 rfl rfl (by simpa [hasI, c1] using hQ)
  · refine a_iload_n dX2_has_4 rfl ?_
    refine a_aload_n dX2_has_5 rfl ?_
    refine a_getI (ci := 2) (j := 1) dX2_has_6 (kdB hb rfl) rfl (by decide) rfl fl_2_15 ?_
    refine a_icmp_ge dX2_has_9 (tgt := 16) (by decide) (fun c9 => ?_) (fun c9 => ?_)
    · refine a_iconst (v := 0) dX2_has_16 (by decide) ?_
      exact a_zret dX2_has_17 rfl rfl (by simpa [hasI, c1, c9] using hQ)
    · refine a_iconst (v := 1) dX2_has_12 (by decide) ?_
      refine a_goto dX2_has_13 (tgt := 17) (by decide) ?_
      exact a_zret dX2_has_17 rfl rfl (by simpa [hasI, c1, c9] using hQ)
theorem c3_has {l : Launch} {G : GG} {h : AH} {Q : Option Value → AH → Prop} {b : Nat} (hb : isB b) {x : Int32} (hQ : Q (some (.int (hasI (h.1 b 15 5) x))) h) : Ct l G 0 yX3_has cX3_has 2 (some .boolean) [.ref (G.1 b 15), .int x] h Q := by
  refine Ct.of (by decide) (Nat.le_of_ble_eq_true rfl) ?_
  show AW l G 0 RX3 cX3_has 2 (some .boolean) 0 [some (.ref (G.1 b 15)), some (.int x)] [] h Q
  refine a_iload_n dX3_has_0 rfl ?_
  refine a_if_lt dX3_has_1 (tgt := 16) (by decide) (fun c1 => ?_) (fun c1 => ?_)
  · refine a_iconst (v := 0) dX3_has_16 (by decide) ?_
    exact a_zret dX3_has_17 rfl rfl (by simpa [hasI, c1] using hQ)
  · refine a_iload_n dX3_has_4 rfl ?_
    refine a_aload_n dX3_has_5 rfl ?_
    refine a_getI (ci := 3) (j := 5) dX3_has_6 (kdB hb rfl) rfl (by decide) rfl fl_3_27 ?_
    refine a_icmp_ge dX3_has_9 (tgt := 16) (by decide) (fun c9 => ?_) (fun c9 => ?_)
    · refine a_iconst (v := 0) dX3_has_16 (by decide) ?_
      exact a_zret dX3_has_17 rfl rfl (by simpa [hasI, c1, c9] using hQ)
    · refine a_iconst (v := 1) dX3_has_12 (by decide) ?_
      refine a_goto dX3_has_13 (tgt := 17) (by decide) ?_
      exact a_zret dX3_has_17 rfl rfl (by simpa [hasI, c1, c9] using hQ)
theorem c4_has {l : Launch} {G : GG} {h : AH} {Q : Option Value → AH → Prop} {b : Nat} (hb : isB b) {x : Int32} (hQ : Q (some (.int (hasI (h.1 b 3 11) x))) h) : Ct l G 0 yX4_has cX4_has 2 (some .boolean) [.ref (G.1 b 3), .int x] h Q := by
  refine Ct.of (by decide) (Nat.le_of_ble_eq_true rfl) ?_
  show AW l G 0 RX4 cX4_has 2 (some .boolean) 0 [some (.ref (G.1 b 3)), some (.int x)] [] h Q
  refine a_iload_n dX4_has_0 rfl ?_
  refine a_if_lt dX4_has_1 (tgt := 16) (by decide) (fun c1 => ?_) (fun c1 => ?_)
  · refine a_iconst (v := 0) dX4_has_16 (by decide) ?_
    exact a_zret dX4_has_17 rfl rfl (by simpa [hasI, c1] using hQ)
  · refine a_iload_n dX4_has_4 rfl ?_
    refine a_aload_n dX4_has_5 rfl ?_
    refine a_getI (ci := 4) (j := 11) dX4_has_6 (kdB hb rfl) rfl (by decide) rfl fl_4_49 ?_
    refine a_icmp_ge dX4_has_9 (tgt := 16) (by decide) (fun c9 => ?_) (fun c9 => ?_)
    · refine a_iconst (v := 0) dX4_has_16 (by decide) ?_
      exact a_zret dX4_has_17 rfl rfl (by simpa [hasI, c1, c9] using hQ)
    · refine a_iconst (v := 1) dX4_has_12 (by decide) ?_
      refine a_goto dX4_has_13 (tgt := 17) (by decide) ?_
      exact a_zret dX4_has_17 rfl rfl (by simpa [hasI, c1, c9] using hQ)
theorem c9_has {l : Launch} {G : GG} {h : AH} {Q : Option Value → AH → Prop} {b : Nat} (hb : isB b) {x : Int32} (hQ : Q (some (.int (hasI (h.1 b 21 9) x))) h) : Ct l G 0 yX9_has cX9_has 2 (some .boolean) [.ref (G.1 b 21), .int x] h Q := by
  refine Ct.of (by decide) (Nat.le_of_ble_eq_true rfl) ?_
  show AW l G 0 RX9 cX9_has 2 (some .boolean) 0 [some (.ref (G.1 b 21)), some (.int x)] [] h Q
  refine a_iload_n dX9_has_0 rfl ?_
  refine a_if_lt dX9_has_1 (tgt := 16) (by decide) (fun c1 => ?_) (fun c1 => ?_)
  · refine a_iconst (v := 0) dX9_has_16 (by decide) ?_
    exact a_zret dX9_has_17 rfl rfl (by simpa [hasI, c1] using hQ)
  · refine a_iload_n dX9_has_4 rfl ?_
    refine a_aload_n dX9_has_5 rfl ?_
    refine a_getI (ci := 9) (j := 9) dX9_has_6 (kdB hb rfl) rfl (by decide) rfl fl_9_39 ?_
    refine a_icmp_ge dX9_has_9 (tgt := 16) (by decide) (fun c9 => ?_) (fun c9 => ?_)
    · refine a_iconst (v := 0) dX9_has_16 (by decide) ?_
      exact a_zret dX9_has_17 rfl rfl (by simpa [hasI, c1, c9] using hQ)
    · refine a_iconst (v := 1) dX9_has_12 (by decide) ?_
      refine a_goto dX9_has_13 (tgt := 17) (by decide) ?_
      exact a_zret dX9_has_17 rfl rfl (by simpa [hasI, c1, c9] using hQ)
def keepF (h : AH) (b : Nat) (kd wh am : Int32) : AH :=
  ui (ui (ui (ui (ui h b 32 (h.1 b 31 3).toNatClampNeg kd) b 33 (h.1 b 31 3).toNatClampNeg wh) b 34 (h.1 b 31 3).toNatClampNeg am) b 31 3 (h.1 b 31 3 + 1 - (h.1 b 31 3 + 1) / 10 * 10)) b 31 4 (if 10 < h.1 b 31 4 + 1 then 10 else h.1 b 31 4 + 1)
def takeX (x : Int32) : Int32 := ((if (0 : Int32) < x then x else 0) + 10 - 1) - ((if (0 : Int32) < x then x else 0) + 10 - 1) / 10 * 10
def takeF (h : AH) (b : Nat) : AH := ui (ui h b 31 3 (takeX (h.1 b 31 3))) b 31 4 (h.1 b 31 4 - 1)
theorem c0_keep {l : Launch} {G : GG} {h : AH} {Q : Option Value → AH → Prop} {b : Nat} (hb : isB b) {x y z : Int32} (hn : ¬ h.1 b 31 3 < 0) (hn2 : h.1 b 31 3 < 10) (hin : vp_in (h.1 b 31 3) 10) (hQ : Q none (keepF h b x y z)) : Ct l G 1 yX0_keep cX0_keep 4 none [.ref (G.1 b 31), .int x, .int y, .int z] h Q := by
  refine Ct.of (by decide) (Nat.le_of_ble_eq_true rfl) ?_
  show AW l G 1 RX0 cX0_keep 4 none 0 [some (.ref (G.1 b 31)), some (.int x), some (.int y), some (.int z)] [] h Q
  refine a_aload_n dX0_keep_0 rfl ?_
  refine a_getI (ci := 0) (j := 3) dX0_keep_1 (kdB hb rfl) rfl (by decide) rfl fl_0_21 ?_
  refine a_if_lt dX0_keep_4 (tgt := 16) (by decide) (fun c4 => ?_) (fun c4 => ?_)
  · exact absurd c4 hn
  · refine a_aload_n dX0_keep_7 rfl ?_
    refine a_getI (ci := 0) (j := 3) dX0_keep_8 (kdB hb rfl) rfl (by decide) rfl fl_0_21 ?_
    refine a_bipush (v := 10) dX0_keep_11 (by decide) ?_
    refine a_icmp_lt dX0_keep_13 (tgt := 21) (by decide) (fun c13 => ?_) (fun c13 => ?_)
    · refine a_aload_n dX0_keep_21 rfl ?_
      refine a_getR (ci := 0) (j := 0) dX0_keep_22 (kdB hb rfl) rfl (by decide) rfl fl_0_9 ?_
      refine a_aload_n dX0_keep_25 rfl ?_
      refine a_getI (ci := 0) (j := 3) dX0_keep_26 (kdB hb rfl) rfl (by decide) rfl fl_0_21 ?_
      refine a_iload_n dX0_keep_29 rfl ?_
      refine a_iastore dX0_keep_30 (kdB hb rfl) (by assumption) ?_
      refine a_aload_n dX0_keep_31 rfl ?_
      refine a_getR (ci := 0) (j := 1) dX0_keep_32 (kdB hb rfl) rfl (by decide) rfl fl_0_15 ?_
      refine a_aload_n dX0_keep_35 rfl ?_
      refine a_getI (ci := 0) (j := 3) dX0_keep_36 (kdB hb rfl) rfl (by decide) rfl fl_0_21 ?_
      try simp (disch := first | decide | assumption | omega) only [ui_eq, ui_k, ui_j, ui_b, ui_2, ul_1, ul_eq, ul_k, ul_j, ul_b]
      refine a_iload_n dX0_keep_39 rfl ?_
      refine a_iastore dX0_keep_40 (kdB hb rfl) (by assumption) ?_
      refine a_aload_n dX0_keep_41 rfl ?_
      refine a_getR (ci := 0) (j := 2) dX0_keep_42 (kdB hb rfl) rfl (by decide) rfl fl_0_18 ?_
      refine a_aload_n dX0_keep_45 rfl ?_
      refine a_getI (ci := 0) (j := 3) dX0_keep_46 (kdB hb rfl) rfl (by decide) rfl fl_0_21 ?_
      try simp (disch := first | decide | assumption | omega) only [ui_eq, ui_k, ui_j, ui_b, ui_2, ul_1, ul_eq, ul_k, ul_j, ul_b]
      refine a_iload_n dX0_keep_49 rfl ?_
      refine a_iastore dX0_keep_50 (kdB hb rfl) (by assumption) ?_
      refine a_aload_n dX0_keep_51 rfl ?_
      refine a_aload_n dX0_keep_52 rfl ?_
      refine a_getI (ci := 0) (j := 3) dX0_keep_53 (kdB hb rfl) rfl (by decide) rfl fl_0_21 ?_
      try simp (disch := first | decide | assumption | omega) only [ui_eq, ui_k, ui_j, ui_b, ui_2, ul_1, ul_eq, ul_k, ul_j, ul_b]
      refine a_iconst (v := 1) dX0_keep_56 (by decide) ?_
      refine a_iadd dX0_keep_57 ?_
      refine a_bipush (v := 10) dX0_keep_58 (by decide) ?_
      refine a_irem dX0_keep_60 (by decide) ?_
      refine a_putI (ci := 0) (j := 3) dX0_keep_61 (kdB hb rfl) rfl (by decide) (by decide) rfl fl_0_21 ?_
      refine a_aload_n dX0_keep_64 rfl ?_
      refine a_aload_n dX0_keep_65 rfl ?_
      refine a_getI (ci := 0) (j := 4) dX0_keep_66 (kdB hb rfl) rfl (by decide) rfl fl_0_25 ?_
      try simp (disch := first | decide | assumption | omega) only [ui_eq, ui_k, ui_j, ui_b, ui_2, ul_1, ul_eq, ul_k, ul_j, ul_b]
      refine a_iconst (v := 1) dX0_keep_69 (by decide) ?_
      refine a_iadd dX0_keep_70 ?_
      refine a_bipush (v := 10) dX0_keep_71 (by decide) ?_
      refine a_mmin dX0_keep_73 ml_0_28 (by decide) (Nat.le_of_ble_eq_true rfl) ?_
      refine a_putI (ci := 0) (j := 4) dX0_keep_76 (kdB hb rfl) rfl (by decide) (by decide) rfl fl_0_25 ?_
      exact a_vret dX0_keep_79 rfl hQ
    · exact absurd hn2 c13
theorem c0_takeLatest {l : Launch} {G : GG} {h : AH} {Q : Option Value → AH → Prop} {b : Nat} (hb : isB b) (hQ : Q (some (.int (takeX (h.1 b 31 3)))) (takeF h b)) : Ct l G 1 yX0_takeLatest cX0_takeLatest 1 (some .int) [.ref (G.1 b 31)] h Q := by
  refine Ct.of (by decide) (Nat.le_of_ble_eq_true rfl) ?_
  show AW l G 1 RX0 cX0_takeLatest 1 (some .int) 0 [some (.ref (G.1 b 31))] [] h Q
  refine a_aload_n dX0_takeLatest_0 rfl ?_
  refine a_iconst (v := 0) dX0_takeLatest_1 (by decide) ?_
  refine a_aload_n dX0_takeLatest_2 rfl ?_
  refine a_getI (ci := 0) (j := 3) dX0_takeLatest_3 (kdB hb rfl) rfl (by decide) rfl fl_0_21 ?_
  refine a_mmax dX0_takeLatest_6 ml_0_34 (by decide) (Nat.le_of_ble_eq_true rfl) ?_
  refine a_bipush (v := 10) dX0_takeLatest_9 (by decide) ?_
  refine a_iadd dX0_takeLatest_11 ?_
  refine a_iconst (v := 1) dX0_takeLatest_12 (by decide) ?_
  refine a_isub dX0_takeLatest_13 ?_
  refine a_bipush (v := 10) dX0_takeLatest_14 (by decide) ?_
  refine a_irem dX0_takeLatest_16 (by decide) ?_
  refine a_putI (ci := 0) (j := 3) dX0_takeLatest_17 (kdB hb rfl) rfl (by decide) (by decide) rfl fl_0_21 ?_
  refine a_aload_n dX0_takeLatest_20 rfl ?_
  refine a_dup dX0_takeLatest_21 rfl ?_
  refine a_getI (ci := 0) (j := 4) dX0_takeLatest_22 (kdB hb rfl) rfl (by decide) rfl fl_0_25 ?_
  try simp (disch := first | decide | assumption | omega) only [ui_eq, ui_k, ui_j, ui_b, ui_2, ul_1, ul_eq, ul_k, ul_j, ul_b]
  refine a_iconst (v := 1) dX0_takeLatest_25 (by decide) ?_
  refine a_isub dX0_takeLatest_26 ?_
  refine a_putI (ci := 0) (j := 4) dX0_takeLatest_27 (kdB hb rfl) rfl (by decide) (by decide) rfl fl_0_25 ?_
  refine a_aload_n dX0_takeLatest_30 rfl ?_
  refine a_getI (ci := 0) (j := 3) dX0_takeLatest_31 (kdB hb rfl) rfl (by decide) rfl fl_0_21 ?_
  try simp (disch := first | decide | assumption | omega) only [ui_eq, ui_k, ui_j, ui_b, ui_2, ul_1, ul_eq, ul_k, ul_j, ul_b]
  exact a_iret dX0_takeLatest_34 rfl hQ
