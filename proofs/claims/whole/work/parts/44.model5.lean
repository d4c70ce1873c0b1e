def bytM (x s : Int32) : Int32 := (x.toUInt32 >>> (s.toUInt32 &&& Int32.toUInt32 31)).toInt32 &&& 255
def layF (h : AH) (x : Int32) (L : Nat) : AH :=
  ui (ui (ui (ui (ui (ui (ui (ui h 3 1 L (bytM x 24)) 3 0 2 (nI (L + 1))) 3 1 (L + 1) (bytM x 16)) 3 0 2 (nI (L + 1 + 1))) 3 1 (L + 1 + 1) (bytM x 8)) 3 0 2 (nI (L + 1 + 1 + 1))) 3 1 (L + 1 + 1 + 1) (bytM x 0)) 3 0 2 (nI (L + 1 + 1 + 1 + 1))
theorem layF_L {h : AH} {x : Int32} {L : Nat} : (layF h x L).1 3 0 2 = nI (L + 4) := by unfold layF; rw [ui_eq]
def mFeed (h : AH) (L : Nat) (a b c d e : Int32) : AH := layF (layF (layF (layF (layF (ui h 3 0 0 0) a L) b (L + 4)) c (L + 8)) d (L + 12)) e (L + 16)
theorem c11_lays {l : Launch} {G : GG} {h : AH} {Q : Option Value → AH → Prop} {x : Int32} {L : Nat} (hL : h.1 3 0 2 = nI L) (h740 : L + 4 ≤ 740) (hQ : Q none (layF h x L)) : Ct l G 0 yX11_lays cX11_lays 3 none [.ref (G.1 3 0), .int x] h Q := by
  refine Ct.of (by decide) (Nat.le_of_ble_eq_true rfl) ?_
  show AW l G 0 RX11 cX11_lays 3 none 0 [some (.ref (G.1 3 0)), some (.int x)] [] h Q
  have e0 : (nI L).toNatClampNeg = L := nI_clamp (by omega)
  have e1 : (nI (L + 1)).toNatClampNeg = L + 1 := nI_clamp (by omega)
  have e2 : (nI (L + 1 + 1)).toNatClampNeg = L + 1 + 1 := nI_clamp (by omega)
  have e3 : (nI (L + 1 + 1 + 1)).toNatClampNeg = L + 1 + 1 + 1 := nI_clamp (by omega)
  refine a_bipush (v := 24) dX11_lays_0 (by decide) ?_
  refine a_istore_n dX11_lays_2 (by decide) rfl ?_
  dsimp only [lset]
  refine a_iload_n dX11_lays_3 rfl ?_
  refine a_if_lt dX11_lays_4 (tgt := 39) (by decide) (fun c4 => ?_) (fun c4 => ?_)
  · exact absurd c4 (by decide)
  · refine a_aload_n dX11_lays_7 rfl ?_
    refine a_getR (ci := 11) (j := 1) dX11_lays_8 rfl rfl (by decide) rfl fl_11_7 ?_
    refine a_aload_n dX11_lays_11 rfl ?_
    refine a_getI (ci := 11) (j := 2) dX11_lays_12 rfl rfl (by decide) rfl fl_11_11 ?_
    try simp (disch := first | decide | assumption | omega) only [ui_eq, ui_k, ui_j, ui_b, ui_2, ul_1, ul_eq, ul_k, ul_j, ul_b, hL, nI_1]
    refine a_iload_n dX11_lays_15 rfl ?_
    refine a_iload_n dX11_lays_16 rfl ?_
    refine a_iushr dX11_lays_17 ?_
    refine a_sipush (v := 255) dX11_lays_18 (by decide) ?_
    refine a_iand dX11_lays_21 ?_
    refine a_iastore dX11_lays_22 rfl (vp_in_nI (by omega) (by decide)) ?_
    refine a_aload_n dX11_lays_23 rfl ?_
    refine a_dup dX11_lays_24 rfl ?_
    refine a_getI (ci := 11) (j := 2) dX11_lays_25 rfl rfl (by decide) rfl fl_11_11 ?_
    try simp (disch := first | decide | assumption | omega) only [ui_eq, ui_k, ui_j, ui_b, ui_2, ul_1, ul_eq, ul_k, ul_j, ul_b, hL, nI_1]
    refine a_iconst (v := 1) dX11_lays_28 (by decide) ?_
    refine a_iadd dX11_lays_29 ?_
    refine a_putI (ci := 11) (j := 2) dX11_lays_30 rfl rfl (by decide) (by decide) rfl fl_11_11 ?_
    refine a_inc (c := (-8)) dX11_lays_33 rfl (by decide) (by decide) rfl ?_
    dsimp only [lset]
    refine a_goto dX11_lays_36 (tgt := 3) (by decide) ?_
    refine a_iload_n dX11_lays_3 rfl ?_
    refine a_if_lt dX11_lays_4 (tgt := 39) (by decide) (fun c4v2 => ?_) (fun c4v2 => ?_)
    · exact absurd c4v2 (by decide)
    · refine a_aload_n dX11_lays_7 rfl ?_
      refine a_getR (ci := 11) (j := 1) dX11_lays_8 rfl rfl (by decide) rfl fl_11_7 ?_
      refine a_aload_n dX11_lays_11 rfl ?_
      refine a_getI (ci := 11) (j := 2) dX11_lays_12 rfl rfl (by decide) rfl fl_11_11 ?_
      try simp (disch := first | decide | assumption | omega) only [ui_eq, ui_k, ui_j, ui_b, ui_2, ul_1, ul_eq, ul_k, ul_j, ul_b, hL, nI_1]
      refine a_iload_n dX11_lays_15 rfl ?_
      refine a_iload_n dX11_lays_16 rfl ?_
      refine a_iushr dX11_lays_17 ?_
      refine a_sipush (v := 255) dX11_lays_18 (by decide) ?_
      refine a_iand dX11_lays_21 ?_
      refine a_iastore dX11_lays_22 rfl (vp_in_nI (by omega) (by decide)) ?_
      refine a_aload_n dX11_lays_23 rfl ?_
      refine a_dup dX11_lays_24 rfl ?_
      refine a_getI (ci := 11) (j := 2) dX11_lays_25 rfl rfl (by decide) rfl fl_11_11 ?_
      try simp (disch := first | decide | assumption | omega) only [ui_eq, ui_k, ui_j, ui_b, ui_2, ul_1, ul_eq, ul_k, ul_j, ul_b, hL, nI_1]
      refine a_iconst (v := 1) dX11_lays_28 (by decide) ?_
      refine a_iadd dX11_lays_29 ?_
      refine a_putI (ci := 11) (j := 2) dX11_lays_30 rfl rfl (by decide) (by decide) rfl fl_11_11 ?_
      refine a_inc (c := (-8)) dX11_lays_33 rfl (by decide) (by decide) rfl ?_
      dsimp only [lset]
      refine a_goto dX11_lays_36 (tgt := 3) (by decide) ?_
      refine a_iload_n dX11_lays_3 rfl ?_
      refine a_if_lt dX11_lays_4 (tgt := 39) (by decide) (fun c4v3 => ?_) (fun c4v3 => ?_)
      · exact absurd c4v3 (by decide)
      · refine a_aload_n dX11_lays_7 rfl ?_
        refine a_getR (ci := 11) (j := 1) dX11_lays_8 rfl rfl (by decide) rfl fl_11_7 ?_
        refine a_aload_n dX11_lays_11 rfl ?_
        refine a_getI (ci := 11) (j := 2) dX11_lays_12 rfl rfl (by decide) rfl fl_11_11 ?_
        try simp (disch := first | decide | assumption | omega) only [ui_eq, ui_k, ui_j, ui_b, ui_2, ul_1, ul_eq, ul_k, ul_j, ul_b, hL, nI_1]
        refine a_iload_n dX11_lays_15 rfl ?_
        refine a_iload_n dX11_lays_16 rfl ?_
        refine a_iushr dX11_lays_17 ?_
        refine a_sipush (v := 255) dX11_lays_18 (by decide) ?_
        refine a_iand dX11_lays_21 ?_
        refine a_iastore dX11_lays_22 rfl (vp_in_nI (by omega) (by decide)) ?_
        refine a_aload_n dX11_lays_23 rfl ?_
        refine a_dup dX11_lays_24 rfl ?_
        refine a_getI (ci := 11) (j := 2) dX11_lays_25 rfl rfl (by decide) rfl fl_11_11 ?_
        try simp (disch := first | decide | assumption | omega) only [ui_eq, ui_k, ui_j, ui_b, ui_2, ul_1, ul_eq, ul_k, ul_j, ul_b, hL, nI_1]
        refine a_iconst (v := 1) dX11_lays_28 (by decide) ?_
        refine a_iadd dX11_lays_29 ?_
        refine a_putI (ci := 11) (j := 2) dX11_lays_30 rfl rfl (by decide) (by decide) rfl fl_11_11 ?_
        refine a_inc (c := (-8)) dX11_lays_33 rfl (by decide) (by decide) rfl ?_
        dsimp only [lset]
        refine a_goto dX11_lays_36 (tgt := 3) (by decide) ?_
        refine a_iload_n dX11_lays_3 rfl ?_
        refine a_if_lt dX11_lays_4 (tgt := 39) (by decide) (fun c4v4 => ?_) (fun c4v4 => ?_)
        · exact absurd c4v4 (by decide)
        · refine a_aload_n dX11_lays_7 rfl ?_
          refine a_getR (ci := 11) (j := 1) dX11_lays_8 rfl rfl (by decide) rfl fl_11_7 ?_
          refine a_aload_n dX11_lays_11 rfl ?_
          refine a_getI (ci := 11) (j := 2) dX11_lays_12 rfl rfl (by decide) rfl fl_11_11 ?_
          try simp (disch := first | decide | assumption | omega) only [ui_eq, ui_k, ui_j, ui_b, ui_2, ul_1, ul_eq, ul_k, ul_j, ul_b, hL, nI_1]
          refine a_iload_n dX11_lays_15 rfl ?_
          refine a_iload_n dX11_lays_16 rfl ?_
          refine a_iushr dX11_lays_17 ?_
          refine a_sipush (v := 255) dX11_lays_18 (by decide) ?_
          refine a_iand dX11_lays_21 ?_
          refine a_iastore dX11_lays_22 rfl (vp_in_nI (by omega) (by decide)) ?_
          refine a_aload_n dX11_lays_23 rfl ?_
          refine a_dup dX11_lays_24 rfl ?_
          refine a_getI (ci := 11) (j := 2) dX11_lays_25 rfl rfl (by decide) rfl fl_11_11 ?_
          try simp (disch := first | decide | assumption | omega) only [ui_eq, ui_k, ui_j, ui_b, ui_2, ul_1, ul_eq, ul_k, ul_j, ul_b, hL, nI_1]
          refine a_iconst (v := 1) dX11_lays_28 (by decide) ?_
          refine a_iadd dX11_lays_29 ?_
          refine a_putI (ci := 11) (j := 2) dX11_lays_30 rfl rfl (by decide) (by decide) rfl fl_11_11 ?_
          refine a_inc (c := (-8)) dX11_lays_33 rfl (by decide) (by decide) rfl ?_
          dsimp only [lset]
          refine a_goto dX11_lays_36 (tgt := 3) (by decide) ?_
          refine a_iload_n dX11_lays_3 rfl ?_
          refine a_if_lt dX11_lays_4 (tgt := 39) (by decide) (fun c4v5 => ?_) (fun c4v5 => ?_)
          · exact a_vret dX11_lays_39 rfl (by
    have s1 : (24 : Int32) + -8 = 16 := by decide
    have s2 : (16 : Int32) + -8 = 8 := by decide
    have s3 : (8 : Int32) + -8 = 0 := by decide
    simpa only [layF, bytM, e0, e1, e2, e3, s1, s2, s3, nI_1] using hQ)
          · exact absurd (by decide) c4v5
theorem c11_feed {l : Launch} {G : GG} {h : AH} {Q : Option Value → AH → Prop} {L : Nat} (hL : h.1 3 0 2 = nI L) (h740 : L ≤ 740) {x0 x1 x2 x3 x4 : Int32} (hQ : if L + 20 ≤ 740 then Q (some (.int (nI (L + 20)))) (mFeed h L x0 x1 x2 x3 x4) else Q (some (.int (-1))) (ui h 3 0 0 0)) : Ct l G 1 yX11_feed cX11_feed 6 (some .int) [.ref (G.1 3 0), .int x0, .int x1, .int x2, .int x3, .int x4] h Q := by
  refine Ct.of (by decide) (Nat.le_of_ble_eq_true rfl) ?_
  show AW l G 1 RX11 cX11_feed 6 (some .int) 0 [some (.ref (G.1 3 0)), some (.int x0), some (.int x1), some (.int x2), some (.int x3), some (.int x4)] [] h Q
  have e20 : nI L + 20 = nI (L + 20) := nI_add L 20
  refine a_aload_n dX11_feed_0 rfl ?_
  refine a_iconst (v := 0) dX11_feed_1 (by decide) ?_
  refine a_putI (ci := 11) (j := 0) dX11_feed_2 rfl rfl (by decide) (by decide) rfl fl_11_1 ?_
  refine a_aload_n dX11_feed_5 rfl ?_
  refine a_getI (ci := 11) (j := 2) dX11_feed_6 rfl rfl (by decide) rfl fl_11_11 ?_
  try simp (disch := first | decide | assumption | omega) only [ui_eq, ui_k, ui_j, ui_b, ui_2, ul_1, ul_eq, ul_k, ul_j, ul_b, hL, layF_L]
  refine a_bipush (v := 20) dX11_feed_9 (by decide) ?_
  refine a_iadd dX11_feed_11 ?_
  refine a_sipush (v := 740) dX11_feed_12 (by decide) ?_
  rw [e20]
  refine a_icmp_le dX11_feed_15 (tgt := 20) (by decide) (fun c15 => ?_) (fun c15 => ?_)
  · have h20 : L + 20 ≤ 740 := le_of_le (a := 740) c15 (by decide) (by omega)
    rw [if_pos h20] at hQ
    refine a_aload_n dX11_feed_20 rfl ?_
    refine a_iload_n dX11_feed_21 rfl ?_
    refine a_cV1v dX11_feed_22 ml_11_14 wv_11_lays rfl rfl (by decide) (Nat.le_of_ble_eq_true rfl) (c11_lays (by rw [ui_j (by decide)]; exact hL) (by omega) ⟨rfl, rfl⟩) ?_
    try simp (disch := first | decide | assumption | omega) only [ui_eq, ui_k, ui_j, ui_b, ui_2, ul_1, ul_eq, ul_k, ul_j, ul_b, hL, layF_L]
    refine a_aload_n dX11_feed_25 rfl ?_
    refine a_iload_n dX11_feed_26 rfl ?_
    refine a_cV1v dX11_feed_27 ml_11_14 wv_11_lays rfl rfl (by decide) (Nat.le_of_ble_eq_true rfl) (c11_lays layF_L (by omega) ⟨rfl, rfl⟩) ?_
    try simp (disch := first | decide | assumption | omega) only [ui_eq, ui_k, ui_j, ui_b, ui_2, ul_1, ul_eq, ul_k, ul_j, ul_b, hL, layF_L]
    refine a_aload_n dX11_feed_30 rfl ?_
    refine a_iload_n dX11_feed_31 rfl ?_
    refine a_cV1v dX11_feed_32 ml_11_14 wv_11_lays rfl rfl (by decide) (Nat.le_of_ble_eq_true rfl) (c11_lays layF_L (by omega) ⟨rfl, rfl⟩) ?_
    try simp (disch := first | decide | assumption | omega) only [ui_eq, ui_k, ui_j, ui_b, ui_2, ul_1, ul_eq, ul_k, ul_j, ul_b, hL, layF_L]
    refine a_aload_n dX11_feed_35 rfl ?_
    refine a_iload dX11_feed_36 rfl ?_
    refine a_cV1v dX11_feed_38 ml_11_14 wv_11_lays rfl rfl (by decide) (Nat.le_of_ble_eq_true rfl) (c11_lays layF_L (by omega) ⟨rfl, rfl⟩) ?_
    try simp (disch := first | decide | assumption | omega) only [ui_eq, ui_k, ui_j, ui_b, ui_2, ul_1, ul_eq, ul_k, ul_j, ul_b, hL, layF_L]
    refine a_aload_n dX11_feed_41 rfl ?_
    refine a_iload dX11_feed_42 rfl ?_
    refine a_cV1v dX11_feed_44 ml_11_14 wv_11_lays rfl rfl (by decide) (Nat.le_of_ble_eq_true rfl) (c11_lays layF_L (by omega) ⟨rfl, rfl⟩) ?_
    try simp (disch := first | decide | assumption | omega) only [ui_eq, ui_k, ui_j, ui_b, ui_2, ul_1, ul_eq, ul_k, ul_j, ul_b, hL, layF_L]
    refine a_aload_n dX11_feed_47 rfl ?_
    refine a_getI (ci := 11) (j := 2) dX11_feed_48 rfl rfl (by decide) rfl fl_11_11 ?_
    try simp (disch := first | decide | assumption | omega) only [ui_eq, ui_k, ui_j, ui_b, ui_2, ul_1, ul_eq, ul_k, ul_j, ul_b, hL, layF_L]
    exact a_iret dX11_feed_51 rfl hQ
  · rw [if_neg (fun z => c15 (nI_le (b := 740) z (by decide)))] at hQ
    refine a_iconst (v := (-1)) dX11_feed_18 (by decide) ?_
    exact a_iret dX11_feed_19 rfl hQ
theorem c11_end {l : Launch} {G : GG} {h : AH} {Q : Option Value → AH → Prop} {x : Int32} (hQ : if x < 0 then Q (some (.int 0)) (ui h 3 0 0 0) else if x ≤ h.1 3 0 2 then Q (some (.int 1)) (ui (ui h 3 0 0 0) 3 0 2 x) else Q (some (.int 0)) (ui h 3 0 0 0)) : Ct l G 0 yX11_end cX11_end 2 (some .boolean) [.ref (G.1 3 0), .int x] h Q := by
  refine Ct.of (by decide) (Nat.le_of_ble_eq_true rfl) ?_
  show AW l G 0 RX11 cX11_end 2 (some .boolean) 0 [some (.ref (G.1 3 0)), some (.int x)] [] h Q
  refine a_aload_n dX11_end_0 rfl ?_
  refine a_iconst (v := 0) dX11_end_1 (by decide) ?_
  refine a_putI (ci := 11) (j := 0) dX11_end_2 rfl rfl (by decide) (by decide) rfl fl_11_1 ?_
  refine a_iload_n dX11_end_5 rfl ?_
  refine a_if_lt dX11_end_6 (tgt := 17) (by decide) (fun c6 => ?_) (fun c6 => ?_)
  · refine a_iconst (v := 0) dX11_end_17 (by decide) ?_
    exact a_zret dX11_end_18 rfl rfl (by simp only [c6, if_true, if_false] at hQ; exact hQ)
  · refine a_iload_n dX11_end_9 rfl ?_
    refine a_aload_n dX11_end_10 rfl ?_
    refine a_getI (ci := 11) (j := 2) dX11_end_11 rfl rfl (by decide) rfl fl_11_11 ?_
    try simp (disch := first | decide | assumption | omega) only [ui_eq, ui_k, ui_j, ui_b, ui_2, ul_1, ul_eq, ul_k, ul_j, ul_b]
    refine a_icmp_le dX11_end_14 (tgt := 19) (by decide) (fun c14 => ?_) (fun c14 => ?_)
    · refine a_aload_n dX11_end_19 rfl ?_
      refine a_iload_n dX11_end_20 rfl ?_
      refine a_putI (ci := 11) (j := 2) dX11_end_21 rfl rfl (by decide) (by decide) rfl fl_11_11 ?_
      refine a_iconst (v := 1) dX11_end_24 (by decide) ?_
      exact a_zret dX11_end_25 rfl rfl (by simp only [c6, c14, if_true, if_false] at hQ; exact hQ)
    · refine a_iconst (v := 0) dX11_end_17 (by decide) ?_
      exact a_zret dX11_end_18 rfl rfl (by simp only [c6, c14, if_true, if_false] at hQ; exact hQ)
theorem c11_fault {l : Launch} {G : GG} {h : AH} {Q : Option Value → AH → Prop}  (hQ : Q (some (.int (h.1 3 0 8))) (ui h 3 0 0 0)) : Ct l G 0 yX11_fault cX11_fault 1 (some .int) [.ref (G.1 3 0)] h Q := by
  refine Ct.of (by decide) (Nat.le_of_ble_eq_true rfl) ?_
  show AW l G 0 RX11 cX11_fault 1 (some .int) 0 [some (.ref (G.1 3 0))] [] h Q
  refine a_aload_n dX11_fault_0 rfl ?_
  refine a_iconst (v := 0) dX11_fault_1 (by decide) ?_
  refine a_putI (ci := 11) (j := 0) dX11_fault_2 rfl rfl (by decide) (by decide) rfl fl_11_1 ?_
  refine a_aload_n dX11_fault_5 rfl ?_
  refine a_getI (ci := 11) (j := 8) dX11_fault_6 rfl rfl (by decide) rfl fl_11_60 ?_
  try simp (disch := first | decide | assumption | omega) only [ui_eq, ui_k, ui_j, ui_b, ui_2, ul_1, ul_eq, ul_k, ul_j, ul_b]
  exact a_iret dX11_fault_9 rfl hQ
/-- the object's ints, its word, the row that is read -/
def pH (h : AH) (o : Nat → Int32) (w : Int64) (r : Nat → Int32) : AH := (fun b k j => if b = 3 ∧ k = 0 then o j else if b = 3 ∧ k = 3 then r j else h.1 b k j, fun b k j => if b = 3 ∧ k = 0 ∧ j = 10 then w else h.2 b k j)
theorem pH_o {h : AH} {o : Nat → Int32} {w : Int64} {r : Nat → Int32} {j : Nat} {v : Int32} : ui (pH h o w r) 3 0 j v = pH h (upd o j v) w r := by
  refine ah_ext (fun b' k' j' => ?_) rfl
  simp only [ui, pH, upd]
  by_cases e : b' = 3 ∧ k' = 0
  · obtain ⟨rfl, rfl⟩ := e
    by_cases e5 : j' = j <;> simp [e5]
  · have e2 : ¬ (b' = 3 ∧ k' = 0 ∧ j' = j) := fun z => e ⟨z.1, z.2.1⟩
    simp [e, e2]
theorem pH_r {h : AH} {o : Nat → Int32} {w : Int64} {r : Nat → Int32} {j : Nat} {v : Int32} : ui (pH h o w r) 3 3 j v = pH h o w (upd r j v) := by
  refine ah_ext (fun b' k' j' => ?_) rfl
  simp only [ui, pH, upd]
  by_cases e : b' = 3 ∧ k' = 3
  · obtain ⟨rfl, rfl⟩ := e
    by_cases e5 : j' = j <;> simp [e5]
  · have e2 : ¬ (b' = 3 ∧ k' = 3 ∧ j' = j) := fun z => e ⟨z.1, z.2.1⟩
    simp [e, e2]
theorem pH_w {h : AH} {o : Nat → Int32} {w : Int64} {r : Nat → Int32} {v : Int64} : ul (pH h o w r) 3 0 10 v = pH h o v r := by
  refine Prod.ext rfl (funext fun b' => funext fun k' => funext fun j' => ?_)
  simp only [ul, pH]
  by_cases e : b' = 3 ∧ k' = 0 ∧ j' = 10
  · simp [e]
  · simp [e]
theorem pH_g {h : AH} {o : Nat → Int32} {w : Int64} {r : Nat → Int32} {j : Nat} : (pH h o w r).1 3 0 j = o j := rfl
theorem pH_gr {h : AH} {o : Nat → Int32} {w : Int64} {r : Nat → Int32} {j : Nat} : (pH h o w r).1 3 3 j = r j := rfl
theorem pH_gw {h : AH} {o : Nat → Int32} {w : Int64} {r : Nat → Int32} : (pH h o w r).2 3 0 10 = w := rfl
theorem pH_gt {h : AH} {o : Nat → Int32} {w : Int64} {r : Nat → Int32} {j : Nat} : (pH h o w r).1 3 1 j = h.1 3 1 j := rfl
theorem pH_self {h : AH} : pH h (h.1 3 0) (h.2 3 0 10) (h.1 3 3) = h := by
  refine Prod.ext (funext fun b' => funext fun k' => funext fun j' => ?_) (funext fun b' => funext fun k' => funext fun j' => ?_)
  · simp only [pH]
    split
    · rename_i e; rw [e.1, e.2]
    · split
      · rename_i e; rw [e.1, e.2]
      · rfl
  · simp only [pH]
    split
    · rename_i e; rw [e.1, e.2.1, e.2.2]
    · rfl
theorem up_eq {f : Nat → Int32} {j : Nat} {v : Int32} : upd f j v j = v := by simp [upd]
theorem up_ne {f : Nat → Int32} {j k : Nat} {v : Int32} (h : k ≠ j) : upd f j v k = f k := by simp [upd, h]
theorem up_s {f : Nat → Int32} {j : Nat} {v : Int32} (h : f j = v) : upd f j v = f := by
  funext k
  by_cases e : k = j
  · subst e; simp [upd, h]
  · simp [upd, e]
theorem up_2 {f : Nat → Int32} {j : Nat} {v w : Int32} : upd (upd f j v) j w = upd f j w := by funext k; by_cases e : k = j <;> simp [upd, e]
theorem up_c {f : Nat → Int32} {j k : Nat} {v w : Int32} (h : k < j) : upd (upd f j v) k w = upd (upd f k w) j v := by
  funext i
  by_cases e : i = j
  · subst e
    simp [upd, show i ≠ k by omega]
  · by_cases e2 : i = k <;> simp [upd, e, e2]
    intro q
    omega
abbrev M4 : Type := Int32 × Int64 × Int32 × Nat
/-- good, the word, the number, the place behind -/
def rnM (T : Nat → Int32) (q : Nat) (lt : Int32) : Nat → M4 → M4
  | 0, s => s
  | f + 1, s => if letF (T s.2.2.2) = 0 ∧ digF (T s.2.2.2) = 0 then s else
      rnM T q lt f ((if s.1 = 0 then 0 else if letF (T s.2.2.2) = lt then 1 else 0), (if s.2.2.2 - q < 7 then 27 * s.2.1 + (T s.2.2.2).toInt64 - 96 else s.2.1), (if s.2.2.2 - q < 2 then 10 * s.2.2.1 + T s.2.2.2 - 48 else s.2.2.1), s.2.2.2 + 1)
theorem rnM_le (T : Nat → Int32) (q : Nat) (lt : Int32) (f : Nat) : ∀ s : M4, s.2.2.2 ≤ (rnM T q lt f s).2.2.2 ∧ (rnM T q lt f s).2.2.2 ≤ s.2.2.2 + f := by
  induction f with
  | zero => intro s; exact ⟨Nat.le_refl _, Nat.le_refl _⟩
  | succ f ih =>
    intro s
    unfold rnM
    split
    · exact ⟨Nat.le_refl _, by omega⟩
    · have := ih ((if s.1 = 0 then 0 else if letF (T s.2.2.2) = lt then 1 else 0), (if s.2.2.2 - q < 7 then 27 * s.2.1 + (T s.2.2.2).toInt64 - 96 else s.2.1), (if s.2.2.2 - q < 2 then 10 * s.2.2.1 + T s.2.2.2 - 48 else s.2.2.1), s.2.2.2 + 1)
      simp only [] at this
      omega
theorem skG_ge (t : Nat → Int32) (f : Nat) : ∀ p, p ≤ skG t f p := by
  induction f with
  | zero => intro p; exact Nat.le_refl _
  | succ f ih =>
    intro p
    unfold skG
    split
    · have := ih (p + 1); omega
    · split
      · have := ih (p + 1); omega
      · omega
def rnS (lt : Int32) (q : Nat) (s : M4) : Int32 := if s.1 = 0 then 1 else if lt = 0 then (if s.2.2.2 - q ≤ 2 then 3 else 1) else 2
def rnR (T : Nat → Int32) (L q : Nat) : M4 := rnM T q (letF (T q)) (L - q) (1, 0, 0, q)
def goT (T : Nat → Int32) (L q : Nat) (o : Nat → Int32) (w : Int64) : (Nat → Int32) × Int64 :=
  if L ≤ q then (upd (upd (upd o 4 (nI q)) 5 (nI q)) 6 0, w) else
  if letF (T q) = 0 ∧ digF (T q) = 0 then (upd (upd (upd o 4 (nI (q + 1))) 5 (nI q)) 6 (if T q = 59 then 4 else 1), w) else
  (upd (upd (upd (upd o 4 (nI (rnR T L q).2.2.2)) 5 (nI q)) 6 (rnS (letF (T q)) q (rnR T L q))) 7 (rnR T L q).2.2.1, (rnR T L q).2.1)
/-- go() on the object's ints and its word -/
def goS (T : Nat → Int32) (L p : Nat) (o : Nat → Int32) (w : Int64) : (Nat → Int32) × Int64 :=
  if 700 < L ∧ 700 ≤ skG T (L - p) p then (upd (upd (upd o 4 (nI (skG T (L - p) p))) 5 700) 6 1, w) else goT T L (skG T (L - p) p) o w
theorem letF_01 (x : Int32) : letF x = 0 ∨ letF x = 1 := by
  unfold letF
  repeat' split
  all_goals first | exact Or.inl rfl | exact Or.inr rfl
theorem c11_isLetter {l : Launch} {G : GG} {h : AH} {Q : Option Value → AH → Prop} {x : Int32} (hQ : Q (some (.int (letF x))) h) : Ct l G 0 yX11_isLetter cX11_isLetter 1 (some .boolean) [.int x] h Q := by
  refine Ct.of (by decide) (Nat.le_of_ble_eq_true rfl) ?_
  show AW l G 0 RX11 cX11_isLetter 1 (some .boolean) 0 [some (.int x)] [] h Q
  refine a_iload_n dX11_isLetter_0 rfl ?_
  refine a_bipush (v := 97) dX11_isLetter_1 (by decide) ?_
  refine a_icmp_lt dX11_isLetter_3 (tgt := 16) (by decide) (fun c3 => ?_) (fun c3 => ?_)
  · refine a_iconst (v := 0) dX11_isLetter_16 (by decide) ?_
    exact a_zret dX11_isLetter_17 rfl rfl (by simp only [letF, c3, if_true, if_false, not_true_eq_false, not_false_eq_true, Classical.not_not] at hQ ⊢; exact hQ)
  · refine a_iload_n dX11_isLetter_6 rfl ?_
    refine a_bipush (v := 122) dX11_isLetter_7 (by decide) ?_
    refine a_icmp_gt dX11_isLetter_9 (tgt := 16) (by decide) (fun c9 => ?_) (fun c9 => ?_)
    · refine a_iconst (v := 0) dX11_isLetter_16 (by decide) ?_
      exact a_zret dX11_isLetter_17 rfl rfl (by simp only [letF, c3, c9, if_true, if_false, not_true_eq_false, not_false_eq_true, Classical.not_not] at hQ ⊢; exact hQ)
    · refine a_iconst (v := 1) dX11_isLetter_12 (by decide) ?_
      refine a_goto dX11_isLetter_13 (tgt := 17) (by decide) ?_
      exact a_zret dX11_isLetter_17 rfl rfl (by simp only [letF, c3, c9, if_true, if_false, not_true_eq_false, not_false_eq_true, Classical.not_not] at hQ ⊢; exact hQ)
theorem c11_isDigit {l : Launch} {G : GG} {h : AH} {Q : Option Value → AH → Prop} {x : Int32} (hQ : Q (some (.int (digF x))) h) : Ct l G 0 yX11_isDigit cX11_isDigit 1 (some .boolean) [.int x] h Q := by
  refine Ct.of (by decide) (Nat.le_of_ble_eq_true rfl) ?_
  show AW l G 0 RX11 cX11_isDigit 1 (some .boolean) 0 [some (.int x)] [] h Q
  refine a_iload_n dX11_isDigit_0 rfl ?_
  refine a_bipush (v := 48) dX11_isDigit_1 (by decide) ?_
  refine a_icmp_lt dX11_isDigit_3 (tgt := 16) (by decide) (fun c3 => ?_) (fun c3 => ?_)
  · refine a_iconst (v := 0) dX11_isDigit_16 (by decide) ?_
    exact a_zret dX11_isDigit_17 rfl rfl (by simp only [digF, c3, if_true, if_false, not_true_eq_false, not_false_eq_true, Classical.not_not] at hQ ⊢; exact hQ)
  · refine a_iload_n dX11_isDigit_6 rfl ?_
    refine a_bipush (v := 57) dX11_isDigit_7 (by decide) ?_
    refine a_icmp_gt dX11_isDigit_9 (tgt := 16) (by decide) (fun c9 => ?_) (fun c9 => ?_)
    · refine a_iconst (v := 0) dX11_isDigit_16 (by decide) ?_
      exact a_zret dX11_isDigit_17 rfl rfl (by simp only [digF, c3, c9, if_true, if_false, not_true_eq_false, not_false_eq_true, Classical.not_not] at hQ ⊢; exact hQ)
    · refine a_iconst (v := 1) dX11_isDigit_12 (by decide) ?_
      refine a_goto dX11_isDigit_13 (tgt := 17) (by decide) ?_
      exact a_zret dX11_isDigit_17 rfl rfl (by simp only [digF, c3, c9, if_true, if_false, not_true_eq_false, not_false_eq_true, Classical.not_not] at hQ ⊢; exact hQ)
theorem c11_tapeAt {l : Launch} {G : GG} {h : AH} {Q : Option Value → AH → Prop} {o : Nat → Int32} {w : Int64} {r : Nat → Int32}{L : Nat} (hL : o 3 = nI L) (h740 : L ≤ 740) {p : Nat} (hp : p ≤ 740) (hQ : Q (some (.int (if L ≤ p then 0 else h.1 3 1 p))) (pH h o w r)) : Ct l G 0 yX11_tapeAt cX11_tapeAt 2 (some .int) [.ref (G.1 3 0), .int (nI p)] (pH h o w r) Q := by
  refine Ct.of (by decide) (Nat.le_of_ble_eq_true rfl) ?_
  show AW l G 0 RX11 cX11_tapeAt 2 (some .int) 0 [some (.ref (G.1 3 0)), some (.int (nI p))] [] (pH h o w r) Q
  have hpc : (nI p).toNatClampNeg = p := nI_clamp (by omega)
  refine a_iload_n dX11_tapeAt_0 rfl ?_
  refine a_aload_n dX11_tapeAt_1 rfl ?_
  refine a_getI (ci := 11) (j := 3) dX11_tapeAt_2 rfl rfl (by decide) rfl fl_11_18 ?_
  try simp (disch := first | decide | assumption | omega) only [ui_eq, ui_k, ui_j, ui_b, ui_2, ul_1, ul_eq, ul_k, ul_j, ul_b, pH_g, pH_gt, hL, hpc]
  refine a_icmp_ge dX11_tapeAt_5 (tgt := 17) (by decide) (fun c5 => ?_) (fun c5 => ?_)
  · rw [if_pos (le_of_le c5 (by omega) (by omega))] at hQ
    refine a_iconst (v := 0) dX11_tapeAt_17 (by decide) ?_
    exact a_iret dX11_tapeAt_18 rfl hQ
  · have hlt : p < L := lt_of_nle c5 (by omega) (by omega)
    rw [if_neg (by omega)] at hQ
    refine a_aload_n dX11_tapeAt_8 rfl ?_
    refine a_getR (ci := 11) (j := 1) dX11_tapeAt_9 rfl rfl (by decide) rfl fl_11_7 ?_
    refine a_iload_n dX11_tapeAt_12 rfl ?_
    refine a_iaload dX11_tapeAt_13 rfl (vp_in_nI (by omega) (by decide)) ?_
    try simp (disch := first | decide | assumption | omega) only [ui_eq, ui_k, ui_j, ui_b, ui_2, ul_1, ul_eq, ul_k, ul_j, ul_b, pH_g, pH_gt, hL, hpc]
    refine a_goto dX11_tapeAt_14 (tgt := 18) (by decide) ?_
    exact a_iret dX11_tapeAt_18 rfl hQ
theorem l11_sk {l : Launch} {G : GG} {h : AH} {Q : Option Value → AH → Prop} {o : Nat → Int32} {w : Int64} {r : Nat → Int32}{L : Nat} (hL : o 3 = nI L) (h740 : L ≤ 740) (p : Nat) (hp : p ≤ 740) (hE : AW l G 1 RX11 cX11_go 5 none 52 [some (.ref (G.1 3 0))] [] (pH h (upd o 4 (nI (skG (h.1 3 1) (L - p) p))) w r) Q) : AW l G 1 RX11 cX11_go 5 none 0 [some (.ref (G.1 3 0))] [] (pH h (upd o 4 (nI p)) w r) Q := by
  have hpc : (nI p).toNatClampNeg = p := nI_clamp (by omega)
  refine a_aload_n dX11_go_0 rfl ?_
  refine a_getI (ci := 11) (j := 4) dX11_go_1 rfl rfl (by decide) rfl fl_11_21 ?_
  try simp (disch := first | decide | assumption | omega) only [ui_eq, ui_k, ui_j, ui_b, ui_2, ul_1, ul_eq, ul_k, ul_j, ul_b, pH_g, pH_gr, pH_gw, pH_gt, pH_o, pH_r, pH_w, up_eq, up_ne, up_2, up_c, hL, hpc, nI_1]
  refine a_aload_n dX11_go_4 rfl ?_
  refine a_getI (ci := 11) (j := 3) dX11_go_5 rfl rfl (by decide) rfl fl_11_18 ?_
  try simp (disch := first | decide | assumption | omega) only [ui_eq, ui_k, ui_j, ui_b, ui_2, ul_1, ul_eq, ul_k, ul_j, ul_b, pH_g, pH_gr, pH_gw, pH_gt, pH_o, pH_r, pH_w, up_eq, up_ne, up_2, up_c, hL, hpc, nI_1]
  refine a_icmp_ge dX11_go_8 (tgt := 52) (by decide) (fun c8 => ?_) (fun c8 => ?_)
  · have hge : L ≤ p := le_of_le c8 (by omega) (by omega)
    rw [show L - p = 0 by omega, skG] at hE
    first
      | exact hE
      | (rw [if_neg (by assumption), if_neg (by assumption)] at hE; exact hE)
  · have hlt : p < L := lt_of_nle c8 (by omega) (by omega)
    rw [show L - p = (L - (p + 1)) + 1 by omega, skG] at hE
    refine a_aload_n dX11_go_11 rfl ?_
    refine a_getR (ci := 11) (j := 1) dX11_go_12 rfl rfl (by decide) rfl fl_11_7 ?_
    refine a_aload_n dX11_go_15 rfl ?_
    refine a_getI (ci := 11) (j := 4) dX11_go_16 rfl rfl (by decide) rfl fl_11_21 ?_
    try simp (disch := first | decide | assumption | omega) only [ui_eq, ui_k, ui_j, ui_b, ui_2, ul_1, ul_eq, ul_k, ul_j, ul_b, pH_g, pH_gr, pH_gw, pH_gt, pH_o, pH_r, pH_w, up_eq, up_ne, up_2, up_c, hL, hpc, nI_1]
    refine a_iaload dX11_go_19 rfl (vp_in_nI (by omega) (by decide)) ?_
    try simp (disch := first | decide | assumption | omega) only [ui_eq, ui_k, ui_j, ui_b, ui_2, ul_1, ul_eq, ul_k, ul_j, ul_b, pH_g, pH_gr, pH_gw, pH_gt, pH_o, pH_r, pH_w, up_eq, up_ne, up_2, up_c, hL, hpc, nI_1]
    refine a_bipush (v := 32) dX11_go_20 (by decide) ?_
    refine a_icmp_eq dX11_go_22 (tgt := 39) (by decide) (fun c22 => ?_) (fun c22 => ?_)
    · refine a_aload_n dX11_go_39 rfl ?_
      refine a_dup dX11_go_40 rfl ?_
      refine a_getI (ci := 11) (j := 4) dX11_go_41 rfl rfl (by decide) rfl fl_11_21 ?_
      try simp (disch := first | decide | assumption | omega) only [ui_eq, ui_k, ui_j, ui_b, ui_2, ul_1, ul_eq, ul_k, ul_j, ul_b, pH_g, pH_gr, pH_gw, pH_gt, pH_o, pH_r, pH_w, up_eq, up_ne, up_2, up_c, hL, hpc, nI_1]
      refine a_iconst (v := 1) dX11_go_44 (by decide) ?_
      refine a_iadd dX11_go_45 ?_
      refine a_putI (ci := 11) (j := 4) dX11_go_46 rfl rfl (by decide) (by decide) rfl fl_11_21 ?_
      refine a_goto dX11_go_49 (tgt := 0) (by decide) ?_
      rw [pH_o, up_2, nI_1]
      first
        | (rw [if_pos (by assumption)] at hE; exact l11_sk hL h740 (p + 1) (by omega) hE)
        | (rw [if_neg (by assumption), if_pos (by assumption)] at hE; exact l11_sk hL h740 (p + 1) (by omega) hE)
    · refine a_aload_n dX11_go_25 rfl ?_
      refine a_getR (ci := 11) (j := 1) dX11_go_26 rfl rfl (by decide) rfl fl_11_7 ?_
      refine a_aload_n dX11_go_29 rfl ?_
      refine a_getI (ci := 11) (j := 4) dX11_go_30 rfl rfl (by decide) rfl fl_11_21 ?_
      try simp (disch := first | decide | assumption | omega) only [ui_eq, ui_k, ui_j, ui_b, ui_2, ul_1, ul_eq, ul_k, ul_j, ul_b, pH_g, pH_gr, pH_gw, pH_gt, pH_o, pH_r, pH_w, up_eq, up_ne, up_2, up_c, hL, hpc, nI_1]
      refine a_iaload dX11_go_33 rfl (vp_in_nI (by omega) (by decide)) ?_
      try simp (disch := first | decide | assumption | omega) only [ui_eq, ui_k, ui_j, ui_b, ui_2, ul_1, ul_eq, ul_k, ul_j, ul_b, pH_g, pH_gr, pH_gw, pH_gt, pH_o, pH_r, pH_w, up_eq, up_ne, up_2, up_c, hL, hpc, nI_1]
      refine a_bipush (v := 10) dX11_go_34 (by decide) ?_
      refine a_icmp_ne dX11_go_36 (tgt := 52) (by decide) (fun c36 => ?_) (fun c36 => ?_)
      · first
          | exact hE
          | (rw [if_neg (by assumption), if_neg (by assumption)] at hE; exact hE)
      · refine a_aload_n dX11_go_39 rfl ?_
        refine a_dup dX11_go_40 rfl ?_
        refine a_getI (ci := 11) (j := 4) dX11_go_41 rfl rfl (by decide) rfl fl_11_21 ?_
        try simp (disch := first | decide | assumption | omega) only [ui_eq, ui_k, ui_j, ui_b, ui_2, ul_1, ul_eq, ul_k, ul_j, ul_b, pH_g, pH_gr, pH_gw, pH_gt, pH_o, pH_r, pH_w, up_eq, up_ne, up_2, up_c, hL, hpc, nI_1]
        refine a_iconst (v := 1) dX11_go_44 (by decide) ?_
        refine a_iadd dX11_go_45 ?_
        refine a_putI (ci := 11) (j := 4) dX11_go_46 rfl rfl (by decide) (by decide) rfl fl_11_21 ?_
        refine a_goto dX11_go_49 (tgt := 0) (by decide) ?_
        rw [pH_o, up_2, nI_1]
        first
          | (rw [if_pos (by assumption)] at hE; exact l11_sk hL h740 (p + 1) (by omega) hE)
          | (rw [if_neg (by assumption), if_pos (by assumption)] at hE; exact l11_sk hL h740 (p + 1) (by omega) hE)
termination_by L - p
decreasing_by all_goals omega
theorem l11_runE {l : Launch} {G : GG} {h : AH} {Q : Option Value → AH → Prop} {o : Nat → Int32} {r : Nat → Int32}{L : Nat} (hL : o 3 = nI L) (h740 : L ≤ 740) {q : Nat} {lt : Int32} {c : Int32} {s : M4} (hp : s.2.2.2 ≤ 740) (hge : L ≤ s.2.2.2) (hE : AW l G 1 RX11 cX11_go 5 none 312 [some (.ref (G.1 3 0)), some (.int c), some (.int lt), some (.int s.1)] [] (pH h (upd (upd (upd o 4 (nI s.2.2.2)) 5 (nI q)) 7 s.2.2.1) s.2.1 r) Q) : AW l G 1 RX11 cX11_go 5 none 177 [some (.ref (G.1 3 0)), some (.int c), some (.int lt), some (.int s.1)] [] (pH h (upd (upd (upd o 4 (nI s.2.2.2)) 5 (nI q)) 7 s.2.2.1) s.2.1 r) Q := by
  refine a_aload_n dX11_go_177 rfl ?_
  refine a_aload_n dX11_go_178 rfl ?_
  refine a_getI (ci := 11) (j := 4) dX11_go_179 rfl rfl (by decide) rfl fl_11_21 ?_
  try simp (disch := first | decide | assumption | omega) only [ui_eq, ui_k, ui_j, ui_b, ui_2, ul_1, ul_eq, ul_k, ul_j, ul_b, pH_g, pH_gr, pH_gw, pH_gt, pH_o, pH_r, pH_w, up_eq, up_ne, up_2, up_c, hL, hge, if_true]
  refine a_cV1i dX11_go_182 ml_11_44 wv_11_tapeAt rfl rfl (by decide) (Nat.le_of_ble_eq_true rfl) (c11_tapeAt (by simp (disch := decide) only [up_ne]; exact hL) h740 (by omega) ⟨rfl, rfl⟩) ?_
  try simp (disch := first | decide | assumption | omega) only [ui_eq, ui_k, ui_j, ui_b, ui_2, ul_1, ul_eq, ul_k, ul_j, ul_b, pH_g, pH_gr, pH_gw, pH_gt, pH_o, pH_r, pH_w, up_eq, up_ne, up_2, up_c, hL, hge, if_true]
  refine a_cS1i dX11_go_185 ml_11_30 ws_11_isLetter (by decide) (Nat.le_of_ble_eq_true rfl) (c11_isLetter ⟨rfl, rfl⟩) ?_
  try simp (disch := first | decide | assumption | omega) only [ui_eq, ui_k, ui_j, ui_b, ui_2, ul_1, ul_eq, ul_k, ul_j, ul_b, pH_g, pH_gr, pH_gw, pH_gt, pH_o, pH_r, pH_w, up_eq, up_ne, up_2, up_c, hL, hge, if_true]
  refine a_if_ne dX11_go_188 (tgt := 205) (by decide) (fun c188 => ?_) (fun c188 => ?_)
  · exact absurd (show letF 0 = 0 by decide) c188
  · refine a_aload_n dX11_go_191 rfl ?_
    refine a_aload_n dX11_go_192 rfl ?_
    refine a_getI (ci := 11) (j := 4) dX11_go_193 rfl rfl (by decide) rfl fl_11_21 ?_
    try simp (disch := first | decide | assumption | omega) only [ui_eq, ui_k, ui_j, ui_b, ui_2, ul_1, ul_eq, ul_k, ul_j, ul_b, pH_g, pH_gr, pH_gw, pH_gt, pH_o, pH_r, pH_w, up_eq, up_ne, up_2, up_c, hL, hge, if_true]
    refine a_cV1i dX11_go_196 ml_11_44 wv_11_tapeAt rfl rfl (by decide) (Nat.le_of_ble_eq_true rfl) (c11_tapeAt (by simp (disch := decide) only [up_ne]; exact hL) h740 (by omega) ⟨rfl, rfl⟩) ?_
    try simp (disch := first | decide | assumption | omega) only [ui_eq, ui_k, ui_j, ui_b, ui_2, ul_1, ul_eq, ul_k, ul_j, ul_b, pH_g, pH_gr, pH_gw, pH_gt, pH_o, pH_r, pH_w, up_eq, up_ne, up_2, up_c, hL, hge, if_true]
    refine a_cS1i dX11_go_199 ml_11_34 ws_11_isDigit (by decide) (Nat.le_of_ble_eq_true rfl) (c11_isDigit ⟨rfl, rfl⟩) ?_
    try simp (disch := first | decide | assumption | omega) only [ui_eq, ui_k, ui_j, ui_b, ui_2, ul_1, ul_eq, ul_k, ul_j, ul_b, pH_g, pH_gr, pH_gw, pH_gt, pH_o, pH_r, pH_w, up_eq, up_ne, up_2, up_c, hL, hge, if_true]
    refine a_if_eq dX11_go_202 (tgt := 312) (by decide) (fun c202 => ?_) (fun c202 => ?_)
    · exact hE
    · exact absurd (show digF 0 = 0 by decide) c202
theorem l11_run {l : Launch} {G : GG} {h : AH} {Q : Option Value → AH → Prop} {o : Nat → Int32} {r : Nat → Int32}{L : Nat} (hL : o 3 = nI L) (h740 : L ≤ 740) {q : Nat} {lt : Int32} {c : Int32} (s : M4) (hq : q ≤ s.2.2.2) (hp : s.2.2.2 ≤ 740) (hE : AW l G 1 RX11 cX11_go 5 none 312 [some (.ref (G.1 3 0)), some (.int c), some (.int lt), some (.int (rnM (h.1 3 1) q lt (L - s.2.2.2) s).1)] [] (pH h (upd (upd (upd o 4 (nI (rnM (h.1 3 1) q lt (L - s.2.2.2) s).2.2.2)) 5 (nI q)) 7 (rnM (h.1 3 1) q lt (L - s.2.2.2) s).2.2.1) (rnM (h.1 3 1) q lt (L - s.2.2.2) s).2.1 r) Q) : AW l G 1 RX11 cX11_go 5 none 177 [some (.ref (G.1 3 0)), some (.int c), some (.int lt), some (.int s.1)] [] (pH h (upd (upd (upd o 4 (nI s.2.2.2)) 5 (nI q)) 7 s.2.2.1) s.2.1 r) Q := by
  have hpc : (nI s.2.2.2).toNatClampNeg = s.2.2.2 := nI_clamp (by omega)
  have hs : nI s.2.2.2 - nI q = nI (s.2.2.2 - q) := pk_sub hq
  by_cases hlt : s.2.2.2 < L
  rotate_left
  · rw [show L - s.2.2.2 = 0 by omega] at hE
    exact l11_runE hL h740 hp (by omega) hE
  have hnle : ¬ L ≤ s.2.2.2 := by omega
  rw [show L - s.2.2.2 = (L - (s.2.2.2 + 1)) + 1 by omega, rnM] at hE
  refine a_aload_n dX11_go_177 rfl ?_
  refine a_aload_n dX11_go_178 rfl ?_
  refine a_getI (ci := 11) (j := 4) dX11_go_179 rfl rfl (by decide) rfl fl_11_21 ?_
  try simp (disch := first | decide | assumption | omega) only [ui_eq, ui_k, ui_j, ui_b, ui_2, ul_1, ul_eq, ul_k, ul_j, ul_b, pH_g, pH_gr, pH_gw, pH_gt, pH_o, pH_r, pH_w, up_eq, up_ne, up_2, up_c, hL, hpc, nI_1, hs, hnle, if_false]
  refine a_cV1i dX11_go_182 ml_11_44 wv_11_tapeAt rfl rfl (by decide) (Nat.le_of_ble_eq_true rfl) (c11_tapeAt (by simp (disch := decide) only [up_ne]; exact hL) h740 (by omega) ⟨rfl, rfl⟩) ?_
  try simp (disch := first | decide | assumption | omega) only [ui_eq, ui_k, ui_j, ui_b, ui_2, ul_1, ul_eq, ul_k, ul_j, ul_b, pH_g, pH_gr, pH_gw, pH_gt, pH_o, pH_r, pH_w, up_eq, up_ne, up_2, up_c, hL, hpc, nI_1, hs, hnle, if_false]
  refine a_cS1i dX11_go_185 ml_11_30 ws_11_isLetter (by decide) (Nat.le_of_ble_eq_true rfl) (c11_isLetter ⟨rfl, rfl⟩) ?_
  try simp (disch := first | decide | assumption | omega) only [ui_eq, ui_k, ui_j, ui_b, ui_2, ul_1, ul_eq, ul_k, ul_j, ul_b, pH_g, pH_gr, pH_gw, pH_gt, pH_o, pH_r, pH_w, up_eq, up_ne, up_2, up_c, hL, hpc, nI_1, hs, hnle, if_false]
  refine a_if_ne dX11_go_188 (tgt := 205) (by decide) (fun c188 => ?_) (fun c188 => ?_)
  · rw [if_neg (fun z => c188 z.1)] at hE
    refine a_aload_n dX11_go_205 rfl ?_
    refine a_getR (ci := 11) (j := 1) dX11_go_206 rfl rfl (by decide) rfl fl_11_7 ?_
    refine a_aload_n dX11_go_209 rfl ?_
    refine a_getI (ci := 11) (j := 4) dX11_go_210 rfl rfl (by decide) rfl fl_11_21 ?_
    try simp (disch := first | decide | assumption | omega) only [ui_eq, ui_k, ui_j, ui_b, ui_2, ul_1, ul_eq, ul_k, ul_j, ul_b, pH_g, pH_gr, pH_gw, pH_gt, pH_o, pH_r, pH_w, up_eq, up_ne, up_2, up_c, hL, hpc, nI_1, hs, hnle, if_false]
    refine a_iaload dX11_go_213 rfl (vp_in_nI (by omega) (by decide)) ?_
    try simp (disch := first | decide | assumption | omega) only [ui_eq, ui_k, ui_j, ui_b, ui_2, ul_1, ul_eq, ul_k, ul_j, ul_b, pH_g, pH_gr, pH_gw, pH_gt, pH_o, pH_r, pH_w, up_eq, up_ne, up_2, up_c, hL, hpc, nI_1, hs, hnle, if_false]
    refine a_istore dX11_go_214 (by decide) rfl ?_
    dsimp only [lset]
    refine a_iload_n dX11_go_216 rfl ?_
    refine a_if_eq dX11_go_217 (tgt := 233) (by decide) (fun c217 => ?_) (fun c217 => ?_)
    · refine a_iconst (v := 0) dX11_go_233 (by decide) ?_
      refine a_istore_n dX11_go_234 (by decide) rfl ?_
      dsimp only [lset]
      refine a_aload_n dX11_go_235 rfl ?_
      refine a_getI (ci := 11) (j := 4) dX11_go_236 rfl rfl (by decide) rfl fl_11_21 ?_
      try simp (disch := first | decide | assumption | omega) only [ui_eq, ui_k, ui_j, ui_b, ui_2, ul_1, ul_eq, ul_k, ul_j, ul_b, pH_g, pH_gr, pH_gw, pH_gt, pH_o, pH_r, pH_w, up_eq, up_ne, up_2, up_c, hL, hpc, nI_1, hs, hnle, if_false]
      refine a_aload_n dX11_go_239 rfl ?_
      refine a_getI (ci := 11) (j := 5) dX11_go_240 rfl rfl (by decide) rfl fl_11_24 ?_
      try simp (disch := first | decide | assumption | omega) only [ui_eq, ui_k, ui_j, ui_b, ui_2, ul_1, ul_eq, ul_k, ul_j, ul_b, pH_g, pH_gr, pH_gw, pH_gt, pH_o, pH_r, pH_w, up_eq, up_ne, up_2, up_c, hL, hpc, nI_1, hs, hnle, if_false]
      refine a_isub dX11_go_243 ?_
      refine a_bipush (v := 7) dX11_go_244 (by decide) ?_
      refine a_icmp_ge dX11_go_246 (tgt := 269) (by decide) (fun c246 => ?_) (fun c246 => ?_)
      · have h246 : ¬ s.2.2.2 - q < 7 := by
          rw [hs] at c246
          have z := le_of_le (b := 7) c246 (by omega) (by decide)
          omega
        refine a_aload_n dX11_go_269 rfl ?_
        refine a_getI (ci := 11) (j := 4) dX11_go_270 rfl rfl (by decide) rfl fl_11_21 ?_
        try simp (disch := first | decide | assumption | omega) only [ui_eq, ui_k, ui_j, ui_b, ui_2, ul_1, ul_eq, ul_k, ul_j, ul_b, pH_g, pH_gr, pH_gw, pH_gt, pH_o, pH_r, pH_w, up_eq, up_ne, up_2, up_c, hL, hpc, nI_1, hs, hnle, if_false]
        refine a_aload_n dX11_go_273 rfl ?_
        refine a_getI (ci := 11) (j := 5) dX11_go_274 rfl rfl (by decide) rfl fl_11_24 ?_
        try simp (disch := first | decide | assumption | omega) only [ui_eq, ui_k, ui_j, ui_b, ui_2, ul_1, ul_eq, ul_k, ul_j, ul_b, pH_g, pH_gr, pH_gw, pH_gt, pH_o, pH_r, pH_w, up_eq, up_ne, up_2, up_c, hL, hpc, nI_1, hs, hnle, if_false]
        refine a_isub dX11_go_277 ?_
        refine a_iconst (v := 2) dX11_go_278 (by decide) ?_
        refine a_icmp_ge dX11_go_279 (tgt := 299) (by decide) (fun c279 => ?_) (fun c279 => ?_)
        · have h279 : ¬ s.2.2.2 - q < 2 := by
            rw [hs] at c279
            have z := le_of_le (b := 2) c279 (by omega) (by decide)
            omega
          refine a_aload_n dX11_go_299 rfl ?_
          refine a_dup dX11_go_300 rfl ?_
          refine a_getI (ci := 11) (j := 4) dX11_go_301 rfl rfl (by decide) rfl fl_11_21 ?_
          try simp (disch := first | decide | assumption | omega) only [ui_eq, ui_k, ui_j, ui_b, ui_2, ul_1, ul_eq, ul_k, ul_j, ul_b, pH_g, pH_gr, pH_gw, pH_gt, pH_o, pH_r, pH_w, up_eq, up_ne, up_2, up_c, hL, hpc, nI_1, hs, hnle, if_false]
          refine a_iconst (v := 1) dX11_go_304 (by decide) ?_
          refine a_iadd dX11_go_305 ?_
          refine a_putI (ci := 11) (j := 4) dX11_go_306 rfl rfl (by decide) (by decide) rfl fl_11_21 ?_
          refine a_goto dX11_go_309 (tgt := 177) (by decide) ?_
          rw [pH_o, nI_1]
          simp (disch := decide) only [up_2, up_c]
          refine a_take 4 ?_
          dsimp only [List.take]
          try rw [if_neg (show ¬ letF (h.1 3 1 s.2.2.2) = lt from by assumption)] at hE
          try rw [if_pos (show letF (h.1 3 1 s.2.2.2) = lt from by assumption)] at hE
          simp only [c188, c217, c246, c279, h246, h279, if_true, if_false] at hE
          refine l11_run hL h740 (_, _, _, s.2.2.2 + 1) (by show q ≤ s.2.2.2 + 1; omega) (by show s.2.2.2 + 1 ≤ 740; omega) ?_
          exact hE
        · have h279 : s.2.2.2 - q < 2 := by
            rw [hs] at c279
            have z := lt_of_nle (b := 2) c279 (by omega) (by decide)
            omega
          refine a_aload_n dX11_go_282 rfl ?_
          refine a_bipush (v := 10) dX11_go_283 (by decide) ?_
          refine a_aload_n dX11_go_285 rfl ?_
          refine a_getI (ci := 11) (j := 7) dX11_go_286 rfl rfl (by decide) rfl fl_11_41 ?_
          try simp (disch := first | decide | assumption | omega) only [ui_eq, ui_k, ui_j, ui_b, ui_2, ul_1, ul_eq, ul_k, ul_j, ul_b, pH_g, pH_gr, pH_gw, pH_gt, pH_o, pH_r, pH_w, up_eq, up_ne, up_2, up_c, hL, hpc, nI_1, hs, hnle, if_false]
          refine a_imul dX11_go_289 ?_
          refine a_iload dX11_go_290 rfl ?_
          refine a_iadd dX11_go_292 ?_
          refine a_bipush (v := 48) dX11_go_293 (by decide) ?_
          refine a_isub dX11_go_295 ?_
          refine a_putI (ci := 11) (j := 7) dX11_go_296 rfl rfl (by decide) (by decide) rfl fl_11_41 ?_
          refine a_aload_n dX11_go_299 rfl ?_
          refine a_dup dX11_go_300 rfl ?_
          refine a_getI (ci := 11) (j := 4) dX11_go_301 rfl rfl (by decide) rfl fl_11_21 ?_
          try simp (disch := first | decide | assumption | omega) only [ui_eq, ui_k, ui_j, ui_b, ui_2, ul_1, ul_eq, ul_k, ul_j, ul_b, pH_g, pH_gr, pH_gw, pH_gt, pH_o, pH_r, pH_w, up_eq, up_ne, up_2, up_c, hL, hpc, nI_1, hs, hnle, if_false]
          refine a_iconst (v := 1) dX11_go_304 (by decide) ?_
          refine a_iadd dX11_go_305 ?_
          refine a_putI (ci := 11) (j := 4) dX11_go_306 rfl rfl (by decide) (by decide) rfl fl_11_21 ?_
          refine a_goto dX11_go_309 (tgt := 177) (by decide) ?_
          rw [pH_o, nI_1]
          simp (disch := decide) only [up_2, up_c]
          refine a_take 4 ?_
          dsimp only [List.take]
          try rw [if_neg (show ¬ letF (h.1 3 1 s.2.2.2) = lt from by assumption)] at hE
          try rw [if_pos (show letF (h.1 3 1 s.2.2.2) = lt from by assumption)] at hE
          simp only [c188, c217, c246, c279, h246, h279, if_true, if_false] at hE
          refine l11_run hL h740 (_, _, _, s.2.2.2 + 1) (by show q ≤ s.2.2.2 + 1; omega) (by show s.2.2.2 + 1 ≤ 740; omega) ?_
          exact hE
      · have h246 : s.2.2.2 - q < 7 := by
          rw [hs] at c246
          have z := lt_of_nle (b := 7) c246 (by omega) (by decide)
          omega
        refine a_aload_n dX11_go_249 rfl ?_
        refine a_ldc2 (v := 27) kl_11_48 dX11_go_250 ?_
        refine a_aload_n dX11_go_253 rfl ?_
        refine a_getL (ci := 11) (j := 10) dX11_go_254 rfl rfl (by decide) rfl fl_11_37 ?_
        try simp (disch := first | decide | assumption | omega) only [ui_eq, ui_k, ui_j, ui_b, ui_2, ul_1, ul_eq, ul_k, ul_j, ul_b, pH_g, pH_gr, pH_gw, pH_gt, pH_o, pH_r, pH_w, up_eq, up_ne, up_2, up_c, hL, hpc, nI_1, hs, hnle, if_false]
        refine a_lmul dX11_go_257 ?_
        refine a_iload dX11_go_258 rfl ?_
        refine a_i2l dX11_go_260 ?_
        refine a_ladd dX11_go_261 ?_
        refine a_ldc2 (v := 96) kl_11_50 dX11_go_262 ?_
        refine a_lsub dX11_go_265 ?_
        refine a_putL (ci := 11) (j := 10) dX11_go_266 rfl rfl (by decide) (by decide) rfl fl_11_37 ?_
        refine a_aload_n dX11_go_269 rfl ?_
        refine a_getI (ci := 11) (j := 4) dX11_go_270 rfl rfl (by decide) rfl fl_11_21 ?_
        try simp (disch := first | decide | assumption | omega) only [ui_eq, ui_k, ui_j, ui_b, ui_2, ul_1, ul_eq, ul_k, ul_j, ul_b, pH_g, pH_gr, pH_gw, pH_gt, pH_o, pH_r, pH_w, up_eq, up_ne, up_2, up_c, hL, hpc, nI_1, hs, hnle, if_false]
        refine a_aload_n dX11_go_273 rfl ?_
        refine a_getI (ci := 11) (j := 5) dX11_go_274 rfl rfl (by decide) rfl fl_11_24 ?_
        try simp (disch := first | decide | assumption | omega) only [ui_eq, ui_k, ui_j, ui_b, ui_2, ul_1, ul_eq, ul_k, ul_j, ul_b, pH_g, pH_gr, pH_gw, pH_gt, pH_o, pH_r, pH_w, up_eq, up_ne, up_2, up_c, hL, hpc, nI_1, hs, hnle, if_false]
        refine a_isub dX11_go_277 ?_
        refine a_iconst (v := 2) dX11_go_278 (by decide) ?_
        refine a_icmp_ge dX11_go_279 (tgt := 299) (by decide) (fun c279v2 => ?_) (fun c279v2 => ?_)
        · have h279 : ¬ s.2.2.2 - q < 2 := by
            rw [hs] at c279v2
            have z := le_of_le (b := 2) c279v2 (by omega) (by decide)
            omega
          refine a_aload_n dX11_go_299 rfl ?_
          refine a_dup dX11_go_300 rfl ?_
          refine a_getI (ci := 11) (j := 4) dX11_go_301 rfl rfl (by decide) rfl fl_11_21 ?_
          try simp (disch := first | decide | assumption | omega) only [ui_eq, ui_k, ui_j, ui_b, ui_2, ul_1, ul_eq, ul_k, ul_j, ul_b, pH_g, pH_gr, pH_gw, pH_gt, pH_o, pH_r, pH_w, up_eq, up_ne, up_2, up_c, hL, hpc, nI_1, hs, hnle, if_false]
          refine a_iconst (v := 1) dX11_go_304 (by decide) ?_
          refine a_iadd dX11_go_305 ?_
          refine a_putI (ci := 11) (j := 4) dX11_go_306 rfl rfl (by decide) (by decide) rfl fl_11_21 ?_
          refine a_goto dX11_go_309 (tgt := 177) (by decide) ?_
          rw [pH_o, nI_1]
          simp (disch := decide) only [up_2, up_c]
          refine a_take 4 ?_
          dsimp only [List.take]
          try rw [if_neg (show ¬ letF (h.1 3 1 s.2.2.2) = lt from by assumption)] at hE
          try rw [if_pos (show letF (h.1 3 1 s.2.2.2) = lt from by assumption)] at hE
          simp only [c188, c217, c246, c279v2, h246, h279, if_true, if_false] at hE
          refine l11_run hL h740 (_, _, _, s.2.2.2 + 1) (by show q ≤ s.2.2.2 + 1; omega) (by show s.2.2.2 + 1 ≤ 740; omega) ?_
          exact hE
        · have h279 : s.2.2.2 - q < 2 := by
            rw [hs] at c279v2
            have z := lt_of_nle (b := 2) c279v2 (by omega) (by decide)
            omega
          refine a_aload_n dX11_go_282 rfl ?_
          refine a_bipush (v := 10) dX11_go_283 (by decide) ?_
          refine a_aload_n dX11_go_285 rfl ?_
          refine a_getI (ci := 11) (j := 7) dX11_go_286 rfl rfl (by decide) rfl fl_11_41 ?_
          try simp (disch := first | decide | assumption | omega) only [ui_eq, ui_k, ui_j, ui_b, ui_2, ul_1, ul_eq, ul_k, ul_j, ul_b, pH_g, pH_gr, pH_gw, pH_gt, pH_o, pH_r, pH_w, up_eq, up_ne, up_2, up_c, hL, hpc, nI_1, hs, hnle, if_false]
          refine a_imul dX11_go_289 ?_
          refine a_iload dX11_go_290 rfl ?_
          refine a_iadd dX11_go_292 ?_
          refine a_bipush (v := 48) dX11_go_293 (by decide) ?_
          refine a_isub dX11_go_295 ?_
          refine a_putI (ci := 11) (j := 7) dX11_go_296 rfl rfl (by decide) (by decide) rfl fl_11_41 ?_
          refine a_aload_n dX11_go_299 rfl ?_
          refine a_dup dX11_go_300 rfl ?_
          refine a_getI (ci := 11) (j := 4) dX11_go_301 rfl rfl (by decide) rfl fl_11_21 ?_
          try simp (disch := first | decide | assumption | omega) only [ui_eq, ui_k, ui_j, ui_b, ui_2, ul_1, ul_eq, ul_k, ul_j, ul_b, pH_g, pH_gr, pH_gw, pH_gt, pH_o, pH_r, pH_w, up_eq, up_ne, up_2, up_c, hL, hpc, nI_1, hs, hnle, if_false]
          refine a_iconst (v := 1) dX11_go_304 (by decide) ?_
          refine a_iadd dX11_go_305 ?_
          refine a_putI (ci := 11) (j := 4) dX11_go_306 rfl rfl (by decide) (by decide) rfl fl_11_21 ?_
          refine a_goto dX11_go_309 (tgt := 177) (by decide) ?_
          rw [pH_o, nI_1]
          simp (disch := decide) only [up_2, up_c]
          refine a_take 4 ?_
          dsimp only [List.take]
          try rw [if_neg (show ¬ letF (h.1 3 1 s.2.2.2) = lt from by assumption)] at hE
          try rw [if_pos (show letF (h.1 3 1 s.2.2.2) = lt from by assumption)] at hE
          simp only [c188, c217, c246, c279v2, h246, h279, if_true, if_false] at hE
          refine l11_run hL h740 (_, _, _, s.2.2.2 + 1) (by show q ≤ s.2.2.2 + 1; omega) (by show s.2.2.2 + 1 ≤ 740; omega) ?_
          exact hE
    · refine a_iload dX11_go_220 rfl ?_
      refine a_cS1i dX11_go_222 ml_11_30 ws_11_isLetter (by decide) (Nat.le_of_ble_eq_true rfl) (c11_isLetter ⟨rfl, rfl⟩) ?_
      try simp (disch := first | decide | assumption | omega) only [ui_eq, ui_k, ui_j, ui_b, ui_2, ul_1, ul_eq, ul_k, ul_j, ul_b, pH_g, pH_gr, pH_gw, pH_gt, pH_o, pH_r, pH_w, up_eq, up_ne, up_2, up_c, hL, hpc, nI_1, hs, hnle, if_false]
      refine a_iload_n dX11_go_225 rfl ?_
      refine a_icmp_ne dX11_go_226 (tgt := 233) (by decide) (fun c226 => ?_) (fun c226 => ?_)
      · refine a_iconst (v := 0) dX11_go_233 (by decide) ?_
        refine a_istore_n dX11_go_234 (by decide) rfl ?_
        dsimp only [lset]
        refine a_aload_n dX11_go_235 rfl ?_
        refine a_getI (ci := 11) (j := 4) dX11_go_236 rfl rfl (by decide) rfl fl_11_21 ?_
        try simp (disch := first | decide | assumption | omega) only [ui_eq, ui_k, ui_j, ui_b, ui_2, ul_1, ul_eq, ul_k, ul_j, ul_b, pH_g, pH_gr, pH_gw, pH_gt, pH_o, pH_r, pH_w, up_eq, up_ne, up_2, up_c, hL, hpc, nI_1, hs, hnle, if_false]
        refine a_aload_n dX11_go_239 rfl ?_
        refine a_getI (ci := 11) (j := 5) dX11_go_240 rfl rfl (by decide) rfl fl_11_24 ?_
        try simp (disch := first | decide | assumption | omega) only [ui_eq, ui_k, ui_j, ui_b, ui_2, ul_1, ul_eq, ul_k, ul_j, ul_b, pH_g, pH_gr, pH_gw, pH_gt, pH_o, pH_r, pH_w, up_eq, up_ne, up_2, up_c, hL, hpc, nI_1, hs, hnle, if_false]
        refine a_isub dX11_go_243 ?_
        refine a_bipush (v := 7) dX11_go_244 (by decide) ?_
        refine a_icmp_ge dX11_go_246 (tgt := 269) (by decide) (fun c246v2 => ?_) (fun c246v2 => ?_)
        · have h246 : ¬ s.2.2.2 - q < 7 := by
            rw [hs] at c246v2
            have z := le_of_le (b := 7) c246v2 (by omega) (by decide)
            omega
          refine a_aload_n dX11_go_269 rfl ?_
          refine a_getI (ci := 11) (j := 4) dX11_go_270 rfl rfl (by decide) rfl fl_11_21 ?_
          try simp (disch := first | decide | assumption | omega) only [ui_eq, ui_k, ui_j, ui_b, ui_2, ul_1, ul_eq, ul_k, ul_j, ul_b, pH_g, pH_gr, pH_gw, pH_gt, pH_o, pH_r, pH_w, up_eq, up_ne, up_2, up_c, hL, hpc, nI_1, hs, hnle, if_false]
          refine a_aload_n dX11_go_273 rfl ?_
          refine a_getI (ci := 11) (j := 5) dX11_go_274 rfl rfl (by decide) rfl fl_11_24 ?_
          try simp (disch := first | decide | assumption | omega) only [ui_eq, ui_k, ui_j, ui_b, ui_2, ul_1, ul_eq, ul_k, ul_j, ul_b, pH_g, pH_gr, pH_gw, pH_gt, pH_o, pH_r, pH_w, up_eq, up_ne, up_2, up_c, hL, hpc, nI_1, hs, hnle, if_false]
          refine a_isub dX11_go_277 ?_
          refine a_iconst (v := 2) dX11_go_278 (by decide) ?_
          refine a_icmp_ge dX11_go_279 (tgt := 299) (by decide) (fun c279v3 => ?_) (fun c279v3 => ?_)
          · have h279 : ¬ s.2.2.2 - q < 2 := by
              rw [hs] at c279v3
              have z := le_of_le (b := 2) c279v3 (by omega) (by decide)
              omega
            refine a_aload_n dX11_go_299 rfl ?_
            refine a_dup dX11_go_300 rfl ?_
            refine a_getI (ci := 11) (j := 4) dX11_go_301 rfl rfl (by decide) rfl fl_11_21 ?_
            try simp (disch := first | decide | assumption | omega) only [ui_eq, ui_k, ui_j, ui_b, ui_2, ul_1, ul_eq, ul_k, ul_j, ul_b, pH_g, pH_gr, pH_gw, pH_gt, pH_o, pH_r, pH_w, up_eq, up_ne, up_2, up_c, hL, hpc, nI_1, hs, hnle, if_false]
            refine a_iconst (v := 1) dX11_go_304 (by decide) ?_
            refine a_iadd dX11_go_305 ?_
            refine a_putI (ci := 11) (j := 4) dX11_go_306 rfl rfl (by decide) (by decide) rfl fl_11_21 ?_
            refine a_goto dX11_go_309 (tgt := 177) (by decide) ?_
            rw [pH_o, nI_1]
            simp (disch := decide) only [up_2, up_c]
            refine a_take 4 ?_
            dsimp only [List.take]
            try rw [if_neg (show ¬ letF (h.1 3 1 s.2.2.2) = lt from by assumption)] at hE
            try rw [if_pos (show letF (h.1 3 1 s.2.2.2) = lt from by assumption)] at hE
            simp only [c188, c217, c226, c246v2, c279v3, h246, h279, if_true, if_false] at hE
            refine l11_run hL h740 (_, _, _, s.2.2.2 + 1) (by show q ≤ s.2.2.2 + 1; omega) (by show s.2.2.2 + 1 ≤ 740; omega) ?_
            exact hE
          · have h279 : s.2.2.2 - q < 2 := by
              rw [hs] at c279v3
              have z := lt_of_nle (b := 2) c279v3 (by omega) (by decide)
              omega
            refine a_aload_n dX11_go_282 rfl ?_
            refine a_bipush (v := 10) dX11_go_283 (by decide) ?_
            refine a_aload_n dX11_go_285 rfl ?_
            refine a_getI (ci := 11) (j := 7) dX11_go_286 rfl rfl (by decide) rfl fl_11_41 ?_
            try simp (disch := first | decide | assumption | omega) only [ui_eq, ui_k, ui_j, ui_b, ui_2, ul_1, ul_eq, ul_k, ul_j, ul_b, pH_g, pH_gr, pH_gw, pH_gt, pH_o, pH_r, pH_w, up_eq, up_ne, up_2, up_c, hL, hpc, nI_1, hs, hnle, if_false]
            refine a_imul dX11_go_289 ?_
            refine a_iload dX11_go_290 rfl ?_
            refine a_iadd dX11_go_292 ?_
            refine a_bipush (v := 48) dX11_go_293 (by decide) ?_
            refine a_isub dX11_go_295 ?_
            refine a_putI (ci := 11) (j := 7) dX11_go_296 rfl rfl (by decide) (by decide) rfl fl_11_41 ?_
            refine a_aload_n dX11_go_299 rfl ?_
            refine a_dup dX11_go_300 rfl ?_
            refine a_getI (ci := 11) (j := 4) dX11_go_301 rfl rfl (by decide) rfl fl_11_21 ?_
            try simp (disch := first | decide | assumption | omega) only [ui_eq, ui_k, ui_j, ui_b, ui_2, ul_1, ul_eq, ul_k, ul_j, ul_b, pH_g, pH_gr, pH_gw, pH_gt, pH_o, pH_r, pH_w, up_eq, up_ne, up_2, up_c, hL, hpc, nI_1, hs, hnle, if_false]
            refine a_iconst (v := 1) dX11_go_304 (by decide) ?_
            refine a_iadd dX11_go_305 ?_
            refine a_putI (ci := 11) (j := 4) dX11_go_306 rfl rfl (by decide) (by decide) rfl fl_11_21 ?_
            refine a_goto dX11_go_309 (tgt := 177) (by decide) ?_
            rw [pH_o, nI_1]
            simp (disch := decide) only [up_2, up_c]
            refine a_take 4 ?_
            dsimp only [List.take]
            try rw [if_neg (show ¬ letF (h.1 3 1 s.2.2.2) = lt from by assumption)] at hE
            try rw [if_pos (show letF (h.1 3 1 s.2.2.2) = lt from by assumption)] at hE
            simp only [c188, c217, c226, c246v2, c279v3, h246, h279, if_true, if_false] at hE
            refine l11_run hL h740 (_, _, _, s.2.2.2 + 1) (by show q ≤ s.2.2.2 + 1; omega) (by show s.2.2.2 + 1 ≤ 740; omega) ?_
            exact hE
        · have h246 : s.2.2.2 - q < 7 := by
            rw [hs] at c246v2
            have z := lt_of_nle (b := 7) c246v2 (by omega) (by decide)
            omega
          refine a_aload_n dX11_go_249 rfl ?_
          refine a_ldc2 (v := 27) kl_11_48 dX11_go_250 ?_
          refine a_aload_n dX11_go_253 rfl ?_
          refine a_getL (ci := 11) (j := 10) dX11_go_254 rfl rfl (by decide) rfl fl_11_37 ?_
          try simp (disch := first | decide | assumption | omega) only [ui_eq, ui_k, ui_j, ui_b, ui_2, ul_1, ul_eq, ul_k, ul_j, ul_b, pH_g, pH_gr, pH_gw, pH_gt, pH_o, pH_r, pH_w, up_eq, up_ne, up_2, up_c, hL, hpc, nI_1, hs, hnle, if_false]
          refine a_lmul dX11_go_257 ?_
          refine a_iload dX11_go_258 rfl ?_
          refine a_i2l dX11_go_260 ?_
          refine a_ladd dX11_go_261 ?_
          refine a_ldc2 (v := 96) kl_11_50 dX11_go_262 ?_
          refine a_lsub dX11_go_265 ?_
          refine a_putL (ci := 11) (j := 10) dX11_go_266 rfl rfl (by decide) (by decide) rfl fl_11_37 ?_
          refine a_aload_n dX11_go_269 rfl ?_
          refine a_getI (ci := 11) (j := 4) dX11_go_270 rfl rfl (by decide) rfl fl_11_21 ?_
          try simp (disch := first | decide | assumption | omega) only [ui_eq, ui_k, ui_j, ui_b, ui_2, ul_1, ul_eq, ul_k, ul_j, ul_b, pH_g, pH_gr, pH_gw, pH_gt, pH_o, pH_r, pH_w, up_eq, up_ne, up_2, up_c, hL, hpc, nI_1, hs, hnle, if_false]
          refine a_aload_n dX11_go_273 rfl ?_
          refine a_getI (ci := 11) (j := 5) dX11_go_274 rfl rfl (by decide) rfl fl_11_24 ?_
          try simp (disch := first | decide | assumption | omega) only [ui_eq, ui_k, ui_j, ui_b, ui_2, ul_1, ul_eq, ul_k, ul_j, ul_b, pH_g, pH_gr, pH_gw, pH_gt, pH_o, pH_r, pH_w, up_eq, up_ne, up_2, up_c, hL, hpc, nI_1, hs, hnle, if_false]
          refine a_isub dX11_go_277 ?_
          refine a_iconst (v := 2) dX11_go_278 (by decide) ?_
          refine a_icmp_ge dX11_go_279 (tgt := 299) (by decide) (fun c279v4 => ?_) (fun c279v4 => ?_)
          · have h279 : ¬ s.2.2.2 - q < 2 := by
              rw [hs] at c279v4
              have z := le_of_le (b := 2) c279v4 (by omega) (by decide)
              omega
            refine a_aload_n dX11_go_299 rfl ?_
            refine a_dup dX11_go_300 rfl ?_
            refine a_getI (ci := 11) (j := 4) dX11_go_301 rfl rfl (by decide) rfl fl_11_21 ?_
            try simp (disch := first | decide | assumption | omega) only [ui_eq, ui_k, ui_j, ui_b, ui_2, ul_1, ul_eq, ul_k, ul_j, ul_b, pH_g, pH_gr, pH_gw, pH_gt, pH_o, pH_r, pH_w, up_eq, up_ne, up_2, up_c, hL, hpc, nI_1, hs, hnle, if_false]
            refine a_iconst (v := 1) dX11_go_304 (by decide) ?_
            refine a_iadd dX11_go_305 ?_
            refine a_putI (ci := 11) (j := 4) dX11_go_306 rfl rfl (by decide) (by decide) rfl fl_11_21 ?_
            refine a_goto dX11_go_309 (tgt := 177) (by decide) ?_
            rw [pH_o, nI_1]
            simp (disch := decide) only [up_2, up_c]
            refine a_take 4 ?_
            dsimp only [List.take]
            try rw [if_neg (show ¬ letF (h.1 3 1 s.2.2.2) = lt from by assumption)] at hE
            try rw [if_pos (show letF (h.1 3 1 s.2.2.2) = lt from by assumption)] at hE
            simp only [c188, c217, c226, c246v2, c279v4, h246, h279, if_true, if_false] at hE
            refine l11_run hL h740 (_, _, _, s.2.2.2 + 1) (by show q ≤ s.2.2.2 + 1; omega) (by show s.2.2.2 + 1 ≤ 740; omega) ?_
            exact hE
          · have h279 : s.2.2.2 - q < 2 := by
              rw [hs] at c279v4
              have z := lt_of_nle (b := 2) c279v4 (by omega) (by decide)
              omega
            refine a_aload_n dX11_go_282 rfl ?_
            refine a_bipush (v := 10) dX11_go_283 (by decide) ?_
            refine a_aload_n dX11_go_285 rfl ?_
            refine a_getI (ci := 11) (j := 7) dX11_go_286 rfl rfl (by decide) rfl fl_11_41 ?_
            try simp (disch := first | decide | assumption | omega) only [ui_eq, ui_k, ui_j, ui_b, ui_2, ul_1, ul_eq, ul_k, ul_j, ul_b, pH_g, pH_gr, pH_gw, pH_gt, pH_o, pH_r, pH_w, up_eq, up_ne, up_2, up_c, hL, hpc, nI_1, hs, hnle, if_false]
            refine a_imul dX11_go_289 ?_
            refine a_iload dX11_go_290 rfl ?_
            refine a_iadd dX11_go_292 ?_
            refine a_bipush (v := 48) dX11_go_293 (by decide) ?_
            refine a_isub dX11_go_295 ?_
            refine a_putI (ci := 11) (j := 7) dX11_go_296 rfl rfl (by decide) (by decide) rfl fl_11_41 ?_
            refine a_aload_n dX11_go_299 rfl ?_
            refine a_dup dX11_go_300 rfl ?_
            refine a_getI (ci := 11) (j := 4) dX11_go_301 rfl rfl (by decide) rfl fl_11_21 ?_
            try simp (disch := first | decide | assumption | omega) only [ui_eq, ui_k, ui_j, ui_b, ui_2, ul_1, ul_eq, ul_k, ul_j, ul_b, pH_g, pH_gr, pH_gw, pH_gt, pH_o, pH_r, pH_w, up_eq, up_ne, up_2, up_c, hL, hpc, nI_1, hs, hnle, if_false]
            refine a_iconst (v := 1) dX11_go_304 (by decide) ?_
            refine a_iadd dX11_go_305 ?_
            refine a_putI (ci := 11) (j := 4) dX11_go_306 rfl rfl (by decide) (by decide) rfl fl_11_21 ?_
            refine a_goto dX11_go_309 (tgt := 177) (by decide) ?_
            rw [pH_o, nI_1]
            simp (disch := decide) only [up_2, up_c]
            refine a_take 4 ?_
            dsimp only [List.take]
            try rw [if_neg (show ¬ letF (h.1 3 1 s.2.2.2) = lt from by assumption)] at hE
            try rw [if_pos (show letF (h.1 3 1 s.2.2.2) = lt from by assumption)] at hE
            simp only [c188, c217, c226, c246v2, c279v4, h246, h279, if_true, if_false] at hE
            refine l11_run hL h740 (_, _, _, s.2.2.2 + 1) (by show q ≤ s.2.2.2 + 1; omega) (by show s.2.2.2 + 1 ≤ 740; omega) ?_
            exact hE
      · refine a_iconst (v := 1) dX11_go_229 (by decide) ?_
        refine a_goto dX11_go_230 (tgt := 234) (by decide) ?_
        refine a_istore_n dX11_go_234 (by decide) rfl ?_
        dsimp only [lset]
        refine a_aload_n dX11_go_235 rfl ?_
        refine a_getI (ci := 11) (j := 4) dX11_go_236 rfl rfl (by decide) rfl fl_11_21 ?_
        try simp (disch := first | decide | assumption | omega) only [ui_eq, ui_k, ui_j, ui_b, ui_2, ul_1, ul_eq, ul_k, ul_j, ul_b, pH_g, pH_gr, pH_gw, pH_gt, pH_o, pH_r, pH_w, up_eq, up_ne, up_2, up_c, hL, hpc, nI_1, hs, hnle, if_false]
        refine a_aload_n dX11_go_239 rfl ?_
        refine a_getI (ci := 11) (j := 5) dX11_go_240 rfl rfl (by decide) rfl fl_11_24 ?_
        try simp (disch := first | decide | assumption | omega) only [ui_eq, ui_k, ui_j, ui_b, ui_2, ul_1, ul_eq, ul_k, ul_j, ul_b, pH_g, pH_gr, pH_gw, pH_gt, pH_o, pH_r, pH_w, up_eq, up_ne, up_2, up_c, hL, hpc, nI_1, hs, hnle, if_false]
        refine a_isub dX11_go_243 ?_
        refine a_bipush (v := 7) dX11_go_244 (by decide) ?_
        refine a_icmp_ge dX11_go_246 (tgt := 269) (by decide) (fun c246v3 => ?_) (fun c246v3 => ?_)
        · have h246 : ¬ s.2.2.2 - q < 7 := by
            rw [hs] at c246v3
            have z := le_of_le (b := 7) c246v3 (by omega) (by decide)
            omega
          refine a_aload_n dX11_go_269 rfl ?_
          refine a_getI (ci := 11) (j := 4) dX11_go_270 rfl rfl (by decide) rfl fl_11_21 ?_
          try simp (disch := first | decide | assumption | omega) only [ui_eq, ui_k, ui_j, ui_b, ui_2, ul_1, ul_eq, ul_k, ul_j, ul_b, pH_g, pH_gr, pH_gw, pH_gt, pH_o, pH_r, pH_w, up_eq, up_ne, up_2, up_c, hL, hpc, nI_1, hs, hnle, if_false]
          refine a_aload_n dX11_go_273 rfl ?_
          refine a_getI (ci := 11) (j := 5) dX11_go_274 rfl rfl (by decide) rfl fl_11_24 ?_
          try simp (disch := first | decide | assumption | omega) only [ui_eq, ui_k, ui_j, ui_b, ui_2, ul_1, ul_eq, ul_k, ul_j, ul_b, pH_g, pH_gr, pH_gw, pH_gt, pH_o, pH_r, pH_w, up_eq, up_ne, up_2, up_c, hL, hpc, nI_1, hs, hnle, if_false]
          refine a_isub dX11_go_277 ?_
          refine a_iconst (v := 2) dX11_go_278 (by decide) ?_
          refine a_icmp_ge dX11_go_279 (tgt := 299) (by decide) (fun c279v5 => ?_) (fun c279v5 => ?_)
          · have h279 : ¬ s.2.2.2 - q < 2 := by
              rw [hs] at c279v5
              have z := le_of_le (b := 2) c279v5 (by omega) (by decide)
              omega
            refine a_aload_n dX11_go_299 rfl ?_
            refine a_dup dX11_go_300 rfl ?_
            refine a_getI (ci := 11) (j := 4) dX11_go_301 rfl rfl (by decide) rfl fl_11_21 ?_
            try simp (disch := first | decide | assumption | omega) only [ui_eq, ui_k, ui_j, ui_b, ui_2, ul_1, ul_eq, ul_k, ul_j, ul_b, pH_g, pH_gr, pH_gw, pH_gt, pH_o, pH_r, pH_w, up_eq, up_ne, up_2, up_c, hL, hpc, nI_1, hs, hnle, if_false]
            refine a_iconst (v := 1) dX11_go_304 (by decide) ?_
            refine a_iadd dX11_go_305 ?_
            refine a_putI (ci := 11) (j := 4) dX11_go_306 rfl rfl (by decide) (by decide) rfl fl_11_21 ?_
            refine a_goto dX11_go_309 (tgt := 177) (by decide) ?_
            rw [pH_o, nI_1]
            simp (disch := decide) only [up_2, up_c]
            refine a_take 4 ?_
            dsimp only [List.take]
            try rw [if_neg (show ¬ letF (h.1 3 1 s.2.2.2) = lt from by assumption)] at hE
            try rw [if_pos (show letF (h.1 3 1 s.2.2.2) = lt from by assumption)] at hE
            simp only [c188, c217, c226, c246v3, c279v5, h246, h279, if_true, if_false] at hE
            refine l11_run hL h740 (_, _, _, s.2.2.2 + 1) (by show q ≤ s.2.2.2 + 1; omega) (by show s.2.2.2 + 1 ≤ 740; omega) ?_
            exact hE
          · have h279 : s.2.2.2 - q < 2 := by
              rw [hs] at c279v5
              have z := lt_of_nle (b := 2) c279v5 (by omega) (by decide)
              omega
            refine a_aload_n dX11_go_282 rfl ?_
            refine a_bipush (v := 10) dX11_go_283 (by decide) ?_
            refine a_aload_n dX11_go_285 rfl ?_
            refine a_getI (ci := 11) (j := 7) dX11_go_286 rfl rfl (by decide) rfl fl_11_41 ?_
            try simp (disch := first | decide | assumption | omega) only [ui_eq, ui_k, ui_j, ui_b, ui_2, ul_1, ul_eq, ul_k, ul_j, ul_b, pH_g, pH_gr, pH_gw, pH_gt, pH_o, pH_r, pH_w, up_eq, up_ne, up_2, up_c, hL, hpc, nI_1, hs, hnle, if_false]
            refine a_imul dX11_go_289 ?_
            refine a_iload dX11_go_290 rfl ?_
            refine a_iadd dX11_go_292 ?_
            refine a_bipush (v := 48) dX11_go_293 (by decide) ?_
            refine a_isub dX11_go_295 ?_
            refine a_putI (ci := 11) (j := 7) dX11_go_296 rfl rfl (by decide) (by decide) rfl fl_11_41 ?_
            refine a_aload_n dX11_go_299 rfl ?_
            refine a_dup dX11_go_300 rfl ?_
            refine a_getI (ci := 11) (j := 4) dX11_go_301 rfl rfl (by decide) rfl fl_11_21 ?_
            try simp (disch := first | decide | assumption | omega) only [ui_eq, ui_k, ui_j, ui_b, ui_2, ul_1, ul_eq, ul_k, ul_j, ul_b, pH_g, pH_gr, pH_gw, pH_gt, pH_o, pH_r, pH_w, up_eq, up_ne, up_2, up_c, hL, hpc, nI_1, hs, hnle, if_false]
            refine a_iconst (v := 1) dX11_go_304 (by decide) ?_
            refine a_iadd dX11_go_305 ?_
            refine a_putI (ci := 11) (j := 4) dX11_go_306 rfl rfl (by decide) (by decide) rfl fl_11_21 ?_
            refine a_goto dX11_go_309 (tgt := 177) (by decide) ?_
            rw [pH_o, nI_1]
            simp (disch := decide) only [up_2, up_c]
            refine a_take 4 ?_
            dsimp only [List.take]
            try rw [if_neg (show ¬ letF (h.1 3 1 s.2.2.2) = lt from by assumption)] at hE
            try rw [if_pos (show letF (h.1 3 1 s.2.2.2) = lt from by assumption)] at hE
            simp only [c188, c217, c226, c246v3, c279v5, h246, h279, if_true, if_false] at hE
            refine l11_run hL h740 (_, _, _, s.2.2.2 + 1) (by show q ≤ s.2.2.2 + 1; omega) (by show s.2.2.2 + 1 ≤ 740; omega) ?_
            exact hE
        · have h246 : s.2.2.2 - q < 7 := by
            rw [hs] at c246v3
            have z := lt_of_nle (b := 7) c246v3 (by omega) (by decide)
            omega
          refine a_aload_n dX11_go_249 rfl ?_
          refine a_ldc2 (v := 27) kl_11_48 dX11_go_250 ?_
          refine a_aload_n dX11_go_253 rfl ?_
          refine a_getL (ci := 11) (j := 10) dX11_go_254 rfl rfl (by decide) rfl fl_11_37 ?_
          try simp (disch := first | decide | assumption | omega) only [ui_eq, ui_k, ui_j, ui_b, ui_2, ul_1, ul_eq, ul_k, ul_j, ul_b, pH_g, pH_gr, pH_gw, pH_gt, pH_o, pH_r, pH_w, up_eq, up_ne, up_2, up_c, hL, hpc, nI_1, hs, hnle, if_false]
          refine a_lmul dX11_go_257 ?_
          refine a_iload dX11_go_258 rfl ?_
          refine a_i2l dX11_go_260 ?_
          refine a_ladd dX11_go_261 ?_
          refine a_ldc2 (v := 96) kl_11_50 dX11_go_262 ?_
          refine a_lsub dX11_go_265 ?_
          refine a_putL (ci := 11) (j := 10) dX11_go_266 rfl rfl (by decide) (by decide) rfl fl_11_37 ?_
          refine a_aload_n dX11_go_269 rfl ?_
          refine a_getI (ci := 11) (j := 4) dX11_go_270 rfl rfl (by decide) rfl fl_11_21 ?_
          try simp (disch := first | decide | assumption | omega) only [ui_eq, ui_k, ui_j, ui_b, ui_2, ul_1, ul_eq, ul_k, ul_j, ul_b, pH_g, pH_gr, pH_gw, pH_gt, pH_o, pH_r, pH_w, up_eq, up_ne, up_2, up_c, hL, hpc, nI_1, hs, hnle, if_false]
          refine a_aload_n dX11_go_273 rfl ?_
          refine a_getI (ci := 11) (j := 5) dX11_go_274 rfl rfl (by decide) rfl fl_11_24 ?_
          try simp (disch := first | decide | assumption | omega) only [ui_eq, ui_k, ui_j, ui_b, ui_2, ul_1, ul_eq, ul_k, ul_j, ul_b, pH_g, pH_gr, pH_gw, pH_gt, pH_o, pH_r, pH_w, up_eq, up_ne, up_2, up_c, hL, hpc, nI_1, hs, hnle, if_false]
          refine a_isub dX11_go_277 ?_
          refine a_iconst (v := 2) dX11_go_278 (by decide) ?_
          refine a_icmp_ge dX11_go_279 (tgt := 299) (by decide) (fun c279v6 => ?_) (fun c279v6 => ?_)
          · have h279 : ¬ s.2.2.2 - q < 2 := by
              rw [hs] at c279v6
              have z := le_of_le (b := 2) c279v6 (by omega) (by decide)
              omega
            refine a_aload_n dX11_go_299 rfl ?_
            refine a_dup dX11_go_300 rfl ?_
            refine a_getI (ci := 11) (j := 4) dX11_go_301 rfl rfl (by decide) rfl fl_11_21 ?_
            try simp (disch := first | decide | assumption | omega) only [ui_eq, ui_k, ui_j, ui_b, ui_2, ul_1, ul_eq, ul_k, ul_j, ul_b, pH_g, pH_gr, pH_gw, pH_gt, pH_o, pH_r, pH_w, up_eq, up_ne, up_2, up_c, hL, hpc, nI_1, hs, hnle, if_false]
            refine a_iconst (v := 1) dX11_go_304 (by decide) ?_
            refine a_iadd dX11_go_305 ?_
            refine a_putI (ci := 11) (j := 4) dX11_go_306 rfl rfl (by decide) (by decide) rfl fl_11_21 ?_
            refine a_goto dX11_go_309 (tgt := 177) (by decide) ?_
            rw [pH_o, nI_1]
            simp (disch := decide) only [up_2, up_c]
            refine a_take 4 ?_
            dsimp only [List.take]
            try rw [if_neg (show ¬ letF (h.1 3 1 s.2.2.2) = lt from by assumption)] at hE
            try rw [if_pos (show letF (h.1 3 1 s.2.2.2) = lt from by assumption)] at hE
            simp only [c188, c217, c226, c246v3, c279v6, h246, h279, if_true, if_false] at hE
            refine l11_run hL h740 (_, _, _, s.2.2.2 + 1) (by show q ≤ s.2.2.2 + 1; omega) (by show s.2.2.2 + 1 ≤ 740; omega) ?_
            exact hE
          · have h279 : s.2.2.2 - q < 2 := by
              rw [hs] at c279v6
              have z := lt_of_nle (b := 2) c279v6 (by omega) (by decide)
              omega
            refine a_aload_n dX11_go_282 rfl ?_
            refine a_bipush (v := 10) dX11_go_283 (by decide) ?_
            refine a_aload_n dX11_go_285 rfl ?_
            refine a_getI (ci := 11) (j := 7) dX11_go_286 rfl rfl (by decide) rfl fl_11_41 ?_
            try simp (disch := first | decide | assumption | omega) only [ui_eq, ui_k, ui_j, ui_b, ui_2, ul_1, ul_eq, ul_k, ul_j, ul_b, pH_g, pH_gr, pH_gw, pH_gt, pH_o, pH_r, pH_w, up_eq, up_ne, up_2, up_c, hL, hpc, nI_1, hs, hnle, if_false]
            refine a_imul dX11_go_289 ?_
            refine a_iload dX11_go_290 rfl ?_
            refine a_iadd dX11_go_292 ?_
            refine a_bipush (v := 48) dX11_go_293 (by decide) ?_
            refine a_isub dX11_go_295 ?_
            refine a_putI (ci := 11) (j := 7) dX11_go_296 rfl rfl (by decide) (by decide) rfl fl_11_41 ?_
            refine a_aload_n dX11_go_299 rfl ?_
            refine a_dup dX11_go_300 rfl ?_
            refine a_getI (ci := 11) (j := 4) dX11_go_301 rfl rfl (by decide) rfl fl_11_21 ?_
            try simp (disch := first | decide | assumption | omega) only [ui_eq, ui_k, ui_j, ui_b, ui_2, ul_1, ul_eq, ul_k, ul_j, ul_b, pH_g, pH_gr, pH_gw, pH_gt, pH_o, pH_r, pH_w, up_eq, up_ne, up_2, up_c, hL, hpc, nI_1, hs, hnle, if_false]
            refine a_iconst (v := 1) dX11_go_304 (by decide) ?_
            refine a_iadd dX11_go_305 ?_
            refine a_putI (ci := 11) (j := 4) dX11_go_306 rfl rfl (by decide) (by decide) rfl fl_11_21 ?_
            refine a_goto dX11_go_309 (tgt := 177) (by decide) ?_
            rw [pH_o, nI_1]
            simp (disch := decide) only [up_2, up_c]
            refine a_take 4 ?_
            dsimp only [List.take]
            try rw [if_neg (show ¬ letF (h.1 3 1 s.2.2.2) = lt from by assumption)] at hE
            try rw [if_pos (show letF (h.1 3 1 s.2.2.2) = lt from by assumption)] at hE
            simp only [c188, c217, c226, c246v3, c279v6, h246, h279, if_true, if_false] at hE
            refine l11_run hL h740 (_, _, _, s.2.2.2 + 1) (by show q ≤ s.2.2.2 + 1; omega) (by show s.2.2.2 + 1 ≤ 740; omega) ?_
            exact hE
  · refine a_aload_n dX11_go_191 rfl ?_
    refine a_aload_n dX11_go_192 rfl ?_
    refine a_getI (ci := 11) (j := 4) dX11_go_193 rfl rfl (by decide) rfl fl_11_21 ?_
    try simp (disch := first | decide | assumption | omega) only [ui_eq, ui_k, ui_j, ui_b, ui_2, ul_1, ul_eq, ul_k, ul_j, ul_b, pH_g, pH_gr, pH_gw, pH_gt, pH_o, pH_r, pH_w, up_eq, up_ne, up_2, up_c, hL, hpc, nI_1, hs, hnle, if_false]
    refine a_cV1i dX11_go_196 ml_11_44 wv_11_tapeAt rfl rfl (by decide) (Nat.le_of_ble_eq_true rfl) (c11_tapeAt (by simp (disch := decide) only [up_ne]; exact hL) h740 (by omega) ⟨rfl, rfl⟩) ?_
    try simp (disch := first | decide | assumption | omega) only [ui_eq, ui_k, ui_j, ui_b, ui_2, ul_1, ul_eq, ul_k, ul_j, ul_b, pH_g, pH_gr, pH_gw, pH_gt, pH_o, pH_r, pH_w, up_eq, up_ne, up_2, up_c, hL, hpc, nI_1, hs, hnle, if_false]
    refine a_cS1i dX11_go_199 ml_11_34 ws_11_isDigit (by decide) (Nat.le_of_ble_eq_true rfl) (c11_isDigit ⟨rfl, rfl⟩) ?_
    try simp (disch := first | decide | assumption | omega) only [ui_eq, ui_k, ui_j, ui_b, ui_2, ul_1, ul_eq, ul_k, ul_j, ul_b, pH_g, pH_gr, pH_gw, pH_gt, pH_o, pH_r, pH_w, up_eq, up_ne, up_2, up_c, hL, hpc, nI_1, hs, hnle, if_false]
    refine a_if_eq dX11_go_202 (tgt := 312) (by decide) (fun c202 => ?_) (fun c202 => ?_)
    · rw [if_pos ⟨c188, c202⟩] at hE
      exact hE
    · rw [if_neg (fun z => c202 z.2)] at hE
      refine a_aload_n dX11_go_205 rfl ?_
      refine a_getR (ci := 11) (j := 1) dX11_go_206 rfl rfl (by decide) rfl fl_11_7 ?_
      refine a_aload_n dX11_go_209 rfl ?_
      refine a_getI (ci := 11) (j := 4) dX11_go_210 rfl rfl (by decide) rfl fl_11_21 ?_
      try simp (disch := first | decide | assumption | omega) only [ui_eq, ui_k, ui_j, ui_b, ui_2, ul_1, ul_eq, ul_k, ul_j, ul_b, pH_g, pH_gr, pH_gw, pH_gt, pH_o, pH_r, pH_w, up_eq, up_ne, up_2, up_c, hL, hpc, nI_1, hs, hnle, if_false]
      refine a_iaload dX11_go_213 rfl (vp_in_nI (by omega) (by decide)) ?_
      try simp (disch := first | decide | assumption | omega) only [ui_eq, ui_k, ui_j, ui_b, ui_2, ul_1, ul_eq, ul_k, ul_j, ul_b, pH_g, pH_gr, pH_gw, pH_gt, pH_o, pH_r, pH_w, up_eq, up_ne, up_2, up_c, hL, hpc, nI_1, hs, hnle, if_false]
      refine a_istore dX11_go_214 (by decide) rfl ?_
      dsimp only [lset]
      refine a_iload_n dX11_go_216 rfl ?_
      refine a_if_eq dX11_go_217 (tgt := 233) (by decide) (fun c217v2 => ?_) (fun c217v2 => ?_)
      · refine a_iconst (v := 0) dX11_go_233 (by decide) ?_
        refine a_istore_n dX11_go_234 (by decide) rfl ?_
        dsimp only [lset]
        refine a_aload_n dX11_go_235 rfl ?_
        refine a_getI (ci := 11) (j := 4) dX11_go_236 rfl rfl (by decide) rfl fl_11_21 ?_
        try simp (disch := first | decide | assumption | omega) only [ui_eq, ui_k, ui_j, ui_b, ui_2, ul_1, ul_eq, ul_k, ul_j, ul_b, pH_g, pH_gr, pH_gw, pH_gt, pH_o, pH_r, pH_w, up_eq, up_ne, up_2, up_c, hL, hpc, nI_1, hs, hnle, if_false]
        refine a_aload_n dX11_go_239 rfl ?_
        refine a_getI (ci := 11) (j := 5) dX11_go_240 rfl rfl (by decide) rfl fl_11_24 ?_
        try simp (disch := first | decide | assumption | omega) only [ui_eq, ui_k, ui_j, ui_b, ui_2, ul_1, ul_eq, ul_k, ul_j, ul_b, pH_g, pH_gr, pH_gw, pH_gt, pH_o, pH_r, pH_w, up_eq, up_ne, up_2, up_c, hL, hpc, nI_1, hs, hnle, if_false]
        refine a_isub dX11_go_243 ?_
        refine a_bipush (v := 7) dX11_go_244 (by decide) ?_
        refine a_icmp_ge dX11_go_246 (tgt := 269) (by decide) (fun c246v4 => ?_) (fun c246v4 => ?_)
        · have h246 : ¬ s.2.2.2 - q < 7 := by
            rw [hs] at c246v4
            have z := le_of_le (b := 7) c246v4 (by omega) (by decide)
            omega
          refine a_aload_n dX11_go_269 rfl ?_
          refine a_getI (ci := 11) (j := 4) dX11_go_270 rfl rfl (by decide) rfl fl_11_21 ?_
          try simp (disch := first | decide | assumption | omega) only [ui_eq, ui_k, ui_j, ui_b, ui_2, ul_1, ul_eq, ul_k, ul_j, ul_b, pH_g, pH_gr, pH_gw, pH_gt, pH_o, pH_r, pH_w, up_eq, up_ne, up_2, up_c, hL, hpc, nI_1, hs, hnle, if_false]
          refine a_aload_n dX11_go_273 rfl ?_
          refine a_getI (ci := 11) (j := 5) dX11_go_274 rfl rfl (by decide) rfl fl_11_24 ?_
          try simp (disch := first | decide | assumption | omega) only [ui_eq, ui_k, ui_j, ui_b, ui_2, ul_1, ul_eq, ul_k, ul_j, ul_b, pH_g, pH_gr, pH_gw, pH_gt, pH_o, pH_r, pH_w, up_eq, up_ne, up_2, up_c, hL, hpc, nI_1, hs, hnle, if_false]
          refine a_isub dX11_go_277 ?_
          refine a_iconst (v := 2) dX11_go_278 (by decide) ?_
          refine a_icmp_ge dX11_go_279 (tgt := 299) (by decide) (fun c279v7 => ?_) (fun c279v7 => ?_)
          · have h279 : ¬ s.2.2.2 - q < 2 := by
              rw [hs] at c279v7
              have z := le_of_le (b := 2) c279v7 (by omega) (by decide)
              omega
            refine a_aload_n dX11_go_299 rfl ?_
            refine a_dup dX11_go_300 rfl ?_
            refine a_getI (ci := 11) (j := 4) dX11_go_301 rfl rfl (by decide) rfl fl_11_21 ?_
            try simp (disch := first | decide | assumption | omega) only [ui_eq, ui_k, ui_j, ui_b, ui_2, ul_1, ul_eq, ul_k, ul_j, ul_b, pH_g, pH_gr, pH_gw, pH_gt, pH_o, pH_r, pH_w, up_eq, up_ne, up_2, up_c, hL, hpc, nI_1, hs, hnle, if_false]
            refine a_iconst (v := 1) dX11_go_304 (by decide) ?_
            refine a_iadd dX11_go_305 ?_
            refine a_putI (ci := 11) (j := 4) dX11_go_306 rfl rfl (by decide) (by decide) rfl fl_11_21 ?_
            refine a_goto dX11_go_309 (tgt := 177) (by decide) ?_
            rw [pH_o, nI_1]
            simp (disch := decide) only [up_2, up_c]
            refine a_take 4 ?_
            dsimp only [List.take]
            try rw [if_neg (show ¬ letF (h.1 3 1 s.2.2.2) = lt from by assumption)] at hE
            try rw [if_pos (show letF (h.1 3 1 s.2.2.2) = lt from by assumption)] at hE
            simp only [c188, c202, c217v2, c246v4, c279v7, h246, h279, if_true, if_false] at hE
            refine l11_run hL h740 (_, _, _, s.2.2.2 + 1) (by show q ≤ s.2.2.2 + 1; omega) (by show s.2.2.2 + 1 ≤ 740; omega) ?_
            exact hE
          · have h279 : s.2.2.2 - q < 2 := by
              rw [hs] at c279v7
              have z := lt_of_nle (b := 2) c279v7 (by omega) (by decide)
              omega
            refine a_aload_n dX11_go_282 rfl ?_
            refine a_bipush (v := 10) dX11_go_283 (by decide) ?_
            refine a_aload_n dX11_go_285 rfl ?_
            refine a_getI (ci := 11) (j := 7) dX11_go_286 rfl rfl (by decide) rfl fl_11_41 ?_
            try simp (disch := first | decide | assumption | omega) only [ui_eq, ui_k, ui_j, ui_b, ui_2, ul_1, ul_eq, ul_k, ul_j, ul_b, pH_g, pH_gr, pH_gw, pH_gt, pH_o, pH_r, pH_w, up_eq, up_ne, up_2, up_c, hL, hpc, nI_1, hs, hnle, if_false]
            refine a_imul dX11_go_289 ?_
            refine a_iload dX11_go_290 rfl ?_
            refine a_iadd dX11_go_292 ?_
            refine a_bipush (v := 48) dX11_go_293 (by decide) ?_
            refine a_isub dX11_go_295 ?_
            refine a_putI (ci := 11) (j := 7) dX11_go_296 rfl rfl (by decide) (by decide) rfl fl_11_41 ?_
            refine a_aload_n dX11_go_299 rfl ?_
            refine a_dup dX11_go_300 rfl ?_
            refine a_getI (ci := 11) (j := 4) dX11_go_301 rfl rfl (by decide) rfl fl_11_21 ?_
            try simp (disch := first | decide | assumption | omega) only [ui_eq, ui_k, ui_j, ui_b, ui_2, ul_1, ul_eq, ul_k, ul_j, ul_b, pH_g, pH_gr, pH_gw, pH_gt, pH_o, pH_r, pH_w, up_eq, up_ne, up_2, up_c, hL, hpc, nI_1, hs, hnle, if_false]
            refine a_iconst (v := 1) dX11_go_304 (by decide) ?_
            refine a_iadd dX11_go_305 ?_
            refine a_putI (ci := 11) (j := 4) dX11_go_306 rfl rfl (by decide) (by decide) rfl fl_11_21 ?_
            refine a_goto dX11_go_309 (tgt := 177) (by decide) ?_
            rw [pH_o, nI_1]
            simp (disch := decide) only [up_2, up_c]
            refine a_take 4 ?_
            dsimp only [List.take]
            try rw [if_neg (show ¬ letF (h.1 3 1 s.2.2.2) = lt from by assumption)] at hE
            try rw [if_pos (show letF (h.1 3 1 s.2.2.2) = lt from by assumption)] at hE
            simp only [c188, c202, c217v2, c246v4, c279v7, h246, h279, if_true, if_false] at hE
            refine l11_run hL h740 (_, _, _, s.2.2.2 + 1) (by show q ≤ s.2.2.2 + 1; omega) (by show s.2.2.2 + 1 ≤ 740; omega) ?_
            exact hE
        · have h246 : s.2.2.2 - q < 7 := by
            rw [hs] at c246v4
            have z := lt_of_nle (b := 7) c246v4 (by omega) (by decide)
            omega
          refine a_aload_n dX11_go_249 rfl ?_
          refine a_ldc2 (v := 27) kl_11_48 dX11_go_250 ?_
          refine a_aload_n dX11_go_253 rfl ?_
          refine a_getL (ci := 11) (j := 10) dX11_go_254 rfl rfl (by decide) rfl fl_11_37 ?_
          try simp (disch := first | decide | assumption | omega) only [ui_eq, ui_k, ui_j, ui_b, ui_2, ul_1, ul_eq, ul_k, ul_j, ul_b, pH_g, pH_gr, pH_gw, pH_gt, pH_o, pH_r, pH_w, up_eq, up_ne, up_2, up_c, hL, hpc, nI_1, hs, hnle, if_false]
          refine a_lmul dX11_go_257 ?_
          refine a_iload dX11_go_258 rfl ?_
          refine a_i2l dX11_go_260 ?_
          refine a_ladd dX11_go_261 ?_
          refine a_ldc2 (v := 96) kl_11_50 dX11_go_262 ?_
          refine a_lsub dX11_go_265 ?_
          refine a_putL (ci := 11) (j := 10) dX11_go_266 rfl rfl (by decide) (by decide) rfl fl_11_37 ?_
          refine a_aload_n dX11_go_269 rfl ?_
          refine a_getI (ci := 11) (j := 4) dX11_go_270 rfl rfl (by decide) rfl fl_11_21 ?_
          try simp (disch := first | decide | assumption | omega) only [ui_eq, ui_k, ui_j, ui_b, ui_2, ul_1, ul_eq, ul_k, ul_j, ul_b, pH_g, pH_gr, pH_gw, pH_gt, pH_o, pH_r, pH_w, up_eq, up_ne, up_2, up_c, hL, hpc, nI_1, hs, hnle, if_false]
          refine a_aload_n dX11_go_273 rfl ?_
          refine a_getI (ci := 11) (j := 5) dX11_go_274 rfl rfl (by decide) rfl fl_11_24 ?_
          try simp (disch := first | decide | assumption | omega) only [ui_eq, ui_k, ui_j, ui_b, ui_2, ul_1, ul_eq, ul_k, ul_j, ul_b, pH_g, pH_gr, pH_gw, pH_gt, pH_o, pH_r, pH_w, up_eq, up_ne, up_2, up_c, hL, hpc, nI_1, hs, hnle, if_false]
          refine a_isub dX11_go_277 ?_
          refine a_iconst (v := 2) dX11_go_278 (by decide) ?_
          refine a_icmp_ge dX11_go_279 (tgt := 299) (by decide) (fun c279v8 => ?_) (fun c279v8 => ?_)
          · have h279 : ¬ s.2.2.2 - q < 2 := by
              rw [hs] at c279v8
              have z := le_of_le (b := 2) c279v8 (by omega) (by decide)
              omega
            refine a_aload_n dX11_go_299 rfl ?_
            refine a_dup dX11_go_300 rfl ?_
            refine a_getI (ci := 11) (j := 4) dX11_go_301 rfl rfl (by decide) rfl fl_11_21 ?_
            try simp (disch := first | decide | assumption | omega) only [ui_eq, ui_k, ui_j, ui_b, ui_2, ul_1, ul_eq, ul_k, ul_j, ul_b, pH_g, pH_gr, pH_gw, pH_gt, pH_o, pH_r, pH_w, up_eq, up_ne, up_2, up_c, hL, hpc, nI_1, hs, hnle, if_false]
            refine a_iconst (v := 1) dX11_go_304 (by decide) ?_
            refine a_iadd dX11_go_305 ?_
            refine a_putI (ci := 11) (j := 4) dX11_go_306 rfl rfl (by decide) (by decide) rfl fl_11_21 ?_
            refine a_goto dX11_go_309 (tgt := 177) (by decide) ?_
            rw [pH_o, nI_1]
            simp (disch := decide) only [up_2, up_c]
            refine a_take 4 ?_
            dsimp only [List.take]
            try rw [if_neg (show ¬ letF (h.1 3 1 s.2.2.2) = lt from by assumption)] at hE
            try rw [if_pos (show letF (h.1 3 1 s.2.2.2) = lt from by assumption)] at hE
            simp only [c188, c202, c217v2, c246v4, c279v8, h246, h279, if_true, if_false] at hE
            refine l11_run hL h740 (_, _, _, s.2.2.2 + 1) (by show q ≤ s.2.2.2 + 1; omega) (by show s.2.2.2 + 1 ≤ 740; omega) ?_
            exact hE
          · have h279 : s.2.2.2 - q < 2 := by
              rw [hs] at c279v8
              have z := lt_of_nle (b := 2) c279v8 (by omega) (by decide)
              omega
            refine a_aload_n dX11_go_282 rfl ?_
            refine a_bipush (v := 10) dX11_go_283 (by decide) ?_
            refine a_aload_n dX11_go_285 rfl ?_
            refine a_getI (ci := 11) (j := 7) dX11_go_286 rfl rfl (by decide) rfl fl_11_41 ?_
            try simp (disch := first | decide | assumption | omega) only [ui_eq, ui_k, ui_j, ui_b, ui_2, ul_1, ul_eq, ul_k, ul_j, ul_b, pH_g, pH_gr, pH_gw, pH_gt, pH_o, pH_r, pH_w, up_eq, up_ne, up_2, up_c, hL, hpc, nI_1, hs, hnle, if_false]
            refine a_imul dX11_go_289 ?_
            refine a_iload dX11_go_290 rfl ?_
            refine a_iadd dX11_go_292 ?_
            refine a_bipush (v := 48) dX11_go_293 (by decide) ?_
            refine a_isub dX11_go_295 ?_
            refine a_putI (ci := 11) (j := 7) dX11_go_296 rfl rfl (by decide) (by decide) rfl fl_11_41 ?_
            refine a_aload_n dX11_go_299 rfl ?_
            refine a_dup dX11_go_300 rfl ?_
            refine a_getI (ci := 11) (j := 4) dX11_go_301 rfl rfl (by decide) rfl fl_11_21 ?_
            try simp (disch := first | decide | assumption | omega) only [ui_eq, ui_k, ui_j, ui_b, ui_2, ul_1, ul_eq, ul_k, ul_j, ul_b, pH_g, pH_gr, pH_gw, pH_gt, pH_o, pH_r, pH_w, up_eq, up_ne, up_2, up_c, hL, hpc, nI_1, hs, hnle, if_false]
            refine a_iconst (v := 1) dX11_go_304 (by decide) ?_
            refine a_iadd dX11_go_305 ?_
            refine a_putI (ci := 11) (j := 4) dX11_go_306 rfl rfl (by decide) (by decide) rfl fl_11_21 ?_
            refine a_goto dX11_go_309 (tgt := 177) (by decide) ?_
            rw [pH_o, nI_1]
            simp (disch := decide) only [up_2, up_c]
            refine a_take 4 ?_
            dsimp only [List.take]
            try rw [if_neg (show ¬ letF (h.1 3 1 s.2.2.2) = lt from by assumption)] at hE
            try rw [if_pos (show letF (h.1 3 1 s.2.2.2) = lt from by assumption)] at hE
            simp only [c188, c202, c217v2, c246v4, c279v8, h246, h279, if_true, if_false] at hE
            refine l11_run hL h740 (_, _, _, s.2.2.2 + 1) (by show q ≤ s.2.2.2 + 1; omega) (by show s.2.2.2 + 1 ≤ 740; omega) ?_
            exact hE
      · refine a_iload dX11_go_220 rfl ?_
        refine a_cS1i dX11_go_222 ml_11_30 ws_11_isLetter (by decide) (Nat.le_of_ble_eq_true rfl) (c11_isLetter ⟨rfl, rfl⟩) ?_
        try simp (disch := first | decide | assumption | omega) only [ui_eq, ui_k, ui_j, ui_b, ui_2, ul_1, ul_eq, ul_k, ul_j, ul_b, pH_g, pH_gr, pH_gw, pH_gt, pH_o, pH_r, pH_w, up_eq, up_ne, up_2, up_c, hL, hpc, nI_1, hs, hnle, if_false]
        refine a_iload_n dX11_go_225 rfl ?_
        refine a_icmp_ne dX11_go_226 (tgt := 233) (by decide) (fun c226v2 => ?_) (fun c226v2 => ?_)
        · refine a_iconst (v := 0) dX11_go_233 (by decide) ?_
          refine a_istore_n dX11_go_234 (by decide) rfl ?_
          dsimp only [lset]
          refine a_aload_n dX11_go_235 rfl ?_
          refine a_getI (ci := 11) (j := 4) dX11_go_236 rfl rfl (by decide) rfl fl_11_21 ?_
          try simp (disch := first | decide | assumption | omega) only [ui_eq, ui_k, ui_j, ui_b, ui_2, ul_1, ul_eq, ul_k, ul_j, ul_b, pH_g, pH_gr, pH_gw, pH_gt, pH_o, pH_r, pH_w, up_eq, up_ne, up_2, up_c, hL, hpc, nI_1, hs, hnle, if_false]
          refine a_aload_n dX11_go_239 rfl ?_
          refine a_getI (ci := 11) (j := 5) dX11_go_240 rfl rfl (by decide) rfl fl_11_24 ?_
          try simp (disch := first | decide | assumption | omega) only [ui_eq, ui_k, ui_j, ui_b, ui_2, ul_1, ul_eq, ul_k, ul_j, ul_b, pH_g, pH_gr, pH_gw, pH_gt, pH_o, pH_r, pH_w, up_eq, up_ne, up_2, up_c, hL, hpc, nI_1, hs, hnle, if_false]
          refine a_isub dX11_go_243 ?_
          refine a_bipush (v := 7) dX11_go_244 (by decide) ?_
          refine a_icmp_ge dX11_go_246 (tgt := 269) (by decide) (fun c246v5 => ?_) (fun c246v5 => ?_)
          · have h246 : ¬ s.2.2.2 - q < 7 := by
              rw [hs] at c246v5
              have z := le_of_le (b := 7) c246v5 (by omega) (by decide)
              omega
            refine a_aload_n dX11_go_269 rfl ?_
            refine a_getI (ci := 11) (j := 4) dX11_go_270 rfl rfl (by decide) rfl fl_11_21 ?_
            try simp (disch := first | decide | assumption | omega) only [ui_eq, ui_k, ui_j, ui_b, ui_2, ul_1, ul_eq, ul_k, ul_j, ul_b, pH_g, pH_gr, pH_gw, pH_gt, pH_o, pH_r, pH_w, up_eq, up_ne, up_2, up_c, hL, hpc, nI_1, hs, hnle, if_false]
            refine a_aload_n dX11_go_273 rfl ?_
            refine a_getI (ci := 11) (j := 5) dX11_go_274 rfl rfl (by decide) rfl fl_11_24 ?_
            try simp (disch := first | decide | assumption | omega) only [ui_eq, ui_k, ui_j, ui_b, ui_2, ul_1, ul_eq, ul_k, ul_j, ul_b, pH_g, pH_gr, pH_gw, pH_gt, pH_o, pH_r, pH_w, up_eq, up_ne, up_2, up_c, hL, hpc, nI_1, hs, hnle, if_false]
            refine a_isub dX11_go_277 ?_
            refine a_iconst (v := 2) dX11_go_278 (by decide) ?_
            refine a_icmp_ge dX11_go_279 (tgt := 299) (by decide) (fun c279v9 => ?_) (fun c279v9 => ?_)
            · have h279 : ¬ s.2.2.2 - q < 2 := by
                rw [hs] at c279v9
                have z := le_of_le (b := 2) c279v9 (by omega) (by decide)
                omega
              refine a_aload_n dX11_go_299 rfl ?_
              refine a_dup dX11_go_300 rfl ?_
              refine a_getI (ci := 11) (j := 4) dX11_go_301 rfl rfl (by decide) rfl fl_11_21 ?_
              try simp (disch := first | decide | assumption | omega) only [ui_eq, ui_k, ui_j, ui_b, ui_2, ul_1, ul_eq, ul_k, ul_j, ul_b, pH_g, pH_gr, pH_gw, pH_gt, pH_o, pH_r, pH_w, up_eq, up_ne, up_2, up_c, hL, hpc, nI_1, hs, hnle, if_false]
              refine a_iconst (v := 1) dX11_go_304 (by decide) ?_
              refine a_iadd dX11_go_305 ?_
              refine a_putI (ci := 11) (j := 4) dX11_go_306 rfl rfl (by decide) (by decide) rfl fl_11_21 ?_
              refine a_goto dX11_go_309 (tgt := 177) (by decide) ?_
              rw [pH_o, nI_1]
              simp (disch := decide) only [up_2, up_c]
              refine a_take 4 ?_
              dsimp only [List.take]
              try rw [if_neg (show ¬ letF (h.1 3 1 s.2.2.2) = lt from by assumption)] at hE
              try rw [if_pos (show letF (h.1 3 1 s.2.2.2) = lt from by assumption)] at hE
              simp only [c188, c202, c217v2, c226v2, c246v5, c279v9, h246, h279, if_true, if_false] at hE
              refine l11_run hL h740 (_, _, _, s.2.2.2 + 1) (by show q ≤ s.2.2.2 + 1; omega) (by show s.2.2.2 + 1 ≤ 740; omega) ?_
              exact hE
            · have h279 : s.2.2.2 - q < 2 := by
                rw [hs] at c279v9
                have z := lt_of_nle (b := 2) c279v9 (by omega) (by decide)
                omega
              refine a_aload_n dX11_go_282 rfl ?_
              refine a_bipush (v := 10) dX11_go_283 (by decide) ?_
              refine a_aload_n dX11_go_285 rfl ?_
              refine a_getI (ci := 11) (j := 7) dX11_go_286 rfl rfl (by decide) rfl fl_11_41 ?_
              try simp (disch := first | decide | assumption | omega) only [ui_eq, ui_k, ui_j, ui_b, ui_2, ul_1, ul_eq, ul_k, ul_j, ul_b, pH_g, pH_gr, pH_gw, pH_gt, pH_o, pH_r, pH_w, up_eq, up_ne, up_2, up_c, hL, hpc, nI_1, hs, hnle, if_false]
              refine a_imul dX11_go_289 ?_
              refine a_iload dX11_go_290 rfl ?_
              refine a_iadd dX11_go_292 ?_
              refine a_bipush (v := 48) dX11_go_293 (by decide) ?_
              refine a_isub dX11_go_295 ?_
              refine a_putI (ci := 11) (j := 7) dX11_go_296 rfl rfl (by decide) (by decide) rfl fl_11_41 ?_
              refine a_aload_n dX11_go_299 rfl ?_
              refine a_dup dX11_go_300 rfl ?_
              refine a_getI (ci := 11) (j := 4) dX11_go_301 rfl rfl (by decide) rfl fl_11_21 ?_
              try simp (disch := first | decide | assumption | omega) only [ui_eq, ui_k, ui_j, ui_b, ui_2, ul_1, ul_eq, ul_k, ul_j, ul_b, pH_g, pH_gr, pH_gw, pH_gt, pH_o, pH_r, pH_w, up_eq, up_ne, up_2, up_c, hL, hpc, nI_1, hs, hnle, if_false]
              refine a_iconst (v := 1) dX11_go_304 (by decide) ?_
              refine a_iadd dX11_go_305 ?_
              refine a_putI (ci := 11) (j := 4) dX11_go_306 rfl rfl (by decide) (by decide) rfl fl_11_21 ?_
              refine a_goto dX11_go_309 (tgt := 177) (by decide) ?_
              rw [pH_o, nI_1]
              simp (disch := decide) only [up_2, up_c]
              refine a_take 4 ?_
              dsimp only [List.take]
              try rw [if_neg (show ¬ letF (h.1 3 1 s.2.2.2) = lt from by assumption)] at hE
              try rw [if_pos (show letF (h.1 3 1 s.2.2.2) = lt from by assumption)] at hE
              simp only [c188, c202, c217v2, c226v2, c246v5, c279v9, h246, h279, if_true, if_false] at hE
              refine l11_run hL h740 (_, _, _, s.2.2.2 + 1) (by show q ≤ s.2.2.2 + 1; omega) (by show s.2.2.2 + 1 ≤ 740; omega) ?_
              exact hE
          · have h246 : s.2.2.2 - q < 7 := by
              rw [hs] at c246v5
              have z := lt_of_nle (b := 7) c246v5 (by omega) (by decide)
              omega
            refine a_aload_n dX11_go_249 rfl ?_
            refine a_ldc2 (v := 27) kl_11_48 dX11_go_250 ?_
            refine a_aload_n dX11_go_253 rfl ?_
            refine a_getL (ci := 11) (j := 10) dX11_go_254 rfl rfl (by decide) rfl fl_11_37 ?_
            try simp (disch := first | decide | assumption | omega) only [ui_eq, ui_k, ui_j, ui_b, ui_2, ul_1, ul_eq, ul_k, ul_j, ul_b, pH_g, pH_gr, pH_gw, pH_gt, pH_o, pH_r, pH_w, up_eq, up_ne, up_2, up_c, hL, hpc, nI_1, hs, hnle, if_false]
            refine a_lmul dX11_go_257 ?_
            refine a_iload dX11_go_258 rfl ?_
            refine a_i2l dX11_go_260 ?_
            refine a_ladd dX11_go_261 ?_
            refine a_ldc2 (v := 96) kl_11_50 dX11_go_262 ?_
            refine a_lsub dX11_go_265 ?_
            refine a_putL (ci := 11) (j := 10) dX11_go_266 rfl rfl (by decide) (by decide) rfl fl_11_37 ?_
            refine a_aload_n dX11_go_269 rfl ?_
            refine a_getI (ci := 11) (j := 4) dX11_go_270 rfl rfl (by decide) rfl fl_11_21 ?_
            try simp (disch := first | decide | assumption | omega) only [ui_eq, ui_k, ui_j, ui_b, ui_2, ul_1, ul_eq, ul_k, ul_j, ul_b, pH_g, pH_gr, pH_gw, pH_gt, pH_o, pH_r, pH_w, up_eq, up_ne, up_2, up_c, hL, hpc, nI_1, hs, hnle, if_false]
            refine a_aload_n dX11_go_273 rfl ?_
            refine a_getI (ci := 11) (j := 5) dX11_go_274 rfl rfl (by decide) rfl fl_11_24 ?_
            try simp (disch := first | decide | assumption | omega) only [ui_eq, ui_k, ui_j, ui_b, ui_2, ul_1, ul_eq, ul_k, ul_j, ul_b, pH_g, pH_gr, pH_gw, pH_gt, pH_o, pH_r, pH_w, up_eq, up_ne, up_2, up_c, hL, hpc, nI_1, hs, hnle, if_false]
            refine a_isub dX11_go_277 ?_
            refine a_iconst (v := 2) dX11_go_278 (by decide) ?_
            refine a_icmp_ge dX11_go_279 (tgt := 299) (by decide) (fun c279v10 => ?_) (fun c279v10 => ?_)
            · have h279 : ¬ s.2.2.2 - q < 2 := by
                rw [hs] at c279v10
                have z := le_of_le (b := 2) c279v10 (by omega) (by decide)
                omega
              refine a_aload_n dX11_go_299 rfl ?_
              refine a_dup dX11_go_300 rfl ?_
              refine a_getI (ci := 11) (j := 4) dX11_go_301 rfl rfl (by decide) rfl fl_11_21 ?_
              try simp (disch := first | decide | assumption | omega) only [ui_eq, ui_k, ui_j, ui_b, ui_2, ul_1, ul_eq, ul_k, ul_j, ul_b, pH_g, pH_gr, pH_gw, pH_gt, pH_o, pH_r, pH_w, up_eq, up_ne, up_2, up_c, hL, hpc, nI_1, hs, hnle, if_false]
              refine a_iconst (v := 1) dX11_go_304 (by decide) ?_
              refine a_iadd dX11_go_305 ?_
              refine a_putI (ci := 11) (j := 4) dX11_go_306 rfl rfl (by decide) (by decide) rfl fl_11_21 ?_
              refine a_goto dX11_go_309 (tgt := 177) (by decide) ?_
              rw [pH_o, nI_1]
              simp (disch := decide) only [up_2, up_c]
              refine a_take 4 ?_
              dsimp only [List.take]
              try rw [if_neg (show ¬ letF (h.1 3 1 s.2.2.2) = lt from by assumption)] at hE
              try rw [if_pos (show letF (h.1 3 1 s.2.2.2) = lt from by assumption)] at hE
              simp only [c188, c202, c217v2, c226v2, c246v5, c279v10, h246, h279, if_true, if_false] at hE
              refine l11_run hL h740 (_, _, _, s.2.2.2 + 1) (by show q ≤ s.2.2.2 + 1; omega) (by show s.2.2.2 + 1 ≤ 740; omega) ?_
              exact hE
            · have h279 : s.2.2.2 - q < 2 := by
                rw [hs] at c279v10
                have z := lt_of_nle (b := 2) c279v10 (by omega) (by decide)
                omega
              refine a_aload_n dX11_go_282 rfl ?_
              refine a_bipush (v := 10) dX11_go_283 (by decide) ?_
              refine a_aload_n dX11_go_285 rfl ?_
              refine a_getI (ci := 11) (j := 7) dX11_go_286 rfl rfl (by decide) rfl fl_11_41 ?_
              try simp (disch := first | decide | assumption | omega) only [ui_eq, ui_k, ui_j, ui_b, ui_2, ul_1, ul_eq, ul_k, ul_j, ul_b, pH_g, pH_gr, pH_gw, pH_gt, pH_o, pH_r, pH_w, up_eq, up_ne, up_2, up_c, hL, hpc, nI_1, hs, hnle, if_false]
              refine a_imul dX11_go_289 ?_
              refine a_iload dX11_go_290 rfl ?_
              refine a_iadd dX11_go_292 ?_
              refine a_bipush (v := 48) dX11_go_293 (by decide) ?_
              refine a_isub dX11_go_295 ?_
              refine a_putI (ci := 11) (j := 7) dX11_go_296 rfl rfl (by decide) (by decide) rfl fl_11_41 ?_
              refine a_aload_n dX11_go_299 rfl ?_
              refine a_dup dX11_go_300 rfl ?_
              refine a_getI (ci := 11) (j := 4) dX11_go_301 rfl rfl (by decide) rfl fl_11_21 ?_
              try simp (disch := first | decide | assumption | omega) only [ui_eq, ui_k, ui_j, ui_b, ui_2, ul_1, ul_eq, ul_k, ul_j, ul_b, pH_g, pH_gr, pH_gw, pH_gt, pH_o, pH_r, pH_w, up_eq, up_ne, up_2, up_c, hL, hpc, nI_1, hs, hnle, if_false]
              refine a_iconst (v := 1) dX11_go_304 (by decide) ?_
              refine a_iadd dX11_go_305 ?_
              refine a_putI (ci := 11) (j := 4) dX11_go_306 rfl rfl (by decide) (by decide) rfl fl_11_21 ?_
              refine a_goto dX11_go_309 (tgt := 177) (by decide) ?_
              rw [pH_o, nI_1]
              simp (disch := decide) only [up_2, up_c]
              refine a_take 4 ?_
              dsimp only [List.take]
              try rw [if_neg (show ¬ letF (h.1 3 1 s.2.2.2) = lt from by assumption)] at hE
              try rw [if_pos (show letF (h.1 3 1 s.2.2.2) = lt from by assumption)] at hE
              simp only [c188, c202, c217v2, c226v2, c246v5, c279v10, h246, h279, if_true, if_false] at hE
              refine l11_run hL h740 (_, _, _, s.2.2.2 + 1) (by show q ≤ s.2.2.2 + 1; omega) (by show s.2.2.2 + 1 ≤ 740; omega) ?_
              exact hE
        · refine a_iconst (v := 1) dX11_go_229 (by decide) ?_
          refine a_goto dX11_go_230 (tgt := 234) (by decide) ?_
          refine a_istore_n dX11_go_234 (by decide) rfl ?_
          dsimp only [lset]
          refine a_aload_n dX11_go_235 rfl ?_
          refine a_getI (ci := 11) (j := 4) dX11_go_236 rfl rfl (by decide) rfl fl_11_21 ?_
          try simp (disch := first | decide | assumption | omega) only [ui_eq, ui_k, ui_j, ui_b, ui_2, ul_1, ul_eq, ul_k, ul_j, ul_b, pH_g, pH_gr, pH_gw, pH_gt, pH_o, pH_r, pH_w, up_eq, up_ne, up_2, up_c, hL, hpc, nI_1, hs, hnle, if_false]
          refine a_aload_n dX11_go_239 rfl ?_
          refine a_getI (ci := 11) (j := 5) dX11_go_240 rfl rfl (by decide) rfl fl_11_24 ?_
          try simp (disch := first | decide | assumption | omega) only [ui_eq, ui_k, ui_j, ui_b, ui_2, ul_1, ul_eq, ul_k, ul_j, ul_b, pH_g, pH_gr, pH_gw, pH_gt, pH_o, pH_r, pH_w, up_eq, up_ne, up_2, up_c, hL, hpc, nI_1, hs, hnle, if_false]
          refine a_isub dX11_go_243 ?_
          refine a_bipush (v := 7) dX11_go_244 (by decide) ?_
          refine a_icmp_ge dX11_go_246 (tgt := 269) (by decide) (fun c246v6 => ?_) (fun c246v6 => ?_)
          · have h246 : ¬ s.2.2.2 - q < 7 := by
              rw [hs] at c246v6
              have z := le_of_le (b := 7) c246v6 (by omega) (by decide)
              omega
            refine a_aload_n dX11_go_269 rfl ?_
            refine a_getI (ci := 11) (j := 4) dX11_go_270 rfl rfl (by decide) rfl fl_11_21 ?_
            try simp (disch := first | decide | assumption | omega) only [ui_eq, ui_k, ui_j, ui_b, ui_2, ul_1, ul_eq, ul_k, ul_j, ul_b, pH_g, pH_gr, pH_gw, pH_gt, pH_o, pH_r, pH_w, up_eq, up_ne, up_2, up_c, hL, hpc, nI_1, hs, hnle, if_false]
            refine a_aload_n dX11_go_273 rfl ?_
            refine a_getI (ci := 11) (j := 5) dX11_go_274 rfl rfl (by decide) rfl fl_11_24 ?_
            try simp (disch := first | decide | assumption | omega) only [ui_eq, ui_k, ui_j, ui_b, ui_2, ul_1, ul_eq, ul_k, ul_j, ul_b, pH_g, pH_gr, pH_gw, pH_gt, pH_o, pH_r, pH_w, up_eq, up_ne, up_2, up_c, hL, hpc, nI_1, hs, hnle, if_false]
            refine a_isub dX11_go_277 ?_
            refine a_iconst (v := 2) dX11_go_278 (by decide) ?_
            refine a_icmp_ge dX11_go_279 (tgt := 299) (by decide) (fun c279v11 => ?_) (fun c279v11 => ?_)
            · have h279 : ¬ s.2.2.2 - q < 2 := by
                rw [hs] at c279v11
                have z := le_of_le (b := 2) c279v11 (by omega) (by decide)
                omega
              refine a_aload_n dX11_go_299 rfl ?_
              refine a_dup dX11_go_300 rfl ?_
              refine a_getI (ci := 11) (j := 4) dX11_go_301 rfl rfl (by decide) rfl fl_11_21 ?_
              try simp (disch := first | decide | assumption | omega) only [ui_eq, ui_k, ui_j, ui_b, ui_2, ul_1, ul_eq, ul_k, ul_j, ul_b, pH_g, pH_gr, pH_gw, pH_gt, pH_o, pH_r, pH_w, up_eq, up_ne, up_2, up_c, hL, hpc, nI_1, hs, hnle, if_false]
              refine a_iconst (v := 1) dX11_go_304 (by decide) ?_
              refine a_iadd dX11_go_305 ?_
              refine a_putI (ci := 11) (j := 4) dX11_go_306 rfl rfl (by decide) (by decide) rfl fl_11_21 ?_
              refine a_goto dX11_go_309 (tgt := 177) (by decide) ?_
              rw [pH_o, nI_1]
              simp (disch := decide) only [up_2, up_c]
              refine a_take 4 ?_
              dsimp only [List.take]
              try rw [if_neg (show ¬ letF (h.1 3 1 s.2.2.2) = lt from by assumption)] at hE
              try rw [if_pos (show letF (h.1 3 1 s.2.2.2) = lt from by assumption)] at hE
              simp only [c188, c202, c217v2, c226v2, c246v6, c279v11, h246, h279, if_true, if_false] at hE
              refine l11_run hL h740 (_, _, _, s.2.2.2 + 1) (by show q ≤ s.2.2.2 + 1; omega) (by show s.2.2.2 + 1 ≤ 740; omega) ?_
              exact hE
            · have h279 : s.2.2.2 - q < 2 := by
                rw [hs] at c279v11
                have z := lt_of_nle (b := 2) c279v11 (by omega) (by decide)
                omega
              refine a_aload_n dX11_go_282 rfl ?_
              refine a_bipush (v := 10) dX11_go_283 (by decide) ?_
              refine a_aload_n dX11_go_285 rfl ?_
              refine a_getI (ci := 11) (j := 7) dX11_go_286 rfl rfl (by decide) rfl fl_11_41 ?_
              try simp (disch := first | decide | assumption | omega) only [ui_eq, ui_k, ui_j, ui_b, ui_2, ul_1, ul_eq, ul_k, ul_j, ul_b, pH_g, pH_gr, pH_gw, pH_gt, pH_o, pH_r, pH_w, up_eq, up_ne, up_2, up_c, hL, hpc, nI_1, hs, hnle, if_false]
              refine a_imul dX11_go_289 ?_
              refine a_iload dX11_go_290 rfl ?_
              refine a_iadd dX11_go_292 ?_
              refine a_bipush (v := 48) dX11_go_293 (by decide) ?_
              refine a_isub dX11_go_295 ?_
              refine a_putI (ci := 11) (j := 7) dX11_go_296 rfl rfl (by decide) (by decide) rfl fl_11_41 ?_
              refine a_aload_n dX11_go_299 rfl ?_
              refine a_dup dX11_go_300 rfl ?_
              refine a_getI (ci := 11) (j := 4) dX11_go_301 rfl rfl (by decide) rfl fl_11_21 ?_
              try simp (disch := first | decide | assumption | omega) only [ui_eq, ui_k, ui_j, ui_b, ui_2, ul_1, ul_eq, ul_k, ul_j, ul_b, pH_g, pH_gr, pH_gw, pH_gt, pH_o, pH_r, pH_w, up_eq, up_ne, up_2, up_c, hL, hpc, nI_1, hs, hnle, if_false]
              refine a_iconst (v := 1) dX11_go_304 (by decide) ?_
              refine a_iadd dX11_go_305 ?_
              refine a_putI (ci := 11) (j := 4) dX11_go_306 rfl rfl (by decide) (by decide) rfl fl_11_21 ?_
              refine a_goto dX11_go_309 (tgt := 177) (by decide) ?_
              rw [pH_o, nI_1]
              simp (disch := decide) only [up_2, up_c]
              refine a_take 4 ?_
              dsimp only [List.take]
              try rw [if_neg (show ¬ letF (h.1 3 1 s.2.2.2) = lt from by assumption)] at hE
              try rw [if_pos (show letF (h.1 3 1 s.2.2.2) = lt from by assumption)] at hE
              simp only [c188, c202, c217v2, c226v2, c246v6, c279v11, h246, h279, if_true, if_false] at hE
              refine l11_run hL h740 (_, _, _, s.2.2.2 + 1) (by show q ≤ s.2.2.2 + 1; omega) (by show s.2.2.2 + 1 ≤ 740; omega) ?_
              exact hE
          · have h246 : s.2.2.2 - q < 7 := by
              rw [hs] at c246v6
              have z := lt_of_nle (b := 7) c246v6 (by omega) (by decide)
              omega
            refine a_aload_n dX11_go_249 rfl ?_
            refine a_ldc2 (v := 27) kl_11_48 dX11_go_250 ?_
            refine a_aload_n dX11_go_253 rfl ?_
            refine a_getL (ci := 11) (j := 10) dX11_go_254 rfl rfl (by decide) rfl fl_11_37 ?_
            try simp (disch := first | decide | assumption | omega) only [ui_eq, ui_k, ui_j, ui_b, ui_2, ul_1, ul_eq, ul_k, ul_j, ul_b, pH_g, pH_gr, pH_gw, pH_gt, pH_o, pH_r, pH_w, up_eq, up_ne, up_2, up_c, hL, hpc, nI_1, hs, hnle, if_false]
            refine a_lmul dX11_go_257 ?_
            refine a_iload dX11_go_258 rfl ?_
            refine a_i2l dX11_go_260 ?_
            refine a_ladd dX11_go_261 ?_
            refine a_ldc2 (v := 96) kl_11_50 dX11_go_262 ?_
            refine a_lsub dX11_go_265 ?_
            refine a_putL (ci := 11) (j := 10) dX11_go_266 rfl rfl (by decide) (by decide) rfl fl_11_37 ?_
            refine a_aload_n dX11_go_269 rfl ?_
            refine a_getI (ci := 11) (j := 4) dX11_go_270 rfl rfl (by decide) rfl fl_11_21 ?_
            try simp (disch := first | decide | assumption | omega) only [ui_eq, ui_k, ui_j, ui_b, ui_2, ul_1, ul_eq, ul_k, ul_j, ul_b, pH_g, pH_gr, pH_gw, pH_gt, pH_o, pH_r, pH_w, up_eq, up_ne, up_2, up_c, hL, hpc, nI_1, hs, hnle, if_false]
            refine a_aload_n dX11_go_273 rfl ?_
            refine a_getI (ci := 11) (j := 5) dX11_go_274 rfl rfl (by decide) rfl fl_11_24 ?_
            try simp (disch := first | decide | assumption | omega) only [ui_eq, ui_k, ui_j, ui_b, ui_2, ul_1, ul_eq, ul_k, ul_j, ul_b, pH_g, pH_gr, pH_gw, pH_gt, pH_o, pH_r, pH_w, up_eq, up_ne, up_2, up_c, hL, hpc, nI_1, hs, hnle, if_false]
            refine a_isub dX11_go_277 ?_
            refine a_iconst (v := 2) dX11_go_278 (by decide) ?_
            refine a_icmp_ge dX11_go_279 (tgt := 299) (by decide) (fun c279v12 => ?_) (fun c279v12 => ?_)
            · have h279 : ¬ s.2.2.2 - q < 2 := by
                rw [hs] at c279v12
                have z := le_of_le (b := 2) c279v12 (by omega) (by decide)
                omega
              refine a_aload_n dX11_go_299 rfl ?_
              refine a_dup dX11_go_300 rfl ?_
              refine a_getI (ci := 11) (j := 4) dX11_go_301 rfl rfl (by decide) rfl fl_11_21 ?_
              try simp (disch := first | decide | assumption | omega) only [ui_eq, ui_k, ui_j, ui_b, ui_2, ul_1, ul_eq, ul_k, ul_j, ul_b, pH_g, pH_gr, pH_gw, pH_gt, pH_o, pH_r, pH_w, up_eq, up_ne, up_2, up_c, hL, hpc, nI_1, hs, hnle, if_false]
              refine a_iconst (v := 1) dX11_go_304 (by decide) ?_
              refine a_iadd dX11_go_305 ?_
              refine a_putI (ci := 11) (j := 4) dX11_go_306 rfl rfl (by decide) (by decide) rfl fl_11_21 ?_
              refine a_goto dX11_go_309 (tgt := 177) (by decide) ?_
              rw [pH_o, nI_1]
              simp (disch := decide) only [up_2, up_c]
              refine a_take 4 ?_
              dsimp only [List.take]
              try rw [if_neg (show ¬ letF (h.1 3 1 s.2.2.2) = lt from by assumption)] at hE
              try rw [if_pos (show letF (h.1 3 1 s.2.2.2) = lt from by assumption)] at hE
              simp only [c188, c202, c217v2, c226v2, c246v6, c279v12, h246, h279, if_true, if_false] at hE
              refine l11_run hL h740 (_, _, _, s.2.2.2 + 1) (by show q ≤ s.2.2.2 + 1; omega) (by show s.2.2.2 + 1 ≤ 740; omega) ?_
              exact hE
            · have h279 : s.2.2.2 - q < 2 := by
                rw [hs] at c279v12
                have z := lt_of_nle (b := 2) c279v12 (by omega) (by decide)
                omega
              refine a_aload_n dX11_go_282 rfl ?_
              refine a_bipush (v := 10) dX11_go_283 (by decide) ?_
              refine a_aload_n dX11_go_285 rfl ?_
              refine a_getI (ci := 11) (j := 7) dX11_go_286 rfl rfl (by decide) rfl fl_11_41 ?_
              try simp (disch := first | decide | assumption | omega) only [ui_eq, ui_k, ui_j, ui_b, ui_2, ul_1, ul_eq, ul_k, ul_j, ul_b, pH_g, pH_gr, pH_gw, pH_gt, pH_o, pH_r, pH_w, up_eq, up_ne, up_2, up_c, hL, hpc, nI_1, hs, hnle, if_false]
              refine a_imul dX11_go_289 ?_
              refine a_iload dX11_go_290 rfl ?_
              refine a_iadd dX11_go_292 ?_
              refine a_bipush (v := 48) dX11_go_293 (by decide) ?_
              refine a_isub dX11_go_295 ?_
              refine a_putI (ci := 11) (j := 7) dX11_go_296 rfl rfl (by decide) (by decide) rfl fl_11_41 ?_
              refine a_aload_n dX11_go_299 rfl ?_
              refine a_dup dX11_go_300 rfl ?_
              refine a_getI (ci := 11) (j := 4) dX11_go_301 rfl rfl (by decide) rfl fl_11_21 ?_
              try simp (disch := first | decide | assumption | omega) only [ui_eq, ui_k, ui_j, ui_b, ui_2, ul_1, ul_eq, ul_k, ul_j, ul_b, pH_g, pH_gr, pH_gw, pH_gt, pH_o, pH_r, pH_w, up_eq, up_ne, up_2, up_c, hL, hpc, nI_1, hs, hnle, if_false]
              refine a_iconst (v := 1) dX11_go_304 (by decide) ?_
              refine a_iadd dX11_go_305 ?_
              refine a_putI (ci := 11) (j := 4) dX11_go_306 rfl rfl (by decide) (by decide) rfl fl_11_21 ?_
              refine a_goto dX11_go_309 (tgt := 177) (by decide) ?_
              rw [pH_o, nI_1]
              simp (disch := decide) only [up_2, up_c]
              refine a_take 4 ?_
              dsimp only [List.take]
              try rw [if_neg (show ¬ letF (h.1 3 1 s.2.2.2) = lt from by assumption)] at hE
              try rw [if_pos (show letF (h.1 3 1 s.2.2.2) = lt from by assumption)] at hE
              simp only [c188, c202, c217v2, c226v2, c246v6, c279v12, h246, h279, if_true, if_false] at hE
              refine l11_run hL h740 (_, _, _, s.2.2.2 + 1) (by show q ≤ s.2.2.2 + 1; omega) (by show s.2.2.2 + 1 ≤ 740; omega) ?_
              exact hE
termination_by L - s.2.2.2
decreasing_by all_goals omega
theorem l11_go93 {l : Launch} {G : GG} {h : AH} {Q : Option Value → AH → Prop} {o : Nat → Int32} {w : Int64} {r : Nat → Int32}{L : Nat} (hL : o 3 = nI L) (h740 : L ≤ 740) {q : Nat} (hqL : q ≤ L) (hQ : Q none (pH h (goT (h.1 3 1) L q o w).1 (goT (h.1 3 1) L q o w).2 r)) : AW l G 1 RX11 cX11_go 5 none 93 [some (.ref (G.1 3 0))] [] (pH h (upd (upd o 4 (nI q)) 5 (nI q)) w r) Q := by
  have hqc : (nI q).toNatClampNeg = q := nI_clamp (by omega)
  rw [goT] at hQ
  have hr := rnM_le (h.1 3 1) q (letF (h.1 3 1 q)) (L - q) (1, 0, 0, q)
  have hs : nI (rnR (h.1 3 1) L q).2.2.2 - nI q = nI ((rnR (h.1 3 1) L q).2.2.2 - q) := pk_sub hr.1
  have hru : (rnR (h.1 3 1) L q).2.2.2 ≤ 740 := Nat.le_trans hr.2 (by show q + (L - q) ≤ 740; omega)
  refine a_aload_n dX11_go_93 rfl ?_
  refine a_getI (ci := 11) (j := 4) dX11_go_94 rfl rfl (by decide) rfl fl_11_21 ?_
  try simp (disch := first | decide | assumption | omega) only [ui_eq, ui_k, ui_j, ui_b, ui_2, ul_1, ul_eq, ul_k, ul_j, ul_b, pH_g, pH_gr, pH_gw, pH_gt, pH_o, pH_r, pH_w, up_eq, up_ne, up_2, up_c, hL, hqc, nI_1]
  refine a_aload_n dX11_go_97 rfl ?_
  refine a_getI (ci := 11) (j := 3) dX11_go_98 rfl rfl (by decide) rfl fl_11_18 ?_
  try simp (disch := first | decide | assumption | omega) only [ui_eq, ui_k, ui_j, ui_b, ui_2, ul_1, ul_eq, ul_k, ul_j, ul_b, pH_g, pH_gr, pH_gw, pH_gt, pH_o, pH_r, pH_w, up_eq, up_ne, up_2, up_c, hL, hqc, nI_1]
  refine a_icmp_lt dX11_go_101 (tgt := 110) (by decide) (fun c101 => ?_) (fun c101 => ?_)
  · have hlt : q < L := nI_ltD c101 (by omega) (by omega)
    rw [if_neg (by omega)] at hQ
    refine a_aload_n dX11_go_110 rfl ?_
    refine a_getR (ci := 11) (j := 1) dX11_go_111 rfl rfl (by decide) rfl fl_11_7 ?_
    refine a_aload_n dX11_go_114 rfl ?_
    refine a_getI (ci := 11) (j := 4) dX11_go_115 rfl rfl (by decide) rfl fl_11_21 ?_
    try simp (disch := first | decide | assumption | omega) only [ui_eq, ui_k, ui_j, ui_b, ui_2, ul_1, ul_eq, ul_k, ul_j, ul_b, pH_g, pH_gr, pH_gw, pH_gt, pH_o, pH_r, pH_w, up_eq, up_ne, up_2, up_c, hL, hqc, nI_1]
    refine a_iaload dX11_go_118 rfl (vp_in_nI (by omega) (by decide)) ?_
    try simp (disch := first | decide | assumption | omega) only [ui_eq, ui_k, ui_j, ui_b, ui_2, ul_1, ul_eq, ul_k, ul_j, ul_b, pH_g, pH_gr, pH_gw, pH_gt, pH_o, pH_r, pH_w, up_eq, up_ne, up_2, up_c, hL, hqc, nI_1]
    refine a_istore_n dX11_go_119 (by decide) rfl ?_
    dsimp only [lset]
    refine a_iload_n dX11_go_120 rfl ?_
    refine a_cS1i dX11_go_121 ml_11_30 ws_11_isLetter (by decide) (Nat.le_of_ble_eq_true rfl) (c11_isLetter ⟨rfl, rfl⟩) ?_
    try simp (disch := first | decide | assumption | omega) only [ui_eq, ui_k, ui_j, ui_b, ui_2, ul_1, ul_eq, ul_k, ul_j, ul_b, pH_g, pH_gr, pH_gw, pH_gt, pH_o, pH_r, pH_w, up_eq, up_ne, up_2, up_c, hL, hqc, nI_1]
    refine a_if_ne dX11_go_124 (tgt := 160) (by decide) (fun c124 => ?_) (fun c124 => ?_)
    · rw [if_neg (fun z => c124 z.1)] at hQ
      refine a_iload_n dX11_go_160 rfl ?_
      refine a_cS1i dX11_go_161 ml_11_30 ws_11_isLetter (by decide) (Nat.le_of_ble_eq_true rfl) (c11_isLetter ⟨rfl, rfl⟩) ?_
      try simp (disch := first | decide | assumption | omega) only [ui_eq, ui_k, ui_j, ui_b, ui_2, ul_1, ul_eq, ul_k, ul_j, ul_b, pH_g, pH_gr, pH_gw, pH_gt, pH_o, pH_r, pH_w, up_eq, up_ne, up_2, up_c, hL, hqc, nI_1]
      refine a_istore_n dX11_go_164 (by decide) rfl ?_
      dsimp only [lset]
      refine a_iconst (v := 1) dX11_go_165 (by decide) ?_
      refine a_istore_n dX11_go_166 (by decide) rfl ?_
      dsimp only [lset]
      refine a_aload_n dX11_go_167 rfl ?_
      refine a_lconst (v := 0) dX11_go_168 (by decide) ?_
      refine a_putL (ci := 11) (j := 10) dX11_go_169 rfl rfl (by decide) (by decide) rfl fl_11_37 ?_
      refine a_aload_n dX11_go_172 rfl ?_
      refine a_iconst (v := 0) dX11_go_173 (by decide) ?_
      refine a_putI (ci := 11) (j := 7) dX11_go_174 rfl rfl (by decide) (by decide) rfl fl_11_41 ?_
      rw [pH_w, pH_o]
      refine l11_run hL h740 (1, 0, 0, q) (Nat.le_refl q) (by show q ≤ 740; omega) ?_
      refine a_aload_n dX11_go_312 rfl ?_
      refine a_iload_n dX11_go_313 rfl ?_
      refine a_if_eq dX11_go_314 (tgt := 334) (by decide) (fun c314 => ?_) (fun c314 => ?_)
      · refine a_iconst (v := 1) dX11_go_334 (by decide) ?_
        refine a_goto dX11_go_335 (tgt := 347) (by decide) ?_
        refine a_putI (ci := 11) (j := 6) dX11_go_347 rfl rfl (by decide) (by decide) rfl fl_11_27 ?_
        exact a_vret dX11_go_350 rfl (by
  simp (disch := decide) only [pH_o, up_2, up_c]
  simp only [rnS] at hQ
  first
    | contradiction
    | (rw [if_pos (show (rnR (h.1 3 1) L q).1 = 0 from by assumption)] at hQ; exact hQ)
    | (rw [if_neg (show ¬ (rnR (h.1 3 1) L q).1 = 0 from by assumption)] at hQ; simp only [g331, c101, c124, c314, if_true, if_false] at hQ; exact hQ)
    | (rw [if_neg (show ¬ (rnR (h.1 3 1) L q).1 = 0 from by assumption)] at hQ; simp only [c101, c124, c314, if_true, if_false] at hQ; exact hQ))
      · refine a_iload_n dX11_go_317 rfl ?_
        refine a_if_ne dX11_go_318 (tgt := 338) (by decide) (fun c318 => ?_) (fun c318 => ?_)
        · refine a_iload_n dX11_go_338 rfl ?_
          refine a_if_eq dX11_go_339 (tgt := 346) (by decide) (fun c339 => ?_) (fun c339 => ?_)
          · refine a_iconst (v := 3) dX11_go_346 (by decide) ?_
            refine a_putI (ci := 11) (j := 6) dX11_go_347 rfl rfl (by decide) (by decide) rfl fl_11_27 ?_
            exact a_vret dX11_go_350 rfl (by
  simp (disch := decide) only [pH_o, up_2, up_c]
  simp only [rnS] at hQ
  first
    | contradiction
    | (rw [if_pos (show (rnR (h.1 3 1) L q).1 = 0 from by assumption)] at hQ; exact hQ)
    | (rw [if_neg (show ¬ (rnR (h.1 3 1) L q).1 = 0 from by assumption)] at hQ; simp only [g331, c101, c124, c314, c318, c339, if_true, if_false] at hQ; exact hQ)
    | (rw [if_neg (show ¬ (rnR (h.1 3 1) L q).1 = 0 from by assumption)] at hQ; simp only [c101, c124, c314, c318, c339, if_true, if_false] at hQ; exact hQ))
          · refine a_iconst (v := 2) dX11_go_342 (by decide) ?_
            refine a_goto dX11_go_343 (tgt := 347) (by decide) ?_
            refine a_putI (ci := 11) (j := 6) dX11_go_347 rfl rfl (by decide) (by decide) rfl fl_11_27 ?_
            exact a_vret dX11_go_350 rfl (by
  simp (disch := decide) only [pH_o, up_2, up_c]
  simp only [rnS] at hQ
  first
    | contradiction
    | (rw [if_pos (show (rnR (h.1 3 1) L q).1 = 0 from by assumption)] at hQ; exact hQ)
    | (rw [if_neg (show ¬ (rnR (h.1 3 1) L q).1 = 0 from by assumption)] at hQ; simp only [g331, c101, c124, c314, c318, c339, if_true, if_false] at hQ; exact hQ)
    | (rw [if_neg (show ¬ (rnR (h.1 3 1) L q).1 = 0 from by assumption)] at hQ; simp only [c101, c124, c314, c318, c339, if_true, if_false] at hQ; exact hQ))
        · refine a_aload_n dX11_go_321 rfl ?_
          refine a_getI (ci := 11) (j := 4) dX11_go_322 rfl rfl (by decide) rfl fl_11_21 ?_
          try simp (disch := first | decide | assumption | omega) only [ui_eq, ui_k, ui_j, ui_b, ui_2, ul_1, ul_eq, ul_k, ul_j, ul_b, pH_g, pH_gr, pH_gw, pH_gt, pH_o, pH_r, pH_w, up_eq, up_ne, up_2, up_c, hL, hqc, nI_1]
          refine a_aload_n dX11_go_325 rfl ?_
          refine a_getI (ci := 11) (j := 5) dX11_go_326 rfl rfl (by decide) rfl fl_11_24 ?_
          try simp (disch := first | decide | assumption | omega) only [ui_eq, ui_k, ui_j, ui_b, ui_2, ul_1, ul_eq, ul_k, ul_j, ul_b, pH_g, pH_gr, pH_gw, pH_gt, pH_o, pH_r, pH_w, up_eq, up_ne, up_2, up_c, hL, hqc, nI_1]
          refine a_isub dX11_go_329 ?_
          refine a_iconst (v := 2) dX11_go_330 (by decide) ?_
          refine a_icmp_le dX11_go_331 (tgt := 338) (by decide) (fun c331 => ?_) (fun c331 => ?_)
          · have g331 : (rnR (h.1 3 1) L q).2.2.2 - q ≤ 2 := by
              have z := c331
              rw [show nI (rnM (h.1 3 1) q (letF (h.1 3 1 q)) (L - (1, 0, 0, q).2.2.2) (1, 0, 0, q)).2.2.2 - nI q = nI ((rnR (h.1 3 1) L q).2.2.2 - q) from hs] at z
              exact le_of_le (a := 2) z (by decide) (by omega)
            refine a_iload_n dX11_go_338 rfl ?_
            refine a_if_eq dX11_go_339 (tgt := 346) (by decide) (fun c339v2 => ?_) (fun c339v2 => ?_)
            · refine a_iconst (v := 3) dX11_go_346 (by decide) ?_
              refine a_putI (ci := 11) (j := 6) dX11_go_347 rfl rfl (by decide) (by decide) rfl fl_11_27 ?_
              exact a_vret dX11_go_350 rfl (by
  simp (disch := decide) only [pH_o, up_2, up_c]
  simp only [rnS] at hQ
  first
    | contradiction
    | (rw [if_pos (show (rnR (h.1 3 1) L q).1 = 0 from by assumption)] at hQ; exact hQ)
    | (rw [if_neg (show ¬ (rnR (h.1 3 1) L q).1 = 0 from by assumption)] at hQ; simp only [g331, c101, c124, c314, c318, c331, c339v2, if_true, if_false] at hQ; exact hQ)
    | (rw [if_neg (show ¬ (rnR (h.1 3 1) L q).1 = 0 from by assumption)] at hQ; simp only [c101, c124, c314, c318, c331, c339v2, if_true, if_false] at hQ; exact hQ))
            · refine a_iconst (v := 2) dX11_go_342 (by decide) ?_
              refine a_goto dX11_go_343 (tgt := 347) (by decide) ?_
              refine a_putI (ci := 11) (j := 6) dX11_go_347 rfl rfl (by decide) (by decide) rfl fl_11_27 ?_
              exact a_vret dX11_go_350 rfl (by
  simp (disch := decide) only [pH_o, up_2, up_c]
  simp only [rnS] at hQ
  first
    | contradiction
    | (rw [if_pos (show (rnR (h.1 3 1) L q).1 = 0 from by assumption)] at hQ; exact hQ)
    | (rw [if_neg (show ¬ (rnR (h.1 3 1) L q).1 = 0 from by assumption)] at hQ; simp only [g331, c101, c124, c314, c318, c331, c339v2, if_true, if_false] at hQ; exact hQ)
    | (rw [if_neg (show ¬ (rnR (h.1 3 1) L q).1 = 0 from by assumption)] at hQ; simp only [c101, c124, c314, c318, c331, c339v2, if_true, if_false] at hQ; exact hQ))
          · have g331 : ¬ (rnR (h.1 3 1) L q).2.2.2 - q ≤ 2 := by
              intro g
              have z := c331
              rw [show nI (rnM (h.1 3 1) q (letF (h.1 3 1 q)) (L - (1, 0, 0, q).2.2.2) (1, 0, 0, q)).2.2.2 - nI q = nI ((rnR (h.1 3 1) L q).2.2.2 - q) from hs] at z
              exact z (nI_le (b := 2) g (by decide))
            refine a_iconst (v := 1) dX11_go_334 (by decide) ?_
            refine a_goto dX11_go_335 (tgt := 347) (by decide) ?_
            refine a_putI (ci := 11) (j := 6) dX11_go_347 rfl rfl (by decide) (by decide) rfl fl_11_27 ?_
            exact a_vret dX11_go_350 rfl (by
  simp (disch := decide) only [pH_o, up_2, up_c]
  simp only [rnS] at hQ
  first
    | contradiction
    | (rw [if_pos (show (rnR (h.1 3 1) L q).1 = 0 from by assumption)] at hQ; exact hQ)
    | (rw [if_neg (show ¬ (rnR (h.1 3 1) L q).1 = 0 from by assumption)] at hQ; simp only [g331, c101, c124, c314, c318, c331, if_true, if_false] at hQ; exact hQ)
    | (rw [if_neg (show ¬ (rnR (h.1 3 1) L q).1 = 0 from by assumption)] at hQ; simp only [c101, c124, c314, c318, c331, if_true, if_false] at hQ; exact hQ))
    · refine a_iload_n dX11_go_127 rfl ?_
      refine a_cS1i dX11_go_128 ml_11_34 ws_11_isDigit (by decide) (Nat.le_of_ble_eq_true rfl) (c11_isDigit ⟨rfl, rfl⟩) ?_
      try simp (disch := first | decide | assumption | omega) only [ui_eq, ui_k, ui_j, ui_b, ui_2, ul_1, ul_eq, ul_k, ul_j, ul_b, pH_g, pH_gr, pH_gw, pH_gt, pH_o, pH_r, pH_w, up_eq, up_ne, up_2, up_c, hL, hqc, nI_1]
      refine a_if_ne dX11_go_131 (tgt := 160) (by decide) (fun c131 => ?_) (fun c131 => ?_)
      · rw [if_neg (fun z => c131 z.2)] at hQ
        refine a_iload_n dX11_go_160 rfl ?_
        refine a_cS1i dX11_go_161 ml_11_30 ws_11_isLetter (by decide) (Nat.le_of_ble_eq_true rfl) (c11_isLetter ⟨rfl, rfl⟩) ?_
        try simp (disch := first | decide | assumption | omega) only [ui_eq, ui_k, ui_j, ui_b, ui_2, ul_1, ul_eq, ul_k, ul_j, ul_b, pH_g, pH_gr, pH_gw, pH_gt, pH_o, pH_r, pH_w, up_eq, up_ne, up_2, up_c, hL, hqc, nI_1]
        refine a_istore_n dX11_go_164 (by decide) rfl ?_
        dsimp only [lset]
        refine a_iconst (v := 1) dX11_go_165 (by decide) ?_
        refine a_istore_n dX11_go_166 (by decide) rfl ?_
        dsimp only [lset]
        refine a_aload_n dX11_go_167 rfl ?_
        refine a_lconst (v := 0) dX11_go_168 (by decide) ?_
        refine a_putL (ci := 11) (j := 10) dX11_go_169 rfl rfl (by decide) (by decide) rfl fl_11_37 ?_
        refine a_aload_n dX11_go_172 rfl ?_
        refine a_iconst (v := 0) dX11_go_173 (by decide) ?_
        refine a_putI (ci := 11) (j := 7) dX11_go_174 rfl rfl (by decide) (by decide) rfl fl_11_41 ?_
        rw [pH_w, pH_o]
        refine l11_run hL h740 (1, 0, 0, q) (Nat.le_refl q) (by show q ≤ 740; omega) ?_
        refine a_aload_n dX11_go_312 rfl ?_
        refine a_iload_n dX11_go_313 rfl ?_
        refine a_if_eq dX11_go_314 (tgt := 334) (by decide) (fun c314v2 => ?_) (fun c314v2 => ?_)
        · refine a_iconst (v := 1) dX11_go_334 (by decide) ?_
          refine a_goto dX11_go_335 (tgt := 347) (by decide) ?_
          refine a_putI (ci := 11) (j := 6) dX11_go_347 rfl rfl (by decide) (by decide) rfl fl_11_27 ?_
          exact a_vret dX11_go_350 rfl (by
  simp (disch := decide) only [pH_o, up_2, up_c]
  simp only [rnS] at hQ
  first
    | contradiction
    | (rw [if_pos (show (rnR (h.1 3 1) L q).1 = 0 from by assumption)] at hQ; exact hQ)
    | (rw [if_neg (show ¬ (rnR (h.1 3 1) L q).1 = 0 from by assumption)] at hQ; simp only [g331, c101, c124, c131, c314v2, if_true, if_false] at hQ; exact hQ)
    | (rw [if_neg (show ¬ (rnR (h.1 3 1) L q).1 = 0 from by assumption)] at hQ; simp only [c101, c124, c131, c314v2, if_true, if_false] at hQ; exact hQ))
        · refine a_iload_n dX11_go_317 rfl ?_
          refine a_if_ne dX11_go_318 (tgt := 338) (by decide) (fun c318v2 => ?_) (fun c318v2 => ?_)
          · refine a_iload_n dX11_go_338 rfl ?_
            refine a_if_eq dX11_go_339 (tgt := 346) (by decide) (fun c339v3 => ?_) (fun c339v3 => ?_)
            · refine a_iconst (v := 3) dX11_go_346 (by decide) ?_
              refine a_putI (ci := 11) (j := 6) dX11_go_347 rfl rfl (by decide) (by decide) rfl fl_11_27 ?_
              exact a_vret dX11_go_350 rfl (by
  simp (disch := decide) only [pH_o, up_2, up_c]
  simp only [rnS] at hQ
  first
    | contradiction
    | (rw [if_pos (show (rnR (h.1 3 1) L q).1 = 0 from by assumption)] at hQ; exact hQ)
    | (rw [if_neg (show ¬ (rnR (h.1 3 1) L q).1 = 0 from by assumption)] at hQ; simp only [g331, c101, c124, c131, c314v2, c318v2, c339v3, if_true, if_false] at hQ; exact hQ)
    | (rw [if_neg (show ¬ (rnR (h.1 3 1) L q).1 = 0 from by assumption)] at hQ; simp only [c101, c124, c131, c314v2, c318v2, c339v3, if_true, if_false] at hQ; exact hQ))
            · refine a_iconst (v := 2) dX11_go_342 (by decide) ?_
              refine a_goto dX11_go_343 (tgt := 347) (by decide) ?_
              refine a_putI (ci := 11) (j := 6) dX11_go_347 rfl rfl (by decide) (by decide) rfl fl_11_27 ?_
              exact a_vret dX11_go_350 rfl (by
  simp (disch := decide) only [pH_o, up_2, up_c]
  simp only [rnS] at hQ
  first
    | contradiction
    | (rw [if_pos (show (rnR (h.1 3 1) L q).1 = 0 from by assumption)] at hQ; exact hQ)
    | (rw [if_neg (show ¬ (rnR (h.1 3 1) L q).1 = 0 from by assumption)] at hQ; simp only [g331, c101, c124, c131, c314v2, c318v2, c339v3, if_true, if_false] at hQ; exact hQ)
    | (rw [if_neg (show ¬ (rnR (h.1 3 1) L q).1 = 0 from by assumption)] at hQ; simp only [c101, c124, c131, c314v2, c318v2, c339v3, if_true, if_false] at hQ; exact hQ))
          · refine a_aload_n dX11_go_321 rfl ?_
            refine a_getI (ci := 11) (j := 4) dX11_go_322 rfl rfl (by decide) rfl fl_11_21 ?_
            try simp (disch := first | decide | assumption | omega) only [ui_eq, ui_k, ui_j, ui_b, ui_2, ul_1, ul_eq, ul_k, ul_j, ul_b, pH_g, pH_gr, pH_gw, pH_gt, pH_o, pH_r, pH_w, up_eq, up_ne, up_2, up_c, hL, hqc, nI_1]
            refine a_aload_n dX11_go_325 rfl ?_
            refine a_getI (ci := 11) (j := 5) dX11_go_326 rfl rfl (by decide) rfl fl_11_24 ?_
            try simp (disch := first | decide | assumption | omega) only [ui_eq, ui_k, ui_j, ui_b, ui_2, ul_1, ul_eq, ul_k, ul_j, ul_b, pH_g, pH_gr, pH_gw, pH_gt, pH_o, pH_r, pH_w, up_eq, up_ne, up_2, up_c, hL, hqc, nI_1]
            refine a_isub dX11_go_329 ?_
            refine a_iconst (v := 2) dX11_go_330 (by decide) ?_
            refine a_icmp_le dX11_go_331 (tgt := 338) (by decide) (fun c331v2 => ?_) (fun c331v2 => ?_)
            · have g331 : (rnR (h.1 3 1) L q).2.2.2 - q ≤ 2 := by
                have z := c331v2
                rw [show nI (rnM (h.1 3 1) q (letF (h.1 3 1 q)) (L - (1, 0, 0, q).2.2.2) (1, 0, 0, q)).2.2.2 - nI q = nI ((rnR (h.1 3 1) L q).2.2.2 - q) from hs] at z
                exact le_of_le (a := 2) z (by decide) (by omega)
              refine a_iload_n dX11_go_338 rfl ?_
              refine a_if_eq dX11_go_339 (tgt := 346) (by decide) (fun c339v4 => ?_) (fun c339v4 => ?_)
              · refine a_iconst (v := 3) dX11_go_346 (by decide) ?_
                refine a_putI (ci := 11) (j := 6) dX11_go_347 rfl rfl (by decide) (by decide) rfl fl_11_27 ?_
                exact a_vret dX11_go_350 rfl (by
  simp (disch := decide) only [pH_o, up_2, up_c]
  simp only [rnS] at hQ
  first
    | contradiction
    | (rw [if_pos (show (rnR (h.1 3 1) L q).1 = 0 from by assumption)] at hQ; exact hQ)
    | (rw [if_neg (show ¬ (rnR (h.1 3 1) L q).1 = 0 from by assumption)] at hQ; simp only [g331, c101, c124, c131, c314v2, c318v2, c331v2, c339v4, if_true, if_false] at hQ; exact hQ)
    | (rw [if_neg (show ¬ (rnR (h.1 3 1) L q).1 = 0 from by assumption)] at hQ; simp only [c101, c124, c131, c314v2, c318v2, c331v2, c339v4, if_true, if_false] at hQ; exact hQ))
              · refine a_iconst (v := 2) dX11_go_342 (by decide) ?_
                refine a_goto dX11_go_343 (tgt := 347) (by decide) ?_
                refine a_putI (ci := 11) (j := 6) dX11_go_347 rfl rfl (by decide) (by decide) rfl fl_11_27 ?_
                exact a_vret dX11_go_350 rfl (by
  simp (disch := decide) only [pH_o, up_2, up_c]
  simp only [rnS] at hQ
  first
    | contradiction
    | (rw [if_pos (show (rnR (h.1 3 1) L q).1 = 0 from by assumption)] at hQ; exact hQ)
    | (rw [if_neg (show ¬ (rnR (h.1 3 1) L q).1 = 0 from by assumption)] at hQ; simp only [g331, c101, c124, c131, c314v2, c318v2, c331v2, c339v4, if_true, if_false] at hQ; exact hQ)
    | (rw [if_neg (show ¬ (rnR (h.1 3 1) L q).1 = 0 from by assumption)] at hQ; simp only [c101, c124, c131, c314v2, c318v2, c331v2, c339v4, if_true, if_false] at hQ; exact hQ))
            · have g331 : ¬ (rnR (h.1 3 1) L q).2.2.2 - q ≤ 2 := by
                intro g
                have z := c331v2
                rw [show nI (rnM (h.1 3 1) q (letF (h.1 3 1 q)) (L - (1, 0, 0, q).2.2.2) (1, 0, 0, q)).2.2.2 - nI q = nI ((rnR (h.1 3 1) L q).2.2.2 - q) from hs] at z
                exact z (nI_le (b := 2) g (by decide))
              refine a_iconst (v := 1) dX11_go_334 (by decide) ?_
              refine a_goto dX11_go_335 (tgt := 347) (by decide) ?_
              refine a_putI (ci := 11) (j := 6) dX11_go_347 rfl rfl (by decide) (by decide) rfl fl_11_27 ?_
              exact a_vret dX11_go_350 rfl (by
  simp (disch := decide) only [pH_o, up_2, up_c]
  simp only [rnS] at hQ
  first
    | contradiction
    | (rw [if_pos (show (rnR (h.1 3 1) L q).1 = 0 from by assumption)] at hQ; exact hQ)
    | (rw [if_neg (show ¬ (rnR (h.1 3 1) L q).1 = 0 from by assumption)] at hQ; simp only [g331, c101, c124, c131, c314v2, c318v2, c331v2, if_true, if_false] at hQ; exact hQ)
    | (rw [if_neg (show ¬ (rnR (h.1 3 1) L q).1 = 0 from by assumption)] at hQ; simp only [c101, c124, c131, c314v2, c318v2, c331v2, if_true, if_false] at hQ; exact hQ))
      · rw [if_pos ⟨c124, c131⟩] at hQ
        refine a_aload_n dX11_go_134 rfl ?_
        refine a_iload_n dX11_go_135 rfl ?_
        refine a_bipush (v := 59) dX11_go_136 (by decide) ?_
        refine a_icmp_ne dX11_go_138 (tgt := 145) (by decide) (fun c138 => ?_) (fun c138 => ?_)
        · refine a_iconst (v := 1) dX11_go_145 (by decide) ?_
          refine a_putI (ci := 11) (j := 6) dX11_go_146 rfl rfl (by decide) (by decide) rfl fl_11_27 ?_
          refine a_aload_n dX11_go_149 rfl ?_
          refine a_dup dX11_go_150 rfl ?_
          refine a_getI (ci := 11) (j := 4) dX11_go_151 rfl rfl (by decide) rfl fl_11_21 ?_
          try simp (disch := first | decide | assumption | omega) only [ui_eq, ui_k, ui_j, ui_b, ui_2, ul_1, ul_eq, ul_k, ul_j, ul_b, pH_g, pH_gr, pH_gw, pH_gt, pH_o, pH_r, pH_w, up_eq, up_ne, up_2, up_c, hL, hqc, nI_1]
          refine a_iconst (v := 1) dX11_go_154 (by decide) ?_
          refine a_iadd dX11_go_155 ?_
          refine a_putI (ci := 11) (j := 4) dX11_go_156 rfl rfl (by decide) (by decide) rfl fl_11_21 ?_
          exact a_vret dX11_go_159 rfl (by
  simp (disch := decide) only [pH_o, up_2, up_c, nI_1]
  first
    | exact hQ
    | (simp only [c101, c124, c131, c138, if_true, if_false] at hQ; exact hQ))
        · refine a_iconst (v := 4) dX11_go_141 (by decide) ?_
          refine a_goto dX11_go_142 (tgt := 146) (by decide) ?_
          refine a_putI (ci := 11) (j := 6) dX11_go_146 rfl rfl (by decide) (by decide) rfl fl_11_27 ?_
          refine a_aload_n dX11_go_149 rfl ?_
          refine a_dup dX11_go_150 rfl ?_
          refine a_getI (ci := 11) (j := 4) dX11_go_151 rfl rfl (by decide) rfl fl_11_21 ?_
          try simp (disch := first | decide | assumption | omega) only [ui_eq, ui_k, ui_j, ui_b, ui_2, ul_1, ul_eq, ul_k, ul_j, ul_b, pH_g, pH_gr, pH_gw, pH_gt, pH_o, pH_r, pH_w, up_eq, up_ne, up_2, up_c, hL, hqc, nI_1]
          refine a_iconst (v := 1) dX11_go_154 (by decide) ?_
          refine a_iadd dX11_go_155 ?_
          refine a_putI (ci := 11) (j := 4) dX11_go_156 rfl rfl (by decide) (by decide) rfl fl_11_21 ?_
          exact a_vret dX11_go_159 rfl (by
  simp (disch := decide) only [pH_o, up_2, up_c, nI_1]
  first
    | exact hQ
    | (simp only [c101, c124, c131, c138, if_true, if_false] at hQ; exact hQ))
  · have hge : L ≤ q := Nat.le_of_not_lt (fun z => c101 (nI_lt z (by omega)))
    rw [if_pos hge] at hQ
    refine a_aload_n dX11_go_104 rfl ?_
    refine a_iconst (v := 0) dX11_go_105 (by decide) ?_
    refine a_putI (ci := 11) (j := 6) dX11_go_106 rfl rfl (by decide) (by decide) rfl fl_11_27 ?_
    exact a_vret dX11_go_109 rfl (by
  simp (disch := decide) only [pH_o, up_2, up_c, nI_1]
  first
    | exact hQ
    | (simp only [c101, if_true, if_false] at hQ; exact hQ))
theorem c11_go {l : Launch} {G : GG} {h : AH} {Q : Option Value → AH → Prop} {o : Nat → Int32} {w : Int64} {r : Nat → Int32}{L : Nat} (hL : o 3 = nI L) (h740 : L ≤ 740) {p : Nat} (hp : p ≤ L) (ho4 : o 4 = nI p) (hQ : Q none (pH h (goS (h.1 3 1) L p o w).1 (goS (h.1 3 1) L p o w).2 r)) : Ct l G 1 yX11_go cX11_go 5 none [.ref (G.1 3 0)] (pH h o w r) Q := by
  refine Ct.of (by decide) (Nat.le_of_ble_eq_true rfl) ?_
  show AW l G 1 RX11 cX11_go 5 none 0 [some (.ref (G.1 3 0))] [] (pH h o w r) Q
  rw [show pH h o w r = pH h (upd o 4 (nI p)) w r by rw [up_s ho4]]
  refine l11_sk hL h740 p (by omega) ?_
  rw [goS] at hQ
  have hq1 := skG_le (h.1 3 1) (L - p) p
  revert hQ hq1
  generalize skG (h.1 3 1) (L - p) p = q
  intro hQ hq1
  have hqL : q ≤ L := by omega
  refine a_aload_n dX11_go_52 rfl ?_
  refine a_aload_n dX11_go_53 rfl ?_
  refine a_getI (ci := 11) (j := 4) dX11_go_54 rfl rfl (by decide) rfl fl_11_21 ?_
  try simp (disch := first | decide | assumption | omega) only [ui_eq, ui_k, ui_j, ui_b, ui_2, ul_1, ul_eq, ul_k, ul_j, ul_b, pH_g, pH_gr, pH_gw, pH_gt, pH_o, pH_r, pH_w, up_eq, up_ne, up_2, up_c, hL]
  refine a_putI (ci := 11) (j := 5) dX11_go_57 rfl rfl (by decide) (by decide) rfl fl_11_24 ?_
  refine a_aload_n dX11_go_60 rfl ?_
  refine a_getI (ci := 11) (j := 3) dX11_go_61 rfl rfl (by decide) rfl fl_11_18 ?_
  try simp (disch := first | decide | assumption | omega) only [ui_eq, ui_k, ui_j, ui_b, ui_2, ul_1, ul_eq, ul_k, ul_j, ul_b, pH_g, pH_gr, pH_gw, pH_gt, pH_o, pH_r, pH_w, up_eq, up_ne, up_2, up_c, hL]
  refine a_sipush (v := 700) dX11_go_64 (by decide) ?_
  refine a_icmp_le dX11_go_67 (tgt := 93) (by decide) (fun c67 => ?_) (fun c67 => ?_)
  · have g67 : ¬ (700 < L ∧ 700 ≤ q) := fun z => absurd (le_of_le (a := 700) c67 (by decide) (by omega)) (by omega)
    rw [if_neg g67] at hQ
    exact l11_go93 hL h740 hqL hQ
  · refine a_aload_n dX11_go_70 rfl ?_
    refine a_getI (ci := 11) (j := 5) dX11_go_71 rfl rfl (by decide) rfl fl_11_24 ?_
    try simp (disch := first | decide | assumption | omega) only [ui_eq, ui_k, ui_j, ui_b, ui_2, ul_1, ul_eq, ul_k, ul_j, ul_b, pH_g, pH_gr, pH_gw, pH_gt, pH_o, pH_r, pH_w, up_eq, up_ne, up_2, up_c, hL]
    refine a_sipush (v := 700) dX11_go_74 (by decide) ?_
    refine a_icmp_lt dX11_go_77 (tgt := 93) (by decide) (fun c77 => ?_) (fun c77 => ?_)
    · have g77 : q < 700 := nI_ltD (b := 700) c77 (by omega) (by decide)
      rw [if_neg (by omega)] at hQ
      exact l11_go93 hL h740 hqL hQ
    · have g67 : 700 < L := Nat.lt_of_not_le (fun z => c67 (nI_le (b := 700) z (by decide)))
      have g77 : 700 ≤ q := Nat.le_of_not_lt (fun z => c77 (nI_lt (b := 700) z (by decide)))
      rw [if_pos ⟨g67, g77⟩] at hQ
      refine a_aload_n dX11_go_80 rfl ?_
      refine a_sipush (v := 700) dX11_go_81 (by decide) ?_
      refine a_putI (ci := 11) (j := 5) dX11_go_84 rfl rfl (by decide) (by decide) rfl fl_11_24 ?_
      refine a_aload_n dX11_go_87 rfl ?_
      refine a_iconst (v := 1) dX11_go_88 (by decide) ?_
      refine a_putI (ci := 11) (j := 6) dX11_go_89 rfl rfl (by decide) (by decide) rfl fl_11_27 ?_
      exact a_vret dX11_go_92 rfl (by
  simp (disch := decide) only [pH_o, up_2, up_c]
  exact hQ)
