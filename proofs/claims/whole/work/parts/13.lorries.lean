def clrQ (h : AH) (b i : Nat) : AH := (fun b' k' j' => if b' = b ∧ j' < i ∧ (k' = 18 ∨ k' = 19 ∨ k' = 20) then (if k' = 18 then -1 else 0) else h.1 b' k' j', h.2)
theorem clrQ_0 (h : AH) (b : Nat) : clrQ h b 0 = h := by simp [clrQ]
theorem clrQ_s (h : AH) (b i : Nat) : ui (ui (ui (clrQ h b i) b 18 i (-1)) b 19 i 0) b 20 i 0 = clrQ h b (i + 1) := by
  refine ah_ext (fun b' k' j' => ?_) rfl
  simp only [ui, clrQ]
  by_cases hb : b' = b
  · by_cases h1 : k' = 18
    · by_cases h2 : j' = i
      · simp [hb, h1, h2]
      · simp [hb, h1, h2, show j' < i + 1 ↔ j' < i by omega]
    · by_cases h3 : k' = 19
      · by_cases h2 : j' = i
        · simp [hb, h3, h2]
        · simp [hb, h3, h2, show j' < i + 1 ↔ j' < i by omega]
      · by_cases h4 : k' = 20
        · by_cases h2 : j' = i
          · simp [hb, h4, h2]
          · simp [hb, h4, h2, show j' < i + 1 ↔ j' < i by omega]
        · simp [h1, h3, h4]
  · simp [hb]
def clearQ (h : AH) (b : Nat) : AH := clrQ (ui h b 15 5 0) b 8
def addQ (h : AH) (b : Nat) (x y : Int32) : AH := ui (ui (ui h b 16 (h.1 b 15 5).toNatClampNeg x) b 17 (h.1 b 15 5).toNatClampNeg y) b 15 5 (h.1 b 15 5 + 1)
theorem l3_clear {l : Launch} {G : GG} {h : AH} {Q : Option Value → AH → Prop} {b : Nat} (hb : isB b) (i : Nat) (hi : i ≤ 8) (hQ : Q none (clrQ h b 8)) : AW l G 0 RX3 cX3_clear 2 none 7 [some (.ref (G.1 b 15)), some (.int (nI i))] [] (clrQ h b i) Q := by
  have hci : (nI i).toNatClampNeg = i := nI_clamp (by omega)
  refine a_iload_n dX3_clear_7 rfl ?_
  refine a_bipush (v := 8) dX3_clear_8 (by decide) ?_
  refine a_icmp_ge dX3_clear_10 (tgt := 40) (by decide) (fun c10 => ?_) (fun c10 => ?_)
  · have hlt : 8 ≤ i := le_of_le (b := 8) c10 (by omega) (by decide)
    have hie : i = 8 := by omega
    subst hie
    exact a_vret dX3_clear_40 rfl hQ
  · have hlt : i < 8 := lt_of_nle (b := 8) c10 (by omega) (by decide)
    refine a_aload_n dX3_clear_13 rfl ?_
    refine a_getR (ci := 3) (j := 2) dX3_clear_14 (kdB hb rfl) rfl (by decide) rfl fl_3_18 ?_
    refine a_iload_n dX3_clear_17 rfl ?_
    refine a_iconst (v := (-1)) dX3_clear_18 (by decide) ?_
    refine a_iastore dX3_clear_19 (kdB hb rfl) (vp_in_nI hlt (by decide)) ?_
    refine a_aload_n dX3_clear_20 rfl ?_
    refine a_getR (ci := 3) (j := 3) dX3_clear_21 (kdB hb rfl) rfl (by decide) rfl fl_3_21 ?_
    refine a_iload_n dX3_clear_24 rfl ?_
    refine a_iconst (v := 0) dX3_clear_25 (by decide) ?_
    refine a_iastore dX3_clear_26 (kdB hb rfl) (vp_in_nI hlt (by decide)) ?_
    refine a_aload_n dX3_clear_27 rfl ?_
    refine a_getR (ci := 3) (j := 4) dX3_clear_28 (kdB hb rfl) rfl (by decide) rfl fl_3_24 ?_
    refine a_iload_n dX3_clear_31 rfl ?_
    refine a_iconst (v := 0) dX3_clear_32 (by decide) ?_
    refine a_iastore dX3_clear_33 (kdB hb rfl) (vp_in_nI hlt (by decide)) ?_
    refine a_inc (c := 1) dX3_clear_34 rfl (by decide) (by decide) rfl ?_
    dsimp only [lset]
    refine a_goto dX3_clear_37 (tgt := 7) (by decide) ?_
    rw [hci, clrQ_s, nI_1]
    exact l3_clear hb (i + 1) (by omega) hQ
termination_by 8 - i
decreasing_by all_goals omega
theorem c3_clear {l : Launch} {G : GG} {h : AH} {Q : Option Value → AH → Prop} {b : Nat} (hb : isB b) (hQ : Q none (clearQ h b)) : Ct l G 0 yX3_clear cX3_clear 2 none [.ref (G.1 b 15)] h Q := by
  refine Ct.of (by decide) (Nat.le_of_ble_eq_true rfl) ?_
  show AW l G 0 RX3 cX3_clear 2 none 0 [some (.ref (G.1 b 15))] [] h Q
  refine a_aload_n dX3_clear_0 rfl ?_
  refine a_iconst (v := 0) dX3_clear_1 (by decide) ?_
  refine a_putI (ci := 3) (j := 5) dX3_clear_2 (kdB hb rfl) rfl (by decide) (by decide) rfl fl_3_27 ?_
  refine a_iconst (v := 0) dX3_clear_5 (by decide) ?_
  refine a_istore_n dX3_clear_6 (by decide) rfl ?_
  dsimp only [lset]
  have e := l3_clear (l := l) (G := G) (h := ui h b 15 5 0) hb 0 (by omega) hQ
  rw [clrQ_0] at e
  exact e
theorem c3_add {l : Launch} {G : GG} {h : AH} {Q : Option Value → AH → Prop} {b : Nat} (hb : isB b) {x y : Int32} (hn : ¬ h.1 b 15 5 < 0) (hn2 : ¬ 8 ≤ h.1 b 15 5) (hin : vp_in (h.1 b 15 5) 8) (hQ : Q none (addQ h b x y)) : Ct l G 0 yX3_add cX3_add 3 none [.ref (G.1 b 15), .int x, .int y] h Q := by
  refine Ct.of (by decide) (Nat.le_of_ble_eq_true rfl) ?_
  show AW l G 0 RX3 cX3_add 3 none 0 [some (.ref (G.1 b 15)), some (.int x), some (.int y)] [] h Q
  refine a_aload_n dX3_add_0 rfl ?_
  refine a_getI (ci := 3) (j := 5) dX3_add_1 (kdB hb rfl) rfl (by decide) rfl fl_3_27 ?_
  refine a_if_lt dX3_add_4 (tgt := 46) (by decide) (fun c4 => ?_) (fun c4 => ?_)
  · exact absurd c4 hn
  · refine a_aload_n dX3_add_7 rfl ?_
    refine a_getI (ci := 3) (j := 5) dX3_add_8 (kdB hb rfl) rfl (by decide) rfl fl_3_27 ?_
    refine a_bipush (v := 8) dX3_add_11 (by decide) ?_
    refine a_icmp_ge dX3_add_13 (tgt := 46) (by decide) (fun c13 => ?_) (fun c13 => ?_)
    · exact absurd c13 hn2
    · refine a_aload_n dX3_add_16 rfl ?_
      refine a_getR (ci := 3) (j := 0) dX3_add_17 (kdB hb rfl) rfl (by decide) rfl fl_3_9 ?_
      refine a_aload_n dX3_add_20 rfl ?_
      refine a_getI (ci := 3) (j := 5) dX3_add_21 (kdB hb rfl) rfl (by decide) rfl fl_3_27 ?_
      refine a_iload_n dX3_add_24 rfl ?_
      refine a_iastore dX3_add_25 (kdB hb rfl) (by assumption) ?_
      refine a_aload_n dX3_add_26 rfl ?_
      refine a_getR (ci := 3) (j := 1) dX3_add_27 (kdB hb rfl) rfl (by decide) rfl fl_3_15 ?_
      refine a_aload_n dX3_add_30 rfl ?_
      refine a_getI (ci := 3) (j := 5) dX3_add_31 (kdB hb rfl) rfl (by decide) rfl fl_3_27 ?_
      try simp (disch := first | decide | assumption | omega) only [ui_eq, ui_k, ui_j, ui_b, ui_2, ul_1, ul_eq, ul_k, ul_j, ul_b]
      refine a_iload_n dX3_add_34 rfl ?_
      refine a_iastore dX3_add_35 (kdB hb rfl) (by assumption) ?_
      refine a_aload_n dX3_add_36 rfl ?_
      refine a_dup dX3_add_37 rfl ?_
      refine a_getI (ci := 3) (j := 5) dX3_add_38 (kdB hb rfl) rfl (by decide) rfl fl_3_27 ?_
      try simp (disch := first | decide | assumption | omega) only [ui_eq, ui_k, ui_j, ui_b, ui_2, ul_1, ul_eq, ul_k, ul_j, ul_b]
      refine a_iconst (v := 1) dX3_add_41 (by decide) ?_
      refine a_iadd dX3_add_42 ?_
      refine a_putI (ci := 3) (j := 5) dX3_add_43 (kdB hb rfl) rfl (by decide) (by decide) rfl fl_3_27 ?_
      exact a_vret dX3_add_46 rfl hQ
theorem l3_all {l : Launch} {G : GG} {h : AH} {Q : Option Value → AH → Prop} {b : Nat} (hb : isB b) {n : Nat} (hn : h.1 b 15 5 = nI n) (h8 : n ≤ 8) (i : Nat) (hi : i ≤ n) (hQ : Q (some (.int (sumI (h.1 b 19) n))) h) : AW l G 0 RX3 cX3_allMisuses 3 (some .int) 4 [some (.ref (G.1 b 15)), some (.int (sumI (h.1 b 19) i)), some (.int (nI i))] [] h Q := by
  have hci : (nI i).toNatClampNeg = i := nI_clamp (by omega)
  refine a_iload_n dX3_allMisuses_4 rfl ?_
  refine a_aload_n dX3_allMisuses_5 rfl ?_
  refine a_getI (ci := 3) (j := 5) dX3_allMisuses_6 (kdB hb rfl) rfl (by decide) rfl fl_3_27 ?_
  try simp (disch := first | decide | assumption | omega) only [ui_eq, ui_k, ui_j, ui_b, ui_2, ul_1, ul_eq, ul_k, ul_j, ul_b, hci, hn]
  refine a_icmp_ge dX3_allMisuses_9 (tgt := 27) (by decide) (fun c9 => ?_) (fun c9 => ?_)
  · have hge : n ≤ i := le_of_le c9 (by omega) (by omega)
    have hie : i = n := by omega
    subst hie
    refine a_iload_n dX3_allMisuses_27 rfl ?_
    exact a_iret dX3_allMisuses_28 rfl hQ
  · have hlt : i < n := lt_of_nle c9 (by omega) (by omega)
    refine a_iload_n dX3_allMisuses_12 rfl ?_
    refine a_aload_n dX3_allMisuses_13 rfl ?_
    refine a_getR (ci := 3) (j := 3) dX3_allMisuses_14 (kdB hb rfl) rfl (by decide) rfl fl_3_21 ?_
    refine a_iload_n dX3_allMisuses_17 rfl ?_
    refine a_iaload dX3_allMisuses_18 (kdB hb rfl) (vp_in_nI (show i < 8 by omega) (by decide)) ?_
    try simp (disch := first | decide | assumption | omega) only [ui_eq, ui_k, ui_j, ui_b, ui_2, ul_1, ul_eq, ul_k, ul_j, ul_b, hci, hn]
    refine a_iadd dX3_allMisuses_19 ?_
    refine a_istore_n dX3_allMisuses_20 (by decide) rfl ?_
    dsimp only [lset]
    refine a_inc (c := 1) dX3_allMisuses_21 rfl (by decide) (by decide) rfl ?_
    dsimp only [lset]
    refine a_goto dX3_allMisuses_24 (tgt := 4) (by decide) ?_
    rw [nI_1]
    exact l3_all hb hn h8 (i + 1) (by omega) hQ
termination_by n - i
decreasing_by all_goals omega
theorem c3_allMisuses {l : Launch} {G : GG} {h : AH} {Q : Option Value → AH → Prop} {b : Nat} (hb : isB b) {n : Nat} (hn : h.1 b 15 5 = nI n) (h8 : n ≤ 8) (hQ : Q (some (.int (sumI (h.1 b 19) n))) h) : Ct l G 0 yX3_allMisuses cX3_allMisuses 3 (some .int) [.ref (G.1 b 15)] h Q := by
  refine Ct.of (by decide) (Nat.le_of_ble_eq_true rfl) ?_
  show AW l G 0 RX3 cX3_allMisuses 3 (some .int) 0 [some (.ref (G.1 b 15))] [] h Q
  refine a_iconst (v := 0) dX3_allMisuses_0 (by decide) ?_
  refine a_istore_n dX3_allMisuses_1 (by decide) rfl ?_
  dsimp only [lset]
  refine a_iconst (v := 0) dX3_allMisuses_2 (by decide) ?_
  refine a_istore_n dX3_allMisuses_3 (by decide) rfl ?_
  dsimp only [lset]
  exact l3_all hb hn h8 0 (by omega) hQ
