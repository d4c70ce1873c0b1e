def joinF (h : AH) (b : Nat) (x y : Int32) : Int32 := if hasI (h.1 b 1 1) x = 0 then 0 else if hasI (h.1 b 1 1) y = 0 then 0 else if (h.1 b 2 x.toNatClampNeg >>> (y &&& 31)) &&& 1 = 0 then 0 else 1
def clrL (h : AH) (b i : Nat) : AH := (fun b' k' j' => if b' = b ∧ k' = 2 ∧ j' < i then 0 else h.1 b' k' j', h.2)
theorem clrL_0 (h : AH) (b : Nat) : clrL h b 0 = h := by simp [clrL]
theorem clrL_s (h : AH) (b i : Nat) : ui (clrL h b i) b 2 i 0 = clrL h b (i + 1) := by
  apply Prod.ext
  · funext b' k' j'
    simp only [ui, clrL]
    by_cases h1 : b' = b ∧ k' = 2
    · obtain ⟨rfl, rfl⟩ := h1
      by_cases h2 : j' = i
      · simp [h2]
      · by_cases h3 : j' < i
        · simp [h2, h3, Nat.lt_succ_of_lt h3]
        · simp [h2, h3, show ¬ j' < i + 1 by omega]
    · have e1 : ¬ (b' = b ∧ k' = 2 ∧ j' = i) := fun q => h1 ⟨q.1, q.2.1⟩
      have e2 : ¬ (b' = b ∧ k' = 2 ∧ j' < i) := fun q => h1 ⟨q.1, q.2.1⟩
      have e3 : ¬ (b' = b ∧ k' = 2 ∧ j' < i + 1) := fun q => h1 ⟨q.1, q.2.1⟩
      simp [e1, e2, e3]
  · rfl
def clearL (h : AH) (b : Nat) : AH := ui (ui (clrL h b 8) b 1 1 0) b 1 2 0
def addBF (h : AH) (b : Nat) (x y : Int32) : AH :=
  if hasI (h.1 b 1 1) x = 0 then h else if hasI (h.1 b 1 1) y = 0 then h else if ¬ joinF h b x y = 0 then h else
    let h1 := ui h b 2 x.toNatClampNeg (h.1 b 2 x.toNatClampNeg ||| 1 <<< (y &&& 31))
    let h2 := ui h1 b 2 y.toNatClampNeg (h1.1 b 2 y.toNatClampNeg ||| 1 <<< (x &&& 31))
    ui h2 b 1 2 (h.1 b 1 2 + 1)
theorem l2_clear {l : Launch} {G : GG} {h : AH} {Q : Option Value → AH → Prop} {b : Nat} (hb : isB b) (i : Nat) (hi : i ≤ 8) (hQ : Q none (clearL h b)) : AW l G 0 RX2 cX2_clear 2 none 2 [some (.ref (G.1 b 1)), some (.int (nI i))] [] (clrL h b i) Q := by
  have hci : (nI i).toNatClampNeg = i := nI_clamp (by omega)
  refine a_iload_n dX2_clear_2 rfl ?_
  refine a_bipush (v := 8) dX2_clear_3 (by decide) ?_
  refine a_icmp_ge dX2_clear_5 (tgt := 21) (by decide) (fun c5 => ?_) (fun c5 => ?_)
  · have hlt : 8 ≤ i := le_of_le (b := 8) c5 (by omega) (by decide)
    have hie : i = 8 := by omega
    subst hie
    refine a_aload_n dX2_clear_21 rfl ?_
    refine a_iconst (v := 0) dX2_clear_22 (by decide) ?_
    refine a_putI (ci := 2) (j := 1) dX2_clear_23 (kdB hb rfl) rfl (by decide) (by decide) rfl fl_2_15 ?_
    refine a_aload_n dX2_clear_26 rfl ?_
    refine a_iconst (v := 0) dX2_clear_27 (by decide) ?_
    refine a_putI (ci := 2) (j := 2) dX2_clear_28 (kdB hb rfl) rfl (by decide) (by decide) rfl fl_2_19 ?_
    exact a_vret dX2_clear_31 rfl hQ
  · have hlt : i < 8 := lt_of_nle (b := 8) c5 (by omega) (by decide)
    refine a_aload_n dX2_clear_8 rfl ?_
    refine a_getR (ci := 2) (j := 0) dX2_clear_9 (kdB hb rfl) rfl (by decide) rfl fl_2_9 ?_
    refine a_iload_n dX2_clear_12 rfl ?_
    refine a_iconst (v := 0) dX2_clear_13 (by decide) ?_
    refine a_iastore dX2_clear_14 (kdB hb rfl) (vp_in_nI hlt (by decide)) ?_
    refine a_inc (c := 1) dX2_clear_15 rfl (by decide) (by decide) rfl ?_
    dsimp only [lset]
    refine a_goto dX2_clear_18 (tgt := 2) (by decide) ?_
    rw [hci, clrL_s, nI_1]
    exact l2_clear hb (i + 1) (by omega) hQ
termination_by 8 - i
decreasing_by all_goals omega
theorem c2_clear {l : Launch} {G : GG} {h : AH} {Q : Option Value → AH → Prop} {b : Nat} (hb : isB b) (hQ : Q none (clearL h b)) : Ct l G 0 yX2_clear cX2_clear 2 none [.ref (G.1 b 1)] h Q := by
  refine Ct.of (by decide) (Nat.le_of_ble_eq_true rfl) ?_
  show AW l G 0 RX2 cX2_clear 2 none 0 [some (.ref (G.1 b 1))] [] h Q
  refine a_iconst (v := 0) dX2_clear_0 (by decide) ?_
  refine a_istore_n dX2_clear_1 (by decide) rfl ?_
  dsimp only [lset]
  have e := l2_clear (l := l) (G := G) (h := h) hb 0 (by omega) hQ
  rw [clrL_0] at e
  exact e
theorem c2_areJoined {l : Launch} {G : GG} {h : AH} {Q : Option Value → AH → Prop} {b : Nat} (hb : isB b) {x y : Int32} (hl : (h.1 b 1 1).toInt ≤ 8) (hQ : Q (some (.int (joinF h b x y))) h) : Ct l G 1 yX2_areJoined cX2_areJoined 3 (some .boolean) [.ref (G.1 b 1), .int x, .int y] h Q := by
  refine Ct.of (by decide) (Nat.le_of_ble_eq_true rfl) ?_
  show AW l G 1 RX2 cX2_areJoined 3 (some .boolean) 0 [some (.ref (G.1 b 1)), some (.int x), some (.int y)] [] h Q
  refine a_aload_n dX2_areJoined_0 rfl ?_
  refine a_iload_n dX2_areJoined_1 rfl ?_
  refine a_cV1i dX2_areJoined_2 ml_2_22 wv_2_has (kdB hb rfl) rfl (by decide) (Nat.le_of_ble_eq_true rfl) (c2_has hb ⟨rfl, rfl⟩) ?_
  refine a_if_eq dX2_areJoined_5 (tgt := 33) (by decide) (fun c5 => ?_) (fun c5 => ?_)
  · refine a_iconst (v := 0) dX2_areJoined_33 (by decide) ?_
    exact a_zret dX2_areJoined_34 rfl rfl (by simpa [joinF, c5] using hQ)
  · refine a_aload_n dX2_areJoined_8 rfl ?_
    refine a_iload_n dX2_areJoined_9 rfl ?_
    refine a_cV1i dX2_areJoined_10 ml_2_22 wv_2_has (kdB hb rfl) rfl (by decide) (Nat.le_of_ble_eq_true rfl) (c2_has hb ⟨rfl, rfl⟩) ?_
    refine a_if_eq dX2_areJoined_13 (tgt := 33) (by decide) (fun c13 => ?_) (fun c13 => ?_)
    · refine a_iconst (v := 0) dX2_areJoined_33 (by decide) ?_
      exact a_zret dX2_areJoined_34 rfl rfl (by simpa [joinF, c5, c13] using hQ)
    · refine a_aload_n dX2_areJoined_16 rfl ?_
      refine a_getR (ci := 2) (j := 0) dX2_areJoined_17 (kdB hb rfl) rfl (by decide) rfl fl_2_9 ?_
      refine a_iload_n dX2_areJoined_20 rfl ?_
      refine a_iaload dX2_areJoined_21 (kdB hb rfl) (hasI_in c5 hl) ?_
      refine a_iload_n dX2_areJoined_22 rfl ?_
      refine a_ishr dX2_areJoined_23 ?_
      refine a_iconst (v := 1) dX2_areJoined_24 (by decide) ?_
      refine a_iand dX2_areJoined_25 ?_
      refine a_if_eq dX2_areJoined_26 (tgt := 33) (by decide) (fun c26 => ?_) (fun c26 => ?_)
      · refine a_iconst (v := 0) dX2_areJoined_33 (by decide) ?_
        exact a_zret dX2_areJoined_34 rfl rfl (by simpa [joinF, c5, c13, c26] using hQ)
      · refine a_iconst (v := 1) dX2_areJoined_29 (by decide) ?_
        refine a_goto dX2_areJoined_30 (tgt := 34) (by decide) ?_
        exact a_zret dX2_areJoined_34 rfl rfl (by simpa [joinF, c5, c13, c26] using hQ)
theorem c2_addBorder {l : Launch} {G : GG} {h : AH} {Q : Option Value → AH → Prop} {b : Nat} (hb : isB b) {x y : Int32} (hl : (h.1 b 1 1).toInt ≤ 8) (hQ : Q none (addBF h b x y)) : Ct l G 2 yX2_addBorder cX2_addBorder 3 none [.ref (G.1 b 1), .int x, .int y] h Q := by
  refine Ct.of (by decide) (Nat.le_of_ble_eq_true rfl) ?_
  show AW l G 2 RX2 cX2_addBorder 3 none 0 [some (.ref (G.1 b 1)), some (.int x), some (.int y)] [] h Q
  refine a_aload_n dX2_addBorder_0 rfl ?_
  refine a_iload_n dX2_addBorder_1 rfl ?_
  refine a_cV1i dX2_addBorder_2 ml_2_22 wv_2_has (kdB hb rfl) rfl (by decide) (Nat.le_of_ble_eq_true rfl) (c2_has hb ⟨rfl, rfl⟩) ?_
  refine a_if_eq dX2_addBorder_5 (tgt := 59) (by decide) (fun c5 => ?_) (fun c5 => ?_)
  · exact a_vret dX2_addBorder_59 rfl (by simpa [addBF, c5] using hQ)
  · refine a_aload_n dX2_addBorder_8 rfl ?_
    refine a_iload_n dX2_addBorder_9 rfl ?_
    refine a_cV1i dX2_addBorder_10 ml_2_22 wv_2_has (kdB hb rfl) rfl (by decide) (Nat.le_of_ble_eq_true rfl) (c2_has hb ⟨rfl, rfl⟩) ?_
    refine a_if_eq dX2_addBorder_13 (tgt := 59) (by decide) (fun c13 => ?_) (fun c13 => ?_)
    · exact a_vret dX2_addBorder_59 rfl (by simpa [addBF, c5, c13] using hQ)
    · refine a_aload_n dX2_addBorder_16 rfl ?_
      refine a_iload_n dX2_addBorder_17 rfl ?_
      refine a_iload_n dX2_addBorder_18 rfl ?_
      refine a_cV2i dX2_addBorder_19 ml_2_26 wv_2_areJoined (kdB hb rfl) rfl (by decide) (Nat.le_of_ble_eq_true rfl) (c2_areJoined hb hl ⟨rfl, rfl⟩) ?_
      refine a_if_ne dX2_addBorder_22 (tgt := 59) (by decide) (fun c22 => ?_) (fun c22 => ?_)
      · exact a_vret dX2_addBorder_59 rfl (by simpa [addBF, c5, c13, c22] using hQ)
      · refine a_aload_n dX2_addBorder_25 rfl ?_
        refine a_getR (ci := 2) (j := 0) dX2_addBorder_26 (kdB hb rfl) rfl (by decide) rfl fl_2_9 ?_
        refine a_iload_n dX2_addBorder_29 rfl ?_
        refine a_dup2 dX2_addBorder_30 rfl rfl ?_
        refine a_iaload dX2_addBorder_31 (kdB hb rfl) (hasI_in c5 hl) ?_
        refine a_iconst (v := 1) dX2_addBorder_32 (by decide) ?_
        refine a_iload_n dX2_addBorder_33 rfl ?_
        refine a_ishl dX2_addBorder_34 ?_
        refine a_ior dX2_addBorder_35 ?_
        refine a_iastore dX2_addBorder_36 (kdB hb rfl) (hasI_in c5 hl) ?_
        refine a_aload_n dX2_addBorder_37 rfl ?_
        refine a_getR (ci := 2) (j := 0) dX2_addBorder_38 (kdB hb rfl) rfl (by decide) rfl fl_2_9 ?_
        refine a_iload_n dX2_addBorder_41 rfl ?_
        refine a_dup2 dX2_addBorder_42 rfl rfl ?_
        refine a_iaload dX2_addBorder_43 (kdB hb rfl) (hasI_in c13 hl) ?_
        try simp (disch := first | decide | assumption | omega) only [ui_eq, ui_k, ui_j, ui_b, ui_2, ul_1, ul_eq, ul_k, ul_j, ul_b]
        refine a_iconst (v := 1) dX2_addBorder_44 (by decide) ?_
        refine a_iload_n dX2_addBorder_45 rfl ?_
        refine a_ishl dX2_addBorder_46 ?_
        refine a_ior dX2_addBorder_47 ?_
        refine a_iastore dX2_addBorder_48 (kdB hb rfl) (hasI_in c13 hl) ?_
        refine a_aload_n dX2_addBorder_49 rfl ?_
        refine a_dup dX2_addBorder_50 rfl ?_
        refine a_getI (ci := 2) (j := 2) dX2_addBorder_51 (kdB hb rfl) rfl (by decide) rfl fl_2_19 ?_
        try simp (disch := first | decide | assumption | omega) only [ui_eq, ui_k, ui_j, ui_b, ui_2, ul_1, ul_eq, ul_k, ul_j, ul_b]
        refine a_iconst (v := 1) dX2_addBorder_54 (by decide) ?_
        refine a_iadd dX2_addBorder_55 ?_
        refine a_putI (ci := 2) (j := 2) dX2_addBorder_56 (kdB hb rfl) rfl (by decide) (by decide) rfl fl_2_19 ?_
        exact a_vret dX2_addBorder_59 rfl (by simpa [addBF, c5, c13, c22] using hQ)
