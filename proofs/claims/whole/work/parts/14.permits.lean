def mx1 (x : Int32) : Int32 := if (1 : Int32) < x then x else 1
def reisF (h : AH) (b : Nat) (x : Int32) : Int32 := h.1 b 14 x.toNatClampNeg / mx1 (h.1 b 3 12)
def outF (h : AH) (b : Nat) (x : Int32) : Int32 := (h.1 b 11 x.toNatClampNeg + mx1 (h.1 b 5 x.toNatClampNeg) - 1) / mx1 (h.1 b 5 x.toNatClampNeg)
def inF (h : AH) (b : Nat) (x : Int32) : Int32 := h.1 b 8 x.toNatClampNeg + reisF h b x - outF h b x - h.1 b 12 x.toNatClampNeg - h.1 b 13 x.toNatClampNeg - h.1 b 14 x.toNatClampNeg
def freeF (h : AH) (b : Nat) (x : Int32) : Int32 := inF h b x * h.1 b 5 x.toNatClampNeg + (outF h b x * h.1 b 5 x.toNatClampNeg - h.1 b 11 x.toNatClampNeg)
def forF (h : AH) (b : Nat) (x y : Int32) : Int32 := if y &&& (h.1 b 10 x.toNatClampNeg ^^^ (-1)) = 0 then 1 else 0
def engF (h : AH) (b : Nat) (x y : Int32) : Int32 := if y < h.1 b 6 x.toNatClampNeg then 0 else 1
def giveF (h : AH) (b : Nat) (x la t : Int32) : AH :=
  if hasI (h.1 b 3 11) x = 0 then h else
    let h1 := ui h b 11 x.toNatClampNeg (h.1 b 11 x.toNatClampNeg - t)
    if h.1 b 4 x.toNatClampNeg = 0 then (if la = 0 then ui h1 b 12 x.toNatClampNeg (h.1 b 12 x.toNatClampNeg + t) else ui h1 b 13 x.toNatClampNeg (h.1 b 13 x.toNatClampNeg + t)) else h1
def moveF (h : AH) (b : Nat) (x n : Int32) : AH :=
  if hasI (h.1 b 3 11) x = 0 then h else ui (ui h b 12 x.toNatClampNeg (h.1 b 12 x.toNatClampNeg - n)) b 14 x.toNatClampNeg (h.1 b 14 x.toNatClampNeg + n)
def clrP (h : AH) (b i : Nat) : AH := (fun b' k' j' => if b' = b ∧ j' < i ∧ (k' = 11 ∨ k' = 12 ∨ k' = 13 ∨ k' = 14) then 0 else h.1 b' k' j', h.2)
theorem clrP_0 (h : AH) (b : Nat) : clrP h b 0 = h := by simp [clrP]
theorem clrP_s (h : AH) (b i : Nat) : ui (ui (ui (ui (clrP h b i) b 11 i 0) b 12 i 0) b 13 i 0) b 14 i 0 = clrP h b (i + 1) := by
  refine ah_ext (fun b' k' j' => ?_) rfl
  simp only [ui, clrP]
  by_cases hb : b' = b
  · by_cases hk : k' = 11 ∨ k' = 12 ∨ k' = 13 ∨ k' = 14
    · by_cases h2 : j' = i
      · rcases hk with hk | hk | hk | hk <;> simp [hb, hk, h2]
      · rcases hk with hk | hk | hk | hk <;> simp [hb, hk, h2, show j' < i + 1 ↔ j' < i by omega]
    · have e1 : ¬ k' = 11 := by omega
      have e2 : ¬ k' = 12 := by omega
      have e3 : ¬ k' = 13 := by omega
      have e4 : ¬ k' = 14 := by omega
      simp [e1, e2, e3, e4]
  · simp [hb]
def clearP (h : AH) (b : Nat) : AH := clrP (ui (ui h b 3 11 0) b 3 12 1) b 6
def addP (h : AH) (b : Nat) (kd bits : Int32) : AH :=
  let c := (h.1 b 3 11).toNatClampNeg
  ui (ui (ui (ui (ui (ui (ui (ui h b 4 c kd) b 5 c (h.1 0 5 0)) b 6 c (h.1 0 5 1)) b 7 c (h.1 0 5 2)) b 8 c (h.1 0 5 3)) b 9 c (h.1 0 5 4)) b 10 c bits) b 3 11 (h.1 b 3 11 + 1)
theorem c4_isFor {l : Launch} {G : GG} {h : AH} {Q : Option Value → AH → Prop} {b : Nat} (hb : isB b) {x : Int32} (hx : vp_in x 6) {y : Int32} (hQ : Q (some (.int (forF h b x y))) h) : Ct l G 0 yX4_isFor cX4_isFor 3 (some .boolean) [.ref (G.1 b 3), .int x, .int y] h Q := by
  refine Ct.of (by decide) (Nat.le_of_ble_eq_true rfl) ?_
  show AW l G 0 RX4 cX4_isFor 3 (some .boolean) 0 [some (.ref (G.1 b 3)), some (.int x), some (.int y)] [] h Q
  refine a_iload_n dX4_isFor_0 rfl ?_
  refine a_aload_n dX4_isFor_1 rfl ?_
  refine a_getR (ci := 4) (j := 6) dX4_isFor_2 (kdB hb rfl) rfl (by decide) rfl fl_4_30 ?_
  refine a_iload_n dX4_isFor_5 rfl ?_
  refine a_iaload dX4_isFor_6 (kdB hb rfl) (by assumption) ?_
  refine a_iconst (v := (-1)) dX4_isFor_7 (by decide) ?_
  refine a_ixor dX4_isFor_8 ?_
  refine a_iand dX4_isFor_9 ?_
  refine a_if_ne dX4_isFor_10 (tgt := 17) (by decide) (fun c10 => ?_) (fun c10 => ?_)
  · refine a_iconst (v := 0) dX4_isFor_17 (by decide) ?_
    exact a_zret dX4_isFor_18 rfl rfl (by simp only [forF, c10, if_true, if_false, not_true_eq_false, not_false_eq_true, Classical.not_not] at hQ ⊢; exact hQ)
  · refine a_iconst (v := 1) dX4_isFor_13 (by decide) ?_
    refine a_goto dX4_isFor_14 (tgt := 18) (by decide) ?_
    exact a_zret dX4_isFor_18 rfl rfl (by simp only [forF, c10, if_true, if_false, not_true_eq_false, not_false_eq_true, Classical.not_not] at hQ ⊢; exact hQ)
theorem c4_suitsEngine {l : Launch} {G : GG} {h : AH} {Q : Option Value → AH → Prop} {b : Nat} (hb : isB b) {x : Int32} (hx : vp_in x 6) {y : Int32} (hQ : Q (some (.int (engF h b x y))) h) : Ct l G 0 yX4_suitsEngine cX4_suitsEngine 3 (some .boolean) [.ref (G.1 b 3), .int x, .int y] h Q := by
  refine Ct.of (by decide) (Nat.le_of_ble_eq_true rfl) ?_
  show AW l G 0 RX4 cX4_suitsEngine 3 (some .boolean) 0 [some (.ref (G.1 b 3)), some (.int x), some (.int y)] [] h Q
  refine a_iload_n dX4_suitsEngine_0 rfl ?_
  refine a_aload_n dX4_suitsEngine_1 rfl ?_
  refine a_getR (ci := 4) (j := 2) dX4_suitsEngine_2 (kdB hb rfl) rfl (by decide) rfl fl_4_18 ?_
  refine a_iload_n dX4_suitsEngine_5 rfl ?_
  refine a_iaload dX4_suitsEngine_6 (kdB hb rfl) (by assumption) ?_
  refine a_icmp_lt dX4_suitsEngine_7 (tgt := 14) (by decide) (fun c7 => ?_) (fun c7 => ?_)
  · refine a_iconst (v := 0) dX4_suitsEngine_14 (by decide) ?_
    exact a_zret dX4_suitsEngine_15 rfl rfl (by simpa [engF, c7] using hQ)
  · refine a_iconst (v := 1) dX4_suitsEngine_10 (by decide) ?_
    refine a_goto dX4_suitsEngine_11 (tgt := 15) (by decide) ?_
    exact a_zret dX4_suitsEngine_15 rfl rfl (by simpa [engF, c7] using hQ)
theorem c4_countReissued {l : Launch} {G : GG} {h : AH} {Q : Option Value → AH → Prop} {b : Nat} (hb : isB b) {x : Int32} (hx : vp_in x 6) (hQ : Q (some (.int (reisF h b x))) h) : Ct l G 1 yX4_countReissued cX4_countReissued 2 (some .int) [.ref (G.1 b 3), .int x] h Q := by
  refine Ct.of (by decide) (Nat.le_of_ble_eq_true rfl) ?_
  show AW l G 1 RX4 cX4_countReissued 2 (some .int) 0 [some (.ref (G.1 b 3)), some (.int x)] [] h Q
  refine a_aload_n dX4_countReissued_0 rfl ?_
  refine a_getR (ci := 4) (j := 10) dX4_countReissued_1 (kdB hb rfl) rfl (by decide) rfl fl_4_42 ?_
  refine a_iload_n dX4_countReissued_4 rfl ?_
  refine a_iaload dX4_countReissued_5 (kdB hb rfl) (by assumption) ?_
  refine a_iconst (v := 1) dX4_countReissued_6 (by decide) ?_
  refine a_aload_n dX4_countReissued_7 rfl ?_
  refine a_getI (ci := 4) (j := 12) dX4_countReissued_8 (kdB hb rfl) rfl (by decide) rfl fl_4_45 ?_
  refine a_mmax dX4_countReissued_11 ml_4_52 (by decide) (Nat.le_of_ble_eq_true rfl) ?_
  refine a_idiv dX4_countReissued_14 (max1_ne _) ?_
  exact a_iret dX4_countReissued_15 rfl hQ
theorem c4_countOut {l : Launch} {G : GG} {h : AH} {Q : Option Value → AH → Prop} {b : Nat} (hb : isB b) {x : Int32} (hx : vp_in x 6) (hQ : Q (some (.int (outF h b x))) h) : Ct l G 1 yX4_countOut cX4_countOut 3 (some .int) [.ref (G.1 b 3), .int x] h Q := by
  refine Ct.of (by decide) (Nat.le_of_ble_eq_true rfl) ?_
  show AW l G 1 RX4 cX4_countOut 3 (some .int) 0 [some (.ref (G.1 b 3)), some (.int x)] [] h Q
  refine a_iconst (v := 1) dX4_countOut_0 (by decide) ?_
  refine a_aload_n dX4_countOut_1 rfl ?_
  refine a_getR (ci := 4) (j := 1) dX4_countOut_2 (kdB hb rfl) rfl (by decide) rfl fl_4_15 ?_
  refine a_iload_n dX4_countOut_5 rfl ?_
  refine a_iaload dX4_countOut_6 (kdB hb rfl) (by assumption) ?_
  refine a_mmax dX4_countOut_7 ml_4_52 (by decide) (Nat.le_of_ble_eq_true rfl) ?_
  refine a_istore_n dX4_countOut_10 (by decide) rfl ?_
  dsimp only [lset]
  refine a_aload_n dX4_countOut_11 rfl ?_
  refine a_getR (ci := 4) (j := 7) dX4_countOut_12 (kdB hb rfl) rfl (by decide) rfl fl_4_33 ?_
  refine a_iload_n dX4_countOut_15 rfl ?_
  refine a_iaload dX4_countOut_16 (kdB hb rfl) (by assumption) ?_
  refine a_iload_n dX4_countOut_17 rfl ?_
  refine a_iadd dX4_countOut_18 ?_
  refine a_iconst (v := 1) dX4_countOut_19 (by decide) ?_
  refine a_isub dX4_countOut_20 ?_
  refine a_iload_n dX4_countOut_21 rfl ?_
  refine a_idiv dX4_countOut_22 (max1_ne _) ?_
  exact a_iret dX4_countOut_23 rfl hQ
theorem c4_countIn {l : Launch} {G : GG} {h : AH} {Q : Option Value → AH → Prop} {b : Nat} (hb : isB b) {x : Int32} (hx : vp_in x 6) (hQ : Q (some (.int (inF h b x))) h) : Ct l G 2 yX4_countIn cX4_countIn 2 (some .int) [.ref (G.1 b 3), .int x] h Q := by
  refine Ct.of (by decide) (Nat.le_of_ble_eq_true rfl) ?_
  show AW l G 2 RX4 cX4_countIn 2 (some .int) 0 [some (.ref (G.1 b 3)), some (.int x)] [] h Q
  refine a_aload_n dX4_countIn_0 rfl ?_
  refine a_getR (ci := 4) (j := 4) dX4_countIn_1 (kdB hb rfl) rfl (by decide) rfl fl_4_24 ?_
  refine a_iload_n dX4_countIn_4 rfl ?_
  refine a_iaload dX4_countIn_5 (kdB hb rfl) (by assumption) ?_
  refine a_aload_n dX4_countIn_6 rfl ?_
  refine a_iload_n dX4_countIn_7 rfl ?_
  refine a_cV1i dX4_countIn_8 ml_4_58 wv_4_countReissued (kdB hb rfl) rfl (by decide) (Nat.le_of_ble_eq_true rfl) (c4_countReissued hb hx ⟨rfl, rfl⟩) ?_
  refine a_iadd dX4_countIn_11 ?_
  refine a_aload_n dX4_countIn_12 rfl ?_
  refine a_iload_n dX4_countIn_13 rfl ?_
  refine a_cV1i dX4_countIn_14 ml_4_62 wv_4_countOut (kdB hb rfl) rfl (by decide) (Nat.le_of_ble_eq_true rfl) (c4_countOut hb hx ⟨rfl, rfl⟩) ?_
  refine a_isub dX4_countIn_17 ?_
  refine a_aload_n dX4_countIn_18 rfl ?_
  refine a_getR (ci := 4) (j := 8) dX4_countIn_19 (kdB hb rfl) rfl (by decide) rfl fl_4_36 ?_
  refine a_iload_n dX4_countIn_22 rfl ?_
  refine a_iaload dX4_countIn_23 (kdB hb rfl) (by assumption) ?_
  refine a_isub dX4_countIn_24 ?_
  refine a_aload_n dX4_countIn_25 rfl ?_
  refine a_getR (ci := 4) (j := 9) dX4_countIn_26 (kdB hb rfl) rfl (by decide) rfl fl_4_39 ?_
  refine a_iload_n dX4_countIn_29 rfl ?_
  refine a_iaload dX4_countIn_30 (kdB hb rfl) (by assumption) ?_
  refine a_isub dX4_countIn_31 ?_
  refine a_aload_n dX4_countIn_32 rfl ?_
  refine a_getR (ci := 4) (j := 10) dX4_countIn_33 (kdB hb rfl) rfl (by decide) rfl fl_4_42 ?_
  refine a_iload_n dX4_countIn_36 rfl ?_
  refine a_iaload dX4_countIn_37 (kdB hb rfl) (by assumption) ?_
  refine a_isub dX4_countIn_38 ?_
  exact a_iret dX4_countIn_39 rfl hQ
theorem c4_countFree {l : Launch} {G : GG} {h : AH} {Q : Option Value → AH → Prop} {b : Nat} (hb : isB b) {x : Int32} (hx : vp_in x 6) (hQ : Q (some (.int (freeF h b x))) h) : Ct l G 3 yX4_countFree cX4_countFree 3 (some .int) [.ref (G.1 b 3), .int x] h Q := by
  refine Ct.of (by decide) (Nat.le_of_ble_eq_true rfl) ?_
  show AW l G 3 RX4 cX4_countFree 3 (some .int) 0 [some (.ref (G.1 b 3)), some (.int x)] [] h Q
  refine a_aload_n dX4_countFree_0 rfl ?_
  refine a_iload_n dX4_countFree_1 rfl ?_
  refine a_cV1i dX4_countFree_2 ml_4_62 wv_4_countOut (kdB hb rfl) rfl (by decide) (Nat.le_of_ble_eq_true rfl) (c4_countOut hb hx ⟨rfl, rfl⟩) ?_
  refine a_aload_n dX4_countFree_5 rfl ?_
  refine a_getR (ci := 4) (j := 1) dX4_countFree_6 (kdB hb rfl) rfl (by decide) rfl fl_4_15 ?_
  refine a_iload_n dX4_countFree_9 rfl ?_
  refine a_iaload dX4_countFree_10 (kdB hb rfl) (by assumption) ?_
  refine a_imul dX4_countFree_11 ?_
  refine a_aload_n dX4_countFree_12 rfl ?_
  refine a_getR (ci := 4) (j := 7) dX4_countFree_13 (kdB hb rfl) rfl (by decide) rfl fl_4_33 ?_
  refine a_iload_n dX4_countFree_16 rfl ?_
  refine a_iaload dX4_countFree_17 (kdB hb rfl) (by assumption) ?_
  refine a_isub dX4_countFree_18 ?_
  refine a_istore_n dX4_countFree_19 (by decide) rfl ?_
  dsimp only [lset]
  refine a_aload_n dX4_countFree_20 rfl ?_
  refine a_iload_n dX4_countFree_21 rfl ?_
  refine a_cV1i dX4_countFree_22 ml_4_65 wv_4_countIn (kdB hb rfl) rfl (by decide) (Nat.le_of_ble_eq_true rfl) (c4_countIn hb hx ⟨rfl, rfl⟩) ?_
  refine a_aload_n dX4_countFree_25 rfl ?_
  refine a_getR (ci := 4) (j := 1) dX4_countFree_26 (kdB hb rfl) rfl (by decide) rfl fl_4_15 ?_
  refine a_iload_n dX4_countFree_29 rfl ?_
  refine a_iaload dX4_countFree_30 (kdB hb rfl) (by assumption) ?_
  refine a_imul dX4_countFree_31 ?_
  refine a_iload_n dX4_countFree_32 rfl ?_
  refine a_iadd dX4_countFree_33 ?_
  exact a_iret dX4_countFree_34 rfl hQ
theorem c4_giveUp {l : Launch} {G : GG} {h : AH} {Q : Option Value → AH → Prop} {b : Nat} (hb : isB b) {x la t : Int32} (hp : (h.1 b 3 11).toInt ≤ 6) (hQ : Q none (giveF h b x la t)) : Ct l G 1 yX4_giveUp cX4_giveUp 4 none [.ref (G.1 b 3), .int x, .int la, .int t] h Q := by
  refine Ct.of (by decide) (Nat.le_of_ble_eq_true rfl) ?_
  show AW l G 1 RX4 cX4_giveUp 4 none 0 [some (.ref (G.1 b 3)), some (.int x), some (.int la), some (.int t)] [] h Q
  refine a_aload_n dX4_giveUp_0 rfl ?_
  refine a_iload_n dX4_giveUp_1 rfl ?_
  refine a_cV1i dX4_giveUp_2 ml_4_68 wv_4_has (kdB hb rfl) rfl (by decide) (Nat.le_of_ble_eq_true rfl) (c4_has hb ⟨rfl, rfl⟩) ?_
  refine a_if_ne dX4_giveUp_5 (tgt := 9) (by decide) (fun c5 => ?_) (fun c5 => ?_)
  · refine a_aload_n dX4_giveUp_9 rfl ?_
    refine a_getR (ci := 4) (j := 7) dX4_giveUp_10 (kdB hb rfl) rfl (by decide) rfl fl_4_33 ?_
    refine a_iload_n dX4_giveUp_13 rfl ?_
    refine a_dup2 dX4_giveUp_14 rfl rfl ?_
    refine a_iaload dX4_giveUp_15 (kdB hb rfl) (hasI_in c5 hp) ?_
    refine a_iload_n dX4_giveUp_16 rfl ?_
    refine a_isub dX4_giveUp_17 ?_
    refine a_iastore dX4_giveUp_18 (kdB hb rfl) (hasI_in c5 hp) ?_
    refine a_aload_n dX4_giveUp_19 rfl ?_
    refine a_getR (ci := 4) (j := 0) dX4_giveUp_20 (kdB hb rfl) rfl (by decide) rfl fl_4_9 ?_
    refine a_iload_n dX4_giveUp_23 rfl ?_
    refine a_iaload dX4_giveUp_24 (kdB hb rfl) (hasI_in c5 hp) ?_
    try simp (disch := first | decide | assumption | omega) only [ui_eq, ui_k, ui_j, ui_b, ui_2, ul_1, ul_eq, ul_k, ul_j, ul_b]
    refine a_if_ne dX4_giveUp_25 (tgt := 45) (by decide) (fun c25 => ?_) (fun c25 => ?_)
    · refine a_aload_n dX4_giveUp_45 rfl ?_
      refine a_getR (ci := 4) (j := 0) dX4_giveUp_46 (kdB hb rfl) rfl (by decide) rfl fl_4_9 ?_
      refine a_iload_n dX4_giveUp_49 rfl ?_
      refine a_iaload dX4_giveUp_50 (kdB hb rfl) (hasI_in c5 hp) ?_
      try simp (disch := first | decide | assumption | omega) only [ui_eq, ui_k, ui_j, ui_b, ui_2, ul_1, ul_eq, ul_k, ul_j, ul_b]
      refine a_if_ne dX4_giveUp_51 (tgt := 64) (by decide) (fun c51 => ?_) (fun c51 => ?_)
      · exact a_vret dX4_giveUp_64 rfl (by simpa [giveF, c5, c25, c51] using hQ)
      · exact absurd c51 c25
    · refine a_iload_n dX4_giveUp_28 rfl ?_
      refine a_if_ne dX4_giveUp_29 (tgt := 45) (by decide) (fun c29 => ?_) (fun c29 => ?_)
      · refine a_aload_n dX4_giveUp_45 rfl ?_
        refine a_getR (ci := 4) (j := 0) dX4_giveUp_46 (kdB hb rfl) rfl (by decide) rfl fl_4_9 ?_
        refine a_iload_n dX4_giveUp_49 rfl ?_
        refine a_iaload dX4_giveUp_50 (kdB hb rfl) (hasI_in c5 hp) ?_
        try simp (disch := first | decide | assumption | omega) only [ui_eq, ui_k, ui_j, ui_b, ui_2, ul_1, ul_eq, ul_k, ul_j, ul_b]
        refine a_if_ne dX4_giveUp_51 (tgt := 64) (by decide) (fun c51v2 => ?_) (fun c51v2 => ?_)
        · exact absurd c25 c51v2
        · refine a_aload_n dX4_giveUp_54 rfl ?_
          refine a_getR (ci := 4) (j := 9) dX4_giveUp_55 (kdB hb rfl) rfl (by decide) rfl fl_4_39 ?_
          refine a_iload_n dX4_giveUp_58 rfl ?_
          refine a_dup2 dX4_giveUp_59 rfl rfl ?_
          refine a_iaload dX4_giveUp_60 (kdB hb rfl) (hasI_in c5 hp) ?_
          try simp (disch := first | decide | assumption | omega) only [ui_eq, ui_k, ui_j, ui_b, ui_2, ul_1, ul_eq, ul_k, ul_j, ul_b]
          refine a_iload_n dX4_giveUp_61 rfl ?_
          refine a_iadd dX4_giveUp_62 ?_
          refine a_iastore dX4_giveUp_63 (kdB hb rfl) (hasI_in c5 hp) ?_
          exact a_vret dX4_giveUp_64 rfl (by simpa [giveF, c5, c25, c29, c51v2] using hQ)
      · refine a_aload_n dX4_giveUp_32 rfl ?_
        refine a_getR (ci := 4) (j := 8) dX4_giveUp_33 (kdB hb rfl) rfl (by decide) rfl fl_4_36 ?_
        refine a_iload_n dX4_giveUp_36 rfl ?_
        refine a_dup2 dX4_giveUp_37 rfl rfl ?_
        refine a_iaload dX4_giveUp_38 (kdB hb rfl) (hasI_in c5 hp) ?_
        try simp (disch := first | decide | assumption | omega) only [ui_eq, ui_k, ui_j, ui_b, ui_2, ul_1, ul_eq, ul_k, ul_j, ul_b]
        refine a_iload_n dX4_giveUp_39 rfl ?_
        refine a_iadd dX4_giveUp_40 ?_
        refine a_iastore dX4_giveUp_41 (kdB hb rfl) (hasI_in c5 hp) ?_
        refine a_goto dX4_giveUp_42 (tgt := 64) (by decide) ?_
        exact a_vret dX4_giveUp_64 rfl (by simpa [giveF, c5, c25, c29] using hQ)
  · exact a_vret dX4_giveUp_8 rfl (by simpa [giveF, c5] using hQ)
theorem c4_moveBack {l : Launch} {G : GG} {h : AH} {Q : Option Value → AH → Prop} {b : Nat} (hb : isB b) {x y : Int32} (hp : (h.1 b 3 11).toInt ≤ 6) (hQ : Q none (moveF h b x y)) : Ct l G 1 yX4_moveBack cX4_moveBack 3 none [.ref (G.1 b 3), .int x, .int y] h Q := by
  refine Ct.of (by decide) (Nat.le_of_ble_eq_true rfl) ?_
  show AW l G 1 RX4 cX4_moveBack 3 none 0 [some (.ref (G.1 b 3)), some (.int x), some (.int y)] [] h Q
  refine a_aload_n dX4_moveBack_0 rfl ?_
  refine a_iload_n dX4_moveBack_1 rfl ?_
  refine a_cV1i dX4_moveBack_2 ml_4_68 wv_4_has (kdB hb rfl) rfl (by decide) (Nat.le_of_ble_eq_true rfl) (c4_has hb ⟨rfl, rfl⟩) ?_
  refine a_if_eq dX4_moveBack_5 (tgt := 28) (by decide) (fun c5 => ?_) (fun c5 => ?_)
  · exact a_vret dX4_moveBack_28 rfl (by simpa [moveF, c5] using hQ)
  · refine a_aload_n dX4_moveBack_8 rfl ?_
    refine a_getR (ci := 4) (j := 8) dX4_moveBack_9 (kdB hb rfl) rfl (by decide) rfl fl_4_36 ?_
    refine a_iload_n dX4_moveBack_12 rfl ?_
    refine a_dup2 dX4_moveBack_13 rfl rfl ?_
    refine a_iaload dX4_moveBack_14 (kdB hb rfl) (hasI_in c5 hp) ?_
    refine a_iload_n dX4_moveBack_15 rfl ?_
    refine a_isub dX4_moveBack_16 ?_
    refine a_iastore dX4_moveBack_17 (kdB hb rfl) (hasI_in c5 hp) ?_
    refine a_aload_n dX4_moveBack_18 rfl ?_
    refine a_getR (ci := 4) (j := 10) dX4_moveBack_19 (kdB hb rfl) rfl (by decide) rfl fl_4_42 ?_
    refine a_iload_n dX4_moveBack_22 rfl ?_
    refine a_dup2 dX4_moveBack_23 rfl rfl ?_
    refine a_iaload dX4_moveBack_24 (kdB hb rfl) (hasI_in c5 hp) ?_
    try simp (disch := first | decide | assumption | omega) only [ui_eq, ui_k, ui_j, ui_b, ui_2, ul_1, ul_eq, ul_k, ul_j, ul_b]
    refine a_iload_n dX4_moveBack_25 rfl ?_
    refine a_iadd dX4_moveBack_26 ?_
    refine a_iastore dX4_moveBack_27 (kdB hb rfl) (hasI_in c5 hp) ?_
    exact a_vret dX4_moveBack_28 rfl (by simpa [moveF, c5] using hQ)
theorem l4_clear {l : Launch} {G : GG} {h : AH} {Q : Option Value → AH → Prop} {b : Nat} (hb : isB b) (i : Nat) (hi : i ≤ 6) (hQ : Q none (clrP h b 6)) : AW l G 0 RX4 cX4_clear 2 none 12 [some (.ref (G.1 b 3)), some (.int (nI i))] [] (clrP h b i) Q := by
  have hci : (nI i).toNatClampNeg = i := nI_clamp (by omega)
  refine a_iload_n dX4_clear_12 rfl ?_
  refine a_bipush (v := 6) dX4_clear_13 (by decide) ?_
  refine a_icmp_ge dX4_clear_15 (tgt := 52) (by decide) (fun c15 => ?_) (fun c15 => ?_)
  · have hlt : 6 ≤ i := le_of_le (b := 6) c15 (by omega) (by decide)
    have hie : i = 6 := by omega
    subst hie
    exact a_vret dX4_clear_52 rfl hQ
  · have hlt : i < 6 := lt_of_nle (b := 6) c15 (by omega) (by decide)
    refine a_aload_n dX4_clear_18 rfl ?_
    refine a_getR (ci := 4) (j := 7) dX4_clear_19 (kdB hb rfl) rfl (by decide) rfl fl_4_33 ?_
    refine a_iload_n dX4_clear_22 rfl ?_
    refine a_iconst (v := 0) dX4_clear_23 (by decide) ?_
    refine a_iastore dX4_clear_24 (kdB hb rfl) (vp_in_nI hlt (by decide)) ?_
    refine a_aload_n dX4_clear_25 rfl ?_
    refine a_getR (ci := 4) (j := 8) dX4_clear_26 (kdB hb rfl) rfl (by decide) rfl fl_4_36 ?_
    refine a_iload_n dX4_clear_29 rfl ?_
    refine a_iconst (v := 0) dX4_clear_30 (by decide) ?_
    refine a_iastore dX4_clear_31 (kdB hb rfl) (vp_in_nI hlt (by decide)) ?_
    refine a_aload_n dX4_clear_32 rfl ?_
    refine a_getR (ci := 4) (j := 9) dX4_clear_33 (kdB hb rfl) rfl (by decide) rfl fl_4_39 ?_
    refine a_iload_n dX4_clear_36 rfl ?_
    refine a_iconst (v := 0) dX4_clear_37 (by decide) ?_
    refine a_iastore dX4_clear_38 (kdB hb rfl) (vp_in_nI hlt (by decide)) ?_
    refine a_aload_n dX4_clear_39 rfl ?_
    refine a_getR (ci := 4) (j := 10) dX4_clear_40 (kdB hb rfl) rfl (by decide) rfl fl_4_42 ?_
    refine a_iload_n dX4_clear_43 rfl ?_
    refine a_iconst (v := 0) dX4_clear_44 (by decide) ?_
    refine a_iastore dX4_clear_45 (kdB hb rfl) (vp_in_nI hlt (by decide)) ?_
    refine a_inc (c := 1) dX4_clear_46 rfl (by decide) (by decide) rfl ?_
    dsimp only [lset]
    refine a_goto dX4_clear_49 (tgt := 12) (by decide) ?_
    rw [hci, clrP_s, nI_1]
    exact l4_clear hb (i + 1) (by omega) hQ
termination_by 6 - i
decreasing_by all_goals omega
theorem c4_clear {l : Launch} {G : GG} {h : AH} {Q : Option Value → AH → Prop} {b : Nat} (hb : isB b) (hQ : Q none (clearP h b)) : Ct l G 0 yX4_clear cX4_clear 2 none [.ref (G.1 b 3)] h Q := by
  refine Ct.of (by decide) (Nat.le_of_ble_eq_true rfl) ?_
  show AW l G 0 RX4 cX4_clear 2 none 0 [some (.ref (G.1 b 3))] [] h Q
  refine a_aload_n dX4_clear_0 rfl ?_
  refine a_iconst (v := 0) dX4_clear_1 (by decide) ?_
  refine a_putI (ci := 4) (j := 11) dX4_clear_2 (kdB hb rfl) rfl (by decide) (by decide) rfl fl_4_49 ?_
  refine a_aload_n dX4_clear_5 rfl ?_
  refine a_iconst (v := 1) dX4_clear_6 (by decide) ?_
  refine a_putI (ci := 4) (j := 12) dX4_clear_7 (kdB hb rfl) rfl (by decide) (by decide) rfl fl_4_45 ?_
  refine a_iconst (v := 0) dX4_clear_10 (by decide) ?_
  refine a_istore_n dX4_clear_11 (by decide) rfl ?_
  dsimp only [lset]
  have e := l4_clear (l := l) (G := G) (h := ui (ui h b 3 11 0) b 3 12 1) hb 0 (by omega) hQ
  rw [clrP_0] at e
  exact e
theorem c4_add {l : Launch} {G : GG} {h : AH} {Q : Option Value → AH → Prop} {b : Nat} (hb : isB b) {x y : Int32} (hn : ¬ h.1 b 3 11 < 0) (hn2 : ¬ 6 ≤ h.1 b 3 11) (hin : vp_in (h.1 b 3 11) 6) (hQ : Q none (addP h b x y)) : Ct l G 0 yX4_add cX4_add 4 none [.ref (G.1 b 3), .int x, .ref (G.1 0 5), .int y] h Q := by
  refine Ct.of (by decide) (Nat.le_of_ble_eq_true rfl) ?_
  show AW l G 0 RX4 cX4_add 4 none 0 [some (.ref (G.1 b 3)), some (.int x), some (.ref (G.1 0 5)), some (.int y)] [] h Q
  have hb0 : (0 : Nat) ≠ b := by rcases hb with rfl | rfl <;> decide
  refine a_aload_n dX4_add_0 rfl ?_
  refine a_getI (ci := 4) (j := 11) dX4_add_1 (kdB hb rfl) rfl (by decide) rfl fl_4_49 ?_
  refine a_if_lt dX4_add_4 (tgt := 22) (by decide) (fun c4 => ?_) (fun c4 => ?_)
  · exact absurd c4 hn
  · refine a_aload_n dX4_add_7 rfl ?_
    refine a_getI (ci := 4) (j := 11) dX4_add_8 (kdB hb rfl) rfl (by decide) rfl fl_4_49 ?_
    refine a_bipush (v := 6) dX4_add_11 (by decide) ?_
    refine a_icmp_ge dX4_add_13 (tgt := 22) (by decide) (fun c13 => ?_) (fun c13 => ?_)
    · exact absurd c13 hn2
    · refine a_aload_n dX4_add_16 rfl ?_
      refine a_alen (v := 5) dX4_add_17 rfl (Or.inl rfl) (by decide) ?_
      refine a_iconst (v := 5) dX4_add_18 (by decide) ?_
      refine a_icmp_ge dX4_add_19 (tgt := 23) (by decide) (fun c19 => ?_) (fun c19 => ?_)
      · refine a_aload_n dX4_add_23 rfl ?_
        refine a_getR (ci := 4) (j := 0) dX4_add_24 (kdB hb rfl) rfl (by decide) rfl fl_4_9 ?_
        refine a_aload_n dX4_add_27 rfl ?_
        refine a_getI (ci := 4) (j := 11) dX4_add_28 (kdB hb rfl) rfl (by decide) rfl fl_4_49 ?_
        refine a_iload_n dX4_add_31 rfl ?_
        refine a_iastore dX4_add_32 (kdB hb rfl) (by assumption) ?_
        refine a_aload_n dX4_add_33 rfl ?_
        refine a_getR (ci := 4) (j := 1) dX4_add_34 (kdB hb rfl) rfl (by decide) rfl fl_4_15 ?_
        refine a_aload_n dX4_add_37 rfl ?_
        refine a_getI (ci := 4) (j := 11) dX4_add_38 (kdB hb rfl) rfl (by decide) rfl fl_4_49 ?_
        try simp (disch := first | decide | assumption | omega) only [ui_eq, ui_k, ui_j, ui_b, ui_2, ul_1, ul_eq, ul_k, ul_j, ul_b]
        refine a_aload_n dX4_add_41 rfl ?_
        refine a_iconst (v := 0) dX4_add_42 (by decide) ?_
        refine a_iaload dX4_add_43 rfl (by rw [vp_in_iff]; decide) ?_
        try simp (disch := first | decide | assumption | omega) only [ui_eq, ui_k, ui_j, ui_b, ui_2, ul_1, ul_eq, ul_k, ul_j, ul_b]
        refine a_iastore dX4_add_44 (kdB hb rfl) (by assumption) ?_
        refine a_aload_n dX4_add_45 rfl ?_
        refine a_getR (ci := 4) (j := 2) dX4_add_46 (kdB hb rfl) rfl (by decide) rfl fl_4_18 ?_
        refine a_aload_n dX4_add_49 rfl ?_
        refine a_getI (ci := 4) (j := 11) dX4_add_50 (kdB hb rfl) rfl (by decide) rfl fl_4_49 ?_
        try simp (disch := first | decide | assumption | omega) only [ui_eq, ui_k, ui_j, ui_b, ui_2, ul_1, ul_eq, ul_k, ul_j, ul_b]
        refine a_aload_n dX4_add_53 rfl ?_
        refine a_iconst (v := 1) dX4_add_54 (by decide) ?_
        refine a_iaload dX4_add_55 rfl (by rw [vp_in_iff]; decide) ?_
        try simp (disch := first | decide | assumption | omega) only [ui_eq, ui_k, ui_j, ui_b, ui_2, ul_1, ul_eq, ul_k, ul_j, ul_b]
        refine a_iastore dX4_add_56 (kdB hb rfl) (by assumption) ?_
        refine a_aload_n dX4_add_57 rfl ?_
        refine a_getR (ci := 4) (j := 3) dX4_add_58 (kdB hb rfl) rfl (by decide) rfl fl_4_21 ?_
        refine a_aload_n dX4_add_61 rfl ?_
        refine a_getI (ci := 4) (j := 11) dX4_add_62 (kdB hb rfl) rfl (by decide) rfl fl_4_49 ?_
        try simp (disch := first | decide | assumption | omega) only [ui_eq, ui_k, ui_j, ui_b, ui_2, ul_1, ul_eq, ul_k, ul_j, ul_b]
        refine a_aload_n dX4_add_65 rfl ?_
        refine a_iconst (v := 2) dX4_add_66 (by decide) ?_
        refine a_iaload dX4_add_67 rfl (by rw [vp_in_iff]; decide) ?_
        try simp (disch := first | decide | assumption | omega) only [ui_eq, ui_k, ui_j, ui_b, ui_2, ul_1, ul_eq, ul_k, ul_j, ul_b]
        refine a_iastore dX4_add_68 (kdB hb rfl) (by assumption) ?_
        refine a_aload_n dX4_add_69 rfl ?_
        refine a_getR (ci := 4) (j := 4) dX4_add_70 (kdB hb rfl) rfl (by decide) rfl fl_4_24 ?_
        refine a_aload_n dX4_add_73 rfl ?_
        refine a_getI (ci := 4) (j := 11) dX4_add_74 (kdB hb rfl) rfl (by decide) rfl fl_4_49 ?_
        try simp (disch := first | decide | assumption | omega) only [ui_eq, ui_k, ui_j, ui_b, ui_2, ul_1, ul_eq, ul_k, ul_j, ul_b]
        refine a_aload_n dX4_add_77 rfl ?_
        refine a_iconst (v := 3) dX4_add_78 (by decide) ?_
        refine a_iaload dX4_add_79 rfl (by rw [vp_in_iff]; decide) ?_
        try simp (disch := first | decide | assumption | omega) only [ui_eq, ui_k, ui_j, ui_b, ui_2, ul_1, ul_eq, ul_k, ul_j, ul_b]
        refine a_iastore dX4_add_80 (kdB hb rfl) (by assumption) ?_
        refine a_aload_n dX4_add_81 rfl ?_
        refine a_getR (ci := 4) (j := 5) dX4_add_82 (kdB hb rfl) rfl (by decide) rfl fl_4_27 ?_
        refine a_aload_n dX4_add_85 rfl ?_
        refine a_getI (ci := 4) (j := 11) dX4_add_86 (kdB hb rfl) rfl (by decide) rfl fl_4_49 ?_
        try simp (disch := first | decide | assumption | omega) only [ui_eq, ui_k, ui_j, ui_b, ui_2, ul_1, ul_eq, ul_k, ul_j, ul_b]
        refine a_aload_n dX4_add_89 rfl ?_
        refine a_iconst (v := 4) dX4_add_90 (by decide) ?_
        refine a_iaload dX4_add_91 rfl (by rw [vp_in_iff]; decide) ?_
        try simp (disch := first | decide | assumption | omega) only [ui_eq, ui_k, ui_j, ui_b, ui_2, ul_1, ul_eq, ul_k, ul_j, ul_b]
        refine a_iastore dX4_add_92 (kdB hb rfl) (by assumption) ?_
        refine a_aload_n dX4_add_93 rfl ?_
        refine a_getR (ci := 4) (j := 6) dX4_add_94 (kdB hb rfl) rfl (by decide) rfl fl_4_30 ?_
        refine a_aload_n dX4_add_97 rfl ?_
        refine a_getI (ci := 4) (j := 11) dX4_add_98 (kdB hb rfl) rfl (by decide) rfl fl_4_49 ?_
        try simp (disch := first | decide | assumption | omega) only [ui_eq, ui_k, ui_j, ui_b, ui_2, ul_1, ul_eq, ul_k, ul_j, ul_b]
        refine a_iload_n dX4_add_101 rfl ?_
        refine a_iastore dX4_add_102 (kdB hb rfl) (by assumption) ?_
        refine a_aload_n dX4_add_103 rfl ?_
        refine a_dup dX4_add_104 rfl ?_
        refine a_getI (ci := 4) (j := 11) dX4_add_105 (kdB hb rfl) rfl (by decide) rfl fl_4_49 ?_
        try simp (disch := first | decide | assumption | omega) only [ui_eq, ui_k, ui_j, ui_b, ui_2, ul_1, ul_eq, ul_k, ul_j, ul_b]
        refine a_iconst (v := 1) dX4_add_108 (by decide) ?_
        refine a_iadd dX4_add_109 ?_
        refine a_putI (ci := 4) (j := 11) dX4_add_110 (kdB hb rfl) rfl (by decide) (by decide) rfl fl_4_49 ?_
        exact a_vret dX4_add_113 rfl (by simpa [addP] using hQ)
      · exact absurd (by decide) c19
