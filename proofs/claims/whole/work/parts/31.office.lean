/-! the office -/
def WB (h : AH) (b nl np nq nt ax ak : Nat) : Prop := isB b ∧ (h.1 0 0 3).toNatClampNeg = b ∧ h.1 b 1 1 = nI nl ∧ nl ≤ 8 ∧ h.1 b 3 11 = nI np ∧ np ≤ 6 ∧ h.1 b 15 5 = nI nq ∧ nq ≤ 8 ∧ h.1 b 21 9 = nI nt ∧ nt ≤ 40 ∧ h.1 b 31 3 = nI ax ∧ ax < 10 ∧ h.1 b 31 4 = nI ak ∧ ak ≤ 10
theorem keepF_blk {h : AH} {b b' : Nat} {x y z : Int32} (hn : b' ≠ b) : (keepF h b x y z).1 b' = h.1 b' := by
  unfold keepF
  rw [ui_blk hn, ui_blk hn, ui_blk hn, ui_blk hn, ui_blk hn]
theorem keepF_k {h : AH} {b b' k j : Nat} {x y z : Int32} (h1 : k ≠ 31) (h2 : k ≠ 32) (h3 : k ≠ 33) (h4 : k ≠ 34) : (keepF h b x y z).1 b' k j = h.1 b' k j := by
  unfold keepF
  rw [ui_k h1, ui_k h1, ui_k h4, ui_k h3, ui_k h2]
theorem giveF_blk {h : AH} {b b' : Nat} {x la t : Int32} (hn : b' ≠ b) : (giveF h b x la t).1 b' = h.1 b' := by
  unfold giveF
  repeat' split
  all_goals first | rfl | (simp only []; simp (disch := assumption) only [ui_blk])
theorem finF_blk {h : AH} {b b' : Nat} {x : Int32} (hn : b' ≠ b) : (finF h b x).1 b' = h.1 b' := by
  unfold finF
  split
  · rfl
  · split
    · rfl
    · simp only []
      simp (disch := assumption) only [ui_blk, giveF_blk]
/-- finish() leaves what the acts hold -/
theorem finF_k {h : AH} {b b' k j : Nat} {x : Int32} (h1 : 30 < k) : (finF h b x).1 b' k j = h.1 b' k j := by
  unfold finF
  split
  · rfl
  · split
    · rfl
    · simp only []
      simp (disch := omega) only [ui_k, giveF_k]
theorem finF_c {h : AH} {b b' k j : Nat} {x : Int32} (h1 : k = 0 ∨ k = 28) : (finF h b x).1 b' k j = h.1 b' k j := by
  unfold finF
  split
  · rfl
  · split
    · rfl
    · simp only []
      simp (disch := omega) only [ui_k, giveF_k]
theorem moveF_blk {h : AH} {b b' : Nat} {x y : Int32} (hn : b' ≠ b) : (moveF h b x y).1 b' = h.1 b' := by
  unfold moveF
  split
  · rfl
  · rw [ui_blk hn, ui_blk hn]
theorem moveF_k {h : AH} {b b' k j : Nat} {x y : Int32} (h1 : k ≠ 12) (h2 : k ≠ 14) : (moveF h b x y).1 b' k j = h.1 b' k j := by
  unfold moveF
  split
  · rfl
  · rw [ui_k h2, ui_k h1]
theorem addT_blk {h : AH} {b b' : Nat} {x y z u : Int32} (hn : b' ≠ b) : (addT h b x y z u).1 b' = h.1 b' := by
  unfold addT
  simp only []
  simp (disch := assumption) only [ui_blk]
theorem addT_k {h : AH} {b b' k j : Nat} {x y z u : Int32} (h1 : k < 21 ∨ 30 < k) : (addT h b x y z u).1 b' k j = h.1 b' k j := by
  unfold addT
  simp only []
  simp (disch := omega) only [ui_k]
theorem sendF_blk {h : AH} {b b' : Nat} {x y : Int32} (hn : b' ≠ b) : (sendF h b x y).1 b' = h.1 b' := by
  unfold sendF
  repeat' split
  all_goals first | rfl | simp (disch := assumption) only [ui_blk]
theorem sendF_k {h : AH} {b b' k j : Nat} {x y : Int32} (h1 : k ≠ 26) (h2 : k ≠ 27) (h3 : k ≠ 28) (h4 : k ≠ 11) : (sendF h b x y).1 b' k j = h.1 b' k j := by
  unfold sendF
  repeat' split
  all_goals first | rfl | simp (disch := assumption) only [ui_k]
theorem takeF_blk {h : AH} {b b' : Nat} (hn : b' ≠ b) : (takeF h b).1 b' = h.1 b' := by
  unfold takeF
  rw [ui_blk hn, ui_blk hn]
theorem takeF_k {h : AH} {b b' k j : Nat} (h1 : k ≠ 31) : (takeF h b).1 b' k j = h.1 b' k j := by
  unfold takeF
  rw [ui_k h1, ui_k h1]
theorem DM_blk {h : AH} {d : Nat → Int64} {m : Nat → Int32} {b : Nat} (hn : b ≠ 0) : (DM h d m).1 b = h.1 b := by
  rw [DM, setL_1, setI_blk hn]
theorem PS_blk {h : AH} {s : S4} {b : Nat} (hn : b ≠ 0) : (PS h s).1 b = h.1 b := by rw [PS, DM_blk hn, setI_blk hn, setI_blk hn]
theorem PS_k {h : AH} {s : S4} {b k : Nat} (h1 : k ≠ 10) (h2 : k ≠ 11) (h3 : k ≠ 13) : (PS h s).1 b k = h.1 b k := by rw [PS, DM_1 h3, setI_k h2, setI_k h1]
theorem solveF_blk {h : AH} {w b : Nat} (hn : b ≠ 0) : (solveF h w).1 b = h.1 b := by rw [solveF, ui_blk hn, PS_blk hn]
theorem solveF_k {h : AH} {w b k j : Nat} (h1 : k ≠ 10) (h2 : k ≠ 11) (h3 : k ≠ 13) (h4 : k ≠ 6) : (solveF h w).1 b k j = h.1 b k j := by rw [solveF, ui_k h4, PS_k h1 h2 h3]
theorem solveF_w {h : AH} {w : Nat} : (solveF h w).1 0 6 7 = h.1 0 6 7 := by rw [solveF, ui_j (by decide), PS_k (by decide) (by decide) (by decide)]
theorem solveF_n {h : AH} {w : Nat} : (solveF h w).1 0 6 8 = cneI (solG (h.2 0 8) (sol0 h w) w).2.1 6 w := by rw [solveF, ui_eq]
theorem solveF_g {h : AH} {w : Nat} : (solveF h w).1 0 11 = (solG (h.2 0 8) (sol0 h w) w).2.1 := by
  funext j
  rw [solveF, ui_k (by decide), PS, DM_1 (by decide), setI_f]
theorem setUpF_blk {h : AH} {b n b' : Nat} (hn : b' ≠ 0) : (setUpF h b n).1 b' = h.1 b' := by rw [setUpF, ui_blk hn, setI_blk hn, setL_1, colH_b hn]
theorem setUpF_k {h : AH} {b n b' k j : Nat} (h1 : k ≠ 6) (h2 : k ≠ 7) (h3 : k ≠ 9) : (setUpF h b n).1 b' k j = h.1 b' k j := by rw [setUpF, ui_k h3, setI_k h3, setL_1, colH_1 h1 h2]
theorem setUpF_w {h : AH} {b n : Nat} : (setUpF h b n).1 0 6 7 = nI (colG (h.1 b 26) (h.1 0 7) n).2 := by rw [setUpF, ui_k (by decide), setI_k (by decide), setL_1, colH_w]
theorem solG_rng {P : Nat → Int64} {h : AH} (hg : rngG (h.1 0 11)) (w k : Nat) (hk : k ≤ 8) : rngG (solG P (sol0 h w) k).2.1 := solG_r (P := P) (s0 := sol0 h w) (show rngG (sol0 h w).2.1 from rng0 hg w) k hk
def feedF (h : AH) (L : Nat) (a b c d e : Int32) : AH := putF (putF (putF (putF (putF h a L) b (L + 4)) c (L + 8)) d (L + 12)) e (L + 16)
theorem putF_L {h : AH} {x : Int32} {L : Nat} : (putF h x L).1 0 1 1 = nI (L + 4) := by
  unfold putF
  rw [ui_eq]
theorem c10_feed {l : Launch} {G : GG} {h : AH} {Q : Option Value → AH → Prop} {L : Nat} (hL : h.1 0 1 1 = nI L) (h740 : L ≤ 740) {x0 x1 x2 x3 x4 : Int32} (hQ : if L + 20 ≤ 740 then Q (some (.int (nI (L + 20)))) (feedF h L x0 x1 x2 x3 x4) else Q (some (.int (-1))) h) : Ct l G 1 yX10_feed cX10_feed 6 (some .int) [.ref (G.1 0 0), .int x0, .int x1, .int x2, .int x3, .int x4] h Q := by
  refine Ct.of (by decide) (Nat.le_of_ble_eq_true rfl) ?_
  show AW l G 1 RX10 cX10_feed 6 (some .int) 0 [some (.ref (G.1 0 0)), some (.int x0), some (.int x1), some (.int x2), some (.int x3), some (.int x4)] [] h Q
  have e20 : nI L + 20 = nI (L + 20) := nI_add L 20
  refine a_aload_n dX10_feed_0 rfl ?_
  refine a_getR (ci := 10) (j := 0) dX10_feed_1 rfl rfl (by decide) rfl fl_10_10 ?_
  refine a_getI (ci := 7) (j := 1) dX10_feed_4 rfl rfl (by decide) rfl fl_10_47 ?_
  try simp (disch := first | decide | assumption | omega) only [ui_eq, ui_k, ui_j, ui_b, ui_2, ul_1, ul_eq, ul_k, ul_j, ul_b, hL, putF_L]
  refine a_bipush (v := 20) dX10_feed_7 (by decide) ?_
  refine a_iadd dX10_feed_9 ?_
  refine a_sipush (v := 740) dX10_feed_10 (by decide) ?_
  refine a_icmp_le dX10_feed_13 (tgt := 18) (by decide) (fun c13 => ?_) (fun c13 => ?_)
  · have hle : L + 20 ≤ 740 := (nI_leI (b := 740) (by omega) (by decide)).mp (by rw [← e20]; exact c13)
    rw [if_pos hle] at hQ
    refine a_aload_n dX10_feed_18 rfl ?_
    refine a_getR (ci := 10) (j := 0) dX10_feed_19 rfl rfl (by decide) rfl fl_10_10 ?_
    refine a_iload_n dX10_feed_22 rfl ?_
    refine a_cV1v dX10_feed_23 ml_10_51 wv_7_putNumber rfl rfl (by decide) (Nat.le_of_ble_eq_true rfl) (c7_putNumber hL (by omega) ⟨rfl, rfl⟩) ?_
    try simp (disch := first | decide | assumption | omega) only [ui_eq, ui_k, ui_j, ui_b, ui_2, ul_1, ul_eq, ul_k, ul_j, ul_b, hL, putF_L]
    refine a_aload_n dX10_feed_26 rfl ?_
    refine a_getR (ci := 10) (j := 0) dX10_feed_27 rfl rfl (by decide) rfl fl_10_10 ?_
    refine a_iload_n dX10_feed_30 rfl ?_
    refine a_cV1v dX10_feed_31 ml_10_51 wv_7_putNumber rfl rfl (by decide) (Nat.le_of_ble_eq_true rfl) (c7_putNumber putF_L (by omega) ⟨rfl, rfl⟩) ?_
    try simp (disch := first | decide | assumption | omega) only [ui_eq, ui_k, ui_j, ui_b, ui_2, ul_1, ul_eq, ul_k, ul_j, ul_b, hL, putF_L]
    refine a_aload_n dX10_feed_34 rfl ?_
    refine a_getR (ci := 10) (j := 0) dX10_feed_35 rfl rfl (by decide) rfl fl_10_10 ?_
    refine a_iload_n dX10_feed_38 rfl ?_
    refine a_cV1v dX10_feed_39 ml_10_51 wv_7_putNumber rfl rfl (by decide) (Nat.le_of_ble_eq_true rfl) (c7_putNumber putF_L (by omega) ⟨rfl, rfl⟩) ?_
    try simp (disch := first | decide | assumption | omega) only [ui_eq, ui_k, ui_j, ui_b, ui_2, ul_1, ul_eq, ul_k, ul_j, ul_b, hL, putF_L]
    refine a_aload_n dX10_feed_42 rfl ?_
    refine a_getR (ci := 10) (j := 0) dX10_feed_43 rfl rfl (by decide) rfl fl_10_10 ?_
    refine a_iload dX10_feed_46 rfl ?_
    refine a_cV1v dX10_feed_48 ml_10_51 wv_7_putNumber rfl rfl (by decide) (Nat.le_of_ble_eq_true rfl) (c7_putNumber putF_L (by omega) ⟨rfl, rfl⟩) ?_
    try simp (disch := first | decide | assumption | omega) only [ui_eq, ui_k, ui_j, ui_b, ui_2, ul_1, ul_eq, ul_k, ul_j, ul_b, hL, putF_L]
    refine a_aload_n dX10_feed_51 rfl ?_
    refine a_getR (ci := 10) (j := 0) dX10_feed_52 rfl rfl (by decide) rfl fl_10_10 ?_
    refine a_iload dX10_feed_55 rfl ?_
    refine a_cV1v dX10_feed_57 ml_10_51 wv_7_putNumber rfl rfl (by decide) (Nat.le_of_ble_eq_true rfl) (c7_putNumber putF_L (by omega) ⟨rfl, rfl⟩) ?_
    try simp (disch := first | decide | assumption | omega) only [ui_eq, ui_k, ui_j, ui_b, ui_2, ul_1, ul_eq, ul_k, ul_j, ul_b, hL, putF_L]
    refine a_aload_n dX10_feed_60 rfl ?_
    refine a_getR (ci := 10) (j := 0) dX10_feed_61 rfl rfl (by decide) rfl fl_10_10 ?_
    refine a_getI (ci := 7) (j := 1) dX10_feed_64 rfl rfl (by decide) rfl fl_10_47 ?_
    try simp (disch := first | decide | assumption | omega) only [ui_eq, ui_k, ui_j, ui_b, ui_2, ul_1, ul_eq, ul_k, ul_j, ul_b, hL, putF_L]
    exact a_iret dX10_feed_67 rfl hQ
  · have hle : ¬ L + 20 ≤ 740 := fun z => c13 (by rw [e20]; exact (nI_leI (b := 740) (by omega) (by decide)).mpr z)
    rw [if_neg hle] at hQ
    refine a_iconst (v := (-1)) dX10_feed_16 (by decide) ?_
    exact a_iret dX10_feed_17 rfl hQ
theorem c10_end {l : Launch} {G : GG} {h : AH} {Q : Option Value → AH → Prop} {x : Int32} (hQ : if x < 0 then Q (some (.int 0)) h else if x ≤ h.1 0 1 1 then Q (some (.int 1)) (ui h 0 1 1 x) else Q (some (.int 0)) h) : Ct l G 0 yX10_end cX10_end 2 (some .boolean) [.ref (G.1 0 0), .int x] h Q := by
  refine Ct.of (by decide) (Nat.le_of_ble_eq_true rfl) ?_
  show AW l G 0 RX10 cX10_end 2 (some .boolean) 0 [some (.ref (G.1 0 0)), some (.int x)] [] h Q
  refine a_iload_n dX10_end_0 rfl ?_
  refine a_if_lt dX10_end_1 (tgt := 15) (by decide) (fun c1 => ?_) (fun c1 => ?_)
  · refine a_iconst (v := 0) dX10_end_15 (by decide) ?_
    exact a_zret dX10_end_16 rfl rfl (by simp only [c1, if_true, if_false, not_true_eq_false, not_false_eq_true, Classical.not_not] at hQ ⊢; exact hQ)
  · refine a_iload_n dX10_end_4 rfl ?_
    refine a_aload_n dX10_end_5 rfl ?_
    refine a_getR (ci := 10) (j := 0) dX10_end_6 rfl rfl (by decide) rfl fl_10_10 ?_
    refine a_getI (ci := 7) (j := 1) dX10_end_9 rfl rfl (by decide) rfl fl_10_47 ?_
    refine a_icmp_le dX10_end_12 (tgt := 17) (by decide) (fun c12 => ?_) (fun c12 => ?_)
    · refine a_aload_n dX10_end_17 rfl ?_
      refine a_getR (ci := 10) (j := 0) dX10_end_18 rfl rfl (by decide) rfl fl_10_10 ?_
      refine a_iload_n dX10_end_21 rfl ?_
      refine a_putI (ci := 7) (j := 1) dX10_end_22 rfl rfl (by decide) (by decide) rfl fl_10_47 ?_
      refine a_iconst (v := 1) dX10_end_25 (by decide) ?_
      exact a_zret dX10_end_26 rfl rfl (by simp only [c1, c12, if_true, if_false, not_true_eq_false, not_false_eq_true, Classical.not_not] at hQ ⊢; exact hQ)
    · refine a_iconst (v := 0) dX10_end_15 (by decide) ?_
      exact a_zret dX10_end_16 rfl rfl (by simp only [c1, c12, if_true, if_false, not_true_eq_false, not_false_eq_true, Classical.not_not] at hQ ⊢; exact hQ)
theorem c10_fault {l : Launch} {G : GG} {h : AH} {Q : Option Value → AH → Prop}  (hQ : Q (some (.int (h.1 0 0 5))) h) : Ct l G 0 yX10_fault cX10_fault 1 (some .int) [.ref (G.1 0 0)] h Q := by
  refine Ct.of (by decide) (Nat.le_of_ble_eq_true rfl) ?_
  show AW l G 0 RX10 cX10_fault 1 (some .int) 0 [some (.ref (G.1 0 0))] [] h Q
  refine a_aload_n dX10_fault_0 rfl ?_
  refine a_getI (ci := 10) (j := 5) dX10_fault_1 rfl rfl (by decide) rfl fl_10_65 ?_
  exact a_iret dX10_fault_4 rfl hQ
def nowF (h : AH) (b nq nt : Nat) (x : Int32) : Int32 :=
  if x = 0 then h.1 b 0 5 else if x = 1 then h.1 b 1 1 else if x = 2 then h.1 b 3 11 else if x = 3 then h.1 b 15 5 else if x = 4 then h.1 b 21 9 else if x = 5 then cntI (h.1 b 26) 0 nt else if x = 6 then cntI (h.1 b 26) 1 nt else
  if x = 7 then h.1 b 1 2 else if x = 8 then sumI (h.1 b 19) nq else if x = 9 then h.1 b 31 4 else if x = 10 then h.1 0 1 1 else -1
def typeF (h : AH) (b : Nat) (x y : Int32) : Int32 := if hasI (h.1 b 3 11) x = 0 then -1 else
  if y = 0 then h.1 b 4 x.toNatClampNeg else if y = 1 then h.1 b 5 x.toNatClampNeg else if y = 2 then h.1 b 6 x.toNatClampNeg else if y = 3 then h.1 b 7 x.toNatClampNeg else if y = 4 then h.1 b 8 x.toNatClampNeg else if y = 5 then h.1 b 9 x.toNatClampNeg else if y = 6 then h.1 b 10 x.toNatClampNeg else if y = 7 then freeF h b x else -1
def ledgF (h : AH) (b : Nat) (x y : Int32) : Int32 := if hasI (h.1 b 3 11) x = 0 then -1 else
  if y = 0 then inF h b x else if y = 1 then outF h b x else if y = 2 then h.1 b 12 x.toNatClampNeg else if y = 3 then h.1 b 13 x.toNatClampNeg else if y = 4 then h.1 b 14 x.toNatClampNeg else if y = 5 then reisF h b x else -1
def tripF (h : AH) (b : Nat) (x y : Int32) : Int32 := if hasI (h.1 b 21 9) x = 0 then -1 else
  if y = 0 then h.1 b 22 x.toNatClampNeg else if y = 1 then h.1 b 23 x.toNatClampNeg else if y = 2 then h.1 b 26 x.toNatClampNeg else if y = 3 then h.1 b 27 x.toNatClampNeg else if y = 4 then h.1 b 28 x.toNatClampNeg else if y = 5 then h.1 b 29 x.toNatClampNeg else if y = 6 then h.1 b 30 x.toNatClampNeg else if 10 ≤ y then landF h b x (y - 10) else -1
def lawF (h : AH) (b : Nat) (x y : Int32) : Int32 := if hasI (h.1 b 15 5) x = 0 then -1 else if hasI (h.1 b 1 1) y = 0 then -1 else judgeF h b x y
theorem c10_now {l : Launch} {G : GG} {h : AH} {Q : Option Value → AH → Prop} {b nl np nq nt ax ak : Nat} (hW : WB h b nl np nq nt ax ak) {x : Int32} (hQ : Q (some (.int (nowF h b nq nt x))) h) : Ct l G 1 yX10_now cX10_now 2 (some .int) [.ref (G.1 0 0), .int x] h Q := by
  refine Ct.of (by decide) (Nat.le_of_ble_eq_true rfl) ?_
  show AW l G 1 RX10 cX10_now 2 (some .int) 0 [some (.ref (G.1 0 0)), some (.int x)] [] h Q
  obtain ⟨hb, hbk, hnl, hl8, hnp, hp6, hnq, hq8, hnt, ht40, hax, hax10, hak, hak10⟩ := id hW
  have hl : (h.1 b 1 1).toInt ≤ 8 := toNat_le hnl 8 hl8 (by decide)
  have hp : (h.1 b 3 11).toInt ≤ 6 := toNat_le hnp 6 hp6 (by decide)
  have hq : (h.1 b 15 5).toInt ≤ 8 := toNat_le hnq 8 hq8 (by decide)
  have ht : (h.1 b 21 9).toInt ≤ 40 := toNat_le hnt 40 ht40 (by decide)
  have hb0 : (0 : Nat) ≠ b := isB0' hb
  have hb1 : b ≠ 0 := isB0 hb
  refine a_iload_n dX10_now_0 rfl ?_
  by_cases s1_0 : x = 0
  · rw [s1_0]
    refine a_tableIn dX10_now_1 (off := 59) (by decide) (by decide) (by decide) (tgt := 60) (by decide) ?_
    refine a_aload_n dX10_now_60 rfl ?_
    refine a_getD (ci := 10) (j := 3) dX10_now_61 rfl rfl (by decide) rfl fl_10_40 (bb := b) (by first | exact hbk | (simp (disch := first | decide | assumption | omega) only [ui_eq, ui_k, ui_j, ui_b, keepF_blk, finF_blk, moveF_blk, addT_blk, sendF_blk, takeF_blk, solveF_blk, setUpF_blk, keepF_k, finF_k, finF_c, moveF_k, addT_k, sendF_k, takeF_k, solveF_k, setUpF_k, solveF_w, setUpF_w, solveF_n]; exact hbk)) ?_
    refine a_getI (ci := 1) (j := 5) dX10_now_64 (kdB hb rfl) rfl (by decide) rfl fl_10_74 ?_
    try simp (disch := first | decide | assumption | omega) only [ui_eq, ui_k, ui_j, ui_b, ui_2, ul_1, ul_eq, ul_k, ul_j, ul_b, hbk, keepF_blk, finF_blk, moveF_blk, addT_blk, sendF_blk, takeF_blk, solveF_blk, setUpF_blk, keepF_k, finF_k, finF_c, moveF_k, addT_k, sendF_k, takeF_k, solveF_k, setUpF_k, solveF_w, setUpF_w, solveF_n]
    exact a_iret dX10_now_67 rfl (by
  first
    | (simp only [nowF, s1_0, if_true, if_false] at hQ; exact hQ)
    | (simp [nowF, s1_0] at hQ ⊢; exact hQ))
  by_cases s1_1 : x = 1
  · rw [s1_1]
    refine a_tableIn dX10_now_1 (off := 67) (by decide) (by decide) (by decide) (tgt := 68) (by decide) ?_
    refine a_aload_n dX10_now_68 rfl ?_
    refine a_getD (ci := 10) (j := 3) dX10_now_69 rfl rfl (by decide) rfl fl_10_40 (bb := b) (by first | exact hbk | (simp (disch := first | decide | assumption | omega) only [ui_eq, ui_k, ui_j, ui_b, keepF_blk, finF_blk, moveF_blk, addT_blk, sendF_blk, takeF_blk, solveF_blk, setUpF_blk, keepF_k, finF_k, finF_c, moveF_k, addT_k, sendF_k, takeF_k, solveF_k, setUpF_k, solveF_w, setUpF_w, solveF_n]; exact hbk)) ?_
    refine a_getR (ci := 1) (j := 0) dX10_now_72 (kdB hb rfl) rfl (by decide) rfl fl_10_77 ?_
    refine a_getI (ci := 2) (j := 1) dX10_now_75 (kdB hb rfl) rfl (by decide) rfl fl_10_81 ?_
    try simp (disch := first | decide | assumption | omega) only [ui_eq, ui_k, ui_j, ui_b, ui_2, ul_1, ul_eq, ul_k, ul_j, ul_b, hbk, keepF_blk, finF_blk, moveF_blk, addT_blk, sendF_blk, takeF_blk, solveF_blk, setUpF_blk, keepF_k, finF_k, finF_c, moveF_k, addT_k, sendF_k, takeF_k, solveF_k, setUpF_k, solveF_w, setUpF_w, solveF_n]
    exact a_iret dX10_now_78 rfl (by
  first
    | (simp only [nowF, s1_1, if_true, if_false] at hQ; exact hQ)
    | (simp [nowF, s1_1] at hQ ⊢; exact hQ))
  by_cases s1_2 : x = 2
  · rw [s1_2]
    refine a_tableIn dX10_now_1 (off := 78) (by decide) (by decide) (by decide) (tgt := 79) (by decide) ?_
    refine a_aload_n dX10_now_79 rfl ?_
    refine a_getD (ci := 10) (j := 3) dX10_now_80 rfl rfl (by decide) rfl fl_10_40 (bb := b) (by first | exact hbk | (simp (disch := first | decide | assumption | omega) only [ui_eq, ui_k, ui_j, ui_b, keepF_blk, finF_blk, moveF_blk, addT_blk, sendF_blk, takeF_blk, solveF_blk, setUpF_blk, keepF_k, finF_k, finF_c, moveF_k, addT_k, sendF_k, takeF_k, solveF_k, setUpF_k, solveF_w, setUpF_w, solveF_n]; exact hbk)) ?_
    refine a_getR (ci := 1) (j := 1) dX10_now_83 (kdB hb rfl) rfl (by decide) rfl fl_10_86 ?_
    refine a_getI (ci := 4) (j := 11) dX10_now_86 (kdB hb rfl) rfl (by decide) rfl fl_10_90 ?_
    try simp (disch := first | decide | assumption | omega) only [ui_eq, ui_k, ui_j, ui_b, ui_2, ul_1, ul_eq, ul_k, ul_j, ul_b, hbk, keepF_blk, finF_blk, moveF_blk, addT_blk, sendF_blk, takeF_blk, solveF_blk, setUpF_blk, keepF_k, finF_k, finF_c, moveF_k, addT_k, sendF_k, takeF_k, solveF_k, setUpF_k, solveF_w, setUpF_w, solveF_n]
    exact a_iret dX10_now_89 rfl (by
  first
    | (simp only [nowF, s1_2, if_true, if_false] at hQ; exact hQ)
    | (simp [nowF, s1_2] at hQ ⊢; exact hQ))
  by_cases s1_3 : x = 3
  · rw [s1_3]
    refine a_tableIn dX10_now_1 (off := 89) (by decide) (by decide) (by decide) (tgt := 90) (by decide) ?_
    refine a_aload_n dX10_now_90 rfl ?_
    refine a_getD (ci := 10) (j := 3) dX10_now_91 rfl rfl (by decide) rfl fl_10_40 (bb := b) (by first | exact hbk | (simp (disch := first | decide | assumption | omega) only [ui_eq, ui_k, ui_j, ui_b, keepF_blk, finF_blk, moveF_blk, addT_blk, sendF_blk, takeF_blk, solveF_blk, setUpF_blk, keepF_k, finF_k, finF_c, moveF_k, addT_k, sendF_k, takeF_k, solveF_k, setUpF_k, solveF_w, setUpF_w, solveF_n]; exact hbk)) ?_
    refine a_getR (ci := 1) (j := 2) dX10_now_94 (kdB hb rfl) rfl (by decide) rfl fl_10_93 ?_
    refine a_getI (ci := 3) (j := 5) dX10_now_97 (kdB hb rfl) rfl (by decide) rfl fl_10_97 ?_
    try simp (disch := first | decide | assumption | omega) only [ui_eq, ui_k, ui_j, ui_b, ui_2, ul_1, ul_eq, ul_k, ul_j, ul_b, hbk, keepF_blk, finF_blk, moveF_blk, addT_blk, sendF_blk, takeF_blk, solveF_blk, setUpF_blk, keepF_k, finF_k, finF_c, moveF_k, addT_k, sendF_k, takeF_k, solveF_k, setUpF_k, solveF_w, setUpF_w, solveF_n]
    exact a_iret dX10_now_100 rfl (by
  first
    | (simp only [nowF, s1_3, if_true, if_false] at hQ; exact hQ)
    | (simp [nowF, s1_3] at hQ ⊢; exact hQ))
  by_cases s1_4 : x = 4
  · rw [s1_4]
    refine a_tableIn dX10_now_1 (off := 100) (by decide) (by decide) (by decide) (tgt := 101) (by decide) ?_
    refine a_aload_n dX10_now_101 rfl ?_
    refine a_getD (ci := 10) (j := 3) dX10_now_102 rfl rfl (by decide) rfl fl_10_40 (bb := b) (by first | exact hbk | (simp (disch := first | decide | assumption | omega) only [ui_eq, ui_k, ui_j, ui_b, keepF_blk, finF_blk, moveF_blk, addT_blk, sendF_blk, takeF_blk, solveF_blk, setUpF_blk, keepF_k, finF_k, finF_c, moveF_k, addT_k, sendF_k, takeF_k, solveF_k, setUpF_k, solveF_w, setUpF_w, solveF_n]; exact hbk)) ?_
    refine a_getR (ci := 1) (j := 3) dX10_now_105 (kdB hb rfl) rfl (by decide) rfl fl_10_100 ?_
    refine a_getI (ci := 9) (j := 9) dX10_now_108 (kdB hb rfl) rfl (by decide) rfl fl_10_104 ?_
    try simp (disch := first | decide | assumption | omega) only [ui_eq, ui_k, ui_j, ui_b, ui_2, ul_1, ul_eq, ul_k, ul_j, ul_b, hbk, keepF_blk, finF_blk, moveF_blk, addT_blk, sendF_blk, takeF_blk, solveF_blk, setUpF_blk, keepF_k, finF_k, finF_c, moveF_k, addT_k, sendF_k, takeF_k, solveF_k, setUpF_k, solveF_w, setUpF_w, solveF_n]
    exact a_iret dX10_now_111 rfl (by
  first
    | (simp only [nowF, s1_4, if_true, if_false] at hQ; exact hQ)
    | (simp [nowF, s1_4] at hQ ⊢; exact hQ))
  by_cases s1_5 : x = 5
  · rw [s1_5]
    refine a_tableIn dX10_now_1 (off := 111) (by decide) (by decide) (by decide) (tgt := 112) (by decide) ?_
    refine a_aload_n dX10_now_112 rfl ?_
    refine a_getD (ci := 10) (j := 3) dX10_now_113 rfl rfl (by decide) rfl fl_10_40 (bb := b) (by first | exact hbk | (simp (disch := first | decide | assumption | omega) only [ui_eq, ui_k, ui_j, ui_b, keepF_blk, finF_blk, moveF_blk, addT_blk, sendF_blk, takeF_blk, solveF_blk, setUpF_blk, keepF_k, finF_k, finF_c, moveF_k, addT_k, sendF_k, takeF_k, solveF_k, setUpF_k, solveF_w, setUpF_w, solveF_n]; exact hbk)) ?_
    refine a_getR (ci := 1) (j := 3) dX10_now_116 (kdB hb rfl) rfl (by decide) rfl fl_10_100 ?_
    refine a_iconst (v := 0) dX10_now_119 (by decide) ?_
    refine a_cV1i dX10_now_120 ml_10_107 wv_9_countIn (kdB hb rfl) rfl (by decide) (Nat.le_of_ble_eq_true rfl) (c9_countIn hb hnt ht40 ⟨rfl, rfl⟩) ?_
    try simp (disch := first | decide | assumption | omega) only [ui_eq, ui_k, ui_j, ui_b, ui_2, ul_1, ul_eq, ul_k, ul_j, ul_b, hbk, keepF_blk, finF_blk, moveF_blk, addT_blk, sendF_blk, takeF_blk, solveF_blk, setUpF_blk, keepF_k, finF_k, finF_c, moveF_k, addT_k, sendF_k, takeF_k, solveF_k, setUpF_k, solveF_w, setUpF_w, solveF_n]
    exact a_iret dX10_now_123 rfl (by
  first
    | (simp only [nowF, s1_5, if_true, if_false] at hQ; exact hQ)
    | (simp [nowF, s1_5] at hQ ⊢; exact hQ))
  by_cases s1_6 : x = 6
  · rw [s1_6]
    refine a_tableIn dX10_now_1 (off := 123) (by decide) (by decide) (by decide) (tgt := 124) (by decide) ?_
    refine a_aload_n dX10_now_124 rfl ?_
    refine a_getD (ci := 10) (j := 3) dX10_now_125 rfl rfl (by decide) rfl fl_10_40 (bb := b) (by first | exact hbk | (simp (disch := first | decide | assumption | omega) only [ui_eq, ui_k, ui_j, ui_b, keepF_blk, finF_blk, moveF_blk, addT_blk, sendF_blk, takeF_blk, solveF_blk, setUpF_blk, keepF_k, finF_k, finF_c, moveF_k, addT_k, sendF_k, takeF_k, solveF_k, setUpF_k, solveF_w, setUpF_w, solveF_n]; exact hbk)) ?_
    refine a_getR (ci := 1) (j := 3) dX10_now_128 (kdB hb rfl) rfl (by decide) rfl fl_10_100 ?_
    refine a_iconst (v := 1) dX10_now_131 (by decide) ?_
    refine a_cV1i dX10_now_132 ml_10_107 wv_9_countIn (kdB hb rfl) rfl (by decide) (Nat.le_of_ble_eq_true rfl) (c9_countIn hb hnt ht40 ⟨rfl, rfl⟩) ?_
    try simp (disch := first | decide | assumption | omega) only [ui_eq, ui_k, ui_j, ui_b, ui_2, ul_1, ul_eq, ul_k, ul_j, ul_b, hbk, keepF_blk, finF_blk, moveF_blk, addT_blk, sendF_blk, takeF_blk, solveF_blk, setUpF_blk, keepF_k, finF_k, finF_c, moveF_k, addT_k, sendF_k, takeF_k, solveF_k, setUpF_k, solveF_w, setUpF_w, solveF_n]
    exact a_iret dX10_now_135 rfl (by
  first
    | (simp only [nowF, s1_6, if_true, if_false] at hQ; exact hQ)
    | (simp [nowF, s1_6] at hQ ⊢; exact hQ))
  by_cases s1_7 : x = 7
  · rw [s1_7]
    refine a_tableIn dX10_now_1 (off := 135) (by decide) (by decide) (by decide) (tgt := 136) (by decide) ?_
    refine a_aload_n dX10_now_136 rfl ?_
    refine a_getD (ci := 10) (j := 3) dX10_now_137 rfl rfl (by decide) rfl fl_10_40 (bb := b) (by first | exact hbk | (simp (disch := first | decide | assumption | omega) only [ui_eq, ui_k, ui_j, ui_b, keepF_blk, finF_blk, moveF_blk, addT_blk, sendF_blk, takeF_blk, solveF_blk, setUpF_blk, keepF_k, finF_k, finF_c, moveF_k, addT_k, sendF_k, takeF_k, solveF_k, setUpF_k, solveF_w, setUpF_w, solveF_n]; exact hbk)) ?_
    refine a_getR (ci := 1) (j := 0) dX10_now_140 (kdB hb rfl) rfl (by decide) rfl fl_10_77 ?_
    refine a_getI (ci := 2) (j := 2) dX10_now_143 (kdB hb rfl) rfl (by decide) rfl fl_10_111 ?_
    try simp (disch := first | decide | assumption | omega) only [ui_eq, ui_k, ui_j, ui_b, ui_2, ul_1, ul_eq, ul_k, ul_j, ul_b, hbk, keepF_blk, finF_blk, moveF_blk, addT_blk, sendF_blk, takeF_blk, solveF_blk, setUpF_blk, keepF_k, finF_k, finF_c, moveF_k, addT_k, sendF_k, takeF_k, solveF_k, setUpF_k, solveF_w, setUpF_w, solveF_n]
    exact a_iret dX10_now_146 rfl (by
  first
    | (simp only [nowF, s1_7, if_true, if_false] at hQ; exact hQ)
    | (simp [nowF, s1_7] at hQ ⊢; exact hQ))
  by_cases s1_8 : x = 8
  · rw [s1_8]
    refine a_tableIn dX10_now_1 (off := 146) (by decide) (by decide) (by decide) (tgt := 147) (by decide) ?_
    refine a_aload_n dX10_now_147 rfl ?_
    refine a_getD (ci := 10) (j := 3) dX10_now_148 rfl rfl (by decide) rfl fl_10_40 (bb := b) (by first | exact hbk | (simp (disch := first | decide | assumption | omega) only [ui_eq, ui_k, ui_j, ui_b, keepF_blk, finF_blk, moveF_blk, addT_blk, sendF_blk, takeF_blk, solveF_blk, setUpF_blk, keepF_k, finF_k, finF_c, moveF_k, addT_k, sendF_k, takeF_k, solveF_k, setUpF_k, solveF_w, setUpF_w, solveF_n]; exact hbk)) ?_
    refine a_getR (ci := 1) (j := 2) dX10_now_151 (kdB hb rfl) rfl (by decide) rfl fl_10_93 ?_
    refine a_cV0i dX10_now_154 ml_10_114 wv_3_allMisuses (kdB hb rfl) rfl (by decide) (Nat.le_of_ble_eq_true rfl) (c3_allMisuses hb hnq hq8 ⟨rfl, rfl⟩) ?_
    try simp (disch := first | decide | assumption | omega) only [ui_eq, ui_k, ui_j, ui_b, ui_2, ul_1, ul_eq, ul_k, ul_j, ul_b, hbk, keepF_blk, finF_blk, moveF_blk, addT_blk, sendF_blk, takeF_blk, solveF_blk, setUpF_blk, keepF_k, finF_k, finF_c, moveF_k, addT_k, sendF_k, takeF_k, solveF_k, setUpF_k, solveF_w, setUpF_w, solveF_n]
    exact a_iret dX10_now_157 rfl (by
  first
    | (simp only [nowF, s1_8, if_true, if_false] at hQ; exact hQ)
    | (simp [nowF, s1_8] at hQ ⊢; exact hQ))
  by_cases s1_9 : x = 9
  · rw [s1_9]
    refine a_tableIn dX10_now_1 (off := 157) (by decide) (by decide) (by decide) (tgt := 158) (by decide) ?_
    refine a_aload_n dX10_now_158 rfl ?_
    refine a_getD (ci := 10) (j := 3) dX10_now_159 rfl rfl (by decide) rfl fl_10_40 (bb := b) (by first | exact hbk | (simp (disch := first | decide | assumption | omega) only [ui_eq, ui_k, ui_j, ui_b, keepF_blk, finF_blk, moveF_blk, addT_blk, sendF_blk, takeF_blk, solveF_blk, setUpF_blk, keepF_k, finF_k, finF_c, moveF_k, addT_k, sendF_k, takeF_k, solveF_k, setUpF_k, solveF_w, setUpF_w, solveF_n]; exact hbk)) ?_
    refine a_getR (ci := 1) (j := 4) dX10_now_162 (kdB hb rfl) rfl (by decide) rfl fl_10_118 ?_
    refine a_getI (ci := 0) (j := 4) dX10_now_165 (kdB hb rfl) rfl (by decide) rfl fl_10_122 ?_
    try simp (disch := first | decide | assumption | omega) only [ui_eq, ui_k, ui_j, ui_b, ui_2, ul_1, ul_eq, ul_k, ul_j, ul_b, hbk, keepF_blk, finF_blk, moveF_blk, addT_blk, sendF_blk, takeF_blk, solveF_blk, setUpF_blk, keepF_k, finF_k, finF_c, moveF_k, addT_k, sendF_k, takeF_k, solveF_k, setUpF_k, solveF_w, setUpF_w, solveF_n]
    exact a_iret dX10_now_168 rfl (by
  first
    | (simp only [nowF, s1_9, if_true, if_false] at hQ; exact hQ)
    | (simp [nowF, s1_9] at hQ ⊢; exact hQ))
  by_cases s1_10 : x = 10
  · rw [s1_10]
    refine a_tableIn dX10_now_1 (off := 168) (by decide) (by decide) (by decide) (tgt := 169) (by decide) ?_
    refine a_aload_n dX10_now_169 rfl ?_
    refine a_getR (ci := 10) (j := 0) dX10_now_170 rfl rfl (by decide) rfl fl_10_10 ?_
    refine a_getI (ci := 7) (j := 1) dX10_now_173 rfl rfl (by decide) rfl fl_10_47 ?_
    try simp (disch := first | decide | assumption | omega) only [ui_eq, ui_k, ui_j, ui_b, ui_2, ul_1, ul_eq, ul_k, ul_j, ul_b, hbk, keepF_blk, finF_blk, moveF_blk, addT_blk, sendF_blk, takeF_blk, solveF_blk, setUpF_blk, keepF_k, finF_k, finF_c, moveF_k, addT_k, sendF_k, takeF_k, solveF_k, setUpF_k, solveF_w, setUpF_w, solveF_n]
    exact a_iret dX10_now_176 rfl (by
  first
    | (simp only [nowF, s1_10, if_true, if_false] at hQ; exact hQ)
    | (simp [nowF, s1_10] at hQ ⊢; exact hQ))
  refine a_tableOut dX10_now_1 (by have q0 := lv_neT (a := 0) s1_0 (by decide); have q1 := lv_neT (a := 1) s1_1 (by decide); have q2 := lv_neT (a := 2) s1_2 (by decide); have q3 := lv_neT (a := 3) s1_3 (by decide); have q4 := lv_neT (a := 4) s1_4 (by decide); have q5 := lv_neT (a := 5) s1_5 (by decide); have q6 := lv_neT (a := 6) s1_6 (by decide); have q7 := lv_neT (a := 7) s1_7 (by decide); have q8 := lv_neT (a := 8) s1_8 (by decide); have q9 := lv_neT (a := 9) s1_9 (by decide); have q10 := lv_neT (a := 10) s1_10 (by decide); omega) (tgt := 177) (by decide) ?_
  refine a_iconst (v := (-1)) dX10_now_177 (by decide) ?_
  exact a_iret dX10_now_178 rfl (by
  first
    | (simp only [nowF, s1_0, s1_1, s1_2, s1_3, s1_4, s1_5, s1_6, s1_7, s1_8, s1_9, s1_10, if_true, if_false] at hQ; exact hQ)
    | (simp [nowF, s1_0, s1_1, s1_2, s1_3, s1_4, s1_5, s1_6, s1_7, s1_8, s1_9, s1_10] at hQ ⊢; exact hQ))
theorem c10_type {l : Launch} {G : GG} {h : AH} {Q : Option Value → AH → Prop} {b nl np nq nt ax ak : Nat} (hW : WB h b nl np nq nt ax ak) {x y : Int32} (hQ : Q (some (.int (typeF h b x y))) h) : Ct l G 4 yX10_type cX10_type 4 (some .int) [.ref (G.1 0 0), .int x, .int y] h Q := by
  refine Ct.of (by decide) (Nat.le_of_ble_eq_true rfl) ?_
  show AW l G 4 RX10 cX10_type 4 (some .int) 0 [some (.ref (G.1 0 0)), some (.int x), some (.int y)] [] h Q
  obtain ⟨hb, hbk, hnl, hl8, hnp, hp6, hnq, hq8, hnt, ht40, hax, hax10, hak, hak10⟩ := id hW
  have hl : (h.1 b 1 1).toInt ≤ 8 := toNat_le hnl 8 hl8 (by decide)
  have hp : (h.1 b 3 11).toInt ≤ 6 := toNat_le hnp 6 hp6 (by decide)
  have hq : (h.1 b 15 5).toInt ≤ 8 := toNat_le hnq 8 hq8 (by decide)
  have ht : (h.1 b 21 9).toInt ≤ 40 := toNat_le hnt 40 ht40 (by decide)
  have hb0 : (0 : Nat) ≠ b := isB0' hb
  have hb1 : b ≠ 0 := isB0 hb
  refine a_aload_n dX10_type_0 rfl ?_
  refine a_getD (ci := 10) (j := 3) dX10_type_1 rfl rfl (by decide) rfl fl_10_40 (bb := b) (by first | exact hbk | (simp (disch := first | decide | assumption | omega) only [ui_eq, ui_k, ui_j, ui_b, keepF_blk, finF_blk, moveF_blk, addT_blk, sendF_blk, takeF_blk, solveF_blk, setUpF_blk, keepF_k, finF_k, finF_c, moveF_k, addT_k, sendF_k, takeF_k, solveF_k, setUpF_k, solveF_w, setUpF_w, solveF_n]; exact hbk)) ?_
  refine a_getR (ci := 1) (j := 1) dX10_type_4 (kdB hb rfl) rfl (by decide) rfl fl_10_86 ?_
  refine a_astore_n dX10_type_7 (by decide) rfl ?_
  dsimp only [lset]
  refine a_aload_n dX10_type_8 rfl ?_
  refine a_iload_n dX10_type_9 rfl ?_
  refine a_cV1i dX10_type_10 ml_10_127 wv_4_has (kdB hb rfl) rfl (by decide) (Nat.le_of_ble_eq_true rfl) (c4_has hb ⟨rfl, rfl⟩) ?_
  try simp (disch := first | decide | assumption | omega) only [ui_eq, ui_k, ui_j, ui_b, ui_2, ul_1, ul_eq, ul_k, ul_j, ul_b, hbk, keepF_blk, finF_blk, moveF_blk, addT_blk, sendF_blk, takeF_blk, solveF_blk, setUpF_blk, keepF_k, finF_k, finF_c, moveF_k, addT_k, sendF_k, takeF_k, solveF_k, setUpF_k, solveF_w, setUpF_w, solveF_n]
  refine a_if_ne dX10_type_13 (tgt := 18) (by decide) (fun c13 => ?_) (fun c13 => ?_)
  · refine a_iload_n dX10_type_18 rfl ?_
    by_cases s19_0 : y = 0
    · rw [s19_0]
      refine a_tableIn dX10_type_19 (off := 45) (by decide) (by decide) (by decide) (tgt := 64) (by decide) ?_
      refine a_aload_n dX10_type_64 rfl ?_
      refine a_getR (ci := 4) (j := 0) dX10_type_65 (kdB hb rfl) rfl (by decide) rfl fl_10_131 ?_
      refine a_iload_n dX10_type_68 rfl ?_
      refine a_iaload dX10_type_69 (kdB hb rfl) (hasI_in c13 hp) ?_
      try simp (disch := first | decide | assumption | omega) only [ui_eq, ui_k, ui_j, ui_b, ui_2, ul_1, ul_eq, ul_k, ul_j, ul_b, hbk, keepF_blk, finF_blk, moveF_blk, addT_blk, sendF_blk, takeF_blk, solveF_blk, setUpF_blk, keepF_k, finF_k, finF_c, moveF_k, addT_k, sendF_k, takeF_k, solveF_k, setUpF_k, solveF_w, setUpF_w, solveF_n]
      exact a_iret dX10_type_70 rfl (by
  first
    | (simp only [typeF, c13, s19_0, if_true, if_false] at hQ; exact hQ)
    | (simp [typeF, c13, s19_0] at hQ ⊢; exact hQ))
    by_cases s19_1 : y = 1
    · rw [s19_1]
      refine a_tableIn dX10_type_19 (off := 52) (by decide) (by decide) (by decide) (tgt := 71) (by decide) ?_
      refine a_aload_n dX10_type_71 rfl ?_
      refine a_getR (ci := 4) (j := 1) dX10_type_72 (kdB hb rfl) rfl (by decide) rfl fl_10_135 ?_
      refine a_iload_n dX10_type_75 rfl ?_
      refine a_iaload dX10_type_76 (kdB hb rfl) (hasI_in c13 hp) ?_
      try simp (disch := first | decide | assumption | omega) only [ui_eq, ui_k, ui_j, ui_b, ui_2, ul_1, ul_eq, ul_k, ul_j, ul_b, hbk, keepF_blk, finF_blk, moveF_blk, addT_blk, sendF_blk, takeF_blk, solveF_blk, setUpF_blk, keepF_k, finF_k, finF_c, moveF_k, addT_k, sendF_k, takeF_k, solveF_k, setUpF_k, solveF_w, setUpF_w, solveF_n]
      exact a_iret dX10_type_77 rfl (by
  first
    | (simp only [typeF, c13, s19_1, if_true, if_false] at hQ; exact hQ)
    | (simp [typeF, c13, s19_1] at hQ ⊢; exact hQ))
    by_cases s19_2 : y = 2
    · rw [s19_2]
      refine a_tableIn dX10_type_19 (off := 59) (by decide) (by decide) (by decide) (tgt := 78) (by decide) ?_
      refine a_aload_n dX10_type_78 rfl ?_
      refine a_getR (ci := 4) (j := 2) dX10_type_79 (kdB hb rfl) rfl (by decide) rfl fl_10_138 ?_
      refine a_iload_n dX10_type_82 rfl ?_
      refine a_iaload dX10_type_83 (kdB hb rfl) (hasI_in c13 hp) ?_
      try simp (disch := first | decide | assumption | omega) only [ui_eq, ui_k, ui_j, ui_b, ui_2, ul_1, ul_eq, ul_k, ul_j, ul_b, hbk, keepF_blk, finF_blk, moveF_blk, addT_blk, sendF_blk, takeF_blk, solveF_blk, setUpF_blk, keepF_k, finF_k, finF_c, moveF_k, addT_k, sendF_k, takeF_k, solveF_k, setUpF_k, solveF_w, setUpF_w, solveF_n]
      exact a_iret dX10_type_84 rfl (by
  first
    | (simp only [typeF, c13, s19_2, if_true, if_false] at hQ; exact hQ)
    | (simp [typeF, c13, s19_2] at hQ ⊢; exact hQ))
    by_cases s19_3 : y = 3
    · rw [s19_3]
      refine a_tableIn dX10_type_19 (off := 66) (by decide) (by decide) (by decide) (tgt := 85) (by decide) ?_
      refine a_aload_n dX10_type_85 rfl ?_
      refine a_getR (ci := 4) (j := 3) dX10_type_86 (kdB hb rfl) rfl (by decide) rfl fl_10_141 ?_
      refine a_iload_n dX10_type_89 rfl ?_
      refine a_iaload dX10_type_90 (kdB hb rfl) (hasI_in c13 hp) ?_
      try simp (disch := first | decide | assumption | omega) only [ui_eq, ui_k, ui_j, ui_b, ui_2, ul_1, ul_eq, ul_k, ul_j, ul_b, hbk, keepF_blk, finF_blk, moveF_blk, addT_blk, sendF_blk, takeF_blk, solveF_blk, setUpF_blk, keepF_k, finF_k, finF_c, moveF_k, addT_k, sendF_k, takeF_k, solveF_k, setUpF_k, solveF_w, setUpF_w, solveF_n]
      exact a_iret dX10_type_91 rfl (by
  first
    | (simp only [typeF, c13, s19_3, if_true, if_false] at hQ; exact hQ)
    | (simp [typeF, c13, s19_3] at hQ ⊢; exact hQ))
    by_cases s19_4 : y = 4
    · rw [s19_4]
      refine a_tableIn dX10_type_19 (off := 73) (by decide) (by decide) (by decide) (tgt := 92) (by decide) ?_
      refine a_aload_n dX10_type_92 rfl ?_
      refine a_getR (ci := 4) (j := 4) dX10_type_93 (kdB hb rfl) rfl (by decide) rfl fl_10_144 ?_
      refine a_iload_n dX10_type_96 rfl ?_
      refine a_iaload dX10_type_97 (kdB hb rfl) (hasI_in c13 hp) ?_
      try simp (disch := first | decide | assumption | omega) only [ui_eq, ui_k, ui_j, ui_b, ui_2, ul_1, ul_eq, ul_k, ul_j, ul_b, hbk, keepF_blk, finF_blk, moveF_blk, addT_blk, sendF_blk, takeF_blk, solveF_blk, setUpF_blk, keepF_k, finF_k, finF_c, moveF_k, addT_k, sendF_k, takeF_k, solveF_k, setUpF_k, solveF_w, setUpF_w, solveF_n]
      exact a_iret dX10_type_98 rfl (by
  first
    | (simp only [typeF, c13, s19_4, if_true, if_false] at hQ; exact hQ)
    | (simp [typeF, c13, s19_4] at hQ ⊢; exact hQ))
    by_cases s19_5 : y = 5
    · rw [s19_5]
      refine a_tableIn dX10_type_19 (off := 80) (by decide) (by decide) (by decide) (tgt := 99) (by decide) ?_
      refine a_aload_n dX10_type_99 rfl ?_
      refine a_getR (ci := 4) (j := 5) dX10_type_100 (kdB hb rfl) rfl (by decide) rfl fl_10_147 ?_
      refine a_iload_n dX10_type_103 rfl ?_
      refine a_iaload dX10_type_104 (kdB hb rfl) (hasI_in c13 hp) ?_
      try simp (disch := first | decide | assumption | omega) only [ui_eq, ui_k, ui_j, ui_b, ui_2, ul_1, ul_eq, ul_k, ul_j, ul_b, hbk, keepF_blk, finF_blk, moveF_blk, addT_blk, sendF_blk, takeF_blk, solveF_blk, setUpF_blk, keepF_k, finF_k, finF_c, moveF_k, addT_k, sendF_k, takeF_k, solveF_k, setUpF_k, solveF_w, setUpF_w, solveF_n]
      exact a_iret dX10_type_105 rfl (by
  first
    | (simp only [typeF, c13, s19_5, if_true, if_false] at hQ; exact hQ)
    | (simp [typeF, c13, s19_5] at hQ ⊢; exact hQ))
    by_cases s19_6 : y = 6
    · rw [s19_6]
      refine a_tableIn dX10_type_19 (off := 87) (by decide) (by decide) (by decide) (tgt := 106) (by decide) ?_
      refine a_aload_n dX10_type_106 rfl ?_
      refine a_getR (ci := 4) (j := 6) dX10_type_107 (kdB hb rfl) rfl (by decide) rfl fl_10_150 ?_
      refine a_iload_n dX10_type_110 rfl ?_
      refine a_iaload dX10_type_111 (kdB hb rfl) (hasI_in c13 hp) ?_
      try simp (disch := first | decide | assumption | omega) only [ui_eq, ui_k, ui_j, ui_b, ui_2, ul_1, ul_eq, ul_k, ul_j, ul_b, hbk, keepF_blk, finF_blk, moveF_blk, addT_blk, sendF_blk, takeF_blk, solveF_blk, setUpF_blk, keepF_k, finF_k, finF_c, moveF_k, addT_k, sendF_k, takeF_k, solveF_k, setUpF_k, solveF_w, setUpF_w, solveF_n]
      exact a_iret dX10_type_112 rfl (by
  first
    | (simp only [typeF, c13, s19_6, if_true, if_false] at hQ; exact hQ)
    | (simp [typeF, c13, s19_6] at hQ ⊢; exact hQ))
    by_cases s19_7 : y = 7
    · rw [s19_7]
      refine a_tableIn dX10_type_19 (off := 94) (by decide) (by decide) (by decide) (tgt := 113) (by decide) ?_
      refine a_aload_n dX10_type_113 rfl ?_
      refine a_iload_n dX10_type_114 rfl ?_
      refine a_cV1i dX10_type_115 ml_10_153 wv_4_countFree (kdB hb rfl) rfl (by decide) (Nat.le_of_ble_eq_true rfl) (c4_countFree hb (hasI_in c13 hp) ⟨rfl, rfl⟩) ?_
      try simp (disch := first | decide | assumption | omega) only [ui_eq, ui_k, ui_j, ui_b, ui_2, ul_1, ul_eq, ul_k, ul_j, ul_b, hbk, keepF_blk, finF_blk, moveF_blk, addT_blk, sendF_blk, takeF_blk, solveF_blk, setUpF_blk, keepF_k, finF_k, finF_c, moveF_k, addT_k, sendF_k, takeF_k, solveF_k, setUpF_k, solveF_w, setUpF_w, solveF_n]
      exact a_iret dX10_type_118 rfl (by
  first
    | (simp only [typeF, c13, s19_7, if_true, if_false] at hQ; exact hQ)
    | (simp [typeF, c13, s19_7] at hQ ⊢; exact hQ))
    refine a_tableOut dX10_type_19 (by have q0 := lv_neT (a := 0) s19_0 (by decide); have q1 := lv_neT (a := 1) s19_1 (by decide); have q2 := lv_neT (a := 2) s19_2 (by decide); have q3 := lv_neT (a := 3) s19_3 (by decide); have q4 := lv_neT (a := 4) s19_4 (by decide); have q5 := lv_neT (a := 5) s19_5 (by decide); have q6 := lv_neT (a := 6) s19_6 (by decide); have q7 := lv_neT (a := 7) s19_7 (by decide); omega) (tgt := 119) (by decide) ?_
    refine a_iconst (v := (-1)) dX10_type_119 (by decide) ?_
    exact a_iret dX10_type_120 rfl (by
  first
    | (simp only [typeF, c13, s19_0, s19_1, s19_2, s19_3, s19_4, s19_5, s19_6, s19_7, if_true, if_false] at hQ; exact hQ)
    | (simp [typeF, c13, s19_0, s19_1, s19_2, s19_3, s19_4, s19_5, s19_6, s19_7] at hQ ⊢; exact hQ))
  · refine a_iconst (v := (-1)) dX10_type_16 (by decide) ?_
    exact a_iret dX10_type_17 rfl (by
  first
    | (simp only [typeF, c13, if_true, if_false] at hQ; exact hQ)
    | (simp [typeF, c13] at hQ ⊢; exact hQ))
theorem c10_ledger {l : Launch} {G : GG} {h : AH} {Q : Option Value → AH → Prop} {b nl np nq nt ax ak : Nat} (hW : WB h b nl np nq nt ax ak) {x y : Int32} (hQ : Q (some (.int (ledgF h b x y))) h) : Ct l G 3 yX10_ledger cX10_ledger 4 (some .int) [.ref (G.1 0 0), .int x, .int y] h Q := by
  refine Ct.of (by decide) (Nat.le_of_ble_eq_true rfl) ?_
  show AW l G 3 RX10 cX10_ledger 4 (some .int) 0 [some (.ref (G.1 0 0)), some (.int x), some (.int y)] [] h Q
  obtain ⟨hb, hbk, hnl, hl8, hnp, hp6, hnq, hq8, hnt, ht40, hax, hax10, hak, hak10⟩ := id hW
  have hl : (h.1 b 1 1).toInt ≤ 8 := toNat_le hnl 8 hl8 (by decide)
  have hp : (h.1 b 3 11).toInt ≤ 6 := toNat_le hnp 6 hp6 (by decide)
  have hq : (h.1 b 15 5).toInt ≤ 8 := toNat_le hnq 8 hq8 (by decide)
  have ht : (h.1 b 21 9).toInt ≤ 40 := toNat_le hnt 40 ht40 (by decide)
  have hb0 : (0 : Nat) ≠ b := isB0' hb
  have hb1 : b ≠ 0 := isB0 hb
  refine a_aload_n dX10_ledger_0 rfl ?_
  refine a_getD (ci := 10) (j := 3) dX10_ledger_1 rfl rfl (by decide) rfl fl_10_40 (bb := b) (by first | exact hbk | (simp (disch := first | decide | assumption | omega) only [ui_eq, ui_k, ui_j, ui_b, keepF_blk, finF_blk, moveF_blk, addT_blk, sendF_blk, takeF_blk, solveF_blk, setUpF_blk, keepF_k, finF_k, finF_c, moveF_k, addT_k, sendF_k, takeF_k, solveF_k, setUpF_k, solveF_w, setUpF_w, solveF_n]; exact hbk)) ?_
  refine a_getR (ci := 1) (j := 1) dX10_ledger_4 (kdB hb rfl) rfl (by decide) rfl fl_10_86 ?_
  refine a_astore_n dX10_ledger_7 (by decide) rfl ?_
  dsimp only [lset]
  refine a_aload_n dX10_ledger_8 rfl ?_
  refine a_iload_n dX10_ledger_9 rfl ?_
  refine a_cV1i dX10_ledger_10 ml_10_127 wv_4_has (kdB hb rfl) rfl (by decide) (Nat.le_of_ble_eq_true rfl) (c4_has hb ⟨rfl, rfl⟩) ?_
  try simp (disch := first | decide | assumption | omega) only [ui_eq, ui_k, ui_j, ui_b, ui_2, ul_1, ul_eq, ul_k, ul_j, ul_b, hbk, keepF_blk, finF_blk, moveF_blk, addT_blk, sendF_blk, takeF_blk, solveF_blk, setUpF_blk, keepF_k, finF_k, finF_c, moveF_k, addT_k, sendF_k, takeF_k, solveF_k, setUpF_k, solveF_w, setUpF_w, solveF_n]
  refine a_if_ne dX10_ledger_13 (tgt := 18) (by decide) (fun c13 => ?_) (fun c13 => ?_)
  · refine a_iload_n dX10_ledger_18 rfl ?_
    by_cases s19_0 : y = 0
    · rw [s19_0]
      refine a_tableIn dX10_ledger_19 (off := 37) (by decide) (by decide) (by decide) (tgt := 56) (by decide) ?_
      refine a_aload_n dX10_ledger_56 rfl ?_
      refine a_iload_n dX10_ledger_57 rfl ?_
      refine a_cV1i dX10_ledger_58 ml_10_156 wv_4_countIn (kdB hb rfl) rfl (by decide) (Nat.le_of_ble_eq_true rfl) (c4_countIn hb (hasI_in c13 hp) ⟨rfl, rfl⟩) ?_
      try simp (disch := first | decide | assumption | omega) only [ui_eq, ui_k, ui_j, ui_b, ui_2, ul_1, ul_eq, ul_k, ul_j, ul_b, hbk, keepF_blk, finF_blk, moveF_blk, addT_blk, sendF_blk, takeF_blk, solveF_blk, setUpF_blk, keepF_k, finF_k, finF_c, moveF_k, addT_k, sendF_k, takeF_k, solveF_k, setUpF_k, solveF_w, setUpF_w, solveF_n]
      exact a_iret dX10_ledger_61 rfl (by
  first
    | (simp only [ledgF, c13, s19_0, if_true, if_false] at hQ; exact hQ)
    | (simp [ledgF, c13, s19_0] at hQ ⊢; exact hQ))
    by_cases s19_1 : y = 1
    · rw [s19_1]
      refine a_tableIn dX10_ledger_19 (off := 43) (by decide) (by decide) (by decide) (tgt := 62) (by decide) ?_
      refine a_aload_n dX10_ledger_62 rfl ?_
      refine a_iload_n dX10_ledger_63 rfl ?_
      refine a_cV1i dX10_ledger_64 ml_10_157 wv_4_countOut (kdB hb rfl) rfl (by decide) (Nat.le_of_ble_eq_true rfl) (c4_countOut hb (hasI_in c13 hp) ⟨rfl, rfl⟩) ?_
      try simp (disch := first | decide | assumption | omega) only [ui_eq, ui_k, ui_j, ui_b, ui_2, ul_1, ul_eq, ul_k, ul_j, ul_b, hbk, keepF_blk, finF_blk, moveF_blk, addT_blk, sendF_blk, takeF_blk, solveF_blk, setUpF_blk, keepF_k, finF_k, finF_c, moveF_k, addT_k, sendF_k, takeF_k, solveF_k, setUpF_k, solveF_w, setUpF_w, solveF_n]
      exact a_iret dX10_ledger_67 rfl (by
  first
    | (simp only [ledgF, c13, s19_1, if_true, if_false] at hQ; exact hQ)
    | (simp [ledgF, c13, s19_1] at hQ ⊢; exact hQ))
    by_cases s19_2 : y = 2
    · rw [s19_2]
      refine a_tableIn dX10_ledger_19 (off := 49) (by decide) (by decide) (by decide) (tgt := 68) (by decide) ?_
      refine a_aload_n dX10_ledger_68 rfl ?_
      refine a_getR (ci := 4) (j := 8) dX10_ledger_69 (kdB hb rfl) rfl (by decide) rfl fl_10_160 ?_
      refine a_iload_n dX10_ledger_72 rfl ?_
      refine a_iaload dX10_ledger_73 (kdB hb rfl) (hasI_in c13 hp) ?_
      try simp (disch := first | decide | assumption | omega) only [ui_eq, ui_k, ui_j, ui_b, ui_2, ul_1, ul_eq, ul_k, ul_j, ul_b, hbk, keepF_blk, finF_blk, moveF_blk, addT_blk, sendF_blk, takeF_blk, solveF_blk, setUpF_blk, keepF_k, finF_k, finF_c, moveF_k, addT_k, sendF_k, takeF_k, solveF_k, setUpF_k, solveF_w, setUpF_w, solveF_n]
      exact a_iret dX10_ledger_74 rfl (by
  first
    | (simp only [ledgF, c13, s19_2, if_true, if_false] at hQ; exact hQ)
    | (simp [ledgF, c13, s19_2] at hQ ⊢; exact hQ))
    by_cases s19_3 : y = 3
    · rw [s19_3]
      refine a_tableIn dX10_ledger_19 (off := 56) (by decide) (by decide) (by decide) (tgt := 75) (by decide) ?_
      refine a_aload_n dX10_ledger_75 rfl ?_
      refine a_getR (ci := 4) (j := 9) dX10_ledger_76 (kdB hb rfl) rfl (by decide) rfl fl_10_163 ?_
      refine a_iload_n dX10_ledger_79 rfl ?_
      refine a_iaload dX10_ledger_80 (kdB hb rfl) (hasI_in c13 hp) ?_
      try simp (disch := first | decide | assumption | omega) only [ui_eq, ui_k, ui_j, ui_b, ui_2, ul_1, ul_eq, ul_k, ul_j, ul_b, hbk, keepF_blk, finF_blk, moveF_blk, addT_blk, sendF_blk, takeF_blk, solveF_blk, setUpF_blk, keepF_k, finF_k, finF_c, moveF_k, addT_k, sendF_k, takeF_k, solveF_k, setUpF_k, solveF_w, setUpF_w, solveF_n]
      exact a_iret dX10_ledger_81 rfl (by
  first
    | (simp only [ledgF, c13, s19_3, if_true, if_false] at hQ; exact hQ)
    | (simp [ledgF, c13, s19_3] at hQ ⊢; exact hQ))
    by_cases s19_4 : y = 4
    · rw [s19_4]
      refine a_tableIn dX10_ledger_19 (off := 63) (by decide) (by decide) (by decide) (tgt := 82) (by decide) ?_
      refine a_aload_n dX10_ledger_82 rfl ?_
      refine a_getR (ci := 4) (j := 10) dX10_ledger_83 (kdB hb rfl) rfl (by decide) rfl fl_10_166 ?_
      refine a_iload_n dX10_ledger_86 rfl ?_
      refine a_iaload dX10_ledger_87 (kdB hb rfl) (hasI_in c13 hp) ?_
      try simp (disch := first | decide | assumption | omega) only [ui_eq, ui_k, ui_j, ui_b, ui_2, ul_1, ul_eq, ul_k, ul_j, ul_b, hbk, keepF_blk, finF_blk, moveF_blk, addT_blk, sendF_blk, takeF_blk, solveF_blk, setUpF_blk, keepF_k, finF_k, finF_c, moveF_k, addT_k, sendF_k, takeF_k, solveF_k, setUpF_k, solveF_w, setUpF_w, solveF_n]
      exact a_iret dX10_ledger_88 rfl (by
  first
    | (simp only [ledgF, c13, s19_4, if_true, if_false] at hQ; exact hQ)
    | (simp [ledgF, c13, s19_4] at hQ ⊢; exact hQ))
    by_cases s19_5 : y = 5
    · rw [s19_5]
      refine a_tableIn dX10_ledger_19 (off := 70) (by decide) (by decide) (by decide) (tgt := 89) (by decide) ?_
      refine a_aload_n dX10_ledger_89 rfl ?_
      refine a_iload_n dX10_ledger_90 rfl ?_
      refine a_cV1i dX10_ledger_91 ml_10_169 wv_4_countReissued (kdB hb rfl) rfl (by decide) (Nat.le_of_ble_eq_true rfl) (c4_countReissued hb (hasI_in c13 hp) ⟨rfl, rfl⟩) ?_
      try simp (disch := first | decide | assumption | omega) only [ui_eq, ui_k, ui_j, ui_b, ui_2, ul_1, ul_eq, ul_k, ul_j, ul_b, hbk, keepF_blk, finF_blk, moveF_blk, addT_blk, sendF_blk, takeF_blk, solveF_blk, setUpF_blk, keepF_k, finF_k, finF_c, moveF_k, addT_k, sendF_k, takeF_k, solveF_k, setUpF_k, solveF_w, setUpF_w, solveF_n]
      exact a_iret dX10_ledger_94 rfl (by
  first
    | (simp only [ledgF, c13, s19_5, if_true, if_false] at hQ; exact hQ)
    | (simp [ledgF, c13, s19_5] at hQ ⊢; exact hQ))
    refine a_tableOut dX10_ledger_19 (by have q0 := lv_neT (a := 0) s19_0 (by decide); have q1 := lv_neT (a := 1) s19_1 (by decide); have q2 := lv_neT (a := 2) s19_2 (by decide); have q3 := lv_neT (a := 3) s19_3 (by decide); have q4 := lv_neT (a := 4) s19_4 (by decide); have q5 := lv_neT (a := 5) s19_5 (by decide); omega) (tgt := 95) (by decide) ?_
    refine a_iconst (v := (-1)) dX10_ledger_95 (by decide) ?_
    exact a_iret dX10_ledger_96 rfl (by
  first
    | (simp only [ledgF, c13, s19_0, s19_1, s19_2, s19_3, s19_4, s19_5, if_true, if_false] at hQ; exact hQ)
    | (simp [ledgF, c13, s19_0, s19_1, s19_2, s19_3, s19_4, s19_5] at hQ ⊢; exact hQ))
  · refine a_iconst (v := (-1)) dX10_ledger_16 (by decide) ?_
    exact a_iret dX10_ledger_17 rfl (by
  first
    | (simp only [ledgF, c13, if_true, if_false] at hQ; exact hQ)
    | (simp [ledgF, c13] at hQ ⊢; exact hQ))
theorem c10_trip {l : Launch} {G : GG} {h : AH} {Q : Option Value → AH → Prop} {b nl np nq nt ax ak : Nat} (hW : WB h b nl np nq nt ax ak) {x y : Int32} (hQ : Q (some (.int (tripF h b x y))) h) : Ct l G 1 yX10_trip cX10_trip 4 (some .int) [.ref (G.1 0 0), .int x, .int y] h Q := by
  refine Ct.of (by decide) (Nat.le_of_ble_eq_true rfl) ?_
  show AW l G 1 RX10 cX10_trip 4 (some .int) 0 [some (.ref (G.1 0 0)), some (.int x), some (.int y)] [] h Q
  obtain ⟨hb, hbk, hnl, hl8, hnp, hp6, hnq, hq8, hnt, ht40, hax, hax10, hak, hak10⟩ := id hW
  have hl : (h.1 b 1 1).toInt ≤ 8 := toNat_le hnl 8 hl8 (by decide)
  have hp : (h.1 b 3 11).toInt ≤ 6 := toNat_le hnp 6 hp6 (by decide)
  have hq : (h.1 b 15 5).toInt ≤ 8 := toNat_le hnq 8 hq8 (by decide)
  have ht : (h.1 b 21 9).toInt ≤ 40 := toNat_le hnt 40 ht40 (by decide)
  have hb0 : (0 : Nat) ≠ b := isB0' hb
  have hb1 : b ≠ 0 := isB0 hb
  refine a_aload_n dX10_trip_0 rfl ?_
  refine a_getD (ci := 10) (j := 3) dX10_trip_1 rfl rfl (by decide) rfl fl_10_40 (bb := b) (by first | exact hbk | (simp (disch := first | decide | assumption | omega) only [ui_eq, ui_k, ui_j, ui_b, keepF_blk, finF_blk, moveF_blk, addT_blk, sendF_blk, takeF_blk, solveF_blk, setUpF_blk, keepF_k, finF_k, finF_c, moveF_k, addT_k, sendF_k, takeF_k, solveF_k, setUpF_k, solveF_w, setUpF_w, solveF_n]; exact hbk)) ?_
  refine a_getR (ci := 1) (j := 3) dX10_trip_4 (kdB hb rfl) rfl (by decide) rfl fl_10_100 ?_
  refine a_astore_n dX10_trip_7 (by decide) rfl ?_
  dsimp only [lset]
  refine a_aload_n dX10_trip_8 rfl ?_
  refine a_iload_n dX10_trip_9 rfl ?_
  refine a_cV1i dX10_trip_10 ml_10_195 wv_9_has (kdB hb rfl) rfl (by decide) (Nat.le_of_ble_eq_true rfl) (c9_has hb ⟨rfl, rfl⟩) ?_
  try simp (disch := first | decide | assumption | omega) only [ui_eq, ui_k, ui_j, ui_b, ui_2, ul_1, ul_eq, ul_k, ul_j, ul_b, hbk, keepF_blk, finF_blk, moveF_blk, addT_blk, sendF_blk, takeF_blk, solveF_blk, setUpF_blk, keepF_k, finF_k, finF_c, moveF_k, addT_k, sendF_k, takeF_k, solveF_k, setUpF_k, solveF_w, setUpF_w, solveF_n]
  refine a_if_ne dX10_trip_13 (tgt := 18) (by decide) (fun c13 => ?_) (fun c13 => ?_)
  · refine a_iload_n dX10_trip_18 rfl ?_
    by_cases s19_0 : y = 0
    · rw [s19_0]
      refine a_tableIn dX10_trip_19 (off := 41) (by decide) (by decide) (by decide) (tgt := 60) (by decide) ?_
      refine a_aload_n dX10_trip_60 rfl ?_
      refine a_getR (ci := 9) (j := 0) dX10_trip_61 (kdB hb rfl) rfl (by decide) rfl fl_10_196 ?_
      refine a_iload_n dX10_trip_64 rfl ?_
      refine a_iaload dX10_trip_65 (kdB hb rfl) (hasI_in c13 ht) ?_
      try simp (disch := first | decide | assumption | omega) only [ui_eq, ui_k, ui_j, ui_b, ui_2, ul_1, ul_eq, ul_k, ul_j, ul_b, hbk, keepF_blk, finF_blk, moveF_blk, addT_blk, sendF_blk, takeF_blk, solveF_blk, setUpF_blk, keepF_k, finF_k, finF_c, moveF_k, addT_k, sendF_k, takeF_k, solveF_k, setUpF_k, solveF_w, setUpF_w, solveF_n]
      exact a_iret dX10_trip_66 rfl (by
  first
    | (simp only [tripF, c13, s19_0, if_true, if_false] at hQ; exact hQ)
    | (simp [tripF, c13, s19_0] at hQ ⊢; exact hQ))
    by_cases s19_1 : y = 1
    · rw [s19_1]
      refine a_tableIn dX10_trip_19 (off := 48) (by decide) (by decide) (by decide) (tgt := 67) (by decide) ?_
      refine a_aload_n dX10_trip_67 rfl ?_
      refine a_getR (ci := 9) (j := 1) dX10_trip_68 (kdB hb rfl) rfl (by decide) rfl fl_10_199 ?_
      refine a_iload_n dX10_trip_71 rfl ?_
      refine a_iaload dX10_trip_72 (kdB hb rfl) (hasI_in c13 ht) ?_
      try simp (disch := first | decide | assumption | omega) only [ui_eq, ui_k, ui_j, ui_b, ui_2, ul_1, ul_eq, ul_k, ul_j, ul_b, hbk, keepF_blk, finF_blk, moveF_blk, addT_blk, sendF_blk, takeF_blk, solveF_blk, setUpF_blk, keepF_k, finF_k, finF_c, moveF_k, addT_k, sendF_k, takeF_k, solveF_k, setUpF_k, solveF_w, setUpF_w, solveF_n]
      exact a_iret dX10_trip_73 rfl (by
  first
    | (simp only [tripF, c13, s19_1, if_true, if_false] at hQ; exact hQ)
    | (simp [tripF, c13, s19_1] at hQ ⊢; exact hQ))
    by_cases s19_2 : y = 2
    · rw [s19_2]
      refine a_tableIn dX10_trip_19 (off := 55) (by decide) (by decide) (by decide) (tgt := 74) (by decide) ?_
      refine a_aload_n dX10_trip_74 rfl ?_
      refine a_getR (ci := 9) (j := 4) dX10_trip_75 (kdB hb rfl) rfl (by decide) rfl fl_10_202 ?_
      refine a_iload_n dX10_trip_78 rfl ?_
      refine a_iaload dX10_trip_79 (kdB hb rfl) (hasI_in c13 ht) ?_
      try simp (disch := first | decide | assumption | omega) only [ui_eq, ui_k, ui_j, ui_b, ui_2, ul_1, ul_eq, ul_k, ul_j, ul_b, hbk, keepF_blk, finF_blk, moveF_blk, addT_blk, sendF_blk, takeF_blk, solveF_blk, setUpF_blk, keepF_k, finF_k, finF_c, moveF_k, addT_k, sendF_k, takeF_k, solveF_k, setUpF_k, solveF_w, setUpF_w, solveF_n]
      exact a_iret dX10_trip_80 rfl (by
  first
    | (simp only [tripF, c13, s19_2, if_true, if_false] at hQ; exact hQ)
    | (simp [tripF, c13, s19_2] at hQ ⊢; exact hQ))
    by_cases s19_3 : y = 3
    · rw [s19_3]
      refine a_tableIn dX10_trip_19 (off := 62) (by decide) (by decide) (by decide) (tgt := 81) (by decide) ?_
      refine a_aload_n dX10_trip_81 rfl ?_
      refine a_getR (ci := 9) (j := 5) dX10_trip_82 (kdB hb rfl) rfl (by decide) rfl fl_10_205 ?_
      refine a_iload_n dX10_trip_85 rfl ?_
      refine a_iaload dX10_trip_86 (kdB hb rfl) (hasI_in c13 ht) ?_
      try simp (disch := first | decide | assumption | omega) only [ui_eq, ui_k, ui_j, ui_b, ui_2, ul_1, ul_eq, ul_k, ul_j, ul_b, hbk, keepF_blk, finF_blk, moveF_blk, addT_blk, sendF_blk, takeF_blk, solveF_blk, setUpF_blk, keepF_k, finF_k, finF_c, moveF_k, addT_k, sendF_k, takeF_k, solveF_k, setUpF_k, solveF_w, setUpF_w, solveF_n]
      exact a_iret dX10_trip_87 rfl (by
  first
    | (simp only [tripF, c13, s19_3, if_true, if_false] at hQ; exact hQ)
    | (simp [tripF, c13, s19_3] at hQ ⊢; exact hQ))
    by_cases s19_4 : y = 4
    · rw [s19_4]
      refine a_tableIn dX10_trip_19 (off := 69) (by decide) (by decide) (by decide) (tgt := 88) (by decide) ?_
      refine a_aload_n dX10_trip_88 rfl ?_
      refine a_getR (ci := 9) (j := 6) dX10_trip_89 (kdB hb rfl) rfl (by decide) rfl fl_10_208 ?_
      refine a_iload_n dX10_trip_92 rfl ?_
      refine a_iaload dX10_trip_93 (kdB hb rfl) (hasI_in c13 ht) ?_
      try simp (disch := first | decide | assumption | omega) only [ui_eq, ui_k, ui_j, ui_b, ui_2, ul_1, ul_eq, ul_k, ul_j, ul_b, hbk, keepF_blk, finF_blk, moveF_blk, addT_blk, sendF_blk, takeF_blk, solveF_blk, setUpF_blk, keepF_k, finF_k, finF_c, moveF_k, addT_k, sendF_k, takeF_k, solveF_k, setUpF_k, solveF_w, setUpF_w, solveF_n]
      exact a_iret dX10_trip_94 rfl (by
  first
    | (simp only [tripF, c13, s19_4, if_true, if_false] at hQ; exact hQ)
    | (simp [tripF, c13, s19_4] at hQ ⊢; exact hQ))
    by_cases s19_5 : y = 5
    · rw [s19_5]
      refine a_tableIn dX10_trip_19 (off := 76) (by decide) (by decide) (by decide) (tgt := 95) (by decide) ?_
      refine a_aload_n dX10_trip_95 rfl ?_
      refine a_getR (ci := 9) (j := 7) dX10_trip_96 (kdB hb rfl) rfl (by decide) rfl fl_10_211 ?_
      refine a_iload_n dX10_trip_99 rfl ?_
      refine a_iaload dX10_trip_100 (kdB hb rfl) (hasI_in c13 ht) ?_
      try simp (disch := first | decide | assumption | omega) only [ui_eq, ui_k, ui_j, ui_b, ui_2, ul_1, ul_eq, ul_k, ul_j, ul_b, hbk, keepF_blk, finF_blk, moveF_blk, addT_blk, sendF_blk, takeF_blk, solveF_blk, setUpF_blk, keepF_k, finF_k, finF_c, moveF_k, addT_k, sendF_k, takeF_k, solveF_k, setUpF_k, solveF_w, setUpF_w, solveF_n]
      exact a_iret dX10_trip_101 rfl (by
  first
    | (simp only [tripF, c13, s19_5, if_true, if_false] at hQ; exact hQ)
    | (simp [tripF, c13, s19_5] at hQ ⊢; exact hQ))
    by_cases s19_6 : y = 6
    · rw [s19_6]
      refine a_tableIn dX10_trip_19 (off := 83) (by decide) (by decide) (by decide) (tgt := 102) (by decide) ?_
      refine a_aload_n dX10_trip_102 rfl ?_
      refine a_getR (ci := 9) (j := 8) dX10_trip_103 (kdB hb rfl) rfl (by decide) rfl fl_10_214 ?_
      refine a_iload_n dX10_trip_106 rfl ?_
      refine a_iaload dX10_trip_107 (kdB hb rfl) (hasI_in c13 ht) ?_
      try simp (disch := first | decide | assumption | omega) only [ui_eq, ui_k, ui_j, ui_b, ui_2, ul_1, ul_eq, ul_k, ul_j, ul_b, hbk, keepF_blk, finF_blk, moveF_blk, addT_blk, sendF_blk, takeF_blk, solveF_blk, setUpF_blk, keepF_k, finF_k, finF_c, moveF_k, addT_k, sendF_k, takeF_k, solveF_k, setUpF_k, solveF_w, setUpF_w, solveF_n]
      exact a_iret dX10_trip_108 rfl (by
  first
    | (simp only [tripF, c13, s19_6, if_true, if_false] at hQ; exact hQ)
    | (simp [tripF, c13, s19_6] at hQ ⊢; exact hQ))
    refine a_tableOut dX10_trip_19 (by have q0 := lv_neT (a := 0) s19_0 (by decide); have q1 := lv_neT (a := 1) s19_1 (by decide); have q2 := lv_neT (a := 2) s19_2 (by decide); have q3 := lv_neT (a := 3) s19_3 (by decide); have q4 := lv_neT (a := 4) s19_4 (by decide); have q5 := lv_neT (a := 5) s19_5 (by decide); have q6 := lv_neT (a := 6) s19_6 (by decide); omega) (tgt := 109) (by decide) ?_
    refine a_iload_n dX10_trip_109 rfl ?_
    refine a_bipush (v := 10) dX10_trip_110 (by decide) ?_
    refine a_icmp_ge dX10_trip_112 (tgt := 119) (by decide) (fun c112 => ?_) (fun c112 => ?_)
    · refine a_aload_n dX10_trip_119 rfl ?_
      refine a_iload_n dX10_trip_120 rfl ?_
      refine a_iload_n dX10_trip_121 rfl ?_
      refine a_bipush (v := 10) dX10_trip_122 (by decide) ?_
      refine a_isub dX10_trip_124 ?_
      refine a_cV2i dX10_trip_125 ml_10_217 wv_9_landOf (kdB hb rfl) rfl (by decide) (Nat.le_of_ble_eq_true rfl) (c9_landOf hb (hasI_in c13 ht) ⟨rfl, rfl⟩) ?_
      try simp (disch := first | decide | assumption | omega) only [ui_eq, ui_k, ui_j, ui_b, ui_2, ul_1, ul_eq, ul_k, ul_j, ul_b, hbk, keepF_blk, finF_blk, moveF_blk, addT_blk, sendF_blk, takeF_blk, solveF_blk, setUpF_blk, keepF_k, finF_k, finF_c, moveF_k, addT_k, sendF_k, takeF_k, solveF_k, setUpF_k, solveF_w, setUpF_w, solveF_n]
      exact a_iret dX10_trip_128 rfl (by
  first
    | (simp only [tripF, c13, s19_0, s19_1, s19_2, s19_3, s19_4, s19_5, s19_6, c112, if_true, if_false] at hQ; exact hQ)
    | (simp [tripF, c13, s19_0, s19_1, s19_2, s19_3, s19_4, s19_5, s19_6, c112] at hQ ⊢; exact hQ))
    · refine a_iconst (v := (-1)) dX10_trip_115 (by decide) ?_
      refine a_goto dX10_trip_116 (tgt := 128) (by decide) ?_
      exact a_iret dX10_trip_128 rfl (by
  first
    | (simp only [tripF, c13, s19_0, s19_1, s19_2, s19_3, s19_4, s19_5, s19_6, c112, if_true, if_false] at hQ; exact hQ)
    | (simp [tripF, c13, s19_0, s19_1, s19_2, s19_3, s19_4, s19_5, s19_6, c112] at hQ ⊢; exact hQ))
  · refine a_iconst (v := (-1)) dX10_trip_16 (by decide) ?_
    exact a_iret dX10_trip_17 rfl (by
  first
    | (simp only [tripF, c13, if_true, if_false] at hQ; exact hQ)
    | (simp [tripF, c13] at hQ ⊢; exact hQ))
theorem suitF_01 (h : AH) (b : Nat) (x y : Int32) : suitF h b x y = 0 ∨ suitF h b x y = 1 := by
  unfold suitF
  repeat' split
  all_goals first | exact Or.inl rfl | exact Or.inr rfl
theorem c10_fits {l : Launch} {G : GG} {h : AH} {Q : Option Value → AH → Prop} {b nl np nq nt ax ak : Nat} (hW : WB h b nl np nq nt ax ak) {x y : Int32} (hQ : Q (some (.int (suitF h b x y))) h) : Ct l G 2 yX10_fits cX10_fits 3 (some .boolean) [.ref (G.1 0 0), .int x, .int y] h Q := by
  refine Ct.of (by decide) (Nat.le_of_ble_eq_true rfl) ?_
  show AW l G 2 RX10 cX10_fits 3 (some .boolean) 0 [some (.ref (G.1 0 0)), some (.int x), some (.int y)] [] h Q
  obtain ⟨hb, hbk, hnl, hl8, hnp, hp6, hnq, hq8, hnt, ht40, hax, hax10, hak, hak10⟩ := id hW
  have hl : (h.1 b 1 1).toInt ≤ 8 := toNat_le hnl 8 hl8 (by decide)
  have hp : (h.1 b 3 11).toInt ≤ 6 := toNat_le hnp 6 hp6 (by decide)
  have hq : (h.1 b 15 5).toInt ≤ 8 := toNat_le hnq 8 hq8 (by decide)
  have ht : (h.1 b 21 9).toInt ≤ 40 := toNat_le hnt 40 ht40 (by decide)
  have hb0 : (0 : Nat) ≠ b := isB0' hb
  have hb1 : b ≠ 0 := isB0 hb
  refine a_aload_n dX10_fits_0 rfl ?_
  refine a_getD (ci := 10) (j := 3) dX10_fits_1 rfl rfl (by decide) rfl fl_10_40 (bb := b) (by first | exact hbk | (simp (disch := first | decide | assumption | omega) only [ui_eq, ui_k, ui_j, ui_b, keepF_blk, finF_blk, moveF_blk, addT_blk, sendF_blk, takeF_blk, solveF_blk, setUpF_blk, keepF_k, finF_k, finF_c, moveF_k, addT_k, sendF_k, takeF_k, solveF_k, setUpF_k, solveF_w, setUpF_w, solveF_n]; exact hbk)) ?_
  refine a_iload_n dX10_fits_4 rfl ?_
  refine a_iload_n dX10_fits_5 rfl ?_
  refine a_cV2i dX10_fits_6 ml_10_221 wv_1_suits (kdB hb rfl) rfl (by decide) (Nat.le_of_ble_eq_true rfl) (c1_suits hb hp ht hq ⟨rfl, rfl⟩) ?_
  try simp (disch := first | decide | assumption | omega) only [ui_eq, ui_k, ui_j, ui_b, ui_2, ul_1, ul_eq, ul_k, ul_j, ul_b, hbk, keepF_blk, finF_blk, moveF_blk, addT_blk, sendF_blk, takeF_blk, solveF_blk, setUpF_blk, keepF_k, finF_k, finF_c, moveF_k, addT_k, sendF_k, takeF_k, solveF_k, setUpF_k, solveF_w, setUpF_w, solveF_n]
  exact a_zret dX10_fits_9 rfl (nar_01 (suitF_01 h b x y)) hQ
theorem c10_lawful {l : Launch} {G : GG} {h : AH} {Q : Option Value → AH → Prop} {b nl np nq nt ax ak : Nat} (hW : WB h b nl np nq nt ax ak) {x y : Int32} (hQ : Q (some (.int (lawF h b x y))) h) : Ct l G 3 yX10_lawful cX10_lawful 3 (some .int) [.ref (G.1 0 0), .int x, .int y] h Q := by
  refine Ct.of (by decide) (Nat.le_of_ble_eq_true rfl) ?_
  show AW l G 3 RX10 cX10_lawful 3 (some .int) 0 [some (.ref (G.1 0 0)), some (.int x), some (.int y)] [] h Q
  obtain ⟨hb, hbk, hnl, hl8, hnp, hp6, hnq, hq8, hnt, ht40, hax, hax10, hak, hak10⟩ := id hW
  have hl : (h.1 b 1 1).toInt ≤ 8 := toNat_le hnl 8 hl8 (by decide)
  have hp : (h.1 b 3 11).toInt ≤ 6 := toNat_le hnp 6 hp6 (by decide)
  have hq : (h.1 b 15 5).toInt ≤ 8 := toNat_le hnq 8 hq8 (by decide)
  have ht : (h.1 b 21 9).toInt ≤ 40 := toNat_le hnt 40 ht40 (by decide)
  have hb0 : (0 : Nat) ≠ b := isB0' hb
  have hb1 : b ≠ 0 := isB0 hb
  refine a_aload_n dX10_lawful_0 rfl ?_
  refine a_getD (ci := 10) (j := 3) dX10_lawful_1 rfl rfl (by decide) rfl fl_10_40 (bb := b) (by first | exact hbk | (simp (disch := first | decide | assumption | omega) only [ui_eq, ui_k, ui_j, ui_b, keepF_blk, finF_blk, moveF_blk, addT_blk, sendF_blk, takeF_blk, solveF_blk, setUpF_blk, keepF_k, finF_k, finF_c, moveF_k, addT_k, sendF_k, takeF_k, solveF_k, setUpF_k, solveF_w, setUpF_w, solveF_n]; exact hbk)) ?_
  refine a_getR (ci := 1) (j := 2) dX10_lawful_4 (kdB hb rfl) rfl (by decide) rfl fl_10_93 ?_
  refine a_iload_n dX10_lawful_7 rfl ?_
  refine a_cV1i dX10_lawful_8 ml_10_172 wv_3_has (kdB hb rfl) rfl (by decide) (Nat.le_of_ble_eq_true rfl) (c3_has hb ⟨rfl, rfl⟩) ?_
  try simp (disch := first | decide | assumption | omega) only [ui_eq, ui_k, ui_j, ui_b, ui_2, ul_1, ul_eq, ul_k, ul_j, ul_b, hbk, keepF_blk, finF_blk, moveF_blk, addT_blk, sendF_blk, takeF_blk, solveF_blk, setUpF_blk, keepF_k, finF_k, finF_c, moveF_k, addT_k, sendF_k, takeF_k, solveF_k, setUpF_k, solveF_w, setUpF_w, solveF_n]
  refine a_if_eq dX10_lawful_11 (tgt := 28) (by decide) (fun c11 => ?_) (fun c11 => ?_)
  · refine a_iconst (v := (-1)) dX10_lawful_28 (by decide) ?_
    exact a_iret dX10_lawful_29 rfl (by
  first
    | (simp only [lawF, c11, if_true, if_false] at hQ; exact hQ)
    | (simp [lawF, c11] at hQ ⊢; exact hQ))
  · refine a_aload_n dX10_lawful_14 rfl ?_
    refine a_getD (ci := 10) (j := 3) dX10_lawful_15 rfl rfl (by decide) rfl fl_10_40 (bb := b) (by first | exact hbk | (simp (disch := first | decide | assumption | omega) only [ui_eq, ui_k, ui_j, ui_b, keepF_blk, finF_blk, moveF_blk, addT_blk, sendF_blk, takeF_blk, solveF_blk, setUpF_blk, keepF_k, finF_k, finF_c, moveF_k, addT_k, sendF_k, takeF_k, solveF_k, setUpF_k, solveF_w, setUpF_w, solveF_n]; exact hbk)) ?_
    refine a_getR (ci := 1) (j := 0) dX10_lawful_18 (kdB hb rfl) rfl (by decide) rfl fl_10_77 ?_
    refine a_iload_n dX10_lawful_21 rfl ?_
    refine a_cV1i dX10_lawful_22 ml_10_249 wv_2_has (kdB hb rfl) rfl (by decide) (Nat.le_of_ble_eq_true rfl) (c2_has hb ⟨rfl, rfl⟩) ?_
    try simp (disch := first | decide | assumption | omega) only [ui_eq, ui_k, ui_j, ui_b, ui_2, ul_1, ul_eq, ul_k, ul_j, ul_b, hbk, keepF_blk, finF_blk, moveF_blk, addT_blk, sendF_blk, takeF_blk, solveF_blk, setUpF_blk, keepF_k, finF_k, finF_c, moveF_k, addT_k, sendF_k, takeF_k, solveF_k, setUpF_k, solveF_w, setUpF_w, solveF_n]
    refine a_if_ne dX10_lawful_25 (tgt := 30) (by decide) (fun c25 => ?_) (fun c25 => ?_)
    · refine a_aload_n dX10_lawful_30 rfl ?_
      refine a_getD (ci := 10) (j := 3) dX10_lawful_31 rfl rfl (by decide) rfl fl_10_40 (bb := b) (by first | exact hbk | (simp (disch := first | decide | assumption | omega) only [ui_eq, ui_k, ui_j, ui_b, keepF_blk, finF_blk, moveF_blk, addT_blk, sendF_blk, takeF_blk, solveF_blk, setUpF_blk, keepF_k, finF_k, finF_c, moveF_k, addT_k, sendF_k, takeF_k, solveF_k, setUpF_k, solveF_w, setUpF_w, solveF_n]; exact hbk)) ?_
      refine a_iload_n dX10_lawful_34 rfl ?_
      refine a_iload_n dX10_lawful_35 rfl ?_
      refine a_cV2i dX10_lawful_36 ml_10_260 wv_1_judge (kdB hb rfl) rfl (by decide) (Nat.le_of_ble_eq_true rfl) (c1_judge hb hp ht hq ⟨rfl, rfl⟩) ?_
      try simp (disch := first | decide | assumption | omega) only [ui_eq, ui_k, ui_j, ui_b, ui_2, ul_1, ul_eq, ul_k, ul_j, ul_b, hbk, keepF_blk, finF_blk, moveF_blk, addT_blk, sendF_blk, takeF_blk, solveF_blk, setUpF_blk, keepF_k, finF_k, finF_c, moveF_k, addT_k, sendF_k, takeF_k, solveF_k, setUpF_k, solveF_w, setUpF_w, solveF_n]
      exact a_iret dX10_lawful_39 rfl (by
  first
    | (simp only [lawF, c11, c25, if_true, if_false] at hQ; exact hQ)
    | (simp [lawF, c11, c25] at hQ ⊢; exact hQ))
    · refine a_iconst (v := (-1)) dX10_lawful_28 (by decide) ?_
      exact a_iret dX10_lawful_29 rfl (by
  first
    | (simp only [lawF, c11, c25, if_true, if_false] at hQ; exact hQ)
    | (simp [lawF, c11, c25] at hQ ⊢; exact hQ))
