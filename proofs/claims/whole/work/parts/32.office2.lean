theorem clearL_blk {h : AH} {b b' : Nat} (hn : b' ≠ b) : (clearL h b).1 b' = h.1 b' := by
  unfold clearL
  rw [ui_blk hn, ui_blk hn]
  funext k j
  simp [clrL, hn]
theorem clearP_blk {h : AH} {b b' : Nat} (hn : b' ≠ b) : (clearP h b).1 b' = h.1 b' := by
  unfold clearP
  funext k j
  simp [clrP, hn, ui]
theorem clearQ_blk {h : AH} {b b' : Nat} (hn : b' ≠ b) : (clearQ h b).1 b' = h.1 b' := by
  unfold clearQ
  funext k j
  simp [clrQ, hn, ui]
theorem clearB_blk {h : AH} {b b' : Nat} (hn : b' ≠ b) : (clearB h b).1 b' = h.1 b' := by
  unfold clearB
  rw [ui_blk hn, ui_blk hn, ui_blk hn, clearQ_blk hn, clearP_blk hn, clearL_blk hn]
theorem clearB_l {h : AH} {b : Nat} : (clearB h b).1 b 1 1 = 0 := by
  unfold clearB clearQ clearP clearL
  simp [clrQ, clrP, ui]
theorem clearB_p {h : AH} {b : Nat} : (clearB h b).1 b 3 11 = 0 := by
  unfold clearB clearQ clearP
  simp [clrQ, clrP, ui]
theorem clearB_q {h : AH} {b : Nat} : (clearB h b).1 b 15 5 = 0 := by
  unfold clearB clearQ
  simp [clrQ, ui]
theorem rdG_k {b L k j : Nat} (hb : isB b) (h3 : k ≠ 3) (h4 : k ≠ 4) (h5 : k ≠ 5) (n : Nat) : ∀ s : Int32 × AH, (rdG b L n s).2.1 0 k j = s.2.1 0 k j := by
  induction n with
  | zero => intro s; rfl
  | succ n ih =>
    intro s
    unfold rdG
    split
    · rfl
    · split
      · rfl
      · rw [ih]
        show (if _ then _ else _ : AH).1 0 k j = _
        split
        · rw [tokF_0 hb h4 h5]
        · rw [advF_k h3, tokF_0 hb h4 h5]
theorem readF_k {h : AH} {b L k j : Nat} (hb : isB b) (h3 : k ≠ 3) (h4 : k ≠ 4) (h5 : k ≠ 5) : (readF h b L).2.1 0 k j = h.1 0 k j := by
  have e : (rdG b L 700 (1, rd0 h L)).2.1 0 k j = h.1 0 k j := by
    rw [rdG_k hb h3 h4 h5]
    show (advF _ L 0).1 0 k j = _
    rw [advF_k h3]
    simp (disch := assumption) only [ui_k]
  unfold readF
  split
  · exact e
  · split
    · exact e
    · rw [refF_0 h4]; exact e
def textR (h : AH) (d L : Nat) : Int32 × AH := readF (clearB h d) d L
def textH (h : AH) (d L : Nat) : AH := ui (ui (textR h d L).2 0 1 1 0) 0 0 5 ((textR h d L).2.1 0 4 8)
def textF (h : AH) (b d L : Nat) : Int32 × AH :=
  if (textR h d L).1 = 0 then (-1 - (textR h d L).2.1 0 4 9, textH h d L) else ((textR h d L).2.1 0 4 6, ui (ui (textH h d L) 0 0 4 (nI b)) 0 0 3 (nI d))
theorem c10_text {l : Launch} {G : GG} {h : AH} {Q : Option Value → AH → Prop} {b d L : Nat} (hb : isB b) (hd : isB d) (hbk : (h.1 0 0 3).toNatClampNeg = b) (hdk : (h.1 0 0 4).toNatClampNeg = d) (hL : h.1 0 1 1 = nI L) (h740 : L ≤ 740) (hQ : Q (some (.int (textF h b d L).1)) (textF h b d L).2) : Ct l G 9 yX10_text cX10_text 3 (some .int) [.ref (G.1 0 0)] h Q := by
  refine Ct.of (by decide) (Nat.le_of_ble_eq_true rfl) ?_
  show AW l G 9 RX10 cX10_text 3 (some .int) 0 [some (.ref (G.1 0 0))] [] h Q
  have hb0 : (0 : Nat) ≠ b := isB0' hb
  have hd0 : (0 : Nat) ≠ d := isB0' hd
  have hcb : (nI b).toNatClampNeg = b := by rcases hb with rfl | rfl <;> decide
  have hcd : (nI d).toNatClampNeg = d := by rcases hd with rfl | rfl <;> decide
  have r0 : ∀ j, (textR h d L).2.1 0 0 j = h.1 0 0 j := fun j => by rw [textR, readF_k hd (by decide) (by decide) (by decide), clearB_blk hd0]
  refine a_aload_n dX10_text_0 rfl ?_
  refine a_getD (ci := 10) (j := 4) dX10_text_1 rfl rfl (by decide) rfl fl_10_44 (bb := d) hdk ?_
  refine a_cV0v dX10_text_4 ml_10_55 wv_1_clear (kdB hd rfl) rfl (by decide) (Nat.le_of_ble_eq_true rfl) (c1_clear hd ⟨rfl, rfl⟩) ?_
  try simp (disch := first | decide | assumption | omega) only [ui_eq, ui_k, ui_j, ui_b, ui_2, ul_1, ul_eq, ul_k, ul_j, ul_b]
  refine a_aload_n dX10_text_7 rfl ?_
  refine a_getR (ci := 10) (j := 1) dX10_text_8 rfl rfl (by decide) rfl fl_10_26 ?_
  refine a_aload_n dX10_text_11 rfl ?_
  refine a_getD (ci := 10) (j := 4) dX10_text_12 rfl rfl (by decide) rfl fl_10_44 (bb := d) (by rw [clearB_blk hd0]; exact hdk) ?_
  refine a_cV1i dX10_text_15 ml_10_58 wv_6_readInto rfl rfl (by decide) (Nat.le_of_ble_eq_true rfl) (c6_readInto (L := L) hd (by rw [clearB_blk hd0]; exact hL) h740 (by rw [clearB_l]; decide) clearB_p clearB_q ⟨rfl, rfl⟩) ?_
  try simp (disch := first | decide | assumption | omega) only [ui_eq, ui_k, ui_j, ui_b, ui_2, ul_1, ul_eq, ul_k, ul_j, ul_b]
  show AW l G 9 RX10 cX10_text 3 (some .int) _ _ (.int (textR h d L).1 :: []) (textR h d L).2 Q
  refine a_istore_n dX10_text_18 (by decide) rfl ?_
  dsimp only [lset]
  refine a_aload_n dX10_text_19 rfl ?_
  refine a_getR (ci := 10) (j := 0) dX10_text_20 rfl rfl (by decide) rfl fl_10_10 ?_
  refine a_iconst (v := 0) dX10_text_23 (by decide) ?_
  refine a_putI (ci := 7) (j := 1) dX10_text_24 rfl rfl (by decide) (by decide) rfl fl_10_47 ?_
  refine a_aload_n dX10_text_27 rfl ?_
  refine a_aload_n dX10_text_28 rfl ?_
  refine a_getR (ci := 10) (j := 1) dX10_text_29 rfl rfl (by decide) rfl fl_10_26 ?_
  refine a_getI (ci := 6) (j := 8) dX10_text_32 rfl rfl (by decide) rfl fl_10_62 ?_
  try simp (disch := first | decide | assumption | omega) only [ui_eq, ui_k, ui_j, ui_b, ui_2, ul_1, ul_eq, ul_k, ul_j, ul_b]
  refine a_putI (ci := 10) (j := 5) dX10_text_35 rfl rfl (by decide) (by decide) rfl fl_10_65 ?_
  refine a_iload_n dX10_text_38 rfl ?_
  refine a_if_ne dX10_text_39 (tgt := 52) (by decide) (fun c39 => ?_) (fun c39 => ?_)
  · refine a_aload_n dX10_text_52 rfl ?_
    refine a_getD (ci := 10) (j := 4) dX10_text_53 rfl rfl (by decide) rfl fl_10_44 (bb := d) (by simp (disch := decide) only [ui_k, ui_j, ui_eq, r0]; exact hdk) ?_
    refine a_astore_n dX10_text_56 (by decide) rfl ?_
    dsimp only [lset]
    refine a_aload_n dX10_text_57 rfl ?_
    refine a_aload_n dX10_text_58 rfl ?_
    refine a_getD (ci := 10) (j := 3) dX10_text_59 rfl rfl (by decide) rfl fl_10_40 (bb := b) (by simp (disch := decide) only [ui_k, ui_j, ui_eq, r0]; exact hbk) ?_
    refine a_putD (ci := 10) (j := 4) dX10_text_62 rfl rfl (by decide) (by decide) rfl fl_10_44 (x := nI b) hcb ?_
    refine a_aload_n dX10_text_65 rfl ?_
    refine a_aload_n dX10_text_66 rfl ?_
    refine a_putD (ci := 10) (j := 3) dX10_text_67 rfl rfl (by decide) (by decide) rfl fl_10_40 (x := nI d) hcd ?_
    refine a_aload_n dX10_text_70 rfl ?_
    refine a_getR (ci := 10) (j := 1) dX10_text_71 rfl rfl (by decide) rfl fl_10_26 ?_
    refine a_getI (ci := 6) (j := 6) dX10_text_74 rfl rfl (by decide) rfl fl_10_71 ?_
    try simp (disch := first | decide | assumption | omega) only [ui_eq, ui_k, ui_j, ui_b, ui_2, ul_1, ul_eq, ul_k, ul_j, ul_b]
    exact a_iret dX10_text_77 rfl (by
  first
    | (simp only [textF, c39, if_true, if_false] at hQ; exact hQ)
    | (simp (disch := decide) only [textF, c39, if_true, if_false, ui_k, ui_j, ui_eq, textH] at hQ ⊢; exact hQ))
  · refine a_iconst (v := (-1)) dX10_text_42 (by decide) ?_
    refine a_aload_n dX10_text_43 rfl ?_
    refine a_getR (ci := 10) (j := 1) dX10_text_44 rfl rfl (by decide) rfl fl_10_26 ?_
    refine a_getI (ci := 6) (j := 9) dX10_text_47 rfl rfl (by decide) rfl fl_10_68 ?_
    try simp (disch := first | decide | assumption | omega) only [ui_eq, ui_k, ui_j, ui_b, ui_2, ul_1, ul_eq, ul_k, ul_j, ul_b]
    refine a_isub dX10_text_50 ?_
    exact a_iret dX10_text_51 rfl (by
  first
    | (simp only [textF, c39, if_true, if_false] at hQ; exact hQ)
    | (simp (disch := decide) only [textF, c39, if_true, if_false, ui_k, ui_j, ui_eq, textH] at hQ ⊢; exact hQ))
def plW (h : AH) (b n : Nat) : Nat := (colG (h.1 b 26) (h.1 0 7) n).2
def planH (h : AH) (b n : Nat) : AH := solveF (setUpF h b n) (plW h b n)
theorem plW_le (h : AH) (b n : Nat) : plW h b n ≤ 8 := colG_le _ _ _
theorem suG_rng {h : AH} {b n : Nat} (hg : rngG (h.1 0 11)) : rngG ((setUpF h b n).1 0 11) := fun k hk => by
  rw [setUpF_k (by decide) (by decide) (by decide)]
  exact hg k hk
def planF (h : AH) (b n : Nat) (x : Int32) : Int32 × AH :=
  if x = 0 then ((planH h b n).1 0 6 8, planH h b n) else if x = 1 then (costG (planH h b n) b (plW h b n), planH h b n) else
  if 10 ≤ x then (typG ((planH h b n).1 0 7) ((planH h b n).1 0 11) (x - 10) (plW h b n) 0, planH h b n) else (-1, h)
def adF (h : AH) (x y : Int32) : AH := ui h 0 9 x.toNatClampNeg (if 0 < h.1 0 9 x.toNatClampNeg + y then h.1 0 9 x.toNatClampNeg + y else 0)
def servF (h : AH) (b n : Nat) (x y : Int32) : Int32 × AH :=
  if hasI (h.1 b 3 11) x = 0 then (-1, h) else if y < -99 then (-1, h) else if y ≤ 99 then ((solveF (adF (setUpF h b n) x y) (plW h b n)).1 0 6 8, solveF (adF (setUpF h b n) x y) (plW h b n)) else (-1, h)
def needG (w : Nat) (x : Int32) : Nat → Nat → AH → Int32 × AH
  | 0, _, h => (-2, h)
  | f + 1, m, h => if (solveF h w).1 0 6 8 = (solveF h w).1 0 6 7 then (nI m, solveF h w) else needG w x f (m + 1) (adF (solveF h w) x 1)
def needF (h : AH) (b n : Nat) (x : Int32) : Int32 × AH := if hasI (h.1 b 3 11) x = 0 then (-1, h) else needG (plW h b n) x 9 0 (setUpF h b n)
theorem c10_plan {l : Launch} {G : GG} {h : AH} {Q : Option Value → AH → Prop} {b nl np nq nt ax ak : Nat} (hW : WB h b nl np nq nt ax ak) {x : Int32} (hg : rngG (h.1 0 11)) (hQ : Q (some (.int (planF h b nt x).1)) (planF h b nt x).2) : Ct l G 5 yX10_plan cX10_plan 2 (some .int) [.ref (G.1 0 0), .int x] h Q := by
  refine Ct.of (by decide) (Nat.le_of_ble_eq_true rfl) ?_
  show AW l G 5 RX10 cX10_plan 2 (some .int) 0 [some (.ref (G.1 0 0)), some (.int x)] [] h Q
  obtain ⟨hb, hbk, hnl, hl8, hnp, hp6, hnq, hq8, hnt, ht40, hax, hax10, hak, hak10⟩ := id hW
  have hl : (h.1 b 1 1).toInt ≤ 8 := toNat_le hnl 8 hl8 (by decide)
  have hp : (h.1 b 3 11).toInt ≤ 6 := toNat_le hnp 6 hp6 (by decide)
  have hq : (h.1 b 15 5).toInt ≤ 8 := toNat_le hnq 8 hq8 (by decide)
  have ht : (h.1 b 21 9).toInt ≤ 40 := toNat_le hnt 40 ht40 (by decide)
  have hb0 : (0 : Nat) ≠ b := isB0' hb
  have hb1 : b ≠ 0 := isB0 hb
  refine a_iload_n dX10_plan_0 rfl ?_
  refine a_if_eq dX10_plan_1 (tgt := 17) (by decide) (fun c1 => ?_) (fun c1 => ?_)
  · refine a_aload_n dX10_plan_17 rfl ?_
    refine a_getR (ci := 10) (j := 2) dX10_plan_18 rfl rfl (by decide) rfl fl_10_33 ?_
    refine a_aload_n dX10_plan_21 rfl ?_
    refine a_getD (ci := 10) (j := 3) dX10_plan_22 rfl rfl (by decide) rfl fl_10_40 (bb := b) (by first | exact hbk | (simp (disch := first | decide | assumption | omega) only [ui_eq, ui_k, ui_j, ui_b, keepF_blk, finF_blk, moveF_blk, addT_blk, sendF_blk, takeF_blk, solveF_blk, setUpF_blk, keepF_k, finF_k, finF_c, moveF_k, addT_k, sendF_k, takeF_k, solveF_k, setUpF_k, solveF_w, setUpF_w, solveF_n]; exact hbk)) ?_
    refine a_cV1v dX10_plan_25 ml_10_225 wv_5_setUp rfl rfl (by decide) (Nat.le_of_ble_eq_true rfl) (c5_setUp hb hp ht hq hnt ht40 ⟨rfl, rfl⟩) ?_
    try simp (disch := first | decide | assumption | omega) only [ui_eq, ui_k, ui_j, ui_b, ui_2, ul_1, ul_eq, ul_k, ul_j, ul_b, hbk, keepF_blk, finF_blk, moveF_blk, addT_blk, sendF_blk, takeF_blk, solveF_blk, setUpF_blk, keepF_k, finF_k, finF_c, moveF_k, addT_k, sendF_k, takeF_k, solveF_k, setUpF_k]
    refine a_aload_n dX10_plan_28 rfl ?_
    refine a_getR (ci := 10) (j := 2) dX10_plan_29 rfl rfl (by decide) rfl fl_10_33 ?_
    refine a_cV0v dX10_plan_32 ml_10_229 wv_5_solve rfl rfl (by decide) (Nat.le_of_ble_eq_true rfl) (c5_solve (w := plW h b nt) setUpF_w (plW_le h b nt) (suG_rng hg) ⟨rfl, rfl⟩) ?_
    try simp (disch := first | decide | assumption | omega) only [ui_eq, ui_k, ui_j, ui_b, ui_2, ul_1, ul_eq, ul_k, ul_j, ul_b, hbk, keepF_blk, finF_blk, moveF_blk, addT_blk, sendF_blk, takeF_blk, solveF_blk, setUpF_blk, keepF_k, finF_k, finF_c, moveF_k, addT_k, sendF_k, takeF_k, solveF_k, setUpF_k]
    refine a_iload_n dX10_plan_35 rfl ?_
    by_cases s36_0 : x = 0
    · rw [s36_0]
      refine a_lookup dX10_plan_36 (off := 28) (by decide) (by decide) (tgt := 64) (by decide) ?_
      refine a_aload_n dX10_plan_64 rfl ?_
      refine a_getR (ci := 10) (j := 2) dX10_plan_65 rfl rfl (by decide) rfl fl_10_33 ?_
      refine a_getI (ci := 5) (j := 8) dX10_plan_68 rfl rfl (by decide) rfl fl_10_232 ?_
      try simp (disch := first | decide | assumption | omega) only [ui_eq, ui_k, ui_j, ui_b, ui_2, ul_1, ul_eq, ul_k, ul_j, ul_b, hbk, keepF_blk, finF_blk, moveF_blk, addT_blk, sendF_blk, takeF_blk, solveF_blk, setUpF_blk, keepF_k, finF_k, finF_c, moveF_k, addT_k, sendF_k, takeF_k, solveF_k, setUpF_k]
      exact a_iret dX10_plan_71 rfl (by
  first
    | (simp only [planF, c1, s36_0, if_true, if_false] at hQ; exact hQ)
    | (simp only [planF, s36_0, if_true, if_false] at hQ; exact hQ)
    | (simp only [planF, s36_0, s36_1, if_true, if_false] at hQ; exact hQ)
    | (exfalso; simp_all))
    by_cases s36_1 : x = 1
    · rw [s36_1]
      refine a_lookup dX10_plan_36 (off := 36) (by decide) (by decide) (tgt := 72) (by decide) ?_
      refine a_aload_n dX10_plan_72 rfl ?_
      refine a_getR (ci := 10) (j := 2) dX10_plan_73 rfl rfl (by decide) rfl fl_10_33 ?_
      refine a_aload_n dX10_plan_76 rfl ?_
      refine a_getD (ci := 10) (j := 3) dX10_plan_77 rfl rfl (by decide) rfl fl_10_40 (bb := b) (by first | exact hbk | (simp (disch := first | decide | assumption | omega) only [ui_eq, ui_k, ui_j, ui_b, keepF_blk, finF_blk, moveF_blk, addT_blk, sendF_blk, takeF_blk, solveF_blk, setUpF_blk, keepF_k, finF_k, finF_c, moveF_k, addT_k, sendF_k, takeF_k, solveF_k, setUpF_k, solveF_w, setUpF_w, solveF_n]; exact hbk)) ?_
      refine a_getR (ci := 1) (j := 1) dX10_plan_80 (kdB hb rfl) rfl (by decide) rfl fl_10_86 ?_
      refine a_cV1i dX10_plan_83 ml_10_235 wv_5_costTogether rfl rfl (by decide) (Nat.le_of_ble_eq_true rfl) (c5_costTogether (w := plW h b nt) hb (by first | exact hp | (simp (disch := first | decide | assumption | omega) only [ui_eq, ui_k, ui_j, ui_b, keepF_blk, finF_blk, moveF_blk, addT_blk, sendF_blk, takeF_blk, solveF_blk, setUpF_blk, keepF_k, finF_k, finF_c, moveF_k, addT_k, sendF_k, takeF_k, solveF_k, setUpF_k, solveF_w, setUpF_w, solveF_n]; exact hp)) (by rw [solveF_w]; exact setUpF_w) (plW_le h b nt) ⟨rfl, rfl⟩) ?_
      try simp (disch := first | decide | assumption | omega) only [ui_eq, ui_k, ui_j, ui_b, ui_2, ul_1, ul_eq, ul_k, ul_j, ul_b, hbk, keepF_blk, finF_blk, moveF_blk, addT_blk, sendF_blk, takeF_blk, solveF_blk, setUpF_blk, keepF_k, finF_k, finF_c, moveF_k, addT_k, sendF_k, takeF_k, solveF_k, setUpF_k]
      exact a_iret dX10_plan_86 rfl (by
  first
    | (simp only [planF, c1, s36_1, if_true, if_false] at hQ; exact hQ)
    | (simp only [planF, s36_0, if_true, if_false] at hQ; exact hQ)
    | (simp only [planF, s36_0, s36_1, if_true, if_false] at hQ; exact hQ)
    | (exfalso; simp_all))
    refine a_lookup dX10_plan_36 (off := 51) (by decide) (by rw [lv_osw s36_0 (by decide)]; rw [lv_osw s36_1 (by decide)]; rfl) (tgt := 87) (by decide) ?_
    refine a_aload_n dX10_plan_87 rfl ?_
    refine a_getR (ci := 10) (j := 2) dX10_plan_88 rfl rfl (by decide) rfl fl_10_33 ?_
    refine a_iload_n dX10_plan_91 rfl ?_
    refine a_bipush (v := 10) dX10_plan_92 (by decide) ?_
    refine a_isub dX10_plan_94 ?_
    refine a_cV1i dX10_plan_95 ml_10_239 wv_5_typeFor rfl rfl (by decide) (Nat.le_of_ble_eq_true rfl) (c5_typeFor (w := plW h b nt) (by rw [solveF_w]; exact setUpF_w) (plW_le h b nt) ⟨rfl, rfl⟩) ?_
    try simp (disch := first | decide | assumption | omega) only [ui_eq, ui_k, ui_j, ui_b, ui_2, ul_1, ul_eq, ul_k, ul_j, ul_b, hbk, keepF_blk, finF_blk, moveF_blk, addT_blk, sendF_blk, takeF_blk, solveF_blk, setUpF_blk, keepF_k, finF_k, finF_c, moveF_k, addT_k, sendF_k, takeF_k, solveF_k, setUpF_k]
    exact a_iret dX10_plan_98 rfl (by
  first
    | (simp only [planF, c1, s36_0, s36_1, if_true, if_false] at hQ; exact hQ)
    | (simp only [planF, s36_0, if_true, if_false] at hQ; exact hQ)
    | (simp only [planF, s36_0, s36_1, if_true, if_false] at hQ; exact hQ)
    | (exfalso; simp_all))
  · refine a_iload_n dX10_plan_4 rfl ?_
    refine a_iconst (v := 1) dX10_plan_5 (by decide) ?_
    refine a_icmp_eq dX10_plan_6 (tgt := 17) (by decide) (fun c6 => ?_) (fun c6 => ?_)
    · refine a_aload_n dX10_plan_17 rfl ?_
      refine a_getR (ci := 10) (j := 2) dX10_plan_18 rfl rfl (by decide) rfl fl_10_33 ?_
      refine a_aload_n dX10_plan_21 rfl ?_
      refine a_getD (ci := 10) (j := 3) dX10_plan_22 rfl rfl (by decide) rfl fl_10_40 (bb := b) (by first | exact hbk | (simp (disch := first | decide | assumption | omega) only [ui_eq, ui_k, ui_j, ui_b, keepF_blk, finF_blk, moveF_blk, addT_blk, sendF_blk, takeF_blk, solveF_blk, setUpF_blk, keepF_k, finF_k, finF_c, moveF_k, addT_k, sendF_k, takeF_k, solveF_k, setUpF_k, solveF_w, setUpF_w, solveF_n]; exact hbk)) ?_
      refine a_cV1v dX10_plan_25 ml_10_225 wv_5_setUp rfl rfl (by decide) (Nat.le_of_ble_eq_true rfl) (c5_setUp hb hp ht hq hnt ht40 ⟨rfl, rfl⟩) ?_
      try simp (disch := first | decide | assumption | omega) only [ui_eq, ui_k, ui_j, ui_b, ui_2, ul_1, ul_eq, ul_k, ul_j, ul_b, hbk, keepF_blk, finF_blk, moveF_blk, addT_blk, sendF_blk, takeF_blk, solveF_blk, setUpF_blk, keepF_k, finF_k, finF_c, moveF_k, addT_k, sendF_k, takeF_k, solveF_k, setUpF_k]
      refine a_aload_n dX10_plan_28 rfl ?_
      refine a_getR (ci := 10) (j := 2) dX10_plan_29 rfl rfl (by decide) rfl fl_10_33 ?_
      refine a_cV0v dX10_plan_32 ml_10_229 wv_5_solve rfl rfl (by decide) (Nat.le_of_ble_eq_true rfl) (c5_solve (w := plW h b nt) setUpF_w (plW_le h b nt) (suG_rng hg) ⟨rfl, rfl⟩) ?_
      try simp (disch := first | decide | assumption | omega) only [ui_eq, ui_k, ui_j, ui_b, ui_2, ul_1, ul_eq, ul_k, ul_j, ul_b, hbk, keepF_blk, finF_blk, moveF_blk, addT_blk, sendF_blk, takeF_blk, solveF_blk, setUpF_blk, keepF_k, finF_k, finF_c, moveF_k, addT_k, sendF_k, takeF_k, solveF_k, setUpF_k]
      refine a_iload_n dX10_plan_35 rfl ?_
      by_cases s36_0 : x = 0
      · rw [s36_0]
        refine a_lookup dX10_plan_36 (off := 28) (by decide) (by decide) (tgt := 64) (by decide) ?_
        refine a_aload_n dX10_plan_64 rfl ?_
        refine a_getR (ci := 10) (j := 2) dX10_plan_65 rfl rfl (by decide) rfl fl_10_33 ?_
        refine a_getI (ci := 5) (j := 8) dX10_plan_68 rfl rfl (by decide) rfl fl_10_232 ?_
        try simp (disch := first | decide | assumption | omega) only [ui_eq, ui_k, ui_j, ui_b, ui_2, ul_1, ul_eq, ul_k, ul_j, ul_b, hbk, keepF_blk, finF_blk, moveF_blk, addT_blk, sendF_blk, takeF_blk, solveF_blk, setUpF_blk, keepF_k, finF_k, finF_c, moveF_k, addT_k, sendF_k, takeF_k, solveF_k, setUpF_k]
        exact a_iret dX10_plan_71 rfl (by
  first
    | (simp only [planF, c1, c6, s36_0, if_true, if_false] at hQ; exact hQ)
    | (simp only [planF, s36_0, if_true, if_false] at hQ; exact hQ)
    | (simp only [planF, s36_0, s36_1, if_true, if_false] at hQ; exact hQ)
    | (exfalso; simp_all))
      by_cases s36_1 : x = 1
      · rw [s36_1]
        refine a_lookup dX10_plan_36 (off := 36) (by decide) (by decide) (tgt := 72) (by decide) ?_
        refine a_aload_n dX10_plan_72 rfl ?_
        refine a_getR (ci := 10) (j := 2) dX10_plan_73 rfl rfl (by decide) rfl fl_10_33 ?_
        refine a_aload_n dX10_plan_76 rfl ?_
        refine a_getD (ci := 10) (j := 3) dX10_plan_77 rfl rfl (by decide) rfl fl_10_40 (bb := b) (by first | exact hbk | (simp (disch := first | decide | assumption | omega) only [ui_eq, ui_k, ui_j, ui_b, keepF_blk, finF_blk, moveF_blk, addT_blk, sendF_blk, takeF_blk, solveF_blk, setUpF_blk, keepF_k, finF_k, finF_c, moveF_k, addT_k, sendF_k, takeF_k, solveF_k, setUpF_k, solveF_w, setUpF_w, solveF_n]; exact hbk)) ?_
        refine a_getR (ci := 1) (j := 1) dX10_plan_80 (kdB hb rfl) rfl (by decide) rfl fl_10_86 ?_
        refine a_cV1i dX10_plan_83 ml_10_235 wv_5_costTogether rfl rfl (by decide) (Nat.le_of_ble_eq_true rfl) (c5_costTogether (w := plW h b nt) hb (by first | exact hp | (simp (disch := first | decide | assumption | omega) only [ui_eq, ui_k, ui_j, ui_b, keepF_blk, finF_blk, moveF_blk, addT_blk, sendF_blk, takeF_blk, solveF_blk, setUpF_blk, keepF_k, finF_k, finF_c, moveF_k, addT_k, sendF_k, takeF_k, solveF_k, setUpF_k, solveF_w, setUpF_w, solveF_n]; exact hp)) (by rw [solveF_w]; exact setUpF_w) (plW_le h b nt) ⟨rfl, rfl⟩) ?_
        try simp (disch := first | decide | assumption | omega) only [ui_eq, ui_k, ui_j, ui_b, ui_2, ul_1, ul_eq, ul_k, ul_j, ul_b, hbk, keepF_blk, finF_blk, moveF_blk, addT_blk, sendF_blk, takeF_blk, solveF_blk, setUpF_blk, keepF_k, finF_k, finF_c, moveF_k, addT_k, sendF_k, takeF_k, solveF_k, setUpF_k]
        exact a_iret dX10_plan_86 rfl (by
  first
    | (simp only [planF, c1, c6, s36_1, if_true, if_false] at hQ; exact hQ)
    | (simp only [planF, s36_0, if_true, if_false] at hQ; exact hQ)
    | (simp only [planF, s36_0, s36_1, if_true, if_false] at hQ; exact hQ)
    | (exfalso; simp_all))
      refine a_lookup dX10_plan_36 (off := 51) (by decide) (by rw [lv_osw s36_0 (by decide)]; rw [lv_osw s36_1 (by decide)]; rfl) (tgt := 87) (by decide) ?_
      refine a_aload_n dX10_plan_87 rfl ?_
      refine a_getR (ci := 10) (j := 2) dX10_plan_88 rfl rfl (by decide) rfl fl_10_33 ?_
      refine a_iload_n dX10_plan_91 rfl ?_
      refine a_bipush (v := 10) dX10_plan_92 (by decide) ?_
      refine a_isub dX10_plan_94 ?_
      refine a_cV1i dX10_plan_95 ml_10_239 wv_5_typeFor rfl rfl (by decide) (Nat.le_of_ble_eq_true rfl) (c5_typeFor (w := plW h b nt) (by rw [solveF_w]; exact setUpF_w) (plW_le h b nt) ⟨rfl, rfl⟩) ?_
      try simp (disch := first | decide | assumption | omega) only [ui_eq, ui_k, ui_j, ui_b, ui_2, ul_1, ul_eq, ul_k, ul_j, ul_b, hbk, keepF_blk, finF_blk, moveF_blk, addT_blk, sendF_blk, takeF_blk, solveF_blk, setUpF_blk, keepF_k, finF_k, finF_c, moveF_k, addT_k, sendF_k, takeF_k, solveF_k, setUpF_k]
      exact a_iret dX10_plan_98 rfl (by
  first
    | (simp only [planF, c1, c6, s36_0, s36_1, if_true, if_false] at hQ; exact hQ)
    | (simp only [planF, s36_0, if_true, if_false] at hQ; exact hQ)
    | (simp only [planF, s36_0, s36_1, if_true, if_false] at hQ; exact hQ)
    | (exfalso; simp_all))
    · refine a_iload_n dX10_plan_9 rfl ?_
      refine a_bipush (v := 10) dX10_plan_10 (by decide) ?_
      refine a_icmp_ge dX10_plan_12 (tgt := 17) (by decide) (fun c12 => ?_) (fun c12 => ?_)
      · refine a_aload_n dX10_plan_17 rfl ?_
        refine a_getR (ci := 10) (j := 2) dX10_plan_18 rfl rfl (by decide) rfl fl_10_33 ?_
        refine a_aload_n dX10_plan_21 rfl ?_
        refine a_getD (ci := 10) (j := 3) dX10_plan_22 rfl rfl (by decide) rfl fl_10_40 (bb := b) (by first | exact hbk | (simp (disch := first | decide | assumption | omega) only [ui_eq, ui_k, ui_j, ui_b, keepF_blk, finF_blk, moveF_blk, addT_blk, sendF_blk, takeF_blk, solveF_blk, setUpF_blk, keepF_k, finF_k, finF_c, moveF_k, addT_k, sendF_k, takeF_k, solveF_k, setUpF_k, solveF_w, setUpF_w, solveF_n]; exact hbk)) ?_
        refine a_cV1v dX10_plan_25 ml_10_225 wv_5_setUp rfl rfl (by decide) (Nat.le_of_ble_eq_true rfl) (c5_setUp hb hp ht hq hnt ht40 ⟨rfl, rfl⟩) ?_
        try simp (disch := first | decide | assumption | omega) only [ui_eq, ui_k, ui_j, ui_b, ui_2, ul_1, ul_eq, ul_k, ul_j, ul_b, hbk, keepF_blk, finF_blk, moveF_blk, addT_blk, sendF_blk, takeF_blk, solveF_blk, setUpF_blk, keepF_k, finF_k, finF_c, moveF_k, addT_k, sendF_k, takeF_k, solveF_k, setUpF_k]
        refine a_aload_n dX10_plan_28 rfl ?_
        refine a_getR (ci := 10) (j := 2) dX10_plan_29 rfl rfl (by decide) rfl fl_10_33 ?_
        refine a_cV0v dX10_plan_32 ml_10_229 wv_5_solve rfl rfl (by decide) (Nat.le_of_ble_eq_true rfl) (c5_solve (w := plW h b nt) setUpF_w (plW_le h b nt) (suG_rng hg) ⟨rfl, rfl⟩) ?_
        try simp (disch := first | decide | assumption | omega) only [ui_eq, ui_k, ui_j, ui_b, ui_2, ul_1, ul_eq, ul_k, ul_j, ul_b, hbk, keepF_blk, finF_blk, moveF_blk, addT_blk, sendF_blk, takeF_blk, solveF_blk, setUpF_blk, keepF_k, finF_k, finF_c, moveF_k, addT_k, sendF_k, takeF_k, solveF_k, setUpF_k]
        refine a_iload_n dX10_plan_35 rfl ?_
        by_cases s36_0 : x = 0
        · rw [s36_0]
          refine a_lookup dX10_plan_36 (off := 28) (by decide) (by decide) (tgt := 64) (by decide) ?_
          refine a_aload_n dX10_plan_64 rfl ?_
          refine a_getR (ci := 10) (j := 2) dX10_plan_65 rfl rfl (by decide) rfl fl_10_33 ?_
          refine a_getI (ci := 5) (j := 8) dX10_plan_68 rfl rfl (by decide) rfl fl_10_232 ?_
          try simp (disch := first | decide | assumption | omega) only [ui_eq, ui_k, ui_j, ui_b, ui_2, ul_1, ul_eq, ul_k, ul_j, ul_b, hbk, keepF_blk, finF_blk, moveF_blk, addT_blk, sendF_blk, takeF_blk, solveF_blk, setUpF_blk, keepF_k, finF_k, finF_c, moveF_k, addT_k, sendF_k, takeF_k, solveF_k, setUpF_k]
          exact a_iret dX10_plan_71 rfl (by
  first
    | (simp only [planF, c1, c6, c12, s36_0, if_true, if_false] at hQ; exact hQ)
    | (simp only [planF, s36_0, if_true, if_false] at hQ; exact hQ)
    | (simp only [planF, s36_0, s36_1, if_true, if_false] at hQ; exact hQ)
    | (exfalso; simp_all))
        by_cases s36_1 : x = 1
        · rw [s36_1]
          refine a_lookup dX10_plan_36 (off := 36) (by decide) (by decide) (tgt := 72) (by decide) ?_
          refine a_aload_n dX10_plan_72 rfl ?_
          refine a_getR (ci := 10) (j := 2) dX10_plan_73 rfl rfl (by decide) rfl fl_10_33 ?_
          refine a_aload_n dX10_plan_76 rfl ?_
          refine a_getD (ci := 10) (j := 3) dX10_plan_77 rfl rfl (by decide) rfl fl_10_40 (bb := b) (by first | exact hbk | (simp (disch := first | decide | assumption | omega) only [ui_eq, ui_k, ui_j, ui_b, keepF_blk, finF_blk, moveF_blk, addT_blk, sendF_blk, takeF_blk, solveF_blk, setUpF_blk, keepF_k, finF_k, finF_c, moveF_k, addT_k, sendF_k, takeF_k, solveF_k, setUpF_k, solveF_w, setUpF_w, solveF_n]; exact hbk)) ?_
          refine a_getR (ci := 1) (j := 1) dX10_plan_80 (kdB hb rfl) rfl (by decide) rfl fl_10_86 ?_
          refine a_cV1i dX10_plan_83 ml_10_235 wv_5_costTogether rfl rfl (by decide) (Nat.le_of_ble_eq_true rfl) (c5_costTogether (w := plW h b nt) hb (by first | exact hp | (simp (disch := first | decide | assumption | omega) only [ui_eq, ui_k, ui_j, ui_b, keepF_blk, finF_blk, moveF_blk, addT_blk, sendF_blk, takeF_blk, solveF_blk, setUpF_blk, keepF_k, finF_k, finF_c, moveF_k, addT_k, sendF_k, takeF_k, solveF_k, setUpF_k, solveF_w, setUpF_w, solveF_n]; exact hp)) (by rw [solveF_w]; exact setUpF_w) (plW_le h b nt) ⟨rfl, rfl⟩) ?_
          try simp (disch := first | decide | assumption | omega) only [ui_eq, ui_k, ui_j, ui_b, ui_2, ul_1, ul_eq, ul_k, ul_j, ul_b, hbk, keepF_blk, finF_blk, moveF_blk, addT_blk, sendF_blk, takeF_blk, solveF_blk, setUpF_blk, keepF_k, finF_k, finF_c, moveF_k, addT_k, sendF_k, takeF_k, solveF_k, setUpF_k]
          exact a_iret dX10_plan_86 rfl (by
  first
    | (simp only [planF, c1, c6, c12, s36_1, if_true, if_false] at hQ; exact hQ)
    | (simp only [planF, s36_0, if_true, if_false] at hQ; exact hQ)
    | (simp only [planF, s36_0, s36_1, if_true, if_false] at hQ; exact hQ)
    | (exfalso; simp_all))
        refine a_lookup dX10_plan_36 (off := 51) (by decide) (by rw [lv_osw s36_0 (by decide)]; rw [lv_osw s36_1 (by decide)]; rfl) (tgt := 87) (by decide) ?_
        refine a_aload_n dX10_plan_87 rfl ?_
        refine a_getR (ci := 10) (j := 2) dX10_plan_88 rfl rfl (by decide) rfl fl_10_33 ?_
        refine a_iload_n dX10_plan_91 rfl ?_
        refine a_bipush (v := 10) dX10_plan_92 (by decide) ?_
        refine a_isub dX10_plan_94 ?_
        refine a_cV1i dX10_plan_95 ml_10_239 wv_5_typeFor rfl rfl (by decide) (Nat.le_of_ble_eq_true rfl) (c5_typeFor (w := plW h b nt) (by rw [solveF_w]; exact setUpF_w) (plW_le h b nt) ⟨rfl, rfl⟩) ?_
        try simp (disch := first | decide | assumption | omega) only [ui_eq, ui_k, ui_j, ui_b, ui_2, ul_1, ul_eq, ul_k, ul_j, ul_b, hbk, keepF_blk, finF_blk, moveF_blk, addT_blk, sendF_blk, takeF_blk, solveF_blk, setUpF_blk, keepF_k, finF_k, finF_c, moveF_k, addT_k, sendF_k, takeF_k, solveF_k, setUpF_k]
        exact a_iret dX10_plan_98 rfl (by
  first
    | (simp only [planF, c1, c6, c12, s36_0, s36_1, if_true, if_false] at hQ; exact hQ)
    | (simp only [planF, s36_0, if_true, if_false] at hQ; exact hQ)
    | (simp only [planF, s36_0, s36_1, if_true, if_false] at hQ; exact hQ)
    | (exfalso; simp_all))
      · refine a_iconst (v := (-1)) dX10_plan_15 (by decide) ?_
        exact a_iret dX10_plan_16 rfl (by
  first
    | (simp only [planF, c1, c6, c12, if_true, if_false] at hQ; exact hQ)
    | (simp only [planF, s36_0, if_true, if_false] at hQ; exact hQ)
    | (simp only [planF, s36_0, s36_1, if_true, if_false] at hQ; exact hQ)
    | (exfalso; simp_all))
theorem c10_served {l : Launch} {G : GG} {h : AH} {Q : Option Value → AH → Prop} {b nl np nq nt ax ak : Nat} (hW : WB h b nl np nq nt ax ak) {x y : Int32} (hg : rngG (h.1 0 11)) (hQ : Q (some (.int (servF h b nt x y).1)) (servF h b nt x y).2) : Ct l G 5 yX10_served cX10_served 3 (some .int) [.ref (G.1 0 0), .int x, .int y] h Q := by
  refine Ct.of (by decide) (Nat.le_of_ble_eq_true rfl) ?_
  show AW l G 5 RX10 cX10_served 3 (some .int) 0 [some (.ref (G.1 0 0)), some (.int x), some (.int y)] [] h Q
  obtain ⟨hb, hbk, hnl, hl8, hnp, hp6, hnq, hq8, hnt, ht40, hax, hax10, hak, hak10⟩ := id hW
  have hl : (h.1 b 1 1).toInt ≤ 8 := toNat_le hnl 8 hl8 (by decide)
  have hp : (h.1 b 3 11).toInt ≤ 6 := toNat_le hnp 6 hp6 (by decide)
  have hq : (h.1 b 15 5).toInt ≤ 8 := toNat_le hnq 8 hq8 (by decide)
  have ht : (h.1 b 21 9).toInt ≤ 40 := toNat_le hnt 40 ht40 (by decide)
  have hb0 : (0 : Nat) ≠ b := isB0' hb
  have hb1 : b ≠ 0 := isB0 hb
  refine a_aload_n dX10_served_0 rfl ?_
  refine a_getD (ci := 10) (j := 3) dX10_served_1 rfl rfl (by decide) rfl fl_10_40 (bb := b) (by first | exact hbk | (simp (disch := first | decide | assumption | omega) only [ui_eq, ui_k, ui_j, ui_b, keepF_blk, finF_blk, moveF_blk, addT_blk, sendF_blk, takeF_blk, solveF_blk, setUpF_blk, keepF_k, finF_k, finF_c, moveF_k, addT_k, sendF_k, takeF_k, solveF_k, setUpF_k, solveF_w, setUpF_w, solveF_n]; exact hbk)) ?_
  refine a_getR (ci := 1) (j := 1) dX10_served_4 (kdB hb rfl) rfl (by decide) rfl fl_10_86 ?_
  refine a_iload_n dX10_served_7 rfl ?_
  refine a_cV1i dX10_served_8 ml_10_127 wv_4_has (kdB hb rfl) rfl (by decide) (Nat.le_of_ble_eq_true rfl) (c4_has hb ⟨rfl, rfl⟩) ?_
  try simp (disch := first | decide | assumption | omega) only [ui_eq, ui_k, ui_j, ui_b, ui_2, ul_1, ul_eq, ul_k, ul_j, ul_b, hbk, keepF_blk, finF_blk, moveF_blk, addT_blk, sendF_blk, takeF_blk, solveF_blk, setUpF_blk, keepF_k, finF_k, finF_c, moveF_k, addT_k, sendF_k, takeF_k, solveF_k, setUpF_k]
  refine a_if_eq dX10_served_11 (tgt := 26) (by decide) (fun c11 => ?_) (fun c11 => ?_)
  · refine a_iconst (v := (-1)) dX10_served_26 (by decide) ?_
    exact a_iret dX10_served_27 rfl (by simp only [servF, c11, if_true, if_false, adF] at hQ ⊢; exact hQ)
  · refine a_iload_n dX10_served_14 rfl ?_
    refine a_bipush (v := (-99)) dX10_served_15 (by decide) ?_
    refine a_icmp_lt dX10_served_17 (tgt := 26) (by decide) (fun c17 => ?_) (fun c17 => ?_)
    · refine a_iconst (v := (-1)) dX10_served_26 (by decide) ?_
      exact a_iret dX10_served_27 rfl (by simp only [servF, c11, c17, if_true, if_false, adF] at hQ ⊢; exact hQ)
    · refine a_iload_n dX10_served_20 rfl ?_
      refine a_bipush (v := 99) dX10_served_21 (by decide) ?_
      refine a_icmp_le dX10_served_23 (tgt := 28) (by decide) (fun c23 => ?_) (fun c23 => ?_)
      · refine a_aload_n dX10_served_28 rfl ?_
        refine a_getR (ci := 10) (j := 2) dX10_served_29 rfl rfl (by decide) rfl fl_10_33 ?_
        refine a_aload_n dX10_served_32 rfl ?_
        refine a_getD (ci := 10) (j := 3) dX10_served_33 rfl rfl (by decide) rfl fl_10_40 (bb := b) (by first | exact hbk | (simp (disch := first | decide | assumption | omega) only [ui_eq, ui_k, ui_j, ui_b, keepF_blk, finF_blk, moveF_blk, addT_blk, sendF_blk, takeF_blk, solveF_blk, setUpF_blk, keepF_k, finF_k, finF_c, moveF_k, addT_k, sendF_k, takeF_k, solveF_k, setUpF_k, solveF_w, setUpF_w, solveF_n]; exact hbk)) ?_
        refine a_cV1v dX10_served_36 ml_10_225 wv_5_setUp rfl rfl (by decide) (Nat.le_of_ble_eq_true rfl) (c5_setUp hb hp ht hq hnt ht40 ⟨rfl, rfl⟩) ?_
        try simp (disch := first | decide | assumption | omega) only [ui_eq, ui_k, ui_j, ui_b, ui_2, ul_1, ul_eq, ul_k, ul_j, ul_b, hbk, keepF_blk, finF_blk, moveF_blk, addT_blk, sendF_blk, takeF_blk, solveF_blk, setUpF_blk, keepF_k, finF_k, finF_c, moveF_k, addT_k, sendF_k, takeF_k, solveF_k, setUpF_k]
        refine a_aload_n dX10_served_39 rfl ?_
        refine a_getR (ci := 10) (j := 2) dX10_served_40 rfl rfl (by decide) rfl fl_10_33 ?_
        refine a_iload_n dX10_served_43 rfl ?_
        refine a_iload_n dX10_served_44 rfl ?_
        refine a_cV2v dX10_served_45 ml_10_242 wv_5_addFree rfl rfl (by decide) (Nat.le_of_ble_eq_true rfl) (c5_addFree (hasI_in c11 (show (h.1 b 3 11).toInt ≤ ((7 : Nat) : Int) by omega)) ⟨rfl, rfl⟩) ?_
        try simp (disch := first | decide | assumption | omega) only [ui_eq, ui_k, ui_j, ui_b, ui_2, ul_1, ul_eq, ul_k, ul_j, ul_b, hbk, keepF_blk, finF_blk, moveF_blk, addT_blk, sendF_blk, takeF_blk, solveF_blk, setUpF_blk, keepF_k, finF_k, finF_c, moveF_k, addT_k, sendF_k, takeF_k, solveF_k, setUpF_k]
        refine a_aload_n dX10_served_48 rfl ?_
        refine a_getR (ci := 10) (j := 2) dX10_served_49 rfl rfl (by decide) rfl fl_10_33 ?_
        refine a_cV0v dX10_served_52 ml_10_229 wv_5_solve rfl rfl (by decide) (Nat.le_of_ble_eq_true rfl) (c5_solve (w := plW h b nt) (by rw [ui_k (by decide)]; exact setUpF_w) (plW_le h b nt) (fun k hk => by rw [ui_k (by decide)]; exact suG_rng hg k hk) ⟨rfl, rfl⟩) ?_
        try simp (disch := first | decide | assumption | omega) only [ui_eq, ui_k, ui_j, ui_b, ui_2, ul_1, ul_eq, ul_k, ul_j, ul_b, hbk, keepF_blk, finF_blk, moveF_blk, addT_blk, sendF_blk, takeF_blk, solveF_blk, setUpF_blk, keepF_k, finF_k, finF_c, moveF_k, addT_k, sendF_k, takeF_k, solveF_k, setUpF_k]
        refine a_aload_n dX10_served_55 rfl ?_
        refine a_getR (ci := 10) (j := 2) dX10_served_56 rfl rfl (by decide) rfl fl_10_33 ?_
        refine a_getI (ci := 5) (j := 8) dX10_served_59 rfl rfl (by decide) rfl fl_10_232 ?_
        try simp (disch := first | decide | assumption | omega) only [ui_eq, ui_k, ui_j, ui_b, ui_2, ul_1, ul_eq, ul_k, ul_j, ul_b, hbk, keepF_blk, finF_blk, moveF_blk, addT_blk, sendF_blk, takeF_blk, solveF_blk, setUpF_blk, keepF_k, finF_k, finF_c, moveF_k, addT_k, sendF_k, takeF_k, solveF_k, setUpF_k]
        exact a_iret dX10_served_62 rfl (by simp only [servF, c11, c17, c23, if_true, if_false, adF] at hQ ⊢; exact hQ)
      · refine a_iconst (v := (-1)) dX10_served_26 (by decide) ?_
        exact a_iret dX10_served_27 rfl (by simp only [servF, c11, c17, c23, if_true, if_false, adF] at hQ ⊢; exact hQ)
theorem l10_need {l : Launch} {G : GG} {h : AH} {Q : Option Value → AH → Prop} {w : Nat} (hw8 : w ≤ 8) {x : Int32} (hx : vp_in x 7) (g : AH) (hw : g.1 0 6 7 = nI w) (hg : rngG (g.1 0 11)) (m : Nat) (hm : m ≤ 9) (hQ : Q (some (.int (needG w x (9 - m) m g).1)) (needG w x (9 - m) m g).2) : AW l G 5 RX10 cX10_needs 3 (some .int) 29 [some (.ref (G.1 0 0)), some (.int x), some (.int (nI m))] [] g Q := by
  refine a_iload_n dX10_needs_29 rfl ?_
  refine a_bipush (v := 8) dX10_needs_30 (by decide) ?_
  refine a_icmp_gt dX10_needs_32 (tgt := 76) (by decide) (fun c32 => ?_) (fun c32 => ?_)
  · have hge : m = 9 := by
      have q : 8 < m := (nI_ltI (by decide) (by omega)).mp (show nI 8 < nI m from c32)
      omega
    subst hge
    rw [Nat.sub_self, needG] at hQ
    refine a_bipush (v := (-2)) dX10_needs_76 (by decide) ?_
    exact a_iret dX10_needs_78 rfl hQ
  · have hle : m ≤ 8 := by
      rcases Nat.lt_or_ge 8 m with q | q
      · exact absurd ((nI_ltI (by decide) (by omega)).mpr q) c32
      · exact q
    rw [show 9 - m = (9 - (m + 1)) + 1 by omega, needG] at hQ
    refine a_aload_n dX10_needs_35 rfl ?_
    refine a_getR (ci := 10) (j := 2) dX10_needs_36 rfl rfl (by decide) rfl fl_10_33 ?_
    refine a_cV0v dX10_needs_39 ml_10_229 wv_5_solve rfl rfl (by decide) (Nat.le_of_ble_eq_true rfl) (c5_solve (w := w) hw hw8 hg ⟨rfl, rfl⟩) ?_
    try simp (disch := first | decide | assumption | omega) only [ui_eq, ui_k, ui_j, ui_b, ui_2, ul_1, ul_eq, ul_k, ul_j, ul_b]
    refine a_aload_n dX10_needs_42 rfl ?_
    refine a_getR (ci := 10) (j := 2) dX10_needs_43 rfl rfl (by decide) rfl fl_10_33 ?_
    refine a_getI (ci := 5) (j := 8) dX10_needs_46 rfl rfl (by decide) rfl fl_10_232 ?_
    try simp (disch := first | decide | assumption | omega) only [ui_eq, ui_k, ui_j, ui_b, ui_2, ul_1, ul_eq, ul_k, ul_j, ul_b]
    refine a_aload_n dX10_needs_49 rfl ?_
    refine a_getR (ci := 10) (j := 2) dX10_needs_50 rfl rfl (by decide) rfl fl_10_33 ?_
    refine a_getI (ci := 5) (j := 7) dX10_needs_53 rfl rfl (by decide) rfl fl_10_246 ?_
    try simp (disch := first | decide | assumption | omega) only [ui_eq, ui_k, ui_j, ui_b, ui_2, ul_1, ul_eq, ul_k, ul_j, ul_b]
    refine a_icmp_ne dX10_needs_56 (tgt := 61) (by decide) (fun c56 => ?_) (fun c56 => ?_)
    · refine a_aload_n dX10_needs_61 rfl ?_
      refine a_getR (ci := 10) (j := 2) dX10_needs_62 rfl rfl (by decide) rfl fl_10_33 ?_
      refine a_iload_n dX10_needs_65 rfl ?_
      refine a_iconst (v := 1) dX10_needs_66 (by decide) ?_
      refine a_cV2v dX10_needs_67 ml_10_242 wv_5_addFree rfl rfl (by decide) (Nat.le_of_ble_eq_true rfl) (c5_addFree hx ⟨rfl, rfl⟩) ?_
      try simp (disch := first | decide | assumption | omega) only [ui_eq, ui_k, ui_j, ui_b, ui_2, ul_1, ul_eq, ul_k, ul_j, ul_b]
      refine a_inc (c := 1) dX10_needs_70 rfl (by decide) (by decide) rfl ?_
      dsimp only [lset]
      refine a_goto dX10_needs_73 (tgt := 29) (by decide) ?_
      rw [nI_1]
      rw [if_neg c56] at hQ
      exact l10_need (h := h) hw8 hx _ (by rw [ui_k (by decide), solveF_w]; exact hw) (fun k hk => by rw [ui_k (by decide), solveF_g]; exact solG_rng hg w w hw8 k hk) (m + 1) (by omega) hQ
    · refine a_iload_n dX10_needs_59 rfl ?_
      exact a_iret dX10_needs_60 rfl (by rw [if_pos c56] at hQ; exact hQ)
termination_by 9 - m
decreasing_by all_goals omega
theorem c10_needs {l : Launch} {G : GG} {h : AH} {Q : Option Value → AH → Prop} {b nl np nq nt ax ak : Nat} (hW : WB h b nl np nq nt ax ak) {x : Int32} (hg : rngG (h.1 0 11)) (hQ : Q (some (.int (needF h b nt x).1)) (needF h b nt x).2) : Ct l G 5 yX10_needs cX10_needs 3 (some .int) [.ref (G.1 0 0), .int x] h Q := by
  refine Ct.of (by decide) (Nat.le_of_ble_eq_true rfl) ?_
  show AW l G 5 RX10 cX10_needs 3 (some .int) 0 [some (.ref (G.1 0 0)), some (.int x)] [] h Q
  obtain ⟨hb, hbk, hnl, hl8, hnp, hp6, hnq, hq8, hnt, ht40, hax, hax10, hak, hak10⟩ := id hW
  have hl : (h.1 b 1 1).toInt ≤ 8 := toNat_le hnl 8 hl8 (by decide)
  have hp : (h.1 b 3 11).toInt ≤ 6 := toNat_le hnp 6 hp6 (by decide)
  have hq : (h.1 b 15 5).toInt ≤ 8 := toNat_le hnq 8 hq8 (by decide)
  have ht : (h.1 b 21 9).toInt ≤ 40 := toNat_le hnt 40 ht40 (by decide)
  have hb0 : (0 : Nat) ≠ b := isB0' hb
  have hb1 : b ≠ 0 := isB0 hb
  refine a_aload_n dX10_needs_0 rfl ?_
  refine a_getD (ci := 10) (j := 3) dX10_needs_1 rfl rfl (by decide) rfl fl_10_40 (bb := b) (by first | exact hbk | (simp (disch := first | decide | assumption | omega) only [ui_eq, ui_k, ui_j, ui_b, keepF_blk, finF_blk, moveF_blk, addT_blk, sendF_blk, takeF_blk, solveF_blk, setUpF_blk, keepF_k, finF_k, finF_c, moveF_k, addT_k, sendF_k, takeF_k, solveF_k, setUpF_k, solveF_w, setUpF_w, solveF_n]; exact hbk)) ?_
  refine a_getR (ci := 1) (j := 1) dX10_needs_4 (kdB hb rfl) rfl (by decide) rfl fl_10_86 ?_
  refine a_iload_n dX10_needs_7 rfl ?_
  refine a_cV1i dX10_needs_8 ml_10_127 wv_4_has (kdB hb rfl) rfl (by decide) (Nat.le_of_ble_eq_true rfl) (c4_has hb ⟨rfl, rfl⟩) ?_
  try simp (disch := first | decide | assumption | omega) only [ui_eq, ui_k, ui_j, ui_b, ui_2, ul_1, ul_eq, ul_k, ul_j, ul_b, hbk, keepF_blk, finF_blk, moveF_blk, addT_blk, sendF_blk, takeF_blk, solveF_blk, setUpF_blk, keepF_k, finF_k, finF_c, moveF_k, addT_k, sendF_k, takeF_k, solveF_k, setUpF_k, solveF_w, setUpF_w, solveF_n]
  refine a_if_ne dX10_needs_11 (tgt := 16) (by decide) (fun c11 => ?_) (fun c11 => ?_)
  · refine a_aload_n dX10_needs_16 rfl ?_
    refine a_getR (ci := 10) (j := 2) dX10_needs_17 rfl rfl (by decide) rfl fl_10_33 ?_
    refine a_aload_n dX10_needs_20 rfl ?_
    refine a_getD (ci := 10) (j := 3) dX10_needs_21 rfl rfl (by decide) rfl fl_10_40 (bb := b) (by first | exact hbk | (simp (disch := first | decide | assumption | omega) only [ui_eq, ui_k, ui_j, ui_b, keepF_blk, finF_blk, moveF_blk, addT_blk, sendF_blk, takeF_blk, solveF_blk, setUpF_blk, keepF_k, finF_k, finF_c, moveF_k, addT_k, sendF_k, takeF_k, solveF_k, setUpF_k, solveF_w, setUpF_w, solveF_n]; exact hbk)) ?_
    refine a_cV1v dX10_needs_24 ml_10_225 wv_5_setUp rfl rfl (by decide) (Nat.le_of_ble_eq_true rfl) (c5_setUp hb hp ht hq hnt ht40 ⟨rfl, rfl⟩) ?_
    try simp (disch := first | decide | assumption | omega) only [ui_eq, ui_k, ui_j, ui_b, ui_2, ul_1, ul_eq, ul_k, ul_j, ul_b, hbk, keepF_blk, finF_blk, moveF_blk, addT_blk, sendF_blk, takeF_blk, solveF_blk, setUpF_blk, keepF_k, finF_k, finF_c, moveF_k, addT_k, sendF_k, takeF_k, solveF_k, setUpF_k, solveF_w, setUpF_w, solveF_n]
    refine a_iconst (v := 0) dX10_needs_27 (by decide) ?_
    refine a_istore_n dX10_needs_28 (by decide) rfl ?_
    dsimp only [lset]
    exact l10_need (h := h) (plW_le h b nt) (hasI_in c11 (show (h.1 b 3 11).toInt ≤ ((7 : Nat) : Int) by omega)) _ setUpF_w (suG_rng hg) 0 (by omega) (by simp only [needF, c11, if_true, if_false] at hQ; exact hQ)
  · refine a_iconst (v := (-1)) dX10_needs_14 (by decide) ?_
    exact a_iret dX10_needs_15 rfl (by simp only [needF, c11, if_true, if_false] at hQ; exact hQ)
