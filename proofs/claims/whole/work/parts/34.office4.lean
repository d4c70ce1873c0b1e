def asG (b : Nat) (tr gv : Nat → Int32) (g : AH) : Nat → Int32 × AH
  | 0 => (0, g)
  | k + 1 => ((asG b tr gv g k).1 ||| sendV (asG b tr gv g k).2 b (tr k) (gv k), sendF (asG b tr gv g k).2 b (tr k) (gv k))
theorem asG_blk {b b' : Nat} {tr gv : Nat → Int32} {g : AH} (hn : b' ≠ b) (k : Nat) : (asG b tr gv g k).2.1 b' = g.1 b' := by
  induction k with
  | zero => rfl
  | succ k ih =>
    show (sendF _ b _ _).1 b' = _
    rw [sendF_blk hn, ih]
theorem asG_k {b b' k' j : Nat} {tr gv : Nat → Int32} {g : AH} (h1 : k' ≠ 26) (h2 : k' ≠ 27) (h3 : k' ≠ 28) (h4 : k' ≠ 11) (k : Nat) : (asG b tr gv g k).2.1 b' k' j = g.1 b' k' j := by
  induction k with
  | zero => rfl
  | succ k ih =>
    show (sendF _ b _ _).1 b' k' j = _
    rw [sendF_k h1 h2 h3 h4, ih]
def asgR (h : AH) (b n : Nat) : Int32 × AH := asG b ((planH h b n).1 0 7) ((planH h b n).1 0 11) (planH h b n) (plW h b n)
def asgF (h : AH) (b n : Nat) : Int32 × AH := ((planH h b n).1 0 6 8, keepF (asgR h b n).2 b 1 (-1) (asgR h b n).1)
theorem l10_as {l : Launch} {G : GG} {h : AH} {Q : Option Value → AH → Prop} {b : Nat} (hb : isB b) (g : AH) (hbk : (g.1 0 0 3).toNatClampNeg = b) (hp : (g.1 b 3 11).toInt ≤ 6) (ht : (g.1 b 21 9).toInt ≤ 40) {w : Nat} (hw : g.1 0 6 7 = nI w) (hw8 : w ≤ 8) (k : Nat) (hk : k ≤ w) (hE : AW l G 5 RX10 cX10_assign 3 (some .int) 67 [some (.ref (G.1 0 0)), some (.int (asG b (g.1 0 7) (g.1 0 11) g w).1), some (.int (nI w))] [] (asG b (g.1 0 7) (g.1 0 11) g w).2 Q) : AW l G 5 RX10 cX10_assign 3 (some .int) 22 [some (.ref (G.1 0 0)), some (.int (asG b (g.1 0 7) (g.1 0 11) g k).1), some (.int (nI k))] [] (asG b (g.1 0 7) (g.1 0 11) g k).2 Q := by
  have hb0 : (0 : Nat) ≠ b := isB0' hb
  have hki : (nI k).toNatClampNeg = k := nI_clamp (by omega)
  have e0 := asG_blk (tr := g.1 0 7) (gv := g.1 0 11) (g := g) hb0 k
  have hbk2 : ((asG b (g.1 0 7) (g.1 0 11) g k).2.1 0 0 3).toNatClampNeg = b := by rw [e0]; exact hbk
  refine a_iload_n dX10_assign_22 rfl ?_
  refine a_aload_n dX10_assign_23 rfl ?_
  refine a_getR (ci := 10) (j := 2) dX10_assign_24 rfl rfl (by decide) rfl fl_10_33 ?_
  refine a_getI (ci := 5) (j := 7) dX10_assign_27 rfl rfl (by decide) rfl fl_10_246 ?_
  try simp (disch := first | decide | assumption | omega) only [ui_eq, ui_k, ui_j, ui_b, ui_2, ul_1, ul_eq, ul_k, ul_j, ul_b, hki, e0, hw]
  refine a_icmp_ge dX10_assign_30 (tgt := 67) (by decide) (fun c30 => ?_) (fun c30 => ?_)
  · have hge : w ≤ k := le_of_le c30 (by omega) (by omega)
    have hie : k = w := by omega
    subst hie
    exact hE
  · have hlt : k < w := lt_of_nle c30 (by omega) (by omega)
    refine a_iload_n dX10_assign_33 rfl ?_
    refine a_aload_n dX10_assign_34 rfl ?_
    refine a_getD (ci := 10) (j := 3) dX10_assign_35 rfl rfl (by decide) rfl fl_10_40 (bb := b) hbk2 ?_
    refine a_aload_n dX10_assign_38 rfl ?_
    refine a_getR (ci := 10) (j := 2) dX10_assign_39 rfl rfl (by decide) rfl fl_10_33 ?_
    refine a_getR (ci := 5) (j := 0) dX10_assign_42 rfl rfl (by decide) rfl fl_10_277 ?_
    refine a_iload_n dX10_assign_45 rfl ?_
    refine a_iaload dX10_assign_46 rfl (vp_in_nI (show k < 8 by omega) (by decide)) ?_
    try simp (disch := first | decide | assumption | omega) only [ui_eq, ui_k, ui_j, ui_b, ui_2, ul_1, ul_eq, ul_k, ul_j, ul_b, hki, e0, hw]
    refine a_aload_n dX10_assign_47 rfl ?_
    refine a_getR (ci := 10) (j := 2) dX10_assign_48 rfl rfl (by decide) rfl fl_10_33 ?_
    refine a_getR (ci := 5) (j := 4) dX10_assign_51 rfl rfl (by decide) rfl fl_10_279 ?_
    refine a_iload_n dX10_assign_54 rfl ?_
    refine a_iaload dX10_assign_55 rfl (vp_in_nI (show k < 8 by omega) (by decide)) ?_
    try simp (disch := first | decide | assumption | omega) only [ui_eq, ui_k, ui_j, ui_b, ui_2, ul_1, ul_eq, ul_k, ul_j, ul_b, hki, e0, hw]
    refine a_cV2i dX10_assign_56 ml_10_282 wv_1_sendOut (kdB hb rfl) rfl (by decide) (Nat.le_of_ble_eq_true rfl) (c1_sendOut hb (by rw [asG_k (by decide) (by decide) (by decide) (by decide)]; exact hp) (by rw [asG_k (by decide) (by decide) (by decide) (by decide)]; exact ht) ⟨rfl, rfl⟩) ?_
    try simp (disch := first | decide | assumption | omega) only [ui_eq, ui_k, ui_j, ui_b, ui_2, ul_1, ul_eq, ul_k, ul_j, ul_b, hki, e0, hw]
    refine a_ior dX10_assign_59 ?_
    refine a_istore_n dX10_assign_60 (by decide) rfl ?_
    dsimp only [lset]
    refine a_inc (c := 1) dX10_assign_61 rfl (by decide) (by decide) rfl ?_
    dsimp only [lset]
    refine a_goto dX10_assign_64 (tgt := 22) (by decide) ?_
    rw [nI_1]
    exact l10_as (h := h) hb g hbk hp ht hw hw8 (k + 1) (by omega) hE
termination_by w - k
decreasing_by all_goals omega
theorem c10_assign {l : Launch} {G : GG} {h : AH} {Q : Option Value → AH → Prop} {b nl np nq nt ax ak : Nat} (hW : WB h b nl np nq nt ax ak) (hg : rngG (h.1 0 11)) (hQ : Q (some (.int (asgF h b nt).1)) (asgF h b nt).2) : Ct l G 5 yX10_assign cX10_assign 3 (some .int) [.ref (G.1 0 0)] h Q := by
  refine Ct.of (by decide) (Nat.le_of_ble_eq_true rfl) ?_
  show AW l G 5 RX10 cX10_assign 3 (some .int) 0 [some (.ref (G.1 0 0))] [] h Q
  obtain ⟨hb, hbk, hnl, hl8, hnp, hp6, hnq, hq8, hnt, ht40, hax, hax10, hak, hak10⟩ := id hW
  have hl : (h.1 b 1 1).toInt ≤ 8 := toNat_le hnl 8 hl8 (by decide)
  have hp : (h.1 b 3 11).toInt ≤ 6 := toNat_le hnp 6 hp6 (by decide)
  have hq : (h.1 b 15 5).toInt ≤ 8 := toNat_le hnq 8 hq8 (by decide)
  have ht : (h.1 b 21 9).toInt ≤ 40 := toNat_le hnt 40 ht40 (by decide)
  have hb0 : (0 : Nat) ≠ b := isB0' hb
  have hb1 : b ≠ 0 := isB0 hb
  refine a_aload_n dX10_assign_0 rfl ?_
  refine a_getR (ci := 10) (j := 2) dX10_assign_1 rfl rfl (by decide) rfl fl_10_33 ?_
  refine a_aload_n dX10_assign_4 rfl ?_
  refine a_getD (ci := 10) (j := 3) dX10_assign_5 rfl rfl (by decide) rfl fl_10_40 (bb := b) (by first | exact hbk | (simp (disch := first | decide | assumption | omega) only [ui_eq, ui_k, ui_j, ui_b, keepF_blk, finF_blk, moveF_blk, addT_blk, sendF_blk, takeF_blk, solveF_blk, setUpF_blk, keepF_k, finF_k, finF_c, moveF_k, addT_k, sendF_k, takeF_k, solveF_k, setUpF_k, solveF_w, setUpF_w, solveF_n]; exact hbk)) ?_
  refine a_cV1v dX10_assign_8 ml_10_225 wv_5_setUp rfl rfl (by decide) (Nat.le_of_ble_eq_true rfl) (c5_setUp hb hp ht hq hnt ht40 ⟨rfl, rfl⟩) ?_
  try simp (disch := first | decide | assumption | omega) only [ui_eq, ui_k, ui_j, ui_b, ui_2, ul_1, ul_eq, ul_k, ul_j, ul_b, hbk]
  refine a_aload_n dX10_assign_11 rfl ?_
  refine a_getR (ci := 10) (j := 2) dX10_assign_12 rfl rfl (by decide) rfl fl_10_33 ?_
  refine a_cV0v dX10_assign_15 ml_10_229 wv_5_solve rfl rfl (by decide) (Nat.le_of_ble_eq_true rfl) (c5_solve (w := plW h b nt) setUpF_w (plW_le h b nt) (suG_rng hg) ⟨rfl, rfl⟩) ?_
  try simp (disch := first | decide | assumption | omega) only [ui_eq, ui_k, ui_j, ui_b, ui_2, ul_1, ul_eq, ul_k, ul_j, ul_b, hbk]
  refine a_iconst (v := 0) dX10_assign_18 (by decide) ?_
  refine a_istore_n dX10_assign_19 (by decide) rfl ?_
  dsimp only [lset]
  refine a_iconst (v := 0) dX10_assign_20 (by decide) ?_
  refine a_istore_n dX10_assign_21 (by decide) rfl ?_
  dsimp only [lset]
  refine l10_as (h := h) hb (solveF (setUpF h b nt) (plW h b nt)) (by simp (disch := first | decide | assumption) only [solveF_k, setUpF_k]; exact hbk) (by rw [solveF_blk hb1, setUpF_blk hb1]; exact hp) (by rw [solveF_blk hb1, setUpF_blk hb1]; exact ht) (w := plW h b nt) (by rw [solveF_w]; exact setUpF_w) (plW_le h b nt) 0 (by omega) ?_
  have e0 := asG_blk (b := b) (tr := (solveF (setUpF h b nt) (plW h b nt)).1 0 7) (gv := (solveF (setUpF h b nt) (plW h b nt)).1 0 11) (g := solveF (setUpF h b nt) (plW h b nt)) hb0 (plW h b nt)
  refine a_aload_n dX10_assign_67 rfl ?_
  refine a_getD (ci := 10) (j := 3) dX10_assign_68 rfl rfl (by decide) rfl fl_10_40 (bb := b) (by rw [e0]; simp (disch := first | decide | assumption) only [solveF_k, setUpF_k]; exact hbk) ?_
  refine a_getR (ci := 1) (j := 4) dX10_assign_71 (kdB hb rfl) rfl (by decide) rfl fl_10_118 ?_
  refine a_iconst (v := 1) dX10_assign_74 (by decide) ?_
  refine a_iconst (v := (-1)) dX10_assign_75 (by decide) ?_
  refine a_iload_n dX10_assign_76 rfl ?_
  refine a_cV3v dX10_assign_77 ml_10_270 wv_0_keep (kdB hb rfl) rfl (by decide) (Nat.le_of_ble_eq_true rfl) (c0_keep hb (axn (by rw [asG_k (by decide) (by decide) (by decide) (by decide)]; simp (disch := first | decide | assumption) only [solveF_blk, setUpF_blk]; exact hax) hax10).1 (axn (by rw [asG_k (by decide) (by decide) (by decide) (by decide)]; simp (disch := first | decide | assumption) only [solveF_blk, setUpF_blk]; exact hax) hax10).2.1 (axn (by rw [asG_k (by decide) (by decide) (by decide) (by decide)]; simp (disch := first | decide | assumption) only [solveF_blk, setUpF_blk]; exact hax) hax10).2.2 ⟨rfl, rfl⟩) ?_
  try simp (disch := first | decide | assumption | omega) only [ui_eq, ui_k, ui_j, ui_b, ui_2, ul_1, ul_eq, ul_k, ul_j, ul_b, hbk]
  refine a_aload_n dX10_assign_80 rfl ?_
  refine a_getR (ci := 10) (j := 2) dX10_assign_81 rfl rfl (by decide) rfl fl_10_33 ?_
  refine a_getI (ci := 5) (j := 8) dX10_assign_84 rfl rfl (by decide) rfl fl_10_232 ?_
  try simp (disch := first | decide | assumption | omega) only [ui_eq, ui_k, ui_j, ui_b, ui_2, ul_1, ul_eq, ul_k, ul_j, ul_b, hbk]
  exact a_iret dX10_assign_87 rfl (by rw [keepF_blk hb0, e0]; exact hQ)
theorem takeX_ok : ∀ n, n < 10 → takeX (nI n) = nI ((n + 9) % 10) := by decide +kernel
def undS (h : AH) (b : Nat) : Nat := (takeX (h.1 b 31 3)).toNatClampNeg
def undH (h : AH) (b nq : Nat) : AH := undoF (takeF h b) b (h.1 b 32 (undS h b)) (h.1 b 33 (undS h b)) (h.1 b 34 (undS h b)) nq
def undF (h : AH) (b nq : Nat) : Int32 × AH := if 0 < h.1 b 31 4 then ((undH h b nq).1 b 31 4, undH h b nq) else (-1, h)
theorem c10_undo {l : Launch} {G : GG} {h : AH} {Q : Option Value → AH → Prop} {b nl np nq nt ax ak : Nat} (hW : WB h b nl np nq nt ax ak)  (hQ : Q (some (.int (undF h b nq).1)) (undF h b nq).2) : Ct l G 4 yX10_undo cX10_undo 3 (some .int) [.ref (G.1 0 0)] h Q := by
  refine Ct.of (by decide) (Nat.le_of_ble_eq_true rfl) ?_
  show AW l G 4 RX10 cX10_undo 3 (some .int) 0 [some (.ref (G.1 0 0))] [] h Q
  obtain ⟨hb, hbk, hnl, hl8, hnp, hp6, hnq, hq8, hnt, ht40, hax, hax10, hak, hak10⟩ := id hW
  have hl : (h.1 b 1 1).toInt ≤ 8 := toNat_le hnl 8 hl8 (by decide)
  have hp : (h.1 b 3 11).toInt ≤ 6 := toNat_le hnp 6 hp6 (by decide)
  have hq : (h.1 b 15 5).toInt ≤ 8 := toNat_le hnq 8 hq8 (by decide)
  have ht : (h.1 b 21 9).toInt ≤ 40 := toNat_le hnt 40 ht40 (by decide)
  have hb0 : (0 : Nat) ≠ b := isB0' hb
  have hb1 : b ≠ 0 := isB0 hb
  have htx : vp_in (takeX (h.1 b 31 3)) 10 := by rw [hax, takeX_ok ax hax10]; exact vp_in_nI (Nat.mod_lt _ (by decide)) (by decide)
  refine a_aload_n dX10_undo_0 rfl ?_
  refine a_getD (ci := 10) (j := 3) dX10_undo_1 rfl rfl (by decide) rfl fl_10_40 (bb := b) (by first | exact hbk | (simp (disch := first | decide | assumption | omega) only [ui_eq, ui_k, ui_j, ui_b, keepF_blk, finF_blk, moveF_blk, addT_blk, sendF_blk, takeF_blk, solveF_blk, setUpF_blk, keepF_k, finF_k, finF_c, moveF_k, addT_k, sendF_k, takeF_k, solveF_k, setUpF_k, solveF_w, setUpF_w, solveF_n]; exact hbk)) ?_
  refine a_getR (ci := 1) (j := 4) dX10_undo_4 (kdB hb rfl) rfl (by decide) rfl fl_10_118 ?_
  refine a_astore_n dX10_undo_7 (by decide) rfl ?_
  dsimp only [lset]
  refine a_aload_n dX10_undo_8 rfl ?_
  refine a_getI (ci := 0) (j := 4) dX10_undo_9 (kdB hb rfl) rfl (by decide) rfl fl_10_122 ?_
  try simp (disch := first | decide | assumption | omega) only [ui_eq, ui_k, ui_j, ui_b, ui_2, ul_1, ul_eq, ul_k, ul_j, ul_b, takeF_k, takeF_blk]
  refine a_if_gt dX10_undo_12 (tgt := 17) (by decide) (fun c12 => ?_) (fun c12 => ?_)
  · refine a_aload_n dX10_undo_17 rfl ?_
    refine a_cV0i dX10_undo_18 ml_10_293 wv_0_takeLatest (kdB hb rfl) rfl (by decide) (Nat.le_of_ble_eq_true rfl) (c0_takeLatest hb ⟨rfl, rfl⟩) ?_
    try simp (disch := first | decide | assumption | omega) only [ui_eq, ui_k, ui_j, ui_b, ui_2, ul_1, ul_eq, ul_k, ul_j, ul_b, takeF_k, takeF_blk]
    refine a_istore_n dX10_undo_21 (by decide) rfl ?_
    dsimp only [lset]
    refine a_aload_n dX10_undo_22 rfl ?_
    refine a_getD (ci := 10) (j := 3) dX10_undo_23 rfl rfl (by decide) rfl fl_10_40 (bb := b) (by rw [takeF_blk hb0]; exact hbk) ?_
    refine a_aload_n dX10_undo_26 rfl ?_
    refine a_getR (ci := 0) (j := 0) dX10_undo_27 (kdB hb rfl) rfl (by decide) rfl fl_10_296 ?_
    refine a_iload_n dX10_undo_30 rfl ?_
    refine a_iaload dX10_undo_31 (kdB hb rfl) htx ?_
    try simp (disch := first | decide | assumption | omega) only [ui_eq, ui_k, ui_j, ui_b, ui_2, ul_1, ul_eq, ul_k, ul_j, ul_b, takeF_k, takeF_blk]
    refine a_aload_n dX10_undo_32 rfl ?_
    refine a_getR (ci := 0) (j := 1) dX10_undo_33 (kdB hb rfl) rfl (by decide) rfl fl_10_297 ?_
    refine a_iload_n dX10_undo_36 rfl ?_
    refine a_iaload dX10_undo_37 (kdB hb rfl) htx ?_
    try simp (disch := first | decide | assumption | omega) only [ui_eq, ui_k, ui_j, ui_b, ui_2, ul_1, ul_eq, ul_k, ul_j, ul_b, takeF_k, takeF_blk]
    refine a_aload_n dX10_undo_38 rfl ?_
    refine a_getR (ci := 0) (j := 2) dX10_undo_39 (kdB hb rfl) rfl (by decide) rfl fl_10_300 ?_
    refine a_iload_n dX10_undo_42 rfl ?_
    refine a_iaload dX10_undo_43 (kdB hb rfl) htx ?_
    try simp (disch := first | decide | assumption | omega) only [ui_eq, ui_k, ui_j, ui_b, ui_2, ul_1, ul_eq, ul_k, ul_j, ul_b, takeF_k, takeF_blk]
    refine a_cV3v dX10_undo_44 ml_10_303 wv_1_takeBack (kdB hb rfl) rfl (by decide) (Nat.le_of_ble_eq_true rfl) (c1_takeBack (n := nq) hb (by rw [takeF_k (by decide)]; exact hp) (by rw [takeF_k (by decide)]; exact ht) (by rw [takeF_k (by decide)]; exact hq) (by rw [takeF_k (by decide)]; exact hnq) hq8 ⟨rfl, rfl⟩) ?_
    try simp (disch := first | decide | assumption | omega) only [ui_eq, ui_k, ui_j, ui_b, ui_2, ul_1, ul_eq, ul_k, ul_j, ul_b, takeF_k, takeF_blk]
    refine a_aload_n dX10_undo_47 rfl ?_
    refine a_getI (ci := 0) (j := 4) dX10_undo_48 (kdB hb rfl) rfl (by decide) rfl fl_10_122 ?_
    try simp (disch := first | decide | assumption | omega) only [ui_eq, ui_k, ui_j, ui_b, ui_2, ul_1, ul_eq, ul_k, ul_j, ul_b, takeF_k, takeF_blk]
    exact a_iret dX10_undo_51 rfl (by simp only [undF, c12, if_true, if_false] at hQ; exact hQ)
  · refine a_iconst (v := (-1)) dX10_undo_15 (by decide) ?_
    exact a_iret dX10_undo_16 rfl (by simp only [undF, c12, if_true, if_false] at hQ; exact hQ)
