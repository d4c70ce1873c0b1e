theorem ui_blk {h : AH} {b k j b' : Nat} {v : Int32} (hn : b' ≠ b) : (ui h b k j v).1 b' = h.1 b' := by funext k' j'; simp [ui, hn]
theorem setI_blk {h : AH} {b k b' : Nat} {f : Nat → Int32} (hn : b' ≠ b) : (setI h b k f).1 b' = h.1 b' := by funext k' j'; simp [setI, hn]
theorem freeF_congr {h h' : AH} {b : Nat} (e : h'.1 b = h.1 b) : freeF h' b = freeF h b := by
  funext x
  simp only [freeF, inF, outF, reisF, e]
theorem forF_congr {h h' : AH} {b : Nat} (e : h'.1 b = h.1 b) : forF h' b = forF h b := by
  funext x y
  simp only [forF, e]
theorem engF_congr {h h' : AH} {b : Nat} (e : h'.1 b = h.1 b) : engF h' b = engF h b := by
  funext x y
  simp only [engF, e]
theorem suitF_congr {h h' : AH} {b : Nat} (e : h'.1 b = h.1 b) : suitF h' b = suitF h b := by
  funext x y
  simp only [suitF, forF_congr e, engF_congr e, e]
theorem rmG_congr {h h' : AH} {b : Nat} (e : h'.1 b = h.1 b) : rmG h' b = rmG h b := by
  funext c
  simp only [rmG, freeF_congr e, e]
theorem prP_L {h : AH} {b k : Nat} {f : Nat → Int64} : prP (setL h b k f) = prP h := rfl
theorem sub1 (x : Int32) : x + (-1) = x - 1 := by rw [Int32.sub_eq_add_neg]
theorem neg_of {n : Nat} (hn : n < 2 ^ 31) (h : nI n - 1 < 0) : n = 0 := by
  cases n with
  | zero => rfl
  | succ n =>
    rw [nI_pred] at h
    exact absurd h (nI_pos (by omega))
theorem colH_1 {h : AH} {c : (Nat → Int32) × Nat} {b k : Nat} (h1 : k ≠ 6) (h2 : k ≠ 7) : (colH h c).1 b k = h.1 b k := by
  funext j
  rw [colH, ui_k h1, setI_k h2]
theorem colH_b {h : AH} {c : (Nat → Int32) × Nat} {b : Nat} (hn : b ≠ 0) : (colH h c).1 b = h.1 b := by rw [colH, ui_blk hn, setI_blk hn]
theorem colH_w {h : AH} {c : (Nat → Int32) × Nat} : (colH h c).1 0 6 7 = nI c.2 := by rw [colH, ui_eq]
def setUpF (h : AH) (b n : Nat) : AH :=
  ui (setI (setL (colH h (colG (h.1 b 26) (h.1 0 7) n)) 0 8 (prG (colH h (colG (h.1 b 26) (h.1 0 7) n)) b (colG (h.1 b 26) (h.1 0 7) n).2 (h.2 0 8) (colG (h.1 b 26) (h.1 0 7) n).2)) 0 9 (filG (rmG h b) (h.1 0 9) 6)) 0 9 6 8
theorem l5_suB {l : Launch} {G : GG} {h : AH} {Q : Option Value → AH → Prop} {b : Nat} (hb : isB b) (hp : (h.1 b 3 11).toInt ≤ 6) (ht : (h.1 b 21 9).toInt ≤ 40) (hq : (h.1 b 15 5).toInt ≤ 8) {w : Nat} (hw8 : w ≤ 8) {P : Nat → Int64} (i : Nat) (hi : i ≤ w) (hE : ∀ v, AW l G 4 RX5 cX5_setUp 5 none 100 [some (.ref (G.1 0 6)), some (.ref (G.1 b 0)), some (.long (pow7 w)), none, some (.int v)] [] (setL h 0 8 (prG h b w P w)) Q) : AW l G 4 RX5 cX5_setUp 5 none 75 [some (.ref (G.1 0 6)), some (.ref (G.1 b 0)), some (.long (pow7 i)), none, some (.int (nI (w - i) - 1))] [] (setL h 0 8 (prG h b w P i)) Q := by
  refine a_iload dX5_setUp_75 rfl ?_
  refine a_if_lt dX5_setUp_77 (tgt := 100) (by decide) (fun c77 => ?_) (fun c77 => ?_)
  · have hie : i = w := by have := neg_of (by omega) c77; omega
    subst hie
    exact hE _
  · have hlt : i < w := by
      rcases Nat.lt_or_ge i w with q | q
      · exact q
      · rw [show w - i = 0 by omega] at c77
        exact absurd (by decide) c77
    have ek : nI (w - i) - 1 = nI (w - (i + 1)) := by
      rw [show w - i = (w - (i + 1)) + 1 by omega, nI_pred]
    rw [ek]
    refine a_aload_n dX5_setUp_80 rfl ?_
    refine a_aload_n dX5_setUp_81 rfl ?_
    refine a_iload dX5_setUp_82 rfl ?_
    refine a_lload_n dX5_setUp_84 rfl ?_
    refine a_cV3v dX5_setUp_85 ml_5_51 wv_5_setPrices rfl rfl (by decide) (Nat.le_of_ble_eq_true rfl) (c5_setPrices (h := setL h 0 8 (prG h b w P i)) (k := w - (i + 1)) (wt := pow7 i) hb hp ht hq (by omega) ⟨rfl, rfl⟩) ?_
    try simp (disch := first | decide | assumption | omega) only [ui_eq, ui_k, ui_j, ui_b, ui_2, ul_1, ul_eq, ul_k, ul_j, ul_b, setI_eq, setI_k, setI_b, setI_2, setL_1, setL_eq, setL_k, setL_b]
    refine a_lload_n dX5_setUp_88 rfl ?_
    refine a_ldc2 (v := 7) kl_5_55 dX5_setUp_89 ?_
    refine a_lmul dX5_setUp_92 ?_
    refine a_lstore_n dX5_setUp_93 (by decide) rfl ?_
    dsimp only [lset]
    refine a_inc (c := (-1)) dX5_setUp_94 rfl (by decide) (by decide) rfl ?_
    dsimp only [lset]
    refine a_goto dX5_setUp_97 (tgt := 75) (by decide) ?_
    rw [setL_setL, setL_f, prP_L, sub1]
    exact l5_suB hb hp ht hq hw8 (i + 1) (by omega) hE
termination_by w - i
decreasing_by all_goals omega
theorem l5_suC {l : Launch} {G : GG} {h : AH} {Q : Option Value → AH → Prop} {b : Nat} (hb : isB b) (hp : (h.1 b 3 11).toInt ≤ 6) {R : Nat → Int32} {wt : Int64} (c : Nat) (hc : c ≤ 6) (hQ : Q none (ui (setI h 0 9 (filG (rmG h b) R 6)) 0 9 6 8)) : AW l G 4 RX5 cX5_setUp 5 none 103 [some (.ref (G.1 0 6)), some (.ref (G.1 b 0)), some (.long wt), none, some (.int (nI c))] [] (setI h 0 9 (filG (rmG h b) R c)) Q := by
  have hci : (nI c).toNatClampNeg = c := nI_clamp (by omega)
  have hb0 := isB0 hb
  have eb : (setI h 0 9 (filG (rmG h b) R c)).1 b = h.1 b := setI_blk hb0
  have ef := freeF_congr eb
  refine a_iload dX5_setUp_103 rfl ?_
  refine a_bipush (v := 6) dX5_setUp_105 (by decide) ?_
  refine a_icmp_ge dX5_setUp_107 (tgt := 148) (by decide) (fun c107 => ?_) (fun c107 => ?_)
  · have hge : 6 ≤ c := le_of_le (b := 6) c107 (by omega) (by decide)
    have hie : c = 6 := by omega
    subst hie
    refine a_aload_n dX5_setUp_148 rfl ?_
    refine a_getR (ci := 5) (j := 2) dX5_setUp_149 rfl rfl (by decide) rfl fl_5_19 ?_
    refine a_bipush (v := 6) dX5_setUp_152 (by decide) ?_
    refine a_bipush (v := 8) dX5_setUp_154 (by decide) ?_
    refine a_iastore dX5_setUp_156 rfl (by rw [vp_in_iff]; decide) ?_
    exact a_vret dX5_setUp_157 rfl hQ
  · have hlt : c < 6 := lt_of_nle (b := 6) c107 (by omega) (by decide)
    refine a_aload_n dX5_setUp_110 rfl ?_
    refine a_getR (ci := 5) (j := 2) dX5_setUp_111 rfl rfl (by decide) rfl fl_5_19 ?_
    refine a_iload dX5_setUp_114 rfl ?_
    refine a_aload_n dX5_setUp_116 rfl ?_
    refine a_getR (ci := 1) (j := 1) dX5_setUp_117 (kdB hb rfl) rfl (by decide) rfl fl_5_57 ?_
    refine a_iload dX5_setUp_120 rfl ?_
    refine a_cV1i dX5_setUp_122 ml_5_61 wv_4_has (kdB hb rfl) rfl (by decide) (Nat.le_of_ble_eq_true rfl) (c4_has hb ⟨rfl, rfl⟩) ?_
    try simp (disch := first | decide | assumption | omega) only [ui_eq, ui_k, ui_j, ui_b, ui_2, ul_1, ul_eq, ul_k, ul_j, ul_b, setI_eq, setI_k, setI_b, setI_2, setL_1, setL_eq, setL_k, setL_b, hci, ef]
    refine a_if_eq dX5_setUp_125 (tgt := 140) (by decide) (fun c125 => ?_) (fun c125 => ?_)
    · refine a_iconst (v := 0) dX5_setUp_140 (by decide) ?_
      refine a_iastore dX5_setUp_141 rfl (vp_in_nI (show c < 7 by omega) (by decide)) ?_
      refine a_inc (c := 1) dX5_setUp_142 rfl (by decide) (by decide) rfl ?_
      dsimp only [lset]
      refine a_goto dX5_setUp_145 (tgt := 103) (by decide) ?_
      rw [hci, uis, nI_1]
      first
        | (rw [show (0 : Int32) = rmG h b c by rw [rmG, if_pos c125], filG_s]; exact l5_suC hb hp (c + 1) (by omega) hQ)
        | (rw [show freeF h b (nI c) = rmG h b c by rw [rmG, if_neg c125], filG_s]; exact l5_suC hb hp (c + 1) (by omega) hQ)
    · refine a_aload_n dX5_setUp_128 rfl ?_
      refine a_getR (ci := 1) (j := 1) dX5_setUp_129 (kdB hb rfl) rfl (by decide) rfl fl_5_57 ?_
      refine a_iload dX5_setUp_132 rfl ?_
      refine a_cV1i dX5_setUp_134 ml_5_67 wv_4_countFree (kdB hb rfl) rfl (by decide) (Nat.le_of_ble_eq_true rfl) (c4_countFree hb (vp_in_nI hlt (by decide)) ⟨rfl, rfl⟩) ?_
      try simp (disch := first | decide | assumption | omega) only [ui_eq, ui_k, ui_j, ui_b, ui_2, ul_1, ul_eq, ul_k, ul_j, ul_b, setI_eq, setI_k, setI_b, setI_2, setL_1, setL_eq, setL_k, setL_b, hci, ef]
      refine a_goto dX5_setUp_137 (tgt := 141) (by decide) ?_
      refine a_iastore dX5_setUp_141 rfl (vp_in_nI (show c < 7 by omega) (by decide)) ?_
      refine a_inc (c := 1) dX5_setUp_142 rfl (by decide) (by decide) rfl ?_
      dsimp only [lset]
      refine a_goto dX5_setUp_145 (tgt := 103) (by decide) ?_
      rw [hci, uis, nI_1]
      first
        | (rw [show (0 : Int32) = rmG h b c by rw [rmG, if_pos c125], filG_s]; exact l5_suC hb hp (c + 1) (by omega) hQ)
        | (rw [show freeF h b (nI c) = rmG h b c by rw [rmG, if_neg c125], filG_s]; exact l5_suC hb hp (c + 1) (by omega) hQ)
termination_by 6 - c
decreasing_by all_goals omega
theorem c5_setUp {l : Launch} {G : GG} {h : AH} {Q : Option Value → AH → Prop} {b : Nat} (hb : isB b) (hp : (h.1 b 3 11).toInt ≤ 6) (ht : (h.1 b 21 9).toInt ≤ 40) (hq : (h.1 b 15 5).toInt ≤ 8) {n : Nat} (hn : h.1 b 21 9 = nI n) (h40 : n ≤ 40) (hQ : Q none (setUpF h b n)) : Ct l G 4 yX5_setUp cX5_setUp 5 none [.ref (G.1 0 6), .ref (G.1 b 0)] h Q := by
  refine Ct.of (by decide) (Nat.le_of_ble_eq_true rfl) ?_
  show AW l G 4 RX5 cX5_setUp 5 none 0 [some (.ref (G.1 0 6)), some (.ref (G.1 b 0))] [] h Q
  have hb0 := isB0 hb
  refine a_aload_n dX5_setUp_0 rfl ?_
  refine a_iconst (v := 0) dX5_setUp_1 (by decide) ?_
  refine a_putI (ci := 5) (j := 7) dX5_setUp_2 rfl rfl (by decide) (by decide) rfl fl_5_34 ?_
  refine a_iconst (v := 0) dX5_setUp_5 (by decide) ?_
  refine a_istore_n dX5_setUp_6 (by decide) rfl ?_
  dsimp only [lset]
  have e0 := setI_self (h := h) (b := 0) (k := 7)
  have e1 : ui h 0 6 7 0 = colH h (colG (h.1 b 26) (h.1 0 7) 0) := by
    show ui h 0 6 7 0 = ui (setI h 0 7 (h.1 0 7)) 0 6 7 (nI 0)
    rw [e0]
    rfl
  rw [e1]
  refine l5_col hb hn h40 0 (by omega) ?_
  refine a_lconst (v := 1) dX5_setUp_65 (by decide) ?_
  refine a_lstore_n dX5_setUp_66 (by decide) rfl ?_
  dsimp only [lset]
  refine a_aload_n dX5_setUp_67 rfl ?_
  refine a_getI (ci := 5) (j := 7) dX5_setUp_68 rfl rfl (by decide) rfl fl_5_34 ?_
  try simp (disch := first | decide | assumption | omega) only [ui_eq, ui_k, ui_j, ui_b, ui_2, ul_1, ul_eq, ul_k, ul_j, ul_b]
  refine a_iconst (v := 1) dX5_setUp_71 (by decide) ?_
  refine a_isub dX5_setUp_72 ?_
  refine a_istore dX5_setUp_73 (by decide) rfl ?_
  dsimp only [lset]
  rw [colH_w]
  have hw8 := colG_le (h.1 b 26) (h.1 0 7) n
  have eb : (colH h (colG (h.1 b 26) (h.1 0 7) n)).1 b = h.1 b := colH_b hb0
  have e2 := setL_self (h := colH h (colG (h.1 b 26) (h.1 0 7) n)) (b := 0) (k := 8)
  rw [show (colH h (colG (h.1 b 26) (h.1 0 7) n)).2 0 8 = h.2 0 8 from rfl] at e2
  rw [← e2]
  refine l5_suB (h := colH h (colG (h.1 b 26) (h.1 0 7) n)) (P := h.2 0 8) (w := (colG (h.1 b 26) (h.1 0 7) n).2) hb (by rw [eb]; exact hp) (by rw [eb]; exact ht) (by rw [eb]; exact hq) hw8 0 (by omega) (fun v75 => ?_)
  refine a_iconst (v := 0) dX5_setUp_100 (by decide) ?_
  refine a_istore dX5_setUp_101 (by decide) rfl ?_
  dsimp only [lset]
  have er : (setL (colH h (colG (h.1 b 26) (h.1 0 7) n)) 0 8 (prG (colH h (colG (h.1 b 26) (h.1 0 7) n)) b (colG (h.1 b 26) (h.1 0 7) n).2 (h.2 0 8) (colG (h.1 b 26) (h.1 0 7) n).2)).1 0 9 = h.1 0 9 := by rw [setL_1]; exact colH_1 (by decide) (by decide)
  have e3 := setI_self (h := setL (colH h (colG (h.1 b 26) (h.1 0 7) n)) 0 8 (prG (colH h (colG (h.1 b 26) (h.1 0 7) n)) b (colG (h.1 b 26) (h.1 0 7) n).2 (h.2 0 8) (colG (h.1 b 26) (h.1 0 7) n).2)) (b := 0) (k := 9)
  rw [er, ← filG_0 (rmG (setL (colH h (colG (h.1 b 26) (h.1 0 7) n)) 0 8 (prG (colH h (colG (h.1 b 26) (h.1 0 7) n)) b (colG (h.1 b 26) (h.1 0 7) n).2 (h.2 0 8) (colG (h.1 b 26) (h.1 0 7) n).2)) b) (h.1 0 9)] at e3
  rw [← e3]
  refine l5_suC hb (by rw [setL_1, eb]; exact hp) 0 (by omega) ?_
  rw [rmG_congr (h := h) (by rw [setL_1, eb])]
  exact hQ
