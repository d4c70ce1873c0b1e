def RJ (h : AH) (b : Nat) : Prop :=
  (h.1 b 1 1).toInt ≤ 8 ∧ (0 ≤ (h.1 b 3 11).toInt ∧ (h.1 b 3 11).toInt ≤ 6 ∧ (h.1 0 4 2 = 3 → (h.1 b 3 11).toInt < 6)) ∧
  (0 ≤ (h.1 b 15 5).toInt ∧ (h.1 b 15 5).toInt ≤ 8 ∧ (h.1 0 4 2 = 4 → (h.1 b 15 5).toInt < 8)) ∧
  (h.1 0 4 2 = 0 ∨ h.1 0 4 2 = 1 ∨ h.1 0 4 2 = 2 ∨ h.1 0 4 2 = 3 ∨ h.1 0 4 2 = 4) ∧
  (h.1 0 4 2 = 1 → h.1 0 4 3 = 0 ∨ (h.1 0 5 0).toInt ≤ 8)
theorem ge0 {x : Int32} (h : 0 ≤ x.toInt) : ¬ x < 0 := by
  rw [Int32.lt_iff_toInt_lt]
  have : (0 : Int32).toInt = 0 := by decide
  omega
theorem ltN {x n : Int32} (h : x.toInt < n.toInt) : ¬ n ≤ x := by
  rw [Int32.le_iff_toInt_le]
  omega
theorem inN {x : Int32} {n : Nat} (h1 : 0 ≤ x.toInt) (h2 : x.toInt < n) : vp_in x n := by
  rw [vp_in_iff]
  exact ⟨h1, h2⟩
theorem toInt_nle {x n : Int32} (h : ¬ n ≤ x) : x.toInt < n.toInt := by
  rw [Int32.le_iff_toInt_le] at h
  omega
theorem toInt_lt' {x n : Int32} (h : x < n) : x.toInt < n.toInt := (Int32.lt_iff_toInt_lt).mp h
theorem add1_toInt {x : Int32} (h1 : -1000 ≤ x.toInt) (h2 : x.toInt ≤ 1000) : (x + 1).toInt = x.toInt + 1 := by
  have e : (x + 1).toInt = (x.toInt + (1 : Int32).toInt).bmod (2 ^ 32) := Int32.toInt_add x 1
  rw [e, show (1 : Int32).toInt = 1 from by decide, Int.bmod_eq_of_le (by omega) (by omega)]
theorem c6_endLine {l : Launch} {G : GG} {h : AH} {Q : Option Value → AH → Prop} {b : Nat} (hb : isB b) (hj : RJ h b) (hs0 : ¬ h.1 0 4 2 = 0) (hQ : Q (some (.int 1)) (endF h b)) : Ct l G 3 yX6_endLine cX6_endLine 2 (some .boolean) [.ref (G.1 0 4), .ref (G.1 b 0)] h Q := by
  refine Ct.of (by decide) (Nat.le_of_ble_eq_true rfl) ?_
  show AW l G 3 RX6 cX6_endLine 2 (some .boolean) 0 [some (.ref (G.1 0 4)), some (.ref (G.1 b 0))] [] h Q
  have hb0 := isB0' hb
  have hb1 := isB0 hb
  obtain ⟨hj1, ⟨hj2, hj3, hj4⟩, ⟨hj5, hj6, hj7⟩, hj8, hj9⟩ := id hj
  refine a_aload_n dX6_endLine_0 rfl ?_
  refine a_getI (ci := 6) (j := 2) dX6_endLine_1 rfl rfl (by decide) rfl fl_6_19 ?_
  try simp (disch := first | decide | assumption | omega) only [ui_eq, ui_k, ui_j, ui_b, ui_2, ul_1, ul_eq, ul_k, ul_j, ul_b, addBF_0, addQ_0, addP_0]
  by_cases s4_1 : h.1 0 4 2 = 1
  · rw [s4_1]
    refine a_tableIn dX6_endLine_4 (off := 32) (by decide) (by decide) (by decide) (tgt := 36) (by decide) ?_
    refine a_aload_n dX6_endLine_36 rfl ?_
    refine a_getR (ci := 1) (j := 0) dX6_endLine_37 (kdB hb rfl) rfl (by decide) rfl fl_6_70 ?_
    refine a_aload_n dX6_endLine_40 rfl ?_
    refine a_getR (ci := 6) (j := 1) dX6_endLine_41 rfl rfl (by decide) rfl fl_6_9 ?_
    refine a_iconst (v := 0) dX6_endLine_44 (by decide) ?_
    refine a_iaload dX6_endLine_45 rfl (by rw [vp_in_iff]; decide) ?_
    try simp (disch := first | decide | assumption | omega) only [ui_eq, ui_k, ui_j, ui_b, ui_2, ul_1, ul_eq, ul_k, ul_j, ul_b, addBF_0, addQ_0, addP_0]
    refine a_putI (ci := 2) (j := 1) dX6_endLine_46 (kdB hb rfl) rfl (by decide) (by decide) rfl fl_6_154 ?_
    refine a_aload_n dX6_endLine_49 rfl ?_
    refine a_getR (ci := 1) (j := 1) dX6_endLine_50 (kdB hb rfl) rfl (by decide) rfl fl_6_84 ?_
    refine a_aload_n dX6_endLine_53 rfl ?_
    refine a_getR (ci := 6) (j := 1) dX6_endLine_54 rfl rfl (by decide) rfl fl_6_9 ?_
    refine a_iconst (v := 1) dX6_endLine_57 (by decide) ?_
    refine a_iaload dX6_endLine_58 rfl (by rw [vp_in_iff]; decide) ?_
    try simp (disch := first | decide | assumption | omega) only [ui_eq, ui_k, ui_j, ui_b, ui_2, ul_1, ul_eq, ul_k, ul_j, ul_b, addBF_0, addQ_0, addP_0]
    refine a_putI (ci := 4) (j := 12) dX6_endLine_59 (kdB hb rfl) rfl (by decide) (by decide) rfl fl_6_155 ?_
    refine a_goto dX6_endLine_62 (tgt := 138) (by decide) ?_
    refine a_aload_n dX6_endLine_138 rfl ?_
    refine a_dup dX6_endLine_139 rfl ?_
    refine a_getI (ci := 6) (j := 6) dX6_endLine_140 rfl rfl (by decide) rfl fl_6_23 ?_
    try simp (disch := first | decide | assumption | omega) only [ui_eq, ui_k, ui_j, ui_b, ui_2, ul_1, ul_eq, ul_k, ul_j, ul_b, addBF_0, addQ_0, addP_0]
    refine a_iconst (v := 1) dX6_endLine_143 (by decide) ?_
    refine a_iadd dX6_endLine_144 ?_
    refine a_putI (ci := 6) (j := 6) dX6_endLine_145 rfl rfl (by decide) (by decide) rfl fl_6_23 ?_
    refine a_aload_n dX6_endLine_148 rfl ?_
    refine a_iconst (v := 0) dX6_endLine_149 (by decide) ?_
    refine a_putI (ci := 6) (j := 2) dX6_endLine_150 rfl rfl (by decide) (by decide) rfl fl_6_19 ?_
    refine a_iconst (v := 1) dX6_endLine_153 (by decide) ?_
    exact a_zret dX6_endLine_154 rfl rfl (by
  first
    | (simp only [endF, s4_1, if_true, if_false] at hQ ⊢; exact hQ)
    | (simp [endF, s4_1] at hQ ⊢; exact hQ))
  by_cases s4_2 : h.1 0 4 2 = 2
  · rw [s4_2]
    refine a_tableIn dX6_endLine_4 (off := 61) (by decide) (by decide) (by decide) (tgt := 65) (by decide) ?_
    refine a_aload_n dX6_endLine_65 rfl ?_
    refine a_getR (ci := 1) (j := 0) dX6_endLine_66 (kdB hb rfl) rfl (by decide) rfl fl_6_70 ?_
    refine a_aload_n dX6_endLine_69 rfl ?_
    refine a_getR (ci := 6) (j := 1) dX6_endLine_70 rfl rfl (by decide) rfl fl_6_9 ?_
    refine a_iconst (v := 0) dX6_endLine_73 (by decide) ?_
    refine a_iaload dX6_endLine_74 rfl (by rw [vp_in_iff]; decide) ?_
    try simp (disch := first | decide | assumption | omega) only [ui_eq, ui_k, ui_j, ui_b, ui_2, ul_1, ul_eq, ul_k, ul_j, ul_b, addBF_0, addQ_0, addP_0]
    refine a_aload_n dX6_endLine_75 rfl ?_
    refine a_getR (ci := 6) (j := 1) dX6_endLine_76 rfl rfl (by decide) rfl fl_6_9 ?_
    refine a_iconst (v := 1) dX6_endLine_79 (by decide) ?_
    refine a_iaload dX6_endLine_80 rfl (by rw [vp_in_iff]; decide) ?_
    try simp (disch := first | decide | assumption | omega) only [ui_eq, ui_k, ui_j, ui_b, ui_2, ul_1, ul_eq, ul_k, ul_j, ul_b, addBF_0, addQ_0, addP_0]
    refine a_cV2v dX6_endLine_81 ml_6_158 wv_2_addBorder (kdB hb rfl) rfl (by decide) (Nat.le_of_ble_eq_true rfl) (c2_addBorder hb hj1 ⟨rfl, rfl⟩) ?_
    try simp (disch := first | decide | assumption | omega) only [ui_eq, ui_k, ui_j, ui_b, ui_2, ul_1, ul_eq, ul_k, ul_j, ul_b, addBF_0, addQ_0, addP_0]
    refine a_aload_n dX6_endLine_84 rfl ?_
    refine a_dup dX6_endLine_85 rfl ?_
    refine a_getI (ci := 6) (j := 7) dX6_endLine_86 rfl rfl (by decide) rfl fl_6_26 ?_
    try simp (disch := first | decide | assumption | omega) only [ui_eq, ui_k, ui_j, ui_b, ui_2, ul_1, ul_eq, ul_k, ul_j, ul_b, addBF_0, addQ_0, addP_0]
    refine a_iconst (v := 1) dX6_endLine_89 (by decide) ?_
    refine a_iadd dX6_endLine_90 ?_
    refine a_putI (ci := 6) (j := 7) dX6_endLine_91 rfl rfl (by decide) (by decide) rfl fl_6_26 ?_
    refine a_goto dX6_endLine_94 (tgt := 138) (by decide) ?_
    refine a_aload_n dX6_endLine_138 rfl ?_
    refine a_dup dX6_endLine_139 rfl ?_
    refine a_getI (ci := 6) (j := 6) dX6_endLine_140 rfl rfl (by decide) rfl fl_6_23 ?_
    try simp (disch := first | decide | assumption | omega) only [ui_eq, ui_k, ui_j, ui_b, ui_2, ul_1, ul_eq, ul_k, ul_j, ul_b, addBF_0, addQ_0, addP_0]
    refine a_iconst (v := 1) dX6_endLine_143 (by decide) ?_
    refine a_iadd dX6_endLine_144 ?_
    refine a_putI (ci := 6) (j := 6) dX6_endLine_145 rfl rfl (by decide) (by decide) rfl fl_6_23 ?_
    refine a_aload_n dX6_endLine_148 rfl ?_
    refine a_iconst (v := 0) dX6_endLine_149 (by decide) ?_
    refine a_putI (ci := 6) (j := 2) dX6_endLine_150 rfl rfl (by decide) (by decide) rfl fl_6_19 ?_
    refine a_iconst (v := 1) dX6_endLine_153 (by decide) ?_
    exact a_zret dX6_endLine_154 rfl rfl (by
  first
    | (simp only [endF, s4_2, if_true, if_false] at hQ ⊢; exact hQ)
    | (simp [endF, s4_2] at hQ ⊢; exact hQ))
  by_cases s4_3 : h.1 0 4 2 = 3
  · rw [s4_3]
    refine a_tableIn dX6_endLine_4 (off := 115) (by decide) (by decide) (by decide) (tgt := 119) (by decide) ?_
    refine a_aload_n dX6_endLine_119 rfl ?_
    refine a_getR (ci := 1) (j := 1) dX6_endLine_120 (kdB hb rfl) rfl (by decide) rfl fl_6_84 ?_
    refine a_aload_n dX6_endLine_123 rfl ?_
    refine a_getI (ci := 6) (j := 4) dX6_endLine_124 rfl rfl (by decide) rfl fl_6_58 ?_
    try simp (disch := first | decide | assumption | omega) only [ui_eq, ui_k, ui_j, ui_b, ui_2, ul_1, ul_eq, ul_k, ul_j, ul_b, addBF_0, addQ_0, addP_0]
    refine a_aload_n dX6_endLine_127 rfl ?_
    refine a_getR (ci := 6) (j := 1) dX6_endLine_128 rfl rfl (by decide) rfl fl_6_9 ?_
    refine a_aload_n dX6_endLine_131 rfl ?_
    refine a_getI (ci := 6) (j := 5) dX6_endLine_132 rfl rfl (by decide) rfl fl_6_103 ?_
    try simp (disch := first | decide | assumption | omega) only [ui_eq, ui_k, ui_j, ui_b, ui_2, ul_1, ul_eq, ul_k, ul_j, ul_b, addBF_0, addQ_0, addP_0]
    refine a_cV3v dX6_endLine_135 ml_6_165 wv_4_add (kdB hb rfl) rfl (by decide) (Nat.le_of_ble_eq_true rfl) (c4_add hb (ge0 hj2) (ltN (hj4 s4_3)) (inN hj2 (hj4 s4_3)) ⟨rfl, rfl⟩) ?_
    try simp (disch := first | decide | assumption | omega) only [ui_eq, ui_k, ui_j, ui_b, ui_2, ul_1, ul_eq, ul_k, ul_j, ul_b, addBF_0, addQ_0, addP_0]
    refine a_aload_n dX6_endLine_138 rfl ?_
    refine a_dup dX6_endLine_139 rfl ?_
    refine a_getI (ci := 6) (j := 6) dX6_endLine_140 rfl rfl (by decide) rfl fl_6_23 ?_
    try simp (disch := first | decide | assumption | omega) only [ui_eq, ui_k, ui_j, ui_b, ui_2, ul_1, ul_eq, ul_k, ul_j, ul_b, addBF_0, addQ_0, addP_0]
    refine a_iconst (v := 1) dX6_endLine_143 (by decide) ?_
    refine a_iadd dX6_endLine_144 ?_
    refine a_putI (ci := 6) (j := 6) dX6_endLine_145 rfl rfl (by decide) (by decide) rfl fl_6_23 ?_
    refine a_aload_n dX6_endLine_148 rfl ?_
    refine a_iconst (v := 0) dX6_endLine_149 (by decide) ?_
    refine a_putI (ci := 6) (j := 2) dX6_endLine_150 rfl rfl (by decide) (by decide) rfl fl_6_19 ?_
    refine a_iconst (v := 1) dX6_endLine_153 (by decide) ?_
    exact a_zret dX6_endLine_154 rfl rfl (by
  first
    | (simp only [endF, s4_3, if_true, if_false] at hQ ⊢; exact hQ)
    | (simp [endF, s4_3] at hQ ⊢; exact hQ))
  by_cases s4_4 : h.1 0 4 2 = 4
  · rw [s4_4]
    refine a_tableIn dX6_endLine_4 (off := 93) (by decide) (by decide) (by decide) (tgt := 97) (by decide) ?_
    refine a_aload_n dX6_endLine_97 rfl ?_
    refine a_getR (ci := 1) (j := 2) dX6_endLine_98 (kdB hb rfl) rfl (by decide) rfl fl_6_93 ?_
    refine a_aload_n dX6_endLine_101 rfl ?_
    refine a_getR (ci := 6) (j := 1) dX6_endLine_102 rfl rfl (by decide) rfl fl_6_9 ?_
    refine a_iconst (v := 0) dX6_endLine_105 (by decide) ?_
    refine a_iaload dX6_endLine_106 rfl (by rw [vp_in_iff]; decide) ?_
    try simp (disch := first | decide | assumption | omega) only [ui_eq, ui_k, ui_j, ui_b, ui_2, ul_1, ul_eq, ul_k, ul_j, ul_b, addBF_0, addQ_0, addP_0]
    refine a_aload_n dX6_endLine_107 rfl ?_
    refine a_getR (ci := 6) (j := 1) dX6_endLine_108 rfl rfl (by decide) rfl fl_6_9 ?_
    refine a_iconst (v := 1) dX6_endLine_111 (by decide) ?_
    refine a_iaload dX6_endLine_112 rfl (by rw [vp_in_iff]; decide) ?_
    try simp (disch := first | decide | assumption | omega) only [ui_eq, ui_k, ui_j, ui_b, ui_2, ul_1, ul_eq, ul_k, ul_j, ul_b, addBF_0, addQ_0, addP_0]
    refine a_cV2v dX6_endLine_113 ml_6_162 wv_3_add (kdB hb rfl) rfl (by decide) (Nat.le_of_ble_eq_true rfl) (c3_add hb (ge0 hj5) (ltN (hj7 s4_4)) (inN hj5 (hj7 s4_4)) ⟨rfl, rfl⟩) ?_
    try simp (disch := first | decide | assumption | omega) only [ui_eq, ui_k, ui_j, ui_b, ui_2, ul_1, ul_eq, ul_k, ul_j, ul_b, addBF_0, addQ_0, addP_0]
    refine a_goto dX6_endLine_116 (tgt := 138) (by decide) ?_
    refine a_aload_n dX6_endLine_138 rfl ?_
    refine a_dup dX6_endLine_139 rfl ?_
    refine a_getI (ci := 6) (j := 6) dX6_endLine_140 rfl rfl (by decide) rfl fl_6_23 ?_
    try simp (disch := first | decide | assumption | omega) only [ui_eq, ui_k, ui_j, ui_b, ui_2, ul_1, ul_eq, ul_k, ul_j, ul_b, addBF_0, addQ_0, addP_0]
    refine a_iconst (v := 1) dX6_endLine_143 (by decide) ?_
    refine a_iadd dX6_endLine_144 ?_
    refine a_putI (ci := 6) (j := 6) dX6_endLine_145 rfl rfl (by decide) (by decide) rfl fl_6_23 ?_
    refine a_aload_n dX6_endLine_148 rfl ?_
    refine a_iconst (v := 0) dX6_endLine_149 (by decide) ?_
    refine a_putI (ci := 6) (j := 2) dX6_endLine_150 rfl rfl (by decide) (by decide) rfl fl_6_19 ?_
    refine a_iconst (v := 1) dX6_endLine_153 (by decide) ?_
    exact a_zret dX6_endLine_154 rfl rfl (by
  first
    | (simp only [endF, s4_4, if_true, if_false] at hQ ⊢; exact hQ)
    | (simp [endF, s4_4] at hQ ⊢; exact hQ))
  exfalso
  rcases hj8 with q | q | q | q | q
  · exact hs0 q
  · exact s4_1 q
  · exact s4_2 q
  · exact s4_3 q
  · exact s4_4 q
theorem c6_takeToken {l : Launch} {G : GG} {h : AH} {Q : Option Value → AH → Prop} {b : Nat} (hb : isB b) (hj : RJ h b) (hp : pS h ≤ 1000) (hs : h.1 0 3 2 = nI (pS h)) (hQ : Q (some (.int (tokF h b).1)) (tokF h b).2) : Ct l G 7 yX6_takeToken cX6_takeToken 2 (some .boolean) [.ref (G.1 0 4), .ref (G.1 b 0)] h Q := by
  refine Ct.of (by decide) (Nat.le_of_ble_eq_true rfl) ?_
  show AW l G 7 RX6 cX6_takeToken 2 (some .boolean) 0 [some (.ref (G.1 0 4)), some (.ref (G.1 b 0))] [] h Q
  refine a_aload_n dX6_takeToken_0 rfl ?_
  refine a_getI (ci := 6) (j := 2) dX6_takeToken_1 rfl rfl (by decide) rfl fl_6_19 ?_
  refine a_if_ne dX6_takeToken_4 (tgt := 13) (by decide) (fun c4 => ?_) (fun c4 => ?_)
  · refine a_aload_n dX6_takeToken_13 rfl ?_
    refine a_getI (ci := 6) (j := 2) dX6_takeToken_14 rfl rfl (by decide) rfl fl_6_19 ?_
    refine a_iconst (v := 3) dX6_takeToken_17 (by decide) ?_
    refine a_icmp_ne dX6_takeToken_18 (tgt := 34) (by decide) (fun c18 => ?_) (fun c18 => ?_)
    · refine a_aload_n dX6_takeToken_34 rfl ?_
      refine a_getR (ci := 6) (j := 0) dX6_takeToken_35 rfl rfl (by decide) rfl fl_6_15 ?_
      refine a_getI (ci := 8) (j := 1) dX6_takeToken_38 rfl rfl (by decide) rfl fl_6_37 ?_
      refine a_iconst (v := 3) dX6_takeToken_41 (by decide) ?_
      refine a_icmp_ne dX6_takeToken_42 (tgt := 58) (by decide) (fun c42 => ?_) (fun c42 => ?_)
      · refine a_aload_n dX6_takeToken_58 rfl ?_
        refine a_aload_n dX6_takeToken_59 rfl ?_
        refine a_getR (ci := 1) (j := 0) dX6_takeToken_60 (kdB hb rfl) rfl (by decide) rfl fl_6_70 ?_
        refine a_cV1i dX6_takeToken_63 ml_6_76 wv_6_takeNumber rfl rfl (by decide) (Nat.le_of_ble_eq_true rfl) (c6_takeNumber hb ⟨rfl, rfl⟩) ?_
        exact a_zret dX6_takeToken_66 rfl (nar_01 (numF_01 h b)) (by
  first
    | (simp only [tokF, c4, c18, c42, if_true, if_false, true_and, and_true, and_false, false_and, not_false_eq_true, not_true_eq_false, and_self] at hQ ⊢; exact hQ)
    | (simp [tokF, c4, c18, c42] at hQ ⊢; exact hQ))
      · refine a_aload_n dX6_takeToken_45 rfl ?_
        refine a_cV0i dX6_takeToken_46 ml_6_64 wv_6_isWhole rfl rfl (by decide) (Nat.le_of_ble_eq_true rfl) (c6_isWhole ⟨rfl, rfl⟩) ?_
        refine a_if_eq dX6_takeToken_49 (tgt := 58) (by decide) (fun c49 => ?_) (fun c49 => ?_)
        · refine a_aload_n dX6_takeToken_58 rfl ?_
          refine a_aload_n dX6_takeToken_59 rfl ?_
          refine a_getR (ci := 1) (j := 0) dX6_takeToken_60 (kdB hb rfl) rfl (by decide) rfl fl_6_70 ?_
          refine a_cV1i dX6_takeToken_63 ml_6_76 wv_6_takeNumber rfl rfl (by decide) (Nat.le_of_ble_eq_true rfl) (c6_takeNumber hb ⟨rfl, rfl⟩) ?_
          exact a_zret dX6_takeToken_66 rfl (nar_01 (numF_01 h b)) (by
  first
    | (simp only [tokF, c4, c18, c42, c49, if_true, if_false, true_and, and_true, and_false, false_and, not_false_eq_true, not_true_eq_false, and_self] at hQ ⊢; exact hQ)
    | (simp [tokF, c4, c18, c42, c49] at hQ ⊢; exact hQ))
        · refine a_aload_n dX6_takeToken_52 rfl ?_
          refine a_aload_n dX6_takeToken_53 rfl ?_
          refine a_cV1i dX6_takeToken_54 ml_6_67 wv_6_endLine rfl rfl (by decide) (Nat.le_of_ble_eq_true rfl) (c6_endLine hb hj c4 ⟨rfl, rfl⟩) ?_
          exact a_zret dX6_takeToken_57 rfl rfl (by
  first
    | (simp only [tokF, c4, c18, c42, c49, if_true, if_false, true_and, and_true, and_false, false_and, not_false_eq_true, not_true_eq_false, and_self] at hQ ⊢; exact hQ)
    | (simp [tokF, c4, c18, c42, c49] at hQ ⊢; exact hQ))
    · refine a_aload_n dX6_takeToken_21 rfl ?_
      refine a_getI (ci := 6) (j := 4) dX6_takeToken_22 rfl rfl (by decide) rfl fl_6_58 ?_
      refine a_iconst (v := (-1)) dX6_takeToken_25 (by decide) ?_
      refine a_icmp_ne dX6_takeToken_26 (tgt := 34) (by decide) (fun c26 => ?_) (fun c26 => ?_)
      · refine a_aload_n dX6_takeToken_34 rfl ?_
        refine a_getR (ci := 6) (j := 0) dX6_takeToken_35 rfl rfl (by decide) rfl fl_6_15 ?_
        refine a_getI (ci := 8) (j := 1) dX6_takeToken_38 rfl rfl (by decide) rfl fl_6_37 ?_
        refine a_iconst (v := 3) dX6_takeToken_41 (by decide) ?_
        refine a_icmp_ne dX6_takeToken_42 (tgt := 58) (by decide) (fun c42v2 => ?_) (fun c42v2 => ?_)
        · refine a_aload_n dX6_takeToken_58 rfl ?_
          refine a_aload_n dX6_takeToken_59 rfl ?_
          refine a_getR (ci := 1) (j := 0) dX6_takeToken_60 (kdB hb rfl) rfl (by decide) rfl fl_6_70 ?_
          refine a_cV1i dX6_takeToken_63 ml_6_76 wv_6_takeNumber rfl rfl (by decide) (Nat.le_of_ble_eq_true rfl) (c6_takeNumber hb ⟨rfl, rfl⟩) ?_
          exact a_zret dX6_takeToken_66 rfl (nar_01 (numF_01 h b)) (by
  first
    | (simp only [tokF, c4, c18, c26, c42v2, if_true, if_false, true_and, and_true, and_false, false_and, not_false_eq_true, not_true_eq_false, and_self] at hQ ⊢; exact hQ)
    | (simp [tokF, c4, c18, c26, c42v2] at hQ ⊢; exact hQ))
        · refine a_aload_n dX6_takeToken_45 rfl ?_
          refine a_cV0i dX6_takeToken_46 ml_6_64 wv_6_isWhole rfl rfl (by decide) (Nat.le_of_ble_eq_true rfl) (c6_isWhole ⟨rfl, rfl⟩) ?_
          refine a_if_eq dX6_takeToken_49 (tgt := 58) (by decide) (fun c49v2 => ?_) (fun c49v2 => ?_)
          · refine a_aload_n dX6_takeToken_58 rfl ?_
            refine a_aload_n dX6_takeToken_59 rfl ?_
            refine a_getR (ci := 1) (j := 0) dX6_takeToken_60 (kdB hb rfl) rfl (by decide) rfl fl_6_70 ?_
            refine a_cV1i dX6_takeToken_63 ml_6_76 wv_6_takeNumber rfl rfl (by decide) (Nat.le_of_ble_eq_true rfl) (c6_takeNumber hb ⟨rfl, rfl⟩) ?_
            exact a_zret dX6_takeToken_66 rfl (nar_01 (numF_01 h b)) (by
  first
    | (simp only [tokF, c4, c18, c26, c42v2, c49v2, if_true, if_false, true_and, and_true, and_false, false_and, not_false_eq_true, not_true_eq_false, and_self] at hQ ⊢; exact hQ)
    | (simp [tokF, c4, c18, c26, c42v2, c49v2] at hQ ⊢; exact hQ))
          · refine a_aload_n dX6_takeToken_52 rfl ?_
            refine a_aload_n dX6_takeToken_53 rfl ?_
            refine a_cV1i dX6_takeToken_54 ml_6_67 wv_6_endLine rfl rfl (by decide) (Nat.le_of_ble_eq_true rfl) (c6_endLine hb hj c4 ⟨rfl, rfl⟩) ?_
            exact a_zret dX6_takeToken_57 rfl rfl (by
  first
    | (simp only [tokF, c4, c18, c26, c42v2, c49v2, if_true, if_false, true_and, and_true, and_false, false_and, not_false_eq_true, not_true_eq_false, and_self] at hQ ⊢; exact hQ)
    | (simp [tokF, c4, c18, c26, c42v2, c49v2] at hQ ⊢; exact hQ))
      · refine a_aload_n dX6_takeToken_29 rfl ?_
        refine a_cV0i dX6_takeToken_30 ml_6_61 wv_6_takeKind rfl rfl (by decide) (Nat.le_of_ble_eq_true rfl) (c6_takeKind hp hs ⟨rfl, rfl⟩) ?_
        exact a_zret dX6_takeToken_33 rfl (nar_01 (kindF_01 h)) (by
  first
    | (simp only [tokF, c4, c18, c26, if_true, if_false, true_and, and_true, and_false, false_and, not_false_eq_true, not_true_eq_false, and_self] at hQ ⊢; exact hQ)
    | (simp [tokF, c4, c18, c26] at hQ ⊢; exact hQ))
  · refine a_aload_n dX6_takeToken_7 rfl ?_
    refine a_aload_n dX6_takeToken_8 rfl ?_
    refine a_cV1i dX6_takeToken_9 ml_6_55 wv_6_beginLine rfl rfl (by decide) (Nat.le_of_ble_eq_true rfl) (c6_beginLine hb hp hs ⟨rfl, rfl⟩) ?_
    exact a_zret dX6_takeToken_12 rfl (nar_01 (begF_01 h b)) (by
  first
    | (simp only [tokF, c4, if_true, if_false, true_and, and_true, and_false, false_and, not_false_eq_true, not_true_eq_false, and_self] at hQ ⊢; exact hQ)
    | (simp [tokF, c4] at hQ ⊢; exact hQ))
