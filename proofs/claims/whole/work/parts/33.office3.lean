def freeG (h : AH) (b : Nat) (x y : Int32) : Nat → Int32
  | 0 => 0
  | c + 1 => if forF h b (nI c) (1 <<< (x &&& 31)) = 0 then freeG h b x y c else if engF h b (nI c) y = 0 then freeG h b x y c else freeG h b x y c + freeF h b (nI c)
def frF (h : AH) (b np : Nat) (x y : Int32) : Int32 := if hasI (h.1 b 1 1) x = 0 then -1 else if y < 1 then -1 else if y ≤ 6 then freeG h b x y np else -1
def shG (h : AH) (b nl : Nat) (home land eng : Int32) : Nat → Int32
  | 0 => -2
  | c + 1 => if engF h b (nI c) eng = 0 then shG h b nl home land eng c else
      if shortF h b nl home land (h.1 b 10 c) = -2 then shG h b nl home land eng c else
      if shG h b nl home land eng c = -2 then shortF h b nl home land (h.1 b 10 c) else
      if shG h b nl home land eng c ≤ shortF h b nl home land (h.1 b 10 c) then shG h b nl home land eng c else shortF h b nl home land (h.1 b 10 c)
def shoF (h : AH) (b nl np : Nat) (x y : Int32) : Int32 := if hasI (h.1 b 15 5) x = 0 then -1 else if hasI (h.1 b 1 1) y = 0 then -1 else if h.1 b 16 x.toNatClampNeg = y then -1 else shG h b nl (h.1 b 16 x.toNatClampNeg) y (h.1 b 17 x.toNatClampNeg) np
theorem l10_free {l : Launch} {G : GG} {h : AH} {Q : Option Value → AH → Prop} {b : Nat} (hb : isB b) {np : Nat} (hnp : h.1 b 3 11 = nI np) (hp6 : np ≤ 6) {x y : Int32} (c : Nat) (hc : c ≤ np) (hQ : Q (some (.int (freeG h b x y np))) h) : AW l G 4 RX10 cX10_free 6 (some .int) 41 [some (.ref (G.1 0 0)), some (.int x), some (.int y), some (.ref (G.1 b 3)), some (.int (freeG h b x y c)), some (.int (nI c))] [] h Q := by
  refine a_iload dX10_free_41 rfl ?_
  refine a_aload_n dX10_free_43 rfl ?_
  refine a_getI (ci := 4) (j := 11) dX10_free_44 (kdB hb rfl) rfl (by decide) rfl fl_10_90 ?_
  try simp (disch := first | decide | assumption | omega) only [ui_eq, ui_k, ui_j, ui_b, ui_2, ul_1, ul_eq, ul_k, ul_j, ul_b, hnp]
  refine a_icmp_ge dX10_free_47 (tgt := 89) (by decide) (fun c47 => ?_) (fun c47 => ?_)
  · have hge : np ≤ c := le_of_le c47 (by omega) (by omega)
    have hie : c = np := by omega
    subst hie
    refine a_iload dX10_free_89 rfl ?_
    exact a_iret dX10_free_91 rfl hQ
  · have hlt : c < np := lt_of_nle c47 (by omega) (by omega)
    refine a_aload_n dX10_free_50 rfl ?_
    refine a_iload dX10_free_51 rfl ?_
    refine a_iconst (v := 1) dX10_free_53 (by decide) ?_
    refine a_iload_n dX10_free_54 rfl ?_
    refine a_ishl dX10_free_55 ?_
    refine a_cV2i dX10_free_56 ml_10_250 wv_4_isFor (kdB hb rfl) rfl (by decide) (Nat.le_of_ble_eq_true rfl) (c4_isFor hb (vp_in_nI (show c < 6 by omega) (by decide)) ⟨rfl, rfl⟩) ?_
    try simp (disch := first | decide | assumption | omega) only [ui_eq, ui_k, ui_j, ui_b, ui_2, ul_1, ul_eq, ul_k, ul_j, ul_b, hnp]
    refine a_if_eq dX10_free_59 (tgt := 83) (by decide) (fun c59 => ?_) (fun c59 => ?_)
    · refine a_inc (c := 1) dX10_free_83 rfl (by decide) (by decide) rfl ?_
      dsimp only [lset]
      refine a_goto dX10_free_86 (tgt := 41) (by decide) ?_
      rw [nI_1]
      have e := l10_free (l := l) (G := G) (x := x) (y := y) hb hnp hp6 (c + 1) (by omega) hQ
      simp only [freeG, c47, c59, if_true, if_false] at e
      exact e
    · refine a_aload_n dX10_free_62 rfl ?_
      refine a_iload dX10_free_63 rfl ?_
      refine a_iload_n dX10_free_65 rfl ?_
      refine a_cV2i dX10_free_66 ml_10_253 wv_4_suitsEngine (kdB hb rfl) rfl (by decide) (Nat.le_of_ble_eq_true rfl) (c4_suitsEngine hb (vp_in_nI (show c < 6 by omega) (by decide)) ⟨rfl, rfl⟩) ?_
      try simp (disch := first | decide | assumption | omega) only [ui_eq, ui_k, ui_j, ui_b, ui_2, ul_1, ul_eq, ul_k, ul_j, ul_b, hnp]
      refine a_if_eq dX10_free_69 (tgt := 83) (by decide) (fun c69 => ?_) (fun c69 => ?_)
      · refine a_inc (c := 1) dX10_free_83 rfl (by decide) (by decide) rfl ?_
        dsimp only [lset]
        refine a_goto dX10_free_86 (tgt := 41) (by decide) ?_
        rw [nI_1]
        have e := l10_free (l := l) (G := G) (x := x) (y := y) hb hnp hp6 (c + 1) (by omega) hQ
        simp only [freeG, c47, c59, c69, if_true, if_false] at e
        exact e
      · refine a_iload dX10_free_72 rfl ?_
        refine a_aload_n dX10_free_74 rfl ?_
        refine a_iload dX10_free_75 rfl ?_
        refine a_cV1i dX10_free_77 ml_10_153 wv_4_countFree (kdB hb rfl) rfl (by decide) (Nat.le_of_ble_eq_true rfl) (c4_countFree hb (vp_in_nI (show c < 6 by omega) (by decide)) ⟨rfl, rfl⟩) ?_
        try simp (disch := first | decide | assumption | omega) only [ui_eq, ui_k, ui_j, ui_b, ui_2, ul_1, ul_eq, ul_k, ul_j, ul_b, hnp]
        refine a_iadd dX10_free_80 ?_
        refine a_istore dX10_free_81 (by decide) rfl ?_
        dsimp only [lset]
        refine a_inc (c := 1) dX10_free_83 rfl (by decide) (by decide) rfl ?_
        dsimp only [lset]
        refine a_goto dX10_free_86 (tgt := 41) (by decide) ?_
        rw [nI_1]
        have e := l10_free (l := l) (G := G) (x := x) (y := y) hb hnp hp6 (c + 1) (by omega) hQ
        simp only [freeG, c47, c59, c69, if_true, if_false] at e
        exact e
termination_by np - c
decreasing_by all_goals omega
theorem c10_free {l : Launch} {G : GG} {h : AH} {Q : Option Value → AH → Prop} {b nl np nq nt ax ak : Nat} (hW : WB h b nl np nq nt ax ak) {x y : Int32} (hQ : Q (some (.int (frF h b np x y))) h) : Ct l G 4 yX10_free cX10_free 6 (some .int) [.ref (G.1 0 0), .int x, .int y] h Q := by
  refine Ct.of (by decide) (Nat.le_of_ble_eq_true rfl) ?_
  show AW l G 4 RX10 cX10_free 6 (some .int) 0 [some (.ref (G.1 0 0)), some (.int x), some (.int y)] [] h Q
  obtain ⟨hb, hbk, hnl, hl8, hnp, hp6, hnq, hq8, hnt, ht40, hax, hax10, hak, hak10⟩ := id hW
  have hl : (h.1 b 1 1).toInt ≤ 8 := toNat_le hnl 8 hl8 (by decide)
  have hp : (h.1 b 3 11).toInt ≤ 6 := toNat_le hnp 6 hp6 (by decide)
  have hq : (h.1 b 15 5).toInt ≤ 8 := toNat_le hnq 8 hq8 (by decide)
  have ht : (h.1 b 21 9).toInt ≤ 40 := toNat_le hnt 40 ht40 (by decide)
  have hb0 : (0 : Nat) ≠ b := isB0' hb
  have hb1 : b ≠ 0 := isB0 hb
  refine a_aload_n dX10_free_0 rfl ?_
  refine a_getD (ci := 10) (j := 3) dX10_free_1 rfl rfl (by decide) rfl fl_10_40 (bb := b) (by first | exact hbk | (simp (disch := first | decide | assumption | omega) only [ui_eq, ui_k, ui_j, ui_b, keepF_blk, finF_blk, moveF_blk, addT_blk, sendF_blk, takeF_blk, solveF_blk, setUpF_blk, keepF_k, finF_k, finF_c, moveF_k, addT_k, sendF_k, takeF_k, solveF_k, setUpF_k, solveF_w, setUpF_w, solveF_n]; exact hbk)) ?_
  refine a_getR (ci := 1) (j := 0) dX10_free_4 (kdB hb rfl) rfl (by decide) rfl fl_10_77 ?_
  refine a_iload_n dX10_free_7 rfl ?_
  refine a_cV1i dX10_free_8 ml_10_249 wv_2_has (kdB hb rfl) rfl (by decide) (Nat.le_of_ble_eq_true rfl) (c2_has hb ⟨rfl, rfl⟩) ?_
  try simp (disch := first | decide | assumption | omega) only [ui_eq, ui_k, ui_j, ui_b, ui_2, ul_1, ul_eq, ul_k, ul_j, ul_b, hbk, keepF_blk, finF_blk, moveF_blk, addT_blk, sendF_blk, takeF_blk, solveF_blk, setUpF_blk, keepF_k, finF_k, finF_c, moveF_k, addT_k, sendF_k, takeF_k, solveF_k, setUpF_k, solveF_w, setUpF_w, solveF_n]
  refine a_if_eq dX10_free_11 (tgt := 25) (by decide) (fun c11 => ?_) (fun c11 => ?_)
  · refine a_iconst (v := (-1)) dX10_free_25 (by decide) ?_
    exact a_iret dX10_free_26 rfl (by
  first
    | (simp only [frF, c11, if_true, if_false] at hQ; exact hQ)
    | (simp [frF, c11] at hQ ⊢; exact hQ))
  · refine a_iload_n dX10_free_14 rfl ?_
    refine a_iconst (v := 1) dX10_free_15 (by decide) ?_
    refine a_icmp_lt dX10_free_16 (tgt := 25) (by decide) (fun c16 => ?_) (fun c16 => ?_)
    · refine a_iconst (v := (-1)) dX10_free_25 (by decide) ?_
      exact a_iret dX10_free_26 rfl (by
  first
    | (simp only [frF, c11, c16, if_true, if_false] at hQ; exact hQ)
    | (simp [frF, c11, c16] at hQ ⊢; exact hQ))
    · refine a_iload_n dX10_free_19 rfl ?_
      refine a_bipush (v := 6) dX10_free_20 (by decide) ?_
      refine a_icmp_le dX10_free_22 (tgt := 27) (by decide) (fun c22 => ?_) (fun c22 => ?_)
      · refine a_aload_n dX10_free_27 rfl ?_
        refine a_getD (ci := 10) (j := 3) dX10_free_28 rfl rfl (by decide) rfl fl_10_40 (bb := b) (by first | exact hbk | (simp (disch := first | decide | assumption | omega) only [ui_eq, ui_k, ui_j, ui_b, keepF_blk, finF_blk, moveF_blk, addT_blk, sendF_blk, takeF_blk, solveF_blk, setUpF_blk, keepF_k, finF_k, finF_c, moveF_k, addT_k, sendF_k, takeF_k, solveF_k, setUpF_k, solveF_w, setUpF_w, solveF_n]; exact hbk)) ?_
        refine a_getR (ci := 1) (j := 1) dX10_free_31 (kdB hb rfl) rfl (by decide) rfl fl_10_86 ?_
        refine a_astore_n dX10_free_34 (by decide) rfl ?_
        dsimp only [lset]
        refine a_iconst (v := 0) dX10_free_35 (by decide) ?_
        refine a_istore dX10_free_36 (by decide) rfl ?_
        dsimp only [lset]
        refine a_iconst (v := 0) dX10_free_38 (by decide) ?_
        refine a_istore dX10_free_39 (by decide) rfl ?_
        dsimp only [lset]
        exact l10_free hb hnp hp6 0 (by omega) (by simp only [frF, c11, c16, c22, if_true, if_false] at hQ; exact hQ)
      · refine a_iconst (v := (-1)) dX10_free_25 (by decide) ?_
        exact a_iret dX10_free_26 rfl (by
  first
    | (simp only [frF, c11, c16, c22, if_true, if_false] at hQ; exact hQ)
    | (simp [frF, c11, c16, c22] at hQ ⊢; exact hQ))
theorem l10_sh {l : Launch} {G : GG} {h : AH} {Q : Option Value → AH → Prop} {b : Nat} (hb : isB b) (hbk : (h.1 0 0 3).toNatClampNeg = b) {nl np : Nat} (hnl : h.1 b 1 1 = nI nl) (hl8 : nl ≤ 8) (hnp : h.1 b 3 11 = nI np) (hp6 : np ≤ 6) {x y : Int32} (hx : vp_in x 8) (c : Nat) (hc : c ≤ np) (hQ : Q (some (.int (shG h b nl (h.1 b 16 x.toNatClampNeg) y (h.1 b 17 x.toNatClampNeg) np))) h) : AW l G 1 RX10 cX10_shortest 8 (some .int) 58 [some (.ref (G.1 0 0)), some (.int x), some (.int y), some (.ref (G.1 b 15)), some (.ref (G.1 b 3)), some (.int (shG h b nl (h.1 b 16 x.toNatClampNeg) y (h.1 b 17 x.toNatClampNeg) c)), some (.int (nI c))] [] h Q := by
  have hci : (nI c).toNatClampNeg = c := nI_clamp (by omega)
  refine a_iload dX10_shortest_58 rfl ?_
  refine a_aload dX10_shortest_60 rfl ?_
  refine a_getI (ci := 4) (j := 11) dX10_shortest_62 (kdB hb rfl) rfl (by decide) rfl fl_10_90 ?_
  try simp (disch := first | decide | assumption | omega) only [ui_eq, ui_k, ui_j, ui_b, ui_2, ul_1, ul_eq, ul_k, ul_j, ul_b, hnp, hci]
  refine a_icmp_ge dX10_shortest_65 (tgt := 142) (by decide) (fun c65 => ?_) (fun c65 => ?_)
  · have hge : np ≤ c := le_of_le c65 (by omega) (by omega)
    have hie : c = np := by omega
    subst hie
    refine a_iload dX10_shortest_142 rfl ?_
    exact a_iret dX10_shortest_144 rfl hQ
  · have hlt : c < np := lt_of_nle c65 (by omega) (by omega)
    refine a_aload dX10_shortest_68 rfl ?_
    refine a_iload dX10_shortest_70 rfl ?_
    refine a_aload_n dX10_shortest_72 rfl ?_
    refine a_getR (ci := 3) (j := 1) dX10_shortest_73 (kdB hb rfl) rfl (by decide) rfl fl_10_183 ?_
    refine a_iload_n dX10_shortest_76 rfl ?_
    refine a_iaload dX10_shortest_77 (kdB hb rfl) hx ?_
    try simp (disch := first | decide | assumption | omega) only [ui_eq, ui_k, ui_j, ui_b, ui_2, ul_1, ul_eq, ul_k, ul_j, ul_b, hnp, hci]
    refine a_cV2i dX10_shortest_78 ml_10_253 wv_4_suitsEngine (kdB hb rfl) rfl (by decide) (Nat.le_of_ble_eq_true rfl) (c4_suitsEngine hb (vp_in_nI (show c < 6 by omega) (by decide)) ⟨rfl, rfl⟩) ?_
    try simp (disch := first | decide | assumption | omega) only [ui_eq, ui_k, ui_j, ui_b, ui_2, ul_1, ul_eq, ul_k, ul_j, ul_b, hnp, hci]
    refine a_if_eq dX10_shortest_81 (tgt := 136) (by decide) (fun c81 => ?_) (fun c81 => ?_)
    · refine a_inc (c := 1) dX10_shortest_136 rfl (by decide) (by decide) rfl ?_
      dsimp only [lset]
      refine a_goto dX10_shortest_139 (tgt := 58) (by decide) ?_
      first
        | (refine a_take 7 ?_; dsimp only [List.take])
        | skip
      rw [nI_1]
      have e := l10_sh (l := l) (G := G) (x := x) (y := y) hb hbk hnl hl8 hnp hp6 hx (c + 1) (by omega) hQ
      simp only [shG, c65, c81, if_true, if_false] at e
      exact e
    · refine a_aload_n dX10_shortest_84 rfl ?_
      refine a_getD (ci := 10) (j := 3) dX10_shortest_85 rfl rfl (by decide) rfl fl_10_40 (bb := b) hbk ?_
      refine a_getR (ci := 1) (j := 0) dX10_shortest_88 (kdB hb rfl) rfl (by decide) rfl fl_10_77 ?_
      refine a_aload_n dX10_shortest_91 rfl ?_
      refine a_getR (ci := 3) (j := 0) dX10_shortest_92 (kdB hb rfl) rfl (by decide) rfl fl_10_180 ?_
      refine a_iload_n dX10_shortest_95 rfl ?_
      refine a_iaload dX10_shortest_96 (kdB hb rfl) hx ?_
      try simp (disch := first | decide | assumption | omega) only [ui_eq, ui_k, ui_j, ui_b, ui_2, ul_1, ul_eq, ul_k, ul_j, ul_b, hnp, hci]
      refine a_iload_n dX10_shortest_97 rfl ?_
      refine a_aload dX10_shortest_98 rfl ?_
      refine a_getR (ci := 4) (j := 6) dX10_shortest_100 (kdB hb rfl) rfl (by decide) rfl fl_10_150 ?_
      refine a_iload dX10_shortest_103 rfl ?_
      refine a_iaload dX10_shortest_105 (kdB hb rfl) (vp_in_nI (show c < 6 by omega) (by decide)) ?_
      try simp (disch := first | decide | assumption | omega) only [ui_eq, ui_k, ui_j, ui_b, ui_2, ul_1, ul_eq, ul_k, ul_j, ul_b, hnp, hci]
      refine a_cV3i dX10_shortest_106 ml_10_256 wv_2_shortestRow (kdB hb rfl) rfl (by decide) (Nat.le_of_ble_eq_true rfl) (c2_shortestRow hb hnl hl8 ⟨rfl, rfl⟩) ?_
      try simp (disch := first | decide | assumption | omega) only [ui_eq, ui_k, ui_j, ui_b, ui_2, ul_1, ul_eq, ul_k, ul_j, ul_b, hnp, hci]
      refine a_istore dX10_shortest_109 (by decide) rfl ?_
      dsimp only [lset]
      refine a_iload dX10_shortest_111 rfl ?_
      refine a_bipush (v := (-2)) dX10_shortest_113 (by decide) ?_
      refine a_icmp_eq dX10_shortest_115 (tgt := 136) (by decide) (fun c115 => ?_) (fun c115 => ?_)
      · refine a_inc (c := 1) dX10_shortest_136 rfl (by decide) (by decide) rfl ?_
        dsimp only [lset]
        refine a_goto dX10_shortest_139 (tgt := 58) (by decide) ?_
        first
          | (refine a_take 7 ?_; dsimp only [List.take])
          | skip
        rw [nI_1]
        have e := l10_sh (l := l) (G := G) (x := x) (y := y) hb hbk hnl hl8 hnp hp6 hx (c + 1) (by omega) hQ
        simp only [shG, c65, c81, c115, if_true, if_false] at e
        exact e
      · refine a_iload dX10_shortest_118 rfl ?_
        refine a_bipush (v := (-2)) dX10_shortest_120 (by decide) ?_
        refine a_icmp_eq dX10_shortest_122 (tgt := 132) (by decide) (fun c122 => ?_) (fun c122 => ?_)
        · refine a_iload dX10_shortest_132 rfl ?_
          refine a_istore dX10_shortest_134 (by decide) rfl ?_
          dsimp only [lset]
          refine a_inc (c := 1) dX10_shortest_136 rfl (by decide) (by decide) rfl ?_
          dsimp only [lset]
          refine a_goto dX10_shortest_139 (tgt := 58) (by decide) ?_
          first
            | (refine a_take 7 ?_; dsimp only [List.take])
            | skip
          rw [nI_1]
          have e := l10_sh (l := l) (G := G) (x := x) (y := y) hb hbk hnl hl8 hnp hp6 hx (c + 1) (by omega) hQ
          simp only [shG, c65, c81, c115, c122, if_true, if_false] at e
          exact e
        · refine a_iload dX10_shortest_125 rfl ?_
          refine a_iload dX10_shortest_127 rfl ?_
          refine a_icmp_ge dX10_shortest_129 (tgt := 136) (by decide) (fun c129 => ?_) (fun c129 => ?_)
          · refine a_inc (c := 1) dX10_shortest_136 rfl (by decide) (by decide) rfl ?_
            dsimp only [lset]
            refine a_goto dX10_shortest_139 (tgt := 58) (by decide) ?_
            first
              | (refine a_take 7 ?_; dsimp only [List.take])
              | skip
            rw [nI_1]
            have e := l10_sh (l := l) (G := G) (x := x) (y := y) hb hbk hnl hl8 hnp hp6 hx (c + 1) (by omega) hQ
            simp only [shG, c65, c81, c115, c122, c129, if_true, if_false] at e
            exact e
          · refine a_iload dX10_shortest_132 rfl ?_
            refine a_istore dX10_shortest_134 (by decide) rfl ?_
            dsimp only [lset]
            refine a_inc (c := 1) dX10_shortest_136 rfl (by decide) (by decide) rfl ?_
            dsimp only [lset]
            refine a_goto dX10_shortest_139 (tgt := 58) (by decide) ?_
            first
              | (refine a_take 7 ?_; dsimp only [List.take])
              | skip
            rw [nI_1]
            have e := l10_sh (l := l) (G := G) (x := x) (y := y) hb hbk hnl hl8 hnp hp6 hx (c + 1) (by omega) hQ
            simp only [shG, c65, c81, c115, c122, c129, if_true, if_false] at e
            exact e
termination_by np - c
decreasing_by all_goals omega
theorem c10_shortest {l : Launch} {G : GG} {h : AH} {Q : Option Value → AH → Prop} {b nl np nq nt ax ak : Nat} (hW : WB h b nl np nq nt ax ak) {x y : Int32} (hQ : Q (some (.int (shoF h b nl np x y))) h) : Ct l G 1 yX10_shortest cX10_shortest 8 (some .int) [.ref (G.1 0 0), .int x, .int y] h Q := by
  refine Ct.of (by decide) (Nat.le_of_ble_eq_true rfl) ?_
  show AW l G 1 RX10 cX10_shortest 8 (some .int) 0 [some (.ref (G.1 0 0)), some (.int x), some (.int y)] [] h Q
  obtain ⟨hb, hbk, hnl, hl8, hnp, hp6, hnq, hq8, hnt, ht40, hax, hax10, hak, hak10⟩ := id hW
  have hl : (h.1 b 1 1).toInt ≤ 8 := toNat_le hnl 8 hl8 (by decide)
  have hp : (h.1 b 3 11).toInt ≤ 6 := toNat_le hnp 6 hp6 (by decide)
  have hq : (h.1 b 15 5).toInt ≤ 8 := toNat_le hnq 8 hq8 (by decide)
  have ht : (h.1 b 21 9).toInt ≤ 40 := toNat_le hnt 40 ht40 (by decide)
  have hb0 : (0 : Nat) ≠ b := isB0' hb
  have hb1 : b ≠ 0 := isB0 hb
  refine a_aload_n dX10_shortest_0 rfl ?_
  refine a_getD (ci := 10) (j := 3) dX10_shortest_1 rfl rfl (by decide) rfl fl_10_40 (bb := b) (by first | exact hbk | (simp (disch := first | decide | assumption | omega) only [ui_eq, ui_k, ui_j, ui_b, keepF_blk, finF_blk, moveF_blk, addT_blk, sendF_blk, takeF_blk, solveF_blk, setUpF_blk, keepF_k, finF_k, finF_c, moveF_k, addT_k, sendF_k, takeF_k, solveF_k, setUpF_k, solveF_w, setUpF_w, solveF_n]; exact hbk)) ?_
  refine a_getR (ci := 1) (j := 2) dX10_shortest_4 (kdB hb rfl) rfl (by decide) rfl fl_10_93 ?_
  refine a_astore_n dX10_shortest_7 (by decide) rfl ?_
  dsimp only [lset]
  refine a_aload_n dX10_shortest_8 rfl ?_
  refine a_iload_n dX10_shortest_9 rfl ?_
  refine a_cV1i dX10_shortest_10 ml_10_172 wv_3_has (kdB hb rfl) rfl (by decide) (Nat.le_of_ble_eq_true rfl) (c3_has hb ⟨rfl, rfl⟩) ?_
  try simp (disch := first | decide | assumption | omega) only [ui_eq, ui_k, ui_j, ui_b, ui_2, ul_1, ul_eq, ul_k, ul_j, ul_b, hbk, keepF_blk, finF_blk, moveF_blk, addT_blk, sendF_blk, takeF_blk, solveF_blk, setUpF_blk, keepF_k, finF_k, finF_c, moveF_k, addT_k, sendF_k, takeF_k, solveF_k, setUpF_k, solveF_w, setUpF_w, solveF_n]
  refine a_if_eq dX10_shortest_13 (tgt := 40) (by decide) (fun c13 => ?_) (fun c13 => ?_)
  · refine a_iconst (v := (-1)) dX10_shortest_40 (by decide) ?_
    exact a_iret dX10_shortest_41 rfl (by
  first
    | (simp only [shoF, c13, if_true, if_false] at hQ; exact hQ)
    | (simp [shoF, c13] at hQ ⊢; exact hQ))
  · refine a_aload_n dX10_shortest_16 rfl ?_
    refine a_getD (ci := 10) (j := 3) dX10_shortest_17 rfl rfl (by decide) rfl fl_10_40 (bb := b) (by first | exact hbk | (simp (disch := first | decide | assumption | omega) only [ui_eq, ui_k, ui_j, ui_b, keepF_blk, finF_blk, moveF_blk, addT_blk, sendF_blk, takeF_blk, solveF_blk, setUpF_blk, keepF_k, finF_k, finF_c, moveF_k, addT_k, sendF_k, takeF_k, solveF_k, setUpF_k, solveF_w, setUpF_w, solveF_n]; exact hbk)) ?_
    refine a_getR (ci := 1) (j := 0) dX10_shortest_20 (kdB hb rfl) rfl (by decide) rfl fl_10_77 ?_
    refine a_iload_n dX10_shortest_23 rfl ?_
    refine a_cV1i dX10_shortest_24 ml_10_249 wv_2_has (kdB hb rfl) rfl (by decide) (Nat.le_of_ble_eq_true rfl) (c2_has hb ⟨rfl, rfl⟩) ?_
    try simp (disch := first | decide | assumption | omega) only [ui_eq, ui_k, ui_j, ui_b, ui_2, ul_1, ul_eq, ul_k, ul_j, ul_b, hbk, keepF_blk, finF_blk, moveF_blk, addT_blk, sendF_blk, takeF_blk, solveF_blk, setUpF_blk, keepF_k, finF_k, finF_c, moveF_k, addT_k, sendF_k, takeF_k, solveF_k, setUpF_k, solveF_w, setUpF_w, solveF_n]
    refine a_if_eq dX10_shortest_27 (tgt := 40) (by decide) (fun c27 => ?_) (fun c27 => ?_)
    · refine a_iconst (v := (-1)) dX10_shortest_40 (by decide) ?_
      exact a_iret dX10_shortest_41 rfl (by
  first
    | (simp only [shoF, c13, c27, if_true, if_false] at hQ; exact hQ)
    | (simp [shoF, c13, c27] at hQ ⊢; exact hQ))
    · refine a_aload_n dX10_shortest_30 rfl ?_
      refine a_getR (ci := 3) (j := 0) dX10_shortest_31 (kdB hb rfl) rfl (by decide) rfl fl_10_180 ?_
      refine a_iload_n dX10_shortest_34 rfl ?_
      refine a_iaload dX10_shortest_35 (kdB hb rfl) (hasI_in c13 hq) ?_
      try simp (disch := first | decide | assumption | omega) only [ui_eq, ui_k, ui_j, ui_b, ui_2, ul_1, ul_eq, ul_k, ul_j, ul_b, hbk, keepF_blk, finF_blk, moveF_blk, addT_blk, sendF_blk, takeF_blk, solveF_blk, setUpF_blk, keepF_k, finF_k, finF_c, moveF_k, addT_k, sendF_k, takeF_k, solveF_k, setUpF_k, solveF_w, setUpF_w, solveF_n]
      refine a_iload_n dX10_shortest_36 rfl ?_
      refine a_icmp_ne dX10_shortest_37 (tgt := 42) (by decide) (fun c37 => ?_) (fun c37 => ?_)
      · refine a_aload_n dX10_shortest_42 rfl ?_
        refine a_getD (ci := 10) (j := 3) dX10_shortest_43 rfl rfl (by decide) rfl fl_10_40 (bb := b) (by first | exact hbk | (simp (disch := first | decide | assumption | omega) only [ui_eq, ui_k, ui_j, ui_b, keepF_blk, finF_blk, moveF_blk, addT_blk, sendF_blk, takeF_blk, solveF_blk, setUpF_blk, keepF_k, finF_k, finF_c, moveF_k, addT_k, sendF_k, takeF_k, solveF_k, setUpF_k, solveF_w, setUpF_w, solveF_n]; exact hbk)) ?_
        refine a_getR (ci := 1) (j := 1) dX10_shortest_46 (kdB hb rfl) rfl (by decide) rfl fl_10_86 ?_
        refine a_astore dX10_shortest_49 (by decide) rfl ?_
        dsimp only [lset]
        refine a_bipush (v := (-2)) dX10_shortest_51 (by decide) ?_
        refine a_istore dX10_shortest_53 (by decide) rfl ?_
        dsimp only [lset]
        refine a_iconst (v := 0) dX10_shortest_55 (by decide) ?_
        refine a_istore dX10_shortest_56 (by decide) rfl ?_
        dsimp only [lset]
        exact l10_sh hb hbk hnl hl8 hnp hp6 (hasI_in c13 hq) 0 (by omega) (by simp only [shoF, c13, c27, c37, if_true, if_false] at hQ; exact hQ)
      · refine a_iconst (v := (-1)) dX10_shortest_40 (by decide) ?_
        exact a_iret dX10_shortest_41 rfl (by
  first
    | (simp only [shoF, c13, c27, c37, if_true, if_false] at hQ; exact hQ)
    | (simp [shoF, c13, c27, c37] at hQ ⊢; exact hQ))
def askH (h : AH) (b : Nat) (x row : Int32) (m : Nat) : AH :=
  keepF (ui (addT h b x row (nI m) (rowF h b (h.1 b 16 x.toNatClampNeg) row m)) b 18 x.toNatClampNeg (h.1 b 21 9)) b 0 x 0
def askF (h : AH) (b : Nat) (x row : Int32) (z : Int32) : Int32 × AH :=
  if hasI (h.1 b 15 5) x = 0 then (-1, h) else if z < 2 then (-1, h) else if 6 < z then (-1, h) else if 0 ≤ row then
    (if rowF h b (h.1 b 16 x.toNatClampNeg) row z.toNatClampNeg = 0 then (-1, h) else if h.1 b 18 x.toNatClampNeg = -1 then (if h.1 b 21 9 < 40 then (h.1 b 21 9, askH h b x row z.toNatClampNeg) else (-3, h)) else (-2, h)) else (-1, h)
def dropF (h : AH) (b : Nat) (x : Int32) : Int32 × AH := if hasI (h.1 b 21 9) x = 0 then (0, h) else if h.1 b 26 x.toNatClampNeg = 0 then (1, keepF (finF h b x) b 2 x 0) else (0, h)
def stopF (h : AH) (b : Nat) (x y : Int32) : Int32 × AH :=
  if hasI (h.1 b 15 5) x = 0 then (-1, h) else if hasI (h.1 b 1 1) y = 0 then (-1, h) else
  (judgeF h b x y, keepF (ui h b 19 x.toNatClampNeg (h.1 b 19 x.toNatClampNeg + (if judgeF h b x y = 0 then 0 else 1))) b 3 x (if judgeF h b x y = 0 then 0 else 1))
def backF (h : AH) (b : Nat) (x n : Int32) : Int32 × AH :=
  if hasI (h.1 b 3 11) x = 0 then (-1, h) else if n < 1 then (-1, h) else if n ≤ h.1 b 12 x.toNatClampNeg then (reisF (keepF (moveF h b x n) b 4 x n) b x - reisF h b x, keepF (moveF h b x n) b 4 x n) else (-1, h)
def passF (h : AH) (b : Nat) (x : Int32) : Int32 × AH :=
  if x < 1 then (-1, h) else if 99 < x then (-1, h) else if h.1 b 0 5 + x ≤ 999 then (h.1 b 0 5 + x, keepF (ui h b 0 5 (h.1 b 0 5 + x)) b 5 (-1) x) else (-1, h)
theorem of26 {z : Int32} (h1 : ¬ z < 2) (h2 : ¬ 6 < z) : ∃ m, 2 ≤ m ∧ m ≤ 6 ∧ z = nI m := by
  rw [Int32.lt_iff_toInt_lt] at h1 h2
  have e2 : (2 : Int32).toInt = 2 := by decide
  have e6 : (6 : Int32).toInt = 6 := by decide
  refine ⟨z.toInt.toNat, by omega, by omega, ?_⟩
  apply Int32.toInt_inj.mp
  rw [nI_toInt (by omega)]
  omega
theorem axn {h : AH} {b ax : Nat} (hax : h.1 b 31 3 = nI ax) (h10 : ax < 10) : ¬ h.1 b 31 3 < 0 ∧ h.1 b 31 3 < 10 ∧ vp_in (h.1 b 31 3) 10 := by
  rw [hax]
  exact ⟨nI_pos (by omega), (nI_ltI (b := 10) (by omega) (by decide)).mpr h10, vp_in_nI h10 (by decide)⟩
theorem c10_ask {l : Launch} {G : GG} {h : AH} {Q : Option Value → AH → Prop} {b nl np nq nt ax ak : Nat} (hW : WB h b nl np nq nt ax ak) {x row z : Int32} (hQ : Q (some (.int (askF h b x row z).1)) (askF h b x row z).2) : Ct l G 3 yX10_ask cX10_ask 6 (some .int) [.ref (G.1 0 0), .int x, .int row, .int z] h Q := by
  refine Ct.of (by decide) (Nat.le_of_ble_eq_true rfl) ?_
  show AW l G 3 RX10 cX10_ask 6 (some .int) 0 [some (.ref (G.1 0 0)), some (.int x), some (.int row), some (.int z)] [] h Q
  obtain ⟨hb, hbk, hnl, hl8, hnp, hp6, hnq, hq8, hnt, ht40, hax, hax10, hak, hak10⟩ := id hW
  have hl : (h.1 b 1 1).toInt ≤ 8 := toNat_le hnl 8 hl8 (by decide)
  have hp : (h.1 b 3 11).toInt ≤ 6 := toNat_le hnp 6 hp6 (by decide)
  have hq : (h.1 b 15 5).toInt ≤ 8 := toNat_le hnq 8 hq8 (by decide)
  have ht : (h.1 b 21 9).toInt ≤ 40 := toNat_le hnt 40 ht40 (by decide)
  have hb0 : (0 : Nat) ≠ b := isB0' hb
  have hb1 : b ≠ 0 := isB0 hb
  refine a_aload_n dX10_ask_0 rfl ?_
  refine a_getD (ci := 10) (j := 3) dX10_ask_1 rfl rfl (by decide) rfl fl_10_40 (bb := b) (by first | exact hbk | (simp (disch := first | decide | assumption | omega) only [ui_eq, ui_k, ui_j, ui_b, keepF_blk, finF_blk, moveF_blk, addT_blk, sendF_blk, takeF_blk, solveF_blk, setUpF_blk, keepF_k, finF_k, finF_c, moveF_k, addT_k, sendF_k, takeF_k, solveF_k, setUpF_k, solveF_w, setUpF_w, solveF_n]; exact hbk)) ?_
  refine a_getR (ci := 1) (j := 2) dX10_ask_4 (kdB hb rfl) rfl (by decide) rfl fl_10_93 ?_
  refine a_iload_n dX10_ask_7 rfl ?_
  refine a_cV1i dX10_ask_8 ml_10_172 wv_3_has (kdB hb rfl) rfl (by decide) (Nat.le_of_ble_eq_true rfl) (c3_has hb ⟨rfl, rfl⟩) ?_
  try simp (disch := first | decide | assumption | omega) only [ui_eq, ui_k, ui_j, ui_b, ui_2, ul_1, ul_eq, ul_k, ul_j, ul_b, hbk, keepF_blk, finF_blk, moveF_blk, addT_blk, sendF_blk, takeF_blk, solveF_blk, setUpF_blk, keepF_k, finF_k, finF_c, moveF_k, addT_k, sendF_k, takeF_k, solveF_k, setUpF_k, solveF_w, setUpF_w, solveF_n]
  refine a_if_eq dX10_ask_11 (tgt := 29) (by decide) (fun c11 => ?_) (fun c11 => ?_)
  · refine a_iconst (v := (-1)) dX10_ask_29 (by decide) ?_
    exact a_iret dX10_ask_30 rfl (by
  first
    | (simp only [askF, c11, if_true, if_false, hmc, askH] at hQ ⊢; exact hQ)
    | (simp only [askF, c11, if_true, if_false] at hQ ⊢; exact hQ))
  · refine a_iload_n dX10_ask_14 rfl ?_
    refine a_iconst (v := 2) dX10_ask_15 (by decide) ?_
    refine a_icmp_lt dX10_ask_16 (tgt := 29) (by decide) (fun c16 => ?_) (fun c16 => ?_)
    · refine a_iconst (v := (-1)) dX10_ask_29 (by decide) ?_
      exact a_iret dX10_ask_30 rfl (by
  first
    | (simp only [askF, c11, c16, if_true, if_false, hmc, askH] at hQ ⊢; exact hQ)
    | (simp only [askF, c11, c16, if_true, if_false] at hQ ⊢; exact hQ))
    · refine a_iload_n dX10_ask_19 rfl ?_
      refine a_bipush (v := 6) dX10_ask_20 (by decide) ?_
      refine a_icmp_gt dX10_ask_22 (tgt := 29) (by decide) (fun c22 => ?_) (fun c22 => ?_)
      · refine a_iconst (v := (-1)) dX10_ask_29 (by decide) ?_
        exact a_iret dX10_ask_30 rfl (by
  first
    | (simp only [askF, c11, c16, c22, if_true, if_false, hmc, askH] at hQ ⊢; exact hQ)
    | (simp only [askF, c11, c16, c22, if_true, if_false] at hQ ⊢; exact hQ))
      · refine a_iload_n dX10_ask_25 rfl ?_
        refine a_if_ge dX10_ask_26 (tgt := 31) (by decide) (fun c26 => ?_) (fun c26 => ?_)
        · obtain ⟨m, hm2, hm6, rfl⟩ := of26 c16 c22
          have hmc : (nI m).toNatClampNeg = m := nI_clamp (by omega)
          refine a_aload_n dX10_ask_31 rfl ?_
          refine a_getD (ci := 10) (j := 3) dX10_ask_32 rfl rfl (by decide) rfl fl_10_40 (bb := b) (by first | exact hbk | (simp (disch := first | decide | assumption | omega) only [ui_eq, ui_k, ui_j, ui_b, keepF_blk, finF_blk, moveF_blk, addT_blk, sendF_blk, takeF_blk, solveF_blk, setUpF_blk, keepF_k, finF_k, finF_c, moveF_k, addT_k, sendF_k, takeF_k, solveF_k, setUpF_k, solveF_w, setUpF_w, solveF_n]; exact hbk)) ?_
          refine a_getR (ci := 1) (j := 0) dX10_ask_35 (kdB hb rfl) rfl (by decide) rfl fl_10_77 ?_
          refine a_aload_n dX10_ask_38 rfl ?_
          refine a_getD (ci := 10) (j := 3) dX10_ask_39 rfl rfl (by decide) rfl fl_10_40 (bb := b) (by first | exact hbk | (simp (disch := first | decide | assumption | omega) only [ui_eq, ui_k, ui_j, ui_b, keepF_blk, finF_blk, moveF_blk, addT_blk, sendF_blk, takeF_blk, solveF_blk, setUpF_blk, keepF_k, finF_k, finF_c, moveF_k, addT_k, sendF_k, takeF_k, solveF_k, setUpF_k, solveF_w, setUpF_w, solveF_n]; exact hbk)) ?_
          refine a_getR (ci := 1) (j := 2) dX10_ask_42 (kdB hb rfl) rfl (by decide) rfl fl_10_93 ?_
          refine a_getR (ci := 3) (j := 0) dX10_ask_45 (kdB hb rfl) rfl (by decide) rfl fl_10_180 ?_
          refine a_iload_n dX10_ask_48 rfl ?_
          refine a_iaload dX10_ask_49 (kdB hb rfl) (hasI_in c11 hq) ?_
          try simp (disch := first | decide | assumption | omega) only [ui_eq, ui_k, ui_j, ui_b, ui_2, ul_1, ul_eq, ul_k, ul_j, ul_b, hbk, keepF_blk, finF_blk, moveF_blk, addT_blk, sendF_blk, takeF_blk, solveF_blk, setUpF_blk, keepF_k, finF_k, finF_c, moveF_k, addT_k, sendF_k, takeF_k, solveF_k, setUpF_k, solveF_w, setUpF_w, solveF_n]
          refine a_iload_n dX10_ask_50 rfl ?_
          refine a_iload_n dX10_ask_51 rfl ?_
          refine a_cV3i dX10_ask_52 ml_10_263 wv_2_bitsOfRow (kdB hb rfl) rfl (by decide) (Nat.le_of_ble_eq_true rfl) (c2_bitsOfRow hb hl (by omega) (by omega) ⟨rfl, rfl⟩) ?_
          try simp (disch := first | decide | assumption | omega) only [ui_eq, ui_k, ui_j, ui_b, ui_2, ul_1, ul_eq, ul_k, ul_j, ul_b, hbk, keepF_blk, finF_blk, moveF_blk, addT_blk, sendF_blk, takeF_blk, solveF_blk, setUpF_blk, keepF_k, finF_k, finF_c, moveF_k, addT_k, sendF_k, takeF_k, solveF_k, setUpF_k, solveF_w, setUpF_w, solveF_n]
          refine a_istore dX10_ask_55 (by decide) rfl ?_
          dsimp only [lset]
          refine a_iload dX10_ask_57 rfl ?_
          refine a_if_ne dX10_ask_59 (tgt := 64) (by decide) (fun c59 => ?_) (fun c59 => ?_)
          · refine a_aload_n dX10_ask_64 rfl ?_
            refine a_getD (ci := 10) (j := 3) dX10_ask_65 rfl rfl (by decide) rfl fl_10_40 (bb := b) (by first | exact hbk | (simp (disch := first | decide | assumption | omega) only [ui_eq, ui_k, ui_j, ui_b, keepF_blk, finF_blk, moveF_blk, addT_blk, sendF_blk, takeF_blk, solveF_blk, setUpF_blk, keepF_k, finF_k, finF_c, moveF_k, addT_k, sendF_k, takeF_k, solveF_k, setUpF_k, solveF_w, setUpF_w, solveF_n]; exact hbk)) ?_
            refine a_getR (ci := 1) (j := 2) dX10_ask_68 (kdB hb rfl) rfl (by decide) rfl fl_10_93 ?_
            refine a_getR (ci := 3) (j := 2) dX10_ask_71 (kdB hb rfl) rfl (by decide) rfl fl_10_184 ?_
            refine a_iload_n dX10_ask_74 rfl ?_
            refine a_iaload dX10_ask_75 (kdB hb rfl) (hasI_in c11 hq) ?_
            try simp (disch := first | decide | assumption | omega) only [ui_eq, ui_k, ui_j, ui_b, ui_2, ul_1, ul_eq, ul_k, ul_j, ul_b, hbk, keepF_blk, finF_blk, moveF_blk, addT_blk, sendF_blk, takeF_blk, solveF_blk, setUpF_blk, keepF_k, finF_k, finF_c, moveF_k, addT_k, sendF_k, takeF_k, solveF_k, setUpF_k, solveF_w, setUpF_w, solveF_n]
            refine a_iconst (v := (-1)) dX10_ask_76 (by decide) ?_
            refine a_icmp_eq dX10_ask_77 (tgt := 83) (by decide) (fun c77 => ?_) (fun c77 => ?_)
            · refine a_aload_n dX10_ask_83 rfl ?_
              refine a_getD (ci := 10) (j := 3) dX10_ask_84 rfl rfl (by decide) rfl fl_10_40 (bb := b) (by first | exact hbk | (simp (disch := first | decide | assumption | omega) only [ui_eq, ui_k, ui_j, ui_b, keepF_blk, finF_blk, moveF_blk, addT_blk, sendF_blk, takeF_blk, solveF_blk, setUpF_blk, keepF_k, finF_k, finF_c, moveF_k, addT_k, sendF_k, takeF_k, solveF_k, setUpF_k, solveF_w, setUpF_w, solveF_n]; exact hbk)) ?_
              refine a_getR (ci := 1) (j := 3) dX10_ask_87 (kdB hb rfl) rfl (by decide) rfl fl_10_100 ?_
              refine a_getI (ci := 9) (j := 9) dX10_ask_90 (kdB hb rfl) rfl (by decide) rfl fl_10_104 ?_
              try simp (disch := first | decide | assumption | omega) only [ui_eq, ui_k, ui_j, ui_b, ui_2, ul_1, ul_eq, ul_k, ul_j, ul_b, hbk, keepF_blk, finF_blk, moveF_blk, addT_blk, sendF_blk, takeF_blk, solveF_blk, setUpF_blk, keepF_k, finF_k, finF_c, moveF_k, addT_k, sendF_k, takeF_k, solveF_k, setUpF_k, solveF_w, setUpF_w, solveF_n]
              refine a_bipush (v := 40) dX10_ask_93 (by decide) ?_
              refine a_icmp_lt dX10_ask_95 (tgt := 101) (by decide) (fun c95 => ?_) (fun c95 => ?_)
              · refine a_aload_n dX10_ask_101 rfl ?_
                refine a_getD (ci := 10) (j := 3) dX10_ask_102 rfl rfl (by decide) rfl fl_10_40 (bb := b) (by first | exact hbk | (simp (disch := first | decide | assumption | omega) only [ui_eq, ui_k, ui_j, ui_b, keepF_blk, finF_blk, moveF_blk, addT_blk, sendF_blk, takeF_blk, solveF_blk, setUpF_blk, keepF_k, finF_k, finF_c, moveF_k, addT_k, sendF_k, takeF_k, solveF_k, setUpF_k, solveF_w, setUpF_w, solveF_n]; exact hbk)) ?_
                refine a_getR (ci := 1) (j := 3) dX10_ask_105 (kdB hb rfl) rfl (by decide) rfl fl_10_100 ?_
                refine a_iload_n dX10_ask_108 rfl ?_
                refine a_iload_n dX10_ask_109 rfl ?_
                refine a_iload_n dX10_ask_110 rfl ?_
                refine a_iload dX10_ask_111 rfl ?_
                refine a_cV4i dX10_ask_113 ml_10_266 wv_9_add (kdB hb rfl) rfl (by decide) (Nat.le_of_ble_eq_true rfl) (c9_add hb (by rw [hnt]; exact nI_pos (by omega)) c95 (by rw [hnt]; rw [hnt] at c95; exact vp_in_nI ((nI_ltI (b := 40) (by omega) (by decide)).mp c95) (by decide)) ⟨rfl, rfl⟩) ?_
                try simp (disch := first | decide | assumption | omega) only [ui_eq, ui_k, ui_j, ui_b, ui_2, ul_1, ul_eq, ul_k, ul_j, ul_b, hbk, keepF_blk, finF_blk, moveF_blk, addT_blk, sendF_blk, takeF_blk, solveF_blk, setUpF_blk, keepF_k, finF_k, finF_c, moveF_k, addT_k, sendF_k, takeF_k, solveF_k, setUpF_k, solveF_w, setUpF_w, solveF_n]
                refine a_istore dX10_ask_116 (by decide) rfl ?_
                dsimp only [lset]
                refine a_aload_n dX10_ask_118 rfl ?_
                refine a_getD (ci := 10) (j := 3) dX10_ask_119 rfl rfl (by decide) rfl fl_10_40 (bb := b) (by first | exact hbk | (simp (disch := first | decide | assumption | omega) only [ui_eq, ui_k, ui_j, ui_b, keepF_blk, finF_blk, moveF_blk, addT_blk, sendF_blk, takeF_blk, solveF_blk, setUpF_blk, keepF_k, finF_k, finF_c, moveF_k, addT_k, sendF_k, takeF_k, solveF_k, setUpF_k, solveF_w, setUpF_w, solveF_n]; exact hbk)) ?_
                refine a_getR (ci := 1) (j := 2) dX10_ask_122 (kdB hb rfl) rfl (by decide) rfl fl_10_93 ?_
                refine a_getR (ci := 3) (j := 2) dX10_ask_125 (kdB hb rfl) rfl (by decide) rfl fl_10_184 ?_
                refine a_iload_n dX10_ask_128 rfl ?_
                refine a_iload dX10_ask_129 rfl ?_
                refine a_iastore dX10_ask_131 (kdB hb rfl) (hasI_in c11 hq) ?_
                refine a_aload_n dX10_ask_132 rfl ?_
                refine a_getD (ci := 10) (j := 3) dX10_ask_133 rfl rfl (by decide) rfl fl_10_40 (bb := b) (by first | exact hbk | (simp (disch := first | decide | assumption | omega) only [ui_eq, ui_k, ui_j, ui_b, keepF_blk, finF_blk, moveF_blk, addT_blk, sendF_blk, takeF_blk, solveF_blk, setUpF_blk, keepF_k, finF_k, finF_c, moveF_k, addT_k, sendF_k, takeF_k, solveF_k, setUpF_k, solveF_w, setUpF_w, solveF_n]; exact hbk)) ?_
                refine a_getR (ci := 1) (j := 4) dX10_ask_136 (kdB hb rfl) rfl (by decide) rfl fl_10_118 ?_
                refine a_iconst (v := 0) dX10_ask_139 (by decide) ?_
                refine a_iload_n dX10_ask_140 rfl ?_
                refine a_iconst (v := 0) dX10_ask_141 (by decide) ?_
                refine a_cV3v dX10_ask_142 ml_10_270 wv_0_keep (kdB hb rfl) rfl (by decide) (Nat.le_of_ble_eq_true rfl) (c0_keep hb (axn (by first | exact hax | (simp (disch := first | decide | assumption | omega) only [ui_eq, ui_k, ui_j, ui_b, keepF_blk, finF_blk, moveF_blk, addT_blk, sendF_blk, takeF_blk, solveF_blk, setUpF_blk, keepF_k, finF_k, finF_c, moveF_k, addT_k, sendF_k, takeF_k, solveF_k, setUpF_k, solveF_w, setUpF_w, solveF_n]; exact hax)) hax10).1 (axn (by first | exact hax | (simp (disch := first | decide | assumption | omega) only [ui_eq, ui_k, ui_j, ui_b, keepF_blk, finF_blk, moveF_blk, addT_blk, sendF_blk, takeF_blk, solveF_blk, setUpF_blk, keepF_k, finF_k, finF_c, moveF_k, addT_k, sendF_k, takeF_k, solveF_k, setUpF_k, solveF_w, setUpF_w, solveF_n]; exact hax)) hax10).2.1 (axn (by first | exact hax | (simp (disch := first | decide | assumption | omega) only [ui_eq, ui_k, ui_j, ui_b, keepF_blk, finF_blk, moveF_blk, addT_blk, sendF_blk, takeF_blk, solveF_blk, setUpF_blk, keepF_k, finF_k, finF_c, moveF_k, addT_k, sendF_k, takeF_k, solveF_k, setUpF_k, solveF_w, setUpF_w, solveF_n]; exact hax)) hax10).2.2 ⟨rfl, rfl⟩) ?_
                try simp (disch := first | decide | assumption | omega) only [ui_eq, ui_k, ui_j, ui_b, ui_2, ul_1, ul_eq, ul_k, ul_j, ul_b, hbk, keepF_blk, finF_blk, moveF_blk, addT_blk, sendF_blk, takeF_blk, solveF_blk, setUpF_blk, keepF_k, finF_k, finF_c, moveF_k, addT_k, sendF_k, takeF_k, solveF_k, setUpF_k, solveF_w, setUpF_w, solveF_n]
                refine a_iload dX10_ask_145 rfl ?_
                exact a_iret dX10_ask_147 rfl (by
  first
    | (simp only [askF, c11, c16, c22, c26, c59, c77, c95, if_true, if_false, hmc, askH] at hQ ⊢; exact hQ)
    | (simp only [askF, c11, c16, c22, c26, c59, c77, c95, if_true, if_false] at hQ ⊢; exact hQ))
              · refine a_bipush (v := (-3)) dX10_ask_98 (by decide) ?_
                exact a_iret dX10_ask_100 rfl (by
  first
    | (simp only [askF, c11, c16, c22, c26, c59, c77, c95, if_true, if_false, hmc, askH] at hQ ⊢; exact hQ)
    | (simp only [askF, c11, c16, c22, c26, c59, c77, c95, if_true, if_false] at hQ ⊢; exact hQ))
            · refine a_bipush (v := (-2)) dX10_ask_80 (by decide) ?_
              exact a_iret dX10_ask_82 rfl (by
  first
    | (simp only [askF, c11, c16, c22, c26, c59, c77, if_true, if_false, hmc, askH] at hQ ⊢; exact hQ)
    | (simp only [askF, c11, c16, c22, c26, c59, c77, if_true, if_false] at hQ ⊢; exact hQ))
          · refine a_iconst (v := (-1)) dX10_ask_62 (by decide) ?_
            exact a_iret dX10_ask_63 rfl (by
  first
    | (simp only [askF, c11, c16, c22, c26, c59, if_true, if_false, hmc, askH] at hQ ⊢; exact hQ)
    | (simp only [askF, c11, c16, c22, c26, c59, if_true, if_false] at hQ ⊢; exact hQ))
        · refine a_iconst (v := (-1)) dX10_ask_29 (by decide) ?_
          exact a_iret dX10_ask_30 rfl (by
  first
    | (simp only [askF, c11, c16, c22, c26, if_true, if_false, hmc, askH] at hQ ⊢; exact hQ)
    | (simp only [askF, c11, c16, c22, c26, if_true, if_false] at hQ ⊢; exact hQ))
theorem c10_drop {l : Launch} {G : GG} {h : AH} {Q : Option Value → AH → Prop} {b nl np nq nt ax ak : Nat} (hW : WB h b nl np nq nt ax ak) {x : Int32} (hQ : Q (some (.int (dropF h b x).1)) (dropF h b x).2) : Ct l G 3 yX10_drop cX10_drop 2 (some .boolean) [.ref (G.1 0 0), .int x] h Q := by
  refine Ct.of (by decide) (Nat.le_of_ble_eq_true rfl) ?_
  show AW l G 3 RX10 cX10_drop 2 (some .boolean) 0 [some (.ref (G.1 0 0)), some (.int x)] [] h Q
  obtain ⟨hb, hbk, hnl, hl8, hnp, hp6, hnq, hq8, hnt, ht40, hax, hax10, hak, hak10⟩ := id hW
  have hl : (h.1 b 1 1).toInt ≤ 8 := toNat_le hnl 8 hl8 (by decide)
  have hp : (h.1 b 3 11).toInt ≤ 6 := toNat_le hnp 6 hp6 (by decide)
  have hq : (h.1 b 15 5).toInt ≤ 8 := toNat_le hnq 8 hq8 (by decide)
  have ht : (h.1 b 21 9).toInt ≤ 40 := toNat_le hnt 40 ht40 (by decide)
  have hb0 : (0 : Nat) ≠ b := isB0' hb
  have hb1 : b ≠ 0 := isB0 hb
  refine a_aload_n dX10_drop_0 rfl ?_
  refine a_getD (ci := 10) (j := 3) dX10_drop_1 rfl rfl (by decide) rfl fl_10_40 (bb := b) (by first | exact hbk | (simp (disch := first | decide | assumption | omega) only [ui_eq, ui_k, ui_j, ui_b, keepF_blk, finF_blk, moveF_blk, addT_blk, sendF_blk, takeF_blk, solveF_blk, setUpF_blk, keepF_k, finF_k, finF_c, moveF_k, addT_k, sendF_k, takeF_k, solveF_k, setUpF_k, solveF_w, setUpF_w, solveF_n]; exact hbk)) ?_
  refine a_getR (ci := 1) (j := 3) dX10_drop_4 (kdB hb rfl) rfl (by decide) rfl fl_10_100 ?_
  refine a_iload_n dX10_drop_7 rfl ?_
  refine a_cV1i dX10_drop_8 ml_10_195 wv_9_has (kdB hb rfl) rfl (by decide) (Nat.le_of_ble_eq_true rfl) (c9_has hb ⟨rfl, rfl⟩) ?_
  try simp (disch := first | decide | assumption | omega) only [ui_eq, ui_k, ui_j, ui_b, ui_2, ul_1, ul_eq, ul_k, ul_j, ul_b, hbk, keepF_blk, finF_blk, moveF_blk, addT_blk, sendF_blk, takeF_blk, solveF_blk, setUpF_blk, keepF_k, finF_k, finF_c, moveF_k, addT_k, sendF_k, takeF_k, solveF_k, setUpF_k, solveF_w, setUpF_w, solveF_n]
  refine a_if_eq dX10_drop_11 (tgt := 29) (by decide) (fun c11 => ?_) (fun c11 => ?_)
  · refine a_iconst (v := 0) dX10_drop_29 (by decide) ?_
    exact a_zret dX10_drop_30 rfl rfl (by
  first
    | (simp only [dropF, c11, if_true, if_false] at hQ; exact hQ)
    | (simp [dropF, c11] at hQ ⊢; exact hQ))
  · refine a_aload_n dX10_drop_14 rfl ?_
    refine a_getD (ci := 10) (j := 3) dX10_drop_15 rfl rfl (by decide) rfl fl_10_40 (bb := b) (by first | exact hbk | (simp (disch := first | decide | assumption | omega) only [ui_eq, ui_k, ui_j, ui_b, keepF_blk, finF_blk, moveF_blk, addT_blk, sendF_blk, takeF_blk, solveF_blk, setUpF_blk, keepF_k, finF_k, finF_c, moveF_k, addT_k, sendF_k, takeF_k, solveF_k, setUpF_k, solveF_w, setUpF_w, solveF_n]; exact hbk)) ?_
    refine a_getR (ci := 1) (j := 3) dX10_drop_18 (kdB hb rfl) rfl (by decide) rfl fl_10_100 ?_
    refine a_getR (ci := 9) (j := 4) dX10_drop_21 (kdB hb rfl) rfl (by decide) rfl fl_10_202 ?_
    refine a_iload_n dX10_drop_24 rfl ?_
    refine a_iaload dX10_drop_25 (kdB hb rfl) (hasI_in c11 ht) ?_
    try simp (disch := first | decide | assumption | omega) only [ui_eq, ui_k, ui_j, ui_b, ui_2, ul_1, ul_eq, ul_k, ul_j, ul_b, hbk, keepF_blk, finF_blk, moveF_blk, addT_blk, sendF_blk, takeF_blk, solveF_blk, setUpF_blk, keepF_k, finF_k, finF_c, moveF_k, addT_k, sendF_k, takeF_k, solveF_k, setUpF_k, solveF_w, setUpF_w, solveF_n]
    refine a_if_eq dX10_drop_26 (tgt := 31) (by decide) (fun c26 => ?_) (fun c26 => ?_)
    · refine a_aload_n dX10_drop_31 rfl ?_
      refine a_getD (ci := 10) (j := 3) dX10_drop_32 rfl rfl (by decide) rfl fl_10_40 (bb := b) (by first | exact hbk | (simp (disch := first | decide | assumption | omega) only [ui_eq, ui_k, ui_j, ui_b, keepF_blk, finF_blk, moveF_blk, addT_blk, sendF_blk, takeF_blk, solveF_blk, setUpF_blk, keepF_k, finF_k, finF_c, moveF_k, addT_k, sendF_k, takeF_k, solveF_k, setUpF_k, solveF_w, setUpF_w, solveF_n]; exact hbk)) ?_
      refine a_iload_n dX10_drop_35 rfl ?_
      refine a_cV1v dX10_drop_36 ml_10_274 wv_1_finish (kdB hb rfl) rfl (by decide) (Nat.le_of_ble_eq_true rfl) (c1_finish hb hp ht hq ⟨rfl, rfl⟩) ?_
      try simp (disch := first | decide | assumption | omega) only [ui_eq, ui_k, ui_j, ui_b, ui_2, ul_1, ul_eq, ul_k, ul_j, ul_b, hbk, keepF_blk, finF_blk, moveF_blk, addT_blk, sendF_blk, takeF_blk, solveF_blk, setUpF_blk, keepF_k, finF_k, finF_c, moveF_k, addT_k, sendF_k, takeF_k, solveF_k, setUpF_k, solveF_w, setUpF_w, solveF_n]
      refine a_aload_n dX10_drop_39 rfl ?_
      refine a_getD (ci := 10) (j := 3) dX10_drop_40 rfl rfl (by decide) rfl fl_10_40 (bb := b) (by first | exact hbk | (simp (disch := first | decide | assumption | omega) only [ui_eq, ui_k, ui_j, ui_b, keepF_blk, finF_blk, moveF_blk, addT_blk, sendF_blk, takeF_blk, solveF_blk, setUpF_blk, keepF_k, finF_k, finF_c, moveF_k, addT_k, sendF_k, takeF_k, solveF_k, setUpF_k, solveF_w, setUpF_w, solveF_n]; exact hbk)) ?_
      refine a_getR (ci := 1) (j := 4) dX10_drop_43 (kdB hb rfl) rfl (by decide) rfl fl_10_118 ?_
      refine a_iconst (v := 2) dX10_drop_46 (by decide) ?_
      refine a_iload_n dX10_drop_47 rfl ?_
      refine a_iconst (v := 0) dX10_drop_48 (by decide) ?_
      refine a_cV3v dX10_drop_49 ml_10_270 wv_0_keep (kdB hb rfl) rfl (by decide) (Nat.le_of_ble_eq_true rfl) (c0_keep hb (axn (by first | exact hax | (simp (disch := first | decide | assumption | omega) only [ui_eq, ui_k, ui_j, ui_b, keepF_blk, finF_blk, moveF_blk, addT_blk, sendF_blk, takeF_blk, solveF_blk, setUpF_blk, keepF_k, finF_k, finF_c, moveF_k, addT_k, sendF_k, takeF_k, solveF_k, setUpF_k, solveF_w, setUpF_w, solveF_n]; exact hax)) hax10).1 (axn (by first | exact hax | (simp (disch := first | decide | assumption | omega) only [ui_eq, ui_k, ui_j, ui_b, keepF_blk, finF_blk, moveF_blk, addT_blk, sendF_blk, takeF_blk, solveF_blk, setUpF_blk, keepF_k, finF_k, finF_c, moveF_k, addT_k, sendF_k, takeF_k, solveF_k, setUpF_k, solveF_w, setUpF_w, solveF_n]; exact hax)) hax10).2.1 (axn (by first | exact hax | (simp (disch := first | decide | assumption | omega) only [ui_eq, ui_k, ui_j, ui_b, keepF_blk, finF_blk, moveF_blk, addT_blk, sendF_blk, takeF_blk, solveF_blk, setUpF_blk, keepF_k, finF_k, finF_c, moveF_k, addT_k, sendF_k, takeF_k, solveF_k, setUpF_k, solveF_w, setUpF_w, solveF_n]; exact hax)) hax10).2.2 ⟨rfl, rfl⟩) ?_
      try simp (disch := first | decide | assumption | omega) only [ui_eq, ui_k, ui_j, ui_b, ui_2, ul_1, ul_eq, ul_k, ul_j, ul_b, hbk, keepF_blk, finF_blk, moveF_blk, addT_blk, sendF_blk, takeF_blk, solveF_blk, setUpF_blk, keepF_k, finF_k, finF_c, moveF_k, addT_k, sendF_k, takeF_k, solveF_k, setUpF_k, solveF_w, setUpF_w, solveF_n]
      refine a_iconst (v := 1) dX10_drop_52 (by decide) ?_
      exact a_zret dX10_drop_53 rfl rfl (by
  first
    | (simp only [dropF, c11, c26, if_true, if_false] at hQ; exact hQ)
    | (simp [dropF, c11, c26] at hQ ⊢; exact hQ))
    · refine a_iconst (v := 0) dX10_drop_29 (by decide) ?_
      exact a_zret dX10_drop_30 rfl rfl (by
  first
    | (simp only [dropF, c11, c26, if_true, if_false] at hQ; exact hQ)
    | (simp [dropF, c11, c26] at hQ ⊢; exact hQ))
theorem c10_stop {l : Launch} {G : GG} {h : AH} {Q : Option Value → AH → Prop} {b nl np nq nt ax ak : Nat} (hW : WB h b nl np nq nt ax ak) {x y : Int32} (hQ : Q (some (.int (stopF h b x y).1)) (stopF h b x y).2) : Ct l G 3 yX10_stop cX10_stop 5 (some .int) [.ref (G.1 0 0), .int x, .int y] h Q := by
  refine Ct.of (by decide) (Nat.le_of_ble_eq_true rfl) ?_
  show AW l G 3 RX10 cX10_stop 5 (some .int) 0 [some (.ref (G.1 0 0)), some (.int x), some (.int y)] [] h Q
  obtain ⟨hb, hbk, hnl, hl8, hnp, hp6, hnq, hq8, hnt, ht40, hax, hax10, hak, hak10⟩ := id hW
  have hl : (h.1 b 1 1).toInt ≤ 8 := toNat_le hnl 8 hl8 (by decide)
  have hp : (h.1 b 3 11).toInt ≤ 6 := toNat_le hnp 6 hp6 (by decide)
  have hq : (h.1 b 15 5).toInt ≤ 8 := toNat_le hnq 8 hq8 (by decide)
  have ht : (h.1 b 21 9).toInt ≤ 40 := toNat_le hnt 40 ht40 (by decide)
  have hb0 : (0 : Nat) ≠ b := isB0' hb
  have hb1 : b ≠ 0 := isB0 hb
  refine a_aload_n dX10_stop_0 rfl ?_
  refine a_getD (ci := 10) (j := 3) dX10_stop_1 rfl rfl (by decide) rfl fl_10_40 (bb := b) (by first | exact hbk | (simp (disch := first | decide | assumption | omega) only [ui_eq, ui_k, ui_j, ui_b, keepF_blk, finF_blk, moveF_blk, addT_blk, sendF_blk, takeF_blk, solveF_blk, setUpF_blk, keepF_k, finF_k, finF_c, moveF_k, addT_k, sendF_k, takeF_k, solveF_k, setUpF_k, solveF_w, setUpF_w, solveF_n]; exact hbk)) ?_
  refine a_getR (ci := 1) (j := 2) dX10_stop_4 (kdB hb rfl) rfl (by decide) rfl fl_10_93 ?_
  refine a_iload_n dX10_stop_7 rfl ?_
  refine a_cV1i dX10_stop_8 ml_10_172 wv_3_has (kdB hb rfl) rfl (by decide) (Nat.le_of_ble_eq_true rfl) (c3_has hb ⟨rfl, rfl⟩) ?_
  try simp (disch := first | decide | assumption | omega) only [ui_eq, ui_k, ui_j, ui_b, ui_2, ul_1, ul_eq, ul_k, ul_j, ul_b, hbk, keepF_blk, finF_blk, moveF_blk, addT_blk, sendF_blk, takeF_blk, solveF_blk, setUpF_blk, keepF_k, finF_k, finF_c, moveF_k, addT_k, sendF_k, takeF_k, solveF_k, setUpF_k, solveF_w, setUpF_w, solveF_n]
  refine a_if_eq dX10_stop_11 (tgt := 28) (by decide) (fun c11 => ?_) (fun c11 => ?_)
  · refine a_iconst (v := (-1)) dX10_stop_28 (by decide) ?_
    exact a_iret dX10_stop_29 rfl (by
  first
    | (simp only [stopF, c11, if_true, if_false] at hQ ⊢; exact hQ)
    | (simp only [stopF, c11, c25, c41, if_true, if_false] at hQ; rw [c41]; exact hQ))
  · refine a_aload_n dX10_stop_14 rfl ?_
    refine a_getD (ci := 10) (j := 3) dX10_stop_15 rfl rfl (by decide) rfl fl_10_40 (bb := b) (by first | exact hbk | (simp (disch := first | decide | assumption | omega) only [ui_eq, ui_k, ui_j, ui_b, keepF_blk, finF_blk, moveF_blk, addT_blk, sendF_blk, takeF_blk, solveF_blk, setUpF_blk, keepF_k, finF_k, finF_c, moveF_k, addT_k, sendF_k, takeF_k, solveF_k, setUpF_k, solveF_w, setUpF_w, solveF_n]; exact hbk)) ?_
    refine a_getR (ci := 1) (j := 0) dX10_stop_18 (kdB hb rfl) rfl (by decide) rfl fl_10_77 ?_
    refine a_iload_n dX10_stop_21 rfl ?_
    refine a_cV1i dX10_stop_22 ml_10_249 wv_2_has (kdB hb rfl) rfl (by decide) (Nat.le_of_ble_eq_true rfl) (c2_has hb ⟨rfl, rfl⟩) ?_
    try simp (disch := first | decide | assumption | omega) only [ui_eq, ui_k, ui_j, ui_b, ui_2, ul_1, ul_eq, ul_k, ul_j, ul_b, hbk, keepF_blk, finF_blk, moveF_blk, addT_blk, sendF_blk, takeF_blk, solveF_blk, setUpF_blk, keepF_k, finF_k, finF_c, moveF_k, addT_k, sendF_k, takeF_k, solveF_k, setUpF_k, solveF_w, setUpF_w, solveF_n]
    refine a_if_ne dX10_stop_25 (tgt := 30) (by decide) (fun c25 => ?_) (fun c25 => ?_)
    · refine a_aload_n dX10_stop_30 rfl ?_
      refine a_getD (ci := 10) (j := 3) dX10_stop_31 rfl rfl (by decide) rfl fl_10_40 (bb := b) (by first | exact hbk | (simp (disch := first | decide | assumption | omega) only [ui_eq, ui_k, ui_j, ui_b, keepF_blk, finF_blk, moveF_blk, addT_blk, sendF_blk, takeF_blk, solveF_blk, setUpF_blk, keepF_k, finF_k, finF_c, moveF_k, addT_k, sendF_k, takeF_k, solveF_k, setUpF_k, solveF_w, setUpF_w, solveF_n]; exact hbk)) ?_
      refine a_iload_n dX10_stop_34 rfl ?_
      refine a_iload_n dX10_stop_35 rfl ?_
      refine a_cV2i dX10_stop_36 ml_10_260 wv_1_judge (kdB hb rfl) rfl (by decide) (Nat.le_of_ble_eq_true rfl) (c1_judge hb hp ht hq ⟨rfl, rfl⟩) ?_
      try simp (disch := first | decide | assumption | omega) only [ui_eq, ui_k, ui_j, ui_b, ui_2, ul_1, ul_eq, ul_k, ul_j, ul_b, hbk, keepF_blk, finF_blk, moveF_blk, addT_blk, sendF_blk, takeF_blk, solveF_blk, setUpF_blk, keepF_k, finF_k, finF_c, moveF_k, addT_k, sendF_k, takeF_k, solveF_k, setUpF_k, solveF_w, setUpF_w, solveF_n]
      refine a_istore_n dX10_stop_39 (by decide) rfl ?_
      dsimp only [lset]
      refine a_iload_n dX10_stop_40 rfl ?_
      refine a_if_ne dX10_stop_41 (tgt := 48) (by decide) (fun c41 => ?_) (fun c41 => ?_)
      · refine a_iconst (v := 1) dX10_stop_48 (by decide) ?_
        refine a_istore dX10_stop_49 (by decide) rfl ?_
        dsimp only [lset]
        refine a_aload_n dX10_stop_51 rfl ?_
        refine a_getD (ci := 10) (j := 3) dX10_stop_52 rfl rfl (by decide) rfl fl_10_40 (bb := b) (by first | exact hbk | (simp (disch := first | decide | assumption | omega) only [ui_eq, ui_k, ui_j, ui_b, keepF_blk, finF_blk, moveF_blk, addT_blk, sendF_blk, takeF_blk, solveF_blk, setUpF_blk, keepF_k, finF_k, finF_c, moveF_k, addT_k, sendF_k, takeF_k, solveF_k, setUpF_k, solveF_w, setUpF_w, solveF_n]; exact hbk)) ?_
        refine a_getR (ci := 1) (j := 2) dX10_stop_55 (kdB hb rfl) rfl (by decide) rfl fl_10_93 ?_
        refine a_getR (ci := 3) (j := 3) dX10_stop_58 (kdB hb rfl) rfl (by decide) rfl fl_10_187 ?_
        refine a_iload_n dX10_stop_61 rfl ?_
        refine a_dup2 dX10_stop_62 rfl rfl ?_
        refine a_iaload dX10_stop_63 (kdB hb rfl) (hasI_in c11 hq) ?_
        try simp (disch := first | decide | assumption | omega) only [ui_eq, ui_k, ui_j, ui_b, ui_2, ul_1, ul_eq, ul_k, ul_j, ul_b, hbk, keepF_blk, finF_blk, moveF_blk, addT_blk, sendF_blk, takeF_blk, solveF_blk, setUpF_blk, keepF_k, finF_k, finF_c, moveF_k, addT_k, sendF_k, takeF_k, solveF_k, setUpF_k, solveF_w, setUpF_w, solveF_n]
        refine a_iload dX10_stop_64 rfl ?_
        refine a_iadd dX10_stop_66 ?_
        refine a_iastore dX10_stop_67 (kdB hb rfl) (hasI_in c11 hq) ?_
        refine a_aload_n dX10_stop_68 rfl ?_
        refine a_getD (ci := 10) (j := 3) dX10_stop_69 rfl rfl (by decide) rfl fl_10_40 (bb := b) (by first | exact hbk | (simp (disch := first | decide | assumption | omega) only [ui_eq, ui_k, ui_j, ui_b, keepF_blk, finF_blk, moveF_blk, addT_blk, sendF_blk, takeF_blk, solveF_blk, setUpF_blk, keepF_k, finF_k, finF_c, moveF_k, addT_k, sendF_k, takeF_k, solveF_k, setUpF_k, solveF_w, setUpF_w, solveF_n]; exact hbk)) ?_
        refine a_getR (ci := 1) (j := 4) dX10_stop_72 (kdB hb rfl) rfl (by decide) rfl fl_10_118 ?_
        refine a_iconst (v := 3) dX10_stop_75 (by decide) ?_
        refine a_iload_n dX10_stop_76 rfl ?_
        refine a_iload dX10_stop_77 rfl ?_
        refine a_cV3v dX10_stop_79 ml_10_270 wv_0_keep (kdB hb rfl) rfl (by decide) (Nat.le_of_ble_eq_true rfl) (c0_keep hb (axn (by first | exact hax | (simp (disch := first | decide | assumption | omega) only [ui_eq, ui_k, ui_j, ui_b, keepF_blk, finF_blk, moveF_blk, addT_blk, sendF_blk, takeF_blk, solveF_blk, setUpF_blk, keepF_k, finF_k, finF_c, moveF_k, addT_k, sendF_k, takeF_k, solveF_k, setUpF_k, solveF_w, setUpF_w, solveF_n]; exact hax)) hax10).1 (axn (by first | exact hax | (simp (disch := first | decide | assumption | omega) only [ui_eq, ui_k, ui_j, ui_b, keepF_blk, finF_blk, moveF_blk, addT_blk, sendF_blk, takeF_blk, solveF_blk, setUpF_blk, keepF_k, finF_k, finF_c, moveF_k, addT_k, sendF_k, takeF_k, solveF_k, setUpF_k, solveF_w, setUpF_w, solveF_n]; exact hax)) hax10).2.1 (axn (by first | exact hax | (simp (disch := first | decide | assumption | omega) only [ui_eq, ui_k, ui_j, ui_b, keepF_blk, finF_blk, moveF_blk, addT_blk, sendF_blk, takeF_blk, solveF_blk, setUpF_blk, keepF_k, finF_k, finF_c, moveF_k, addT_k, sendF_k, takeF_k, solveF_k, setUpF_k, solveF_w, setUpF_w, solveF_n]; exact hax)) hax10).2.2 ⟨rfl, rfl⟩) ?_
        try simp (disch := first | decide | assumption | omega) only [ui_eq, ui_k, ui_j, ui_b, ui_2, ul_1, ul_eq, ul_k, ul_j, ul_b, hbk, keepF_blk, finF_blk, moveF_blk, addT_blk, sendF_blk, takeF_blk, solveF_blk, setUpF_blk, keepF_k, finF_k, finF_c, moveF_k, addT_k, sendF_k, takeF_k, solveF_k, setUpF_k, solveF_w, setUpF_w, solveF_n]
        refine a_iload_n dX10_stop_82 rfl ?_
        exact a_iret dX10_stop_83 rfl (by
  first
    | (simp only [stopF, c11, c25, c41, if_true, if_false] at hQ ⊢; exact hQ)
    | (simp only [stopF, c11, c25, c41, if_true, if_false] at hQ; rw [c41]; exact hQ))
      · refine a_iconst (v := 0) dX10_stop_44 (by decide) ?_
        refine a_goto dX10_stop_45 (tgt := 49) (by decide) ?_
        refine a_istore dX10_stop_49 (by decide) rfl ?_
        dsimp only [lset]
        refine a_aload_n dX10_stop_51 rfl ?_
        refine a_getD (ci := 10) (j := 3) dX10_stop_52 rfl rfl (by decide) rfl fl_10_40 (bb := b) (by first | exact hbk | (simp (disch := first | decide | assumption | omega) only [ui_eq, ui_k, ui_j, ui_b, keepF_blk, finF_blk, moveF_blk, addT_blk, sendF_blk, takeF_blk, solveF_blk, setUpF_blk, keepF_k, finF_k, finF_c, moveF_k, addT_k, sendF_k, takeF_k, solveF_k, setUpF_k, solveF_w, setUpF_w, solveF_n]; exact hbk)) ?_
        refine a_getR (ci := 1) (j := 2) dX10_stop_55 (kdB hb rfl) rfl (by decide) rfl fl_10_93 ?_
        refine a_getR (ci := 3) (j := 3) dX10_stop_58 (kdB hb rfl) rfl (by decide) rfl fl_10_187 ?_
        refine a_iload_n dX10_stop_61 rfl ?_
        refine a_dup2 dX10_stop_62 rfl rfl ?_
        refine a_iaload dX10_stop_63 (kdB hb rfl) (hasI_in c11 hq) ?_
        try simp (disch := first | decide | assumption | omega) only [ui_eq, ui_k, ui_j, ui_b, ui_2, ul_1, ul_eq, ul_k, ul_j, ul_b, hbk, keepF_blk, finF_blk, moveF_blk, addT_blk, sendF_blk, takeF_blk, solveF_blk, setUpF_blk, keepF_k, finF_k, finF_c, moveF_k, addT_k, sendF_k, takeF_k, solveF_k, setUpF_k, solveF_w, setUpF_w, solveF_n]
        refine a_iload dX10_stop_64 rfl ?_
        refine a_iadd dX10_stop_66 ?_
        refine a_iastore dX10_stop_67 (kdB hb rfl) (hasI_in c11 hq) ?_
        refine a_aload_n dX10_stop_68 rfl ?_
        refine a_getD (ci := 10) (j := 3) dX10_stop_69 rfl rfl (by decide) rfl fl_10_40 (bb := b) (by first | exact hbk | (simp (disch := first | decide | assumption | omega) only [ui_eq, ui_k, ui_j, ui_b, keepF_blk, finF_blk, moveF_blk, addT_blk, sendF_blk, takeF_blk, solveF_blk, setUpF_blk, keepF_k, finF_k, finF_c, moveF_k, addT_k, sendF_k, takeF_k, solveF_k, setUpF_k, solveF_w, setUpF_w, solveF_n]; exact hbk)) ?_
        refine a_getR (ci := 1) (j := 4) dX10_stop_72 (kdB hb rfl) rfl (by decide) rfl fl_10_118 ?_
        refine a_iconst (v := 3) dX10_stop_75 (by decide) ?_
        refine a_iload_n dX10_stop_76 rfl ?_
        refine a_iload dX10_stop_77 rfl ?_
        refine a_cV3v dX10_stop_79 ml_10_270 wv_0_keep (kdB hb rfl) rfl (by decide) (Nat.le_of_ble_eq_true rfl) (c0_keep hb (axn (by first | exact hax | (simp (disch := first | decide | assumption | omega) only [ui_eq, ui_k, ui_j, ui_b, keepF_blk, finF_blk, moveF_blk, addT_blk, sendF_blk, takeF_blk, solveF_blk, setUpF_blk, keepF_k, finF_k, finF_c, moveF_k, addT_k, sendF_k, takeF_k, solveF_k, setUpF_k, solveF_w, setUpF_w, solveF_n]; exact hax)) hax10).1 (axn (by first | exact hax | (simp (disch := first | decide | assumption | omega) only [ui_eq, ui_k, ui_j, ui_b, keepF_blk, finF_blk, moveF_blk, addT_blk, sendF_blk, takeF_blk, solveF_blk, setUpF_blk, keepF_k, finF_k, finF_c, moveF_k, addT_k, sendF_k, takeF_k, solveF_k, setUpF_k, solveF_w, setUpF_w, solveF_n]; exact hax)) hax10).2.1 (axn (by first | exact hax | (simp (disch := first | decide | assumption | omega) only [ui_eq, ui_k, ui_j, ui_b, keepF_blk, finF_blk, moveF_blk, addT_blk, sendF_blk, takeF_blk, solveF_blk, setUpF_blk, keepF_k, finF_k, finF_c, moveF_k, addT_k, sendF_k, takeF_k, solveF_k, setUpF_k, solveF_w, setUpF_w, solveF_n]; exact hax)) hax10).2.2 ⟨rfl, rfl⟩) ?_
        try simp (disch := first | decide | assumption | omega) only [ui_eq, ui_k, ui_j, ui_b, ui_2, ul_1, ul_eq, ul_k, ul_j, ul_b, hbk, keepF_blk, finF_blk, moveF_blk, addT_blk, sendF_blk, takeF_blk, solveF_blk, setUpF_blk, keepF_k, finF_k, finF_c, moveF_k, addT_k, sendF_k, takeF_k, solveF_k, setUpF_k, solveF_w, setUpF_w, solveF_n]
        refine a_iload_n dX10_stop_82 rfl ?_
        exact a_iret dX10_stop_83 rfl (by
  first
    | (simp only [stopF, c11, c25, c41, if_true, if_false] at hQ ⊢; exact hQ)
    | (simp only [stopF, c11, c25, c41, if_true, if_false] at hQ; rw [c41]; exact hQ))
    · refine a_iconst (v := (-1)) dX10_stop_28 (by decide) ?_
      exact a_iret dX10_stop_29 rfl (by
  first
    | (simp only [stopF, c11, c25, if_true, if_false] at hQ ⊢; exact hQ)
    | (simp only [stopF, c11, c25, c41, if_true, if_false] at hQ; rw [c41]; exact hQ))
theorem c10_handBack {l : Launch} {G : GG} {h : AH} {Q : Option Value → AH → Prop} {b nl np nq nt ax ak : Nat} (hW : WB h b nl np nq nt ax ak) {x n : Int32} (hQ : Q (some (.int (backF h b x n).1)) (backF h b x n).2) : Ct l G 2 yX10_handBack cX10_handBack 5 (some .int) [.ref (G.1 0 0), .int x, .int n] h Q := by
  refine Ct.of (by decide) (Nat.le_of_ble_eq_true rfl) ?_
  show AW l G 2 RX10 cX10_handBack 5 (some .int) 0 [some (.ref (G.1 0 0)), some (.int x), some (.int n)] [] h Q
  obtain ⟨hb, hbk, hnl, hl8, hnp, hp6, hnq, hq8, hnt, ht40, hax, hax10, hak, hak10⟩ := id hW
  have hl : (h.1 b 1 1).toInt ≤ 8 := toNat_le hnl 8 hl8 (by decide)
  have hp : (h.1 b 3 11).toInt ≤ 6 := toNat_le hnp 6 hp6 (by decide)
  have hq : (h.1 b 15 5).toInt ≤ 8 := toNat_le hnq 8 hq8 (by decide)
  have ht : (h.1 b 21 9).toInt ≤ 40 := toNat_le hnt 40 ht40 (by decide)
  have hb0 : (0 : Nat) ≠ b := isB0' hb
  have hb1 : b ≠ 0 := isB0 hb
  refine a_aload_n dX10_handBack_0 rfl ?_
  refine a_getD (ci := 10) (j := 3) dX10_handBack_1 rfl rfl (by decide) rfl fl_10_40 (bb := b) (by first | exact hbk | (simp (disch := first | decide | assumption | omega) only [ui_eq, ui_k, ui_j, ui_b, keepF_blk, finF_blk, moveF_blk, addT_blk, sendF_blk, takeF_blk, solveF_blk, setUpF_blk, keepF_k, finF_k, finF_c, moveF_k, addT_k, sendF_k, takeF_k, solveF_k, setUpF_k, solveF_w, setUpF_w, solveF_n]; exact hbk)) ?_
  refine a_getR (ci := 1) (j := 1) dX10_handBack_4 (kdB hb rfl) rfl (by decide) rfl fl_10_86 ?_
  refine a_astore_n dX10_handBack_7 (by decide) rfl ?_
  dsimp only [lset]
  refine a_aload_n dX10_handBack_8 rfl ?_
  refine a_iload_n dX10_handBack_9 rfl ?_
  refine a_cV1i dX10_handBack_10 ml_10_127 wv_4_has (kdB hb rfl) rfl (by decide) (Nat.le_of_ble_eq_true rfl) (c4_has hb ⟨rfl, rfl⟩) ?_
  try simp (disch := first | decide | assumption | omega) only [ui_eq, ui_k, ui_j, ui_b, ui_2, ul_1, ul_eq, ul_k, ul_j, ul_b, hbk, keepF_blk, finF_blk, moveF_blk, addT_blk, sendF_blk, takeF_blk, solveF_blk, setUpF_blk, keepF_k, finF_k, finF_c, moveF_k, addT_k, sendF_k, takeF_k, solveF_k, setUpF_k, solveF_w, setUpF_w, solveF_n]
  refine a_if_eq dX10_handBack_13 (tgt := 31) (by decide) (fun c13 => ?_) (fun c13 => ?_)
  · refine a_iconst (v := (-1)) dX10_handBack_31 (by decide) ?_
    exact a_iret dX10_handBack_32 rfl (by
  first
    | (simp only [backF, c13, if_true, if_false] at hQ; exact hQ)
    | (simp [backF, c13] at hQ ⊢; exact hQ))
  · refine a_iload_n dX10_handBack_16 rfl ?_
    refine a_iconst (v := 1) dX10_handBack_17 (by decide) ?_
    refine a_icmp_lt dX10_handBack_18 (tgt := 31) (by decide) (fun c18 => ?_) (fun c18 => ?_)
    · refine a_iconst (v := (-1)) dX10_handBack_31 (by decide) ?_
      exact a_iret dX10_handBack_32 rfl (by
  first
    | (simp only [backF, c13, c18, if_true, if_false] at hQ; exact hQ)
    | (simp [backF, c13, c18] at hQ ⊢; exact hQ))
    · refine a_iload_n dX10_handBack_21 rfl ?_
      refine a_aload_n dX10_handBack_22 rfl ?_
      refine a_getR (ci := 4) (j := 8) dX10_handBack_23 (kdB hb rfl) rfl (by decide) rfl fl_10_160 ?_
      refine a_iload_n dX10_handBack_26 rfl ?_
      refine a_iaload dX10_handBack_27 (kdB hb rfl) (hasI_in c13 hp) ?_
      try simp (disch := first | decide | assumption | omega) only [ui_eq, ui_k, ui_j, ui_b, ui_2, ul_1, ul_eq, ul_k, ul_j, ul_b, hbk, keepF_blk, finF_blk, moveF_blk, addT_blk, sendF_blk, takeF_blk, solveF_blk, setUpF_blk, keepF_k, finF_k, finF_c, moveF_k, addT_k, sendF_k, takeF_k, solveF_k, setUpF_k, solveF_w, setUpF_w, solveF_n]
      refine a_icmp_le dX10_handBack_28 (tgt := 33) (by decide) (fun c28 => ?_) (fun c28 => ?_)
      · refine a_aload_n dX10_handBack_33 rfl ?_
        refine a_iload_n dX10_handBack_34 rfl ?_
        refine a_cV1i dX10_handBack_35 ml_10_169 wv_4_countReissued (kdB hb rfl) rfl (by decide) (Nat.le_of_ble_eq_true rfl) (c4_countReissued hb (hasI_in c13 hp) ⟨rfl, rfl⟩) ?_
        try simp (disch := first | decide | assumption | omega) only [ui_eq, ui_k, ui_j, ui_b, ui_2, ul_1, ul_eq, ul_k, ul_j, ul_b, hbk, keepF_blk, finF_blk, moveF_blk, addT_blk, sendF_blk, takeF_blk, solveF_blk, setUpF_blk, keepF_k, finF_k, finF_c, moveF_k, addT_k, sendF_k, takeF_k, solveF_k, setUpF_k, solveF_w, setUpF_w, solveF_n]
        refine a_istore dX10_handBack_38 (by decide) rfl ?_
        dsimp only [lset]
        refine a_aload_n dX10_handBack_40 rfl ?_
        refine a_iload_n dX10_handBack_41 rfl ?_
        refine a_iload_n dX10_handBack_42 rfl ?_
        refine a_cV2v dX10_handBack_43 ml_10_290 wv_4_moveBack (kdB hb rfl) rfl (by decide) (Nat.le_of_ble_eq_true rfl) (c4_moveBack hb hp ⟨rfl, rfl⟩) ?_
        try simp (disch := first | decide | assumption | omega) only [ui_eq, ui_k, ui_j, ui_b, ui_2, ul_1, ul_eq, ul_k, ul_j, ul_b, hbk, keepF_blk, finF_blk, moveF_blk, addT_blk, sendF_blk, takeF_blk, solveF_blk, setUpF_blk, keepF_k, finF_k, finF_c, moveF_k, addT_k, sendF_k, takeF_k, solveF_k, setUpF_k, solveF_w, setUpF_w, solveF_n]
        refine a_aload_n dX10_handBack_46 rfl ?_
        refine a_getD (ci := 10) (j := 3) dX10_handBack_47 rfl rfl (by decide) rfl fl_10_40 (bb := b) (by first | exact hbk | (simp (disch := first | decide | assumption | omega) only [ui_eq, ui_k, ui_j, ui_b, keepF_blk, finF_blk, moveF_blk, addT_blk, sendF_blk, takeF_blk, solveF_blk, setUpF_blk, keepF_k, finF_k, finF_c, moveF_k, addT_k, sendF_k, takeF_k, solveF_k, setUpF_k, solveF_w, setUpF_w, solveF_n]; exact hbk)) ?_
        refine a_getR (ci := 1) (j := 4) dX10_handBack_50 (kdB hb rfl) rfl (by decide) rfl fl_10_118 ?_
        refine a_iconst (v := 4) dX10_handBack_53 (by decide) ?_
        refine a_iload_n dX10_handBack_54 rfl ?_
        refine a_iload_n dX10_handBack_55 rfl ?_
        refine a_cV3v dX10_handBack_56 ml_10_270 wv_0_keep (kdB hb rfl) rfl (by decide) (Nat.le_of_ble_eq_true rfl) (c0_keep hb (axn (by first | exact hax | (simp (disch := first | decide | assumption | omega) only [ui_eq, ui_k, ui_j, ui_b, keepF_blk, finF_blk, moveF_blk, addT_blk, sendF_blk, takeF_blk, solveF_blk, setUpF_blk, keepF_k, finF_k, finF_c, moveF_k, addT_k, sendF_k, takeF_k, solveF_k, setUpF_k, solveF_w, setUpF_w, solveF_n]; exact hax)) hax10).1 (axn (by first | exact hax | (simp (disch := first | decide | assumption | omega) only [ui_eq, ui_k, ui_j, ui_b, keepF_blk, finF_blk, moveF_blk, addT_blk, sendF_blk, takeF_blk, solveF_blk, setUpF_blk, keepF_k, finF_k, finF_c, moveF_k, addT_k, sendF_k, takeF_k, solveF_k, setUpF_k, solveF_w, setUpF_w, solveF_n]; exact hax)) hax10).2.1 (axn (by first | exact hax | (simp (disch := first | decide | assumption | omega) only [ui_eq, ui_k, ui_j, ui_b, keepF_blk, finF_blk, moveF_blk, addT_blk, sendF_blk, takeF_blk, solveF_blk, setUpF_blk, keepF_k, finF_k, finF_c, moveF_k, addT_k, sendF_k, takeF_k, solveF_k, setUpF_k, solveF_w, setUpF_w, solveF_n]; exact hax)) hax10).2.2 ⟨rfl, rfl⟩) ?_
        try simp (disch := first | decide | assumption | omega) only [ui_eq, ui_k, ui_j, ui_b, ui_2, ul_1, ul_eq, ul_k, ul_j, ul_b, hbk, keepF_blk, finF_blk, moveF_blk, addT_blk, sendF_blk, takeF_blk, solveF_blk, setUpF_blk, keepF_k, finF_k, finF_c, moveF_k, addT_k, sendF_k, takeF_k, solveF_k, setUpF_k, solveF_w, setUpF_w, solveF_n]
        refine a_aload_n dX10_handBack_59 rfl ?_
        refine a_iload_n dX10_handBack_60 rfl ?_
        refine a_cV1i dX10_handBack_61 ml_10_169 wv_4_countReissued (kdB hb rfl) rfl (by decide) (Nat.le_of_ble_eq_true rfl) (c4_countReissued hb (hasI_in c13 hp) ⟨rfl, rfl⟩) ?_
        try simp (disch := first | decide | assumption | omega) only [ui_eq, ui_k, ui_j, ui_b, ui_2, ul_1, ul_eq, ul_k, ul_j, ul_b, hbk, keepF_blk, finF_blk, moveF_blk, addT_blk, sendF_blk, takeF_blk, solveF_blk, setUpF_blk, keepF_k, finF_k, finF_c, moveF_k, addT_k, sendF_k, takeF_k, solveF_k, setUpF_k, solveF_w, setUpF_w, solveF_n]
        refine a_iload dX10_handBack_64 rfl ?_
        refine a_isub dX10_handBack_66 ?_
        exact a_iret dX10_handBack_67 rfl (by
  first
    | (simp only [backF, c13, c18, c28, if_true, if_false] at hQ; exact hQ)
    | (simp [backF, c13, c18, c28] at hQ ⊢; exact hQ))
      · refine a_iconst (v := (-1)) dX10_handBack_31 (by decide) ?_
        exact a_iret dX10_handBack_32 rfl (by
  first
    | (simp only [backF, c13, c18, c28, if_true, if_false] at hQ; exact hQ)
    | (simp [backF, c13, c18, c28] at hQ ⊢; exact hQ))
theorem c10_pass {l : Launch} {G : GG} {h : AH} {Q : Option Value → AH → Prop} {b nl np nq nt ax ak : Nat} (hW : WB h b nl np nq nt ax ak) {x : Int32} (hQ : Q (some (.int (passF h b x).1)) (passF h b x).2) : Ct l G 2 yX10_pass cX10_pass 2 (some .int) [.ref (G.1 0 0), .int x] h Q := by
  refine Ct.of (by decide) (Nat.le_of_ble_eq_true rfl) ?_
  show AW l G 2 RX10 cX10_pass 2 (some .int) 0 [some (.ref (G.1 0 0)), some (.int x)] [] h Q
  obtain ⟨hb, hbk, hnl, hl8, hnp, hp6, hnq, hq8, hnt, ht40, hax, hax10, hak, hak10⟩ := id hW
  have hl : (h.1 b 1 1).toInt ≤ 8 := toNat_le hnl 8 hl8 (by decide)
  have hp : (h.1 b 3 11).toInt ≤ 6 := toNat_le hnp 6 hp6 (by decide)
  have hq : (h.1 b 15 5).toInt ≤ 8 := toNat_le hnq 8 hq8 (by decide)
  have ht : (h.1 b 21 9).toInt ≤ 40 := toNat_le hnt 40 ht40 (by decide)
  have hb0 : (0 : Nat) ≠ b := isB0' hb
  have hb1 : b ≠ 0 := isB0 hb
  refine a_iload_n dX10_pass_0 rfl ?_
  refine a_iconst (v := 1) dX10_pass_1 (by decide) ?_
  refine a_icmp_lt dX10_pass_2 (tgt := 26) (by decide) (fun c2 => ?_) (fun c2 => ?_)
  · refine a_iconst (v := (-1)) dX10_pass_26 (by decide) ?_
    exact a_iret dX10_pass_27 rfl (by
  first
    | (simp only [passF, c2, if_true, if_false] at hQ; exact hQ)
    | (simp [passF, c2] at hQ ⊢; exact hQ))
  · refine a_iload_n dX10_pass_5 rfl ?_
    refine a_bipush (v := 99) dX10_pass_6 (by decide) ?_
    refine a_icmp_gt dX10_pass_8 (tgt := 26) (by decide) (fun c8 => ?_) (fun c8 => ?_)
    · refine a_iconst (v := (-1)) dX10_pass_26 (by decide) ?_
      exact a_iret dX10_pass_27 rfl (by
  first
    | (simp only [passF, c2, c8, if_true, if_false] at hQ; exact hQ)
    | (simp [passF, c2, c8] at hQ ⊢; exact hQ))
    · refine a_aload_n dX10_pass_11 rfl ?_
      refine a_getD (ci := 10) (j := 3) dX10_pass_12 rfl rfl (by decide) rfl fl_10_40 (bb := b) (by first | exact hbk | (simp (disch := first | decide | assumption | omega) only [ui_eq, ui_k, ui_j, ui_b, keepF_blk, finF_blk, moveF_blk, addT_blk, sendF_blk, takeF_blk, solveF_blk, setUpF_blk, keepF_k, finF_k, finF_c, moveF_k, addT_k, sendF_k, takeF_k, solveF_k, setUpF_k, solveF_w, setUpF_w, solveF_n]; exact hbk)) ?_
      refine a_getI (ci := 1) (j := 5) dX10_pass_15 (kdB hb rfl) rfl (by decide) rfl fl_10_74 ?_
      try simp (disch := first | decide | assumption | omega) only [ui_eq, ui_k, ui_j, ui_b, ui_2, ul_1, ul_eq, ul_k, ul_j, ul_b, hbk, keepF_blk, finF_blk, moveF_blk, addT_blk, sendF_blk, takeF_blk, solveF_blk, setUpF_blk, keepF_k, finF_k, finF_c, moveF_k, addT_k, sendF_k, takeF_k, solveF_k, setUpF_k, solveF_w, setUpF_w, solveF_n]
      refine a_iload_n dX10_pass_18 rfl ?_
      refine a_iadd dX10_pass_19 ?_
      refine a_sipush (v := 999) dX10_pass_20 (by decide) ?_
      refine a_icmp_le dX10_pass_23 (tgt := 28) (by decide) (fun c23 => ?_) (fun c23 => ?_)
      · refine a_aload_n dX10_pass_28 rfl ?_
        refine a_getD (ci := 10) (j := 3) dX10_pass_29 rfl rfl (by decide) rfl fl_10_40 (bb := b) (by first | exact hbk | (simp (disch := first | decide | assumption | omega) only [ui_eq, ui_k, ui_j, ui_b, keepF_blk, finF_blk, moveF_blk, addT_blk, sendF_blk, takeF_blk, solveF_blk, setUpF_blk, keepF_k, finF_k, finF_c, moveF_k, addT_k, sendF_k, takeF_k, solveF_k, setUpF_k, solveF_w, setUpF_w, solveF_n]; exact hbk)) ?_
        refine a_dup dX10_pass_32 rfl ?_
        refine a_getI (ci := 1) (j := 5) dX10_pass_33 (kdB hb rfl) rfl (by decide) rfl fl_10_74 ?_
        try simp (disch := first | decide | assumption | omega) only [ui_eq, ui_k, ui_j, ui_b, ui_2, ul_1, ul_eq, ul_k, ul_j, ul_b, hbk, keepF_blk, finF_blk, moveF_blk, addT_blk, sendF_blk, takeF_blk, solveF_blk, setUpF_blk, keepF_k, finF_k, finF_c, moveF_k, addT_k, sendF_k, takeF_k, solveF_k, setUpF_k, solveF_w, setUpF_w, solveF_n]
        refine a_iload_n dX10_pass_36 rfl ?_
        refine a_iadd dX10_pass_37 ?_
        refine a_putI (ci := 1) (j := 5) dX10_pass_38 (kdB hb rfl) rfl (by decide) (by decide) rfl fl_10_74 ?_
        refine a_aload_n dX10_pass_41 rfl ?_
        refine a_getD (ci := 10) (j := 3) dX10_pass_42 rfl rfl (by decide) rfl fl_10_40 (bb := b) (by first | exact hbk | (simp (disch := first | decide | assumption | omega) only [ui_eq, ui_k, ui_j, ui_b, keepF_blk, finF_blk, moveF_blk, addT_blk, sendF_blk, takeF_blk, solveF_blk, setUpF_blk, keepF_k, finF_k, finF_c, moveF_k, addT_k, sendF_k, takeF_k, solveF_k, setUpF_k, solveF_w, setUpF_w, solveF_n]; exact hbk)) ?_
        refine a_getR (ci := 1) (j := 4) dX10_pass_45 (kdB hb rfl) rfl (by decide) rfl fl_10_118 ?_
        refine a_iconst (v := 5) dX10_pass_48 (by decide) ?_
        refine a_iconst (v := (-1)) dX10_pass_49 (by decide) ?_
        refine a_iload_n dX10_pass_50 rfl ?_
        refine a_cV3v dX10_pass_51 ml_10_270 wv_0_keep (kdB hb rfl) rfl (by decide) (Nat.le_of_ble_eq_true rfl) (c0_keep hb (axn (by first | exact hax | (simp (disch := first | decide | assumption | omega) only [ui_eq, ui_k, ui_j, ui_b, keepF_blk, finF_blk, moveF_blk, addT_blk, sendF_blk, takeF_blk, solveF_blk, setUpF_blk, keepF_k, finF_k, finF_c, moveF_k, addT_k, sendF_k, takeF_k, solveF_k, setUpF_k, solveF_w, setUpF_w, solveF_n]; exact hax)) hax10).1 (axn (by first | exact hax | (simp (disch := first | decide | assumption | omega) only [ui_eq, ui_k, ui_j, ui_b, keepF_blk, finF_blk, moveF_blk, addT_blk, sendF_blk, takeF_blk, solveF_blk, setUpF_blk, keepF_k, finF_k, finF_c, moveF_k, addT_k, sendF_k, takeF_k, solveF_k, setUpF_k, solveF_w, setUpF_w, solveF_n]; exact hax)) hax10).2.1 (axn (by first | exact hax | (simp (disch := first | decide | assumption | omega) only [ui_eq, ui_k, ui_j, ui_b, keepF_blk, finF_blk, moveF_blk, addT_blk, sendF_blk, takeF_blk, solveF_blk, setUpF_blk, keepF_k, finF_k, finF_c, moveF_k, addT_k, sendF_k, takeF_k, solveF_k, setUpF_k, solveF_w, setUpF_w, solveF_n]; exact hax)) hax10).2.2 ⟨rfl, rfl⟩) ?_
        try simp (disch := first | decide | assumption | omega) only [ui_eq, ui_k, ui_j, ui_b, ui_2, ul_1, ul_eq, ul_k, ul_j, ul_b, hbk, keepF_blk, finF_blk, moveF_blk, addT_blk, sendF_blk, takeF_blk, solveF_blk, setUpF_blk, keepF_k, finF_k, finF_c, moveF_k, addT_k, sendF_k, takeF_k, solveF_k, setUpF_k, solveF_w, setUpF_w, solveF_n]
        refine a_aload_n dX10_pass_54 rfl ?_
        refine a_getD (ci := 10) (j := 3) dX10_pass_55 rfl rfl (by decide) rfl fl_10_40 (bb := b) (by first | exact hbk | (simp (disch := first | decide | assumption | omega) only [ui_eq, ui_k, ui_j, ui_b, keepF_blk, finF_blk, moveF_blk, addT_blk, sendF_blk, takeF_blk, solveF_blk, setUpF_blk, keepF_k, finF_k, finF_c, moveF_k, addT_k, sendF_k, takeF_k, solveF_k, setUpF_k, solveF_w, setUpF_w, solveF_n]; exact hbk)) ?_
        refine a_getI (ci := 1) (j := 5) dX10_pass_58 (kdB hb rfl) rfl (by decide) rfl fl_10_74 ?_
        try simp (disch := first | decide | assumption | omega) only [ui_eq, ui_k, ui_j, ui_b, ui_2, ul_1, ul_eq, ul_k, ul_j, ul_b, hbk, keepF_blk, finF_blk, moveF_blk, addT_blk, sendF_blk, takeF_blk, solveF_blk, setUpF_blk, keepF_k, finF_k, finF_c, moveF_k, addT_k, sendF_k, takeF_k, solveF_k, setUpF_k, solveF_w, setUpF_w, solveF_n]
        exact a_iret dX10_pass_61 rfl (by
  first
    | (simp only [passF, c2, c8, c23, if_true, if_false] at hQ; exact hQ)
    | (simp [passF, c2, c8, c23] at hQ ⊢; exact hQ))
      · refine a_iconst (v := (-1)) dX10_pass_26 (by decide) ?_
        exact a_iret dX10_pass_27 rfl (by
  first
    | (simp only [passF, c2, c8, c23, if_true, if_false] at hQ; exact hQ)
    | (simp [passF, c2, c8, c23] at hQ ⊢; exact hQ))
