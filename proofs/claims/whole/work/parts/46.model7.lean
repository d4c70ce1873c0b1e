theorem c11_goP {l : Launch} {G : GG} {h : AH} {Q : Option Value → AH → Prop} {s : PSt} {L : Nat} (hI : PI L s) (hQ : Q none (pH h (goP (h.1 3 1) L s).1 (goP (h.1 3 1) L s).2.1 (goP (h.1 3 1) L s).2.2)) : Ct l G 1 yX11_go cX11_go 5 none [.ref (G.1 3 0)] (pH h s.1 s.2.1 s.2.2) Q := by
  obtain ⟨h1, h2, ⟨p, hp, hp4⟩, -, -⟩ := hI
  have hpc : (s.1 4).toNatClampNeg = p := by rw [hp4]; exact nI_clamp (by omega)
  unfold goP at hQ
  rw [hpc] at hQ
  exact c11_go h1 h2 hp hp4 hQ
theorem c11_four {l : Launch} {G : GG} {h : AH} {Q : Option Value → AH → Prop} {x y z u : Int32} (hQ : Q (some (.long (W4 x y z u))) h) : Ct l G 0 yX11_four cX11_four 4 (some .long) [.int x, .int y, .int z, .int u] h Q := by
  refine Ct.of (by decide) (Nat.le_of_ble_eq_true rfl) ?_
  show AW l G 0 RX11 cX11_four 4 (some .long) 0 [some (.int x), some (.int y), some (.int z), some (.int u)] [] h Q
  refine a_ldc2 (v := 27) kl_11_48 dX11_four_0 ?_
  refine a_ldc2 (v := 27) kl_11_48 dX11_four_3 ?_
  refine a_ldc2 (v := 27) kl_11_48 dX11_four_6 ?_
  refine a_iload_n dX11_four_9 rfl ?_
  refine a_i2l dX11_four_10 ?_
  refine a_ldc2 (v := 96) kl_11_50 dX11_four_11 ?_
  refine a_lsub dX11_four_14 ?_
  refine a_lmul dX11_four_15 ?_
  refine a_iload_n dX11_four_16 rfl ?_
  refine a_i2l dX11_four_17 ?_
  refine a_ladd dX11_four_18 ?_
  refine a_ldc2 (v := 96) kl_11_50 dX11_four_19 ?_
  refine a_lsub dX11_four_22 ?_
  refine a_lmul dX11_four_23 ?_
  refine a_iload_n dX11_four_24 rfl ?_
  refine a_i2l dX11_four_25 ?_
  refine a_ladd dX11_four_26 ?_
  refine a_ldc2 (v := 96) kl_11_50 dX11_four_27 ?_
  refine a_lsub dX11_four_30 ?_
  refine a_lmul dX11_four_31 ?_
  refine a_iload_n dX11_four_32 rfl ?_
  refine a_i2l dX11_four_33 ?_
  refine a_ladd dX11_four_34 ?_
  refine a_ldc2 (v := 96) kl_11_50 dX11_four_35 ?_
  refine a_lsub dX11_four_38 ?_
  exact a_lret dX11_four_39 rfl hQ
theorem c11_five {l : Launch} {G : GG} {h : AH} {Q : Option Value → AH → Prop} {x y z u v : Int32} (hQ : Q (some (.long (W5 x y z u v))) h) : Ct l G 1 yX11_five cX11_five 5 (some .long) [.int x, .int y, .int z, .int u, .int v] h Q := by
  refine Ct.of (by decide) (Nat.le_of_ble_eq_true rfl) ?_
  show AW l G 1 RX11 cX11_five 5 (some .long) 0 [some (.int x), some (.int y), some (.int z), some (.int u), some (.int v)] [] h Q
  refine a_ldc2 (v := 27) kl_11_48 dX11_five_0 ?_
  refine a_iload_n dX11_five_3 rfl ?_
  refine a_iload_n dX11_five_4 rfl ?_
  refine a_iload_n dX11_five_5 rfl ?_
  refine a_iload_n dX11_five_6 rfl ?_
  refine a_cS4l dX11_five_7 ml_11_52 ws_11_four (by decide) (Nat.le_of_ble_eq_true rfl) (c11_four ⟨rfl, rfl⟩) ?_
  refine a_lmul dX11_five_10 ?_
  refine a_iload dX11_five_11 rfl ?_
  refine a_i2l dX11_five_13 ?_
  refine a_ladd dX11_five_14 ?_
  refine a_ldc2 (v := 96) kl_11_50 dX11_five_15 ?_
  refine a_lsub dX11_five_18 ?_
  exact a_lret dX11_five_19 rfl hQ
theorem c11_six {l : Launch} {G : GG} {h : AH} {Q : Option Value → AH → Prop} {x y z u v t : Int32} (hQ : Q (some (.long (W6 x y z u v t))) h) : Ct l G 2 yX11_six cX11_six 6 (some .long) [.int x, .int y, .int z, .int u, .int v, .int t] h Q := by
  refine Ct.of (by decide) (Nat.le_of_ble_eq_true rfl) ?_
  show AW l G 2 RX11 cX11_six 6 (some .long) 0 [some (.int x), some (.int y), some (.int z), some (.int u), some (.int v), some (.int t)] [] h Q
  refine a_ldc2 (v := 27) kl_11_48 dX11_six_0 ?_
  refine a_iload_n dX11_six_3 rfl ?_
  refine a_iload_n dX11_six_4 rfl ?_
  refine a_iload_n dX11_six_5 rfl ?_
  refine a_iload_n dX11_six_6 rfl ?_
  refine a_iload dX11_six_7 rfl ?_
  refine a_cS5l dX11_six_9 ml_11_56 ws_11_five (by decide) (Nat.le_of_ble_eq_true rfl) (c11_five ⟨rfl, rfl⟩) ?_
  refine a_lmul dX11_six_12 ?_
  refine a_iload dX11_six_13 rfl ?_
  refine a_i2l dX11_six_15 ?_
  refine a_ladd dX11_six_16 ?_
  refine a_ldc2 (v := 96) kl_11_50 dX11_six_17 ?_
  refine a_lsub dX11_six_20 ?_
  exact a_lret dX11_six_21 rfl hQ
theorem c11_isWord {l : Launch} {G : GG} {h : AH} {Q : Option Value → AH → Prop} {s : PSt} {w : Int64} (hQ : Q (some (.int (wdP s w))) (pH h s.1 s.2.1 s.2.2)) : Ct l G 0 yX11_isWord cX11_isWord 3 (some .boolean) [.ref (G.1 3 0), .long w] (pH h s.1 s.2.1 s.2.2) Q := by
  refine Ct.of (by decide) (Nat.le_of_ble_eq_true rfl) ?_
  show AW l G 0 RX11 cX11_isWord 3 (some .boolean) 0 [some (.ref (G.1 3 0)), some (.long w), none] [] (pH h s.1 s.2.1 s.2.2) Q
  refine a_aload_n dX11_isWord_0 rfl ?_
  refine a_getI (ci := 11) (j := 6) dX11_isWord_1 rfl rfl (by decide) rfl fl_11_27 ?_
  try simp (disch := first | decide | assumption | omega) only [ui_eq, ui_k, ui_j, ui_b, ui_2, ul_1, ul_eq, ul_k, ul_j, ul_b, pH_g, pH_gr, pH_gw, pH_gt, pH_o, pH_r, pH_w, up_eq, up_ne, up_2, up_c]
  refine a_iconst (v := 2) dX11_isWord_4 (by decide) ?_
  refine a_icmp_ne dX11_isWord_5 (tgt := 21) (by decide) (fun c5 => ?_) (fun c5 => ?_)
  · refine a_iconst (v := 0) dX11_isWord_21 (by decide) ?_
    exact a_zret dX11_isWord_22 rfl rfl (by
  simp only [wdP, ← lg_eq0 (x := s.2.1), c5, if_true, if_false] at hQ ⊢
  exact hQ)
  · refine a_aload_n dX11_isWord_8 rfl ?_
    refine a_getL (ci := 11) (j := 10) dX11_isWord_9 rfl rfl (by decide) rfl fl_11_37 ?_
    try simp (disch := first | decide | assumption | omega) only [ui_eq, ui_k, ui_j, ui_b, ui_2, ul_1, ul_eq, ul_k, ul_j, ul_b, pH_g, pH_gr, pH_gw, pH_gt, pH_o, pH_r, pH_w, up_eq, up_ne, up_2, up_c]
    refine a_lload_n dX11_isWord_12 rfl ?_
    refine a_lcmp dX11_isWord_13 ?_
    refine a_if_ne dX11_isWord_14 (tgt := 21) (by decide) (fun c14 => ?_) (fun c14 => ?_)
    · refine a_iconst (v := 0) dX11_isWord_21 (by decide) ?_
      exact a_zret dX11_isWord_22 rfl rfl (by
  simp only [wdP, ← lg_eq0 (x := s.2.1), c5, c14, if_true, if_false] at hQ ⊢
  exact hQ)
    · refine a_iconst (v := 1) dX11_isWord_17 (by decide) ?_
      refine a_goto dX11_isWord_18 (tgt := 22) (by decide) ?_
      exact a_zret dX11_isWord_22 rfl rfl (by
  simp only [wdP, ← lg_eq0 (x := s.2.1), c5, c14, if_true, if_false] at hQ ⊢
  exact hQ)
theorem c11_bad {l : Launch} {G : GG} {h : AH} {Q : Option Value → AH → Prop} {s : PSt} {x : Int32} (hQ : Q (some (.int 0)) (pH h (badP x s).1 (badP x s).2.1 (badP x s).2.2)) : Ct l G 0 yX11_bad cX11_bad 2 (some .boolean) [.ref (G.1 3 0), .int x] (pH h s.1 s.2.1 s.2.2) Q := by
  refine Ct.of (by decide) (Nat.le_of_ble_eq_true rfl) ?_
  show AW l G 0 RX11 cX11_bad 2 (some .boolean) 0 [some (.ref (G.1 3 0)), some (.int x)] [] (pH h s.1 s.2.1 s.2.2) Q
  refine a_aload_n dX11_bad_0 rfl ?_
  refine a_aload_n dX11_bad_1 rfl ?_
  refine a_getI (ci := 11) (j := 6) dX11_bad_2 rfl rfl (by decide) rfl fl_11_27 ?_
  try simp (disch := first | decide | assumption | omega) only [ui_eq, ui_k, ui_j, ui_b, ui_2, ul_1, ul_eq, ul_k, ul_j, ul_b, pH_g, pH_gr, pH_gw, pH_gt, pH_o, pH_r, pH_w, up_eq, up_ne, up_2, up_c]
  refine a_iconst (v := 1) dX11_bad_5 (by decide) ?_
  refine a_icmp_ne dX11_bad_6 (tgt := 13) (by decide) (fun c6 => ?_) (fun c6 => ?_)
  · refine a_iload_n dX11_bad_13 rfl ?_
    refine a_putI (ci := 11) (j := 8) dX11_bad_14 rfl rfl (by decide) (by decide) rfl fl_11_60 ?_
    refine a_aload_n dX11_bad_17 rfl ?_
    refine a_aload_n dX11_bad_18 rfl ?_
    refine a_getI (ci := 11) (j := 5) dX11_bad_19 rfl rfl (by decide) rfl fl_11_24 ?_
    try simp (disch := first | decide | assumption | omega) only [ui_eq, ui_k, ui_j, ui_b, ui_2, ul_1, ul_eq, ul_k, ul_j, ul_b, pH_g, pH_gr, pH_gw, pH_gt, pH_o, pH_r, pH_w, up_eq, up_ne, up_2, up_c]
    refine a_putI (ci := 11) (j := 9) dX11_bad_22 rfl rfl (by decide) (by decide) rfl fl_11_63 ?_
    refine a_iconst (v := 0) dX11_bad_25 (by decide) ?_
    exact a_zret dX11_bad_26 rfl rfl (by
  simp only [pH_o, badP, c6, if_true, if_false] at hQ ⊢
  exact hQ)
  · refine a_iconst (v := 1) dX11_bad_9 (by decide) ?_
    refine a_goto dX11_bad_10 (tgt := 14) (by decide) ?_
    refine a_putI (ci := 11) (j := 8) dX11_bad_14 rfl rfl (by decide) (by decide) rfl fl_11_60 ?_
    refine a_aload_n dX11_bad_17 rfl ?_
    refine a_aload_n dX11_bad_18 rfl ?_
    refine a_getI (ci := 11) (j := 5) dX11_bad_19 rfl rfl (by decide) rfl fl_11_24 ?_
    try simp (disch := first | decide | assumption | omega) only [ui_eq, ui_k, ui_j, ui_b, ui_2, ul_1, ul_eq, ul_k, ul_j, ul_b, pH_g, pH_gr, pH_gw, pH_gt, pH_o, pH_r, pH_w, up_eq, up_ne, up_2, up_c]
    refine a_putI (ci := 11) (j := 9) dX11_bad_22 rfl rfl (by decide) (by decide) rfl fl_11_63 ?_
    refine a_iconst (v := 0) dX11_bad_25 (by decide) ?_
    exact a_zret dX11_bad_26 rfl rfl (by
  simp only [pH_o, badP, c6, if_true, if_false] at hQ ⊢
  exact hQ)
theorem c11_told {l : Launch} {G : GG} {h : AH} {Q : Option Value → AH → Prop} {s : PSt} {L : Nat} (hI : PI L s) {a : Nat} (ha : a < 631) {x y : Int32} (hr : ∀ v, s.1 7 = v → isInF v x y ≠ 0 → RV (upd s.2.2 a v)) (hQ : Q (some (.int (toldP (h.1 3 1) L a x y s).1)) (pH h (toldP (h.1 3 1) L a x y s).2.1 (toldP (h.1 3 1) L a x y s).2.2.1 (toldP (h.1 3 1) L a x y s).2.2.2)) : Ct l G 2 yX11_told cX11_told 4 (some .boolean) [.ref (G.1 3 0), .int (nI a), .int x, .int y] (pH h s.1 s.2.1 s.2.2) Q := by
  refine Ct.of (by decide) (Nat.le_of_ble_eq_true rfl) ?_
  show AW l G 2 RX11 cX11_told 4 (some .boolean) 0 [some (.ref (G.1 3 0)), some (.int (nI a)), some (.int x), some (.int y)] [] (pH h s.1 s.2.1 s.2.2) Q
  have hac : (nI a).toNatClampNeg = a := nI_clamp (by omega)
  refine a_aload_n dX11_told_0 rfl ?_
  refine a_getI (ci := 11) (j := 6) dX11_told_1 rfl rfl (by decide) rfl fl_11_27 ?_
  try simp (disch := first | decide | assumption | omega) only [ui_eq, ui_k, ui_j, ui_b, ui_2, ul_1, ul_eq, ul_k, ul_j, ul_b, pH_g, pH_gr, pH_gw, pH_gt, pH_o, pH_r, pH_w, up_eq, up_ne, up_2, up_c, hac]
  refine a_iconst (v := 3) dX11_told_4 (by decide) ?_
  refine a_icmp_eq dX11_told_5 (tgt := 14) (by decide) (fun c5 => ?_) (fun c5 => ?_)
  · refine a_aload_n dX11_told_14 rfl ?_
    refine a_getI (ci := 11) (j := 7) dX11_told_15 rfl rfl (by decide) rfl fl_11_41 ?_
    try simp (disch := first | decide | assumption | omega) only [ui_eq, ui_k, ui_j, ui_b, ui_2, ul_1, ul_eq, ul_k, ul_j, ul_b, pH_g, pH_gr, pH_gw, pH_gt, pH_o, pH_r, pH_w, up_eq, up_ne, up_2, up_c, hac]
    refine a_iload_n dX11_told_18 rfl ?_
    refine a_iload_n dX11_told_19 rfl ?_
    refine a_cS3i dX11_told_20 ml_11_106 ws_11_isIn (by decide) (Nat.le_of_ble_eq_true rfl) (c11_isIn ⟨rfl, rfl⟩) ?_
    try simp (disch := first | decide | assumption | omega) only [ui_eq, ui_k, ui_j, ui_b, ui_2, ul_1, ul_eq, ul_k, ul_j, ul_b, pH_g, pH_gr, pH_gw, pH_gt, pH_o, pH_r, pH_w, up_eq, up_ne, up_2, up_c, hac]
    refine a_if_ne dX11_told_23 (tgt := 32) (by decide) (fun c23 => ?_) (fun c23 => ?_)
    · refine a_aload_n dX11_told_32 rfl ?_
      refine a_getR (ci := 11) (j := 12) dX11_told_33 rfl rfl (by decide) rfl fl_11_75 ?_
      refine a_iload_n dX11_told_36 rfl ?_
      refine a_aload_n dX11_told_37 rfl ?_
      refine a_getI (ci := 11) (j := 7) dX11_told_38 rfl rfl (by decide) rfl fl_11_41 ?_
      try simp (disch := first | decide | assumption | omega) only [ui_eq, ui_k, ui_j, ui_b, ui_2, ul_1, ul_eq, ul_k, ul_j, ul_b, pH_g, pH_gr, pH_gw, pH_gt, pH_o, pH_r, pH_w, up_eq, up_ne, up_2, up_c, hac]
      refine a_iastore dX11_told_41 rfl (vp_in_nI ha (by decide)) ?_
      refine a_aload_n dX11_told_42 rfl ?_
      rw [hac, pH_r]
      refine a_cV0v dX11_told_43 ml_11_110 wv_11_go rfl rfl (by decide) (Nat.le_of_ble_eq_true rfl) (c11_goP (hI.r (hr _ rfl c23)) ⟨rfl, rfl⟩) ?_
      try simp (disch := first | decide | assumption | omega) only [ui_eq, ui_k, ui_j, ui_b, ui_2, ul_1, ul_eq, ul_k, ul_j, ul_b, pH_g, pH_gr, pH_gw, pH_gt, pH_o, pH_r, pH_w, up_eq, up_ne, up_2, up_c, hac]
      refine a_iconst (v := 1) dX11_told_46 (by decide) ?_
      exact a_zret dX11_told_47 rfl rfl (by
  simp (disch := decide) only [toldP, c5, c23, if_true, if_false] at hQ ⊢
  exact hQ)
    · refine a_aload_n dX11_told_26 rfl ?_
      refine a_iconst (v := 2) dX11_told_27 (by decide) ?_
      refine a_cV1i dX11_told_28 ml_11_103 wv_11_bad rfl rfl (by decide) (Nat.le_of_ble_eq_true rfl) (c11_bad ⟨rfl, rfl⟩) ?_
      try simp (disch := first | decide | assumption | omega) only [ui_eq, ui_k, ui_j, ui_b, ui_2, ul_1, ul_eq, ul_k, ul_j, ul_b, pH_g, pH_gr, pH_gw, pH_gt, pH_o, pH_r, pH_w, up_eq, up_ne, up_2, up_c, hac]
      exact a_zret dX11_told_31 rfl rfl (by
  simp (disch := decide) only [toldP, c5, c23, if_true, if_false] at hQ ⊢
  exact hQ)
  · refine a_aload_n dX11_told_8 rfl ?_
    refine a_iconst (v := 1) dX11_told_9 (by decide) ?_
    refine a_cV1i dX11_told_10 ml_11_103 wv_11_bad rfl rfl (by decide) (Nat.le_of_ble_eq_true rfl) (c11_bad ⟨rfl, rfl⟩) ?_
    try simp (disch := first | decide | assumption | omega) only [ui_eq, ui_k, ui_j, ui_b, ui_2, ul_1, ul_eq, ul_k, ul_j, ul_b, pH_g, pH_gr, pH_gw, pH_gt, pH_o, pH_r, pH_w, up_eq, up_ne, up_2, up_c, hac]
    exact a_zret dX11_told_13 rfl rfl (by
  simp (disch := decide) only [toldP, c5, if_true, if_false] at hQ ⊢
  exact hQ)
theorem c11_land {l : Launch} {G : GG} {h : AH} {Q : Option Value → AH → Prop} {s : PSt} {L : Nat} (hI : PI L s) {x : Int32} (hQ : Q (some (.int (landP (h.1 3 1) L x s).1)) (pH h (landP (h.1 3 1) L x s).2.1 (landP (h.1 3 1) L x s).2.2.1 (landP (h.1 3 1) L x s).2.2.2)) : Ct l G 2 yX11_land cX11_land 2 (some .boolean) [.ref (G.1 3 0), .int x] (pH h s.1 s.2.1 s.2.2) Q := by
  refine Ct.of (by decide) (Nat.le_of_ble_eq_true rfl) ?_
  show AW l G 2 RX11 cX11_land 2 (some .boolean) 0 [some (.ref (G.1 3 0)), some (.int x)] [] (pH h s.1 s.2.1 s.2.2) Q
  refine a_aload_n dX11_land_0 rfl ?_
  refine a_getI (ci := 11) (j := 6) dX11_land_1 rfl rfl (by decide) rfl fl_11_27 ?_
  try simp (disch := first | decide | assumption | omega) only [ui_eq, ui_k, ui_j, ui_b, ui_2, ul_1, ul_eq, ul_k, ul_j, ul_b, pH_g, pH_gr, pH_gw, pH_gt, pH_o, pH_r, pH_w, up_eq, up_ne, up_2, up_c, cl0]
  refine a_iconst (v := 3) dX11_land_4 (by decide) ?_
  refine a_icmp_eq dX11_land_5 (tgt := 14) (by decide) (fun c5 => ?_) (fun c5 => ?_)
  · refine a_aload_n dX11_land_14 rfl ?_
    refine a_getI (ci := 11) (j := 7) dX11_land_15 rfl rfl (by decide) rfl fl_11_41 ?_
    try simp (disch := first | decide | assumption | omega) only [ui_eq, ui_k, ui_j, ui_b, ui_2, ul_1, ul_eq, ul_k, ul_j, ul_b, pH_g, pH_gr, pH_gw, pH_gt, pH_o, pH_r, pH_w, up_eq, up_ne, up_2, up_c, cl0]
    refine a_aload_n dX11_land_18 rfl ?_
    refine a_getR (ci := 11) (j := 12) dX11_land_19 rfl rfl (by decide) rfl fl_11_75 ?_
    refine a_iconst (v := 0) dX11_land_22 (by decide) ?_
    refine a_iaload dX11_land_23 rfl (by rw [vp_in_iff]; decide) ?_
    try simp (disch := first | decide | assumption | omega) only [ui_eq, ui_k, ui_j, ui_b, ui_2, ul_1, ul_eq, ul_k, ul_j, ul_b, pH_g, pH_gr, pH_gw, pH_gt, pH_o, pH_r, pH_w, up_eq, up_ne, up_2, up_c, cl0]
    refine a_icmp_ge dX11_land_24 (tgt := 38) (by decide) (fun c24 => ?_) (fun c24 => ?_)
    · refine a_aload_n dX11_land_38 rfl ?_
      refine a_iconst (v := 2) dX11_land_39 (by decide) ?_
      refine a_cV1i dX11_land_40 ml_11_103 wv_11_bad rfl rfl (by decide) (Nat.le_of_ble_eq_true rfl) (c11_bad ⟨rfl, rfl⟩) ?_
      try simp (disch := first | decide | assumption | omega) only [ui_eq, ui_k, ui_j, ui_b, ui_2, ul_1, ul_eq, ul_k, ul_j, ul_b, pH_g, pH_gr, pH_gw, pH_gt, pH_o, pH_r, pH_w, up_eq, up_ne, up_2, up_c, cl0]
      exact a_zret dX11_land_43 rfl rfl (by
  simp (disch := decide) only [landP, c5, c24, if_true, if_false] at hQ ⊢
  exact hQ)
    · refine a_iload_n dX11_land_27 rfl ?_
      refine a_aload_n dX11_land_28 rfl ?_
      refine a_getI (ci := 11) (j := 7) dX11_land_29 rfl rfl (by decide) rfl fl_11_41 ?_
      try simp (disch := first | decide | assumption | omega) only [ui_eq, ui_k, ui_j, ui_b, ui_2, ul_1, ul_eq, ul_k, ul_j, ul_b, pH_g, pH_gr, pH_gw, pH_gt, pH_o, pH_r, pH_w, up_eq, up_ne, up_2, up_c, cl0]
      refine a_cS2i dX11_land_32 ml_11_113 ws_11_has (by decide) (Nat.le_of_ble_eq_true rfl) (c11_has ⟨rfl, rfl⟩) ?_
      try simp (disch := first | decide | assumption | omega) only [ui_eq, ui_k, ui_j, ui_b, ui_2, ul_1, ul_eq, ul_k, ul_j, ul_b, pH_g, pH_gr, pH_gw, pH_gt, pH_o, pH_r, pH_w, up_eq, up_ne, up_2, up_c, cl0]
      refine a_if_eq dX11_land_35 (tgt := 44) (by decide) (fun c35 => ?_) (fun c35 => ?_)
      · refine a_aload_n dX11_land_44 rfl ?_
        refine a_aload_n dX11_land_45 rfl ?_
        refine a_getI (ci := 11) (j := 7) dX11_land_46 rfl rfl (by decide) rfl fl_11_41 ?_
        try simp (disch := first | decide | assumption | omega) only [ui_eq, ui_k, ui_j, ui_b, ui_2, ul_1, ul_eq, ul_k, ul_j, ul_b, pH_g, pH_gr, pH_gw, pH_gt, pH_o, pH_r, pH_w, up_eq, up_ne, up_2, up_c, cl0]
        refine a_putI (ci := 11) (j := 15) dX11_land_49 rfl rfl (by decide) (by decide) rfl fl_11_117 ?_
        refine a_aload_n dX11_land_52 rfl ?_
        rw [pH_o]
        refine a_cV0v dX11_land_53 ml_11_110 wv_11_go rfl rfl (by decide) (Nat.le_of_ble_eq_true rfl) (c11_goP (hI.o) ⟨rfl, rfl⟩) ?_
        try simp (disch := first | decide | assumption | omega) only [ui_eq, ui_k, ui_j, ui_b, ui_2, ul_1, ul_eq, ul_k, ul_j, ul_b, pH_g, pH_gr, pH_gw, pH_gt, pH_o, pH_r, pH_w, up_eq, up_ne, up_2, up_c, cl0]
        refine a_iconst (v := 1) dX11_land_56 (by decide) ?_
        exact a_zret dX11_land_57 rfl rfl (by
  simp (disch := decide) only [landP, c5, c24, c35, if_true, if_false] at hQ ⊢
  exact hQ)
      · refine a_aload_n dX11_land_38 rfl ?_
        refine a_iconst (v := 2) dX11_land_39 (by decide) ?_
        refine a_cV1i dX11_land_40 ml_11_103 wv_11_bad rfl rfl (by decide) (Nat.le_of_ble_eq_true rfl) (c11_bad ⟨rfl, rfl⟩) ?_
        try simp (disch := first | decide | assumption | omega) only [ui_eq, ui_k, ui_j, ui_b, ui_2, ul_1, ul_eq, ul_k, ul_j, ul_b, pH_g, pH_gr, pH_gw, pH_gt, pH_o, pH_r, pH_w, up_eq, up_ne, up_2, up_c, cl0]
        exact a_zret dX11_land_43 rfl rfl (by
  simp (disch := decide) only [landP, c5, c24, c35, if_true, if_false] at hQ ⊢
  exact hQ)
  · refine a_aload_n dX11_land_8 rfl ?_
    refine a_iconst (v := 1) dX11_land_9 (by decide) ?_
    refine a_cV1i dX11_land_10 ml_11_103 wv_11_bad rfl rfl (by decide) (Nat.le_of_ble_eq_true rfl) (c11_bad ⟨rfl, rfl⟩) ?_
    try simp (disch := first | decide | assumption | omega) only [ui_eq, ui_k, ui_j, ui_b, ui_2, ul_1, ul_eq, ul_k, ul_j, ul_b, pH_g, pH_gr, pH_gw, pH_gt, pH_o, pH_r, pH_w, up_eq, up_ne, up_2, up_c, cl0]
    exact a_zret dX11_land_13 rfl rfl (by
  simp (disch := decide) only [landP, c5, if_true, if_false] at hQ ⊢
  exact hQ)
