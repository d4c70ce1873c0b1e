theorem rv_up {r : Nat → Int32} {a : Nat} {v : Int32} (h : RV r) (ha : a ≠ 0 ∧ a ≠ 2 ∧ a ≠ 3 ∧ a ≠ 4) : RV (upd r a v) := by
  obtain ⟨h0, h2, h3, h4⟩ := h
  obtain ⟨a0, a2, a3, a4⟩ := ha
  unfold RV
  rw [up_ne (Ne.symm a0), up_ne (Ne.symm a2), up_ne (Ne.symm a3), up_ne (Ne.symm a4)]
  exact ⟨h0, h2, h3, h4⟩
theorem rv_0 {r : Nat → Int32} {v : Int32} (h : RV r) (c : isInF v 1 8 ≠ 0) : RV (upd r 0 v) := by
  obtain ⟨h0, h2, h3, h4⟩ := h
  obtain ⟨n, -, hn, hn2⟩ := isIn_of (a := 1) (b := 8) (by decide) (by decide) c
  unfold RV
  rw [up_eq, up_ne (by decide), up_ne (by decide), up_ne (by decide)]
  exact ⟨⟨n, hn, hn2⟩, h2, h3, h4⟩
theorem PI.rv {L : Nat} {s : PSt} (h : PI L s) : RV s.2.2 := h.2.2.2.2
theorem PI.go (T : Nat → Int32) {L : Nat} {s : PSt} (h : PI L s) : PI L (goP T L s) := (goP_all T h).1
theorem c11_readLands {l : Launch} {G : GG} {h : AH} {Q : Option Value → AH → Prop} {s : PSt} {L : Nat} (hI : PI L s) (hQ : Q (some (.int (lndsP (h.1 3 1) L s).1)) (pH h (lndsP (h.1 3 1) L s).2.1 (lndsP (h.1 3 1) L s).2.2.1 (lndsP (h.1 3 1) L s).2.2.2)) : Ct l G 3 yX11_readLands cX11_readLands 1 (some .boolean) [.ref (G.1 3 0)] (pH h s.1 s.2.1 s.2.2) Q := by
  refine Ct.of (by decide) (Nat.le_of_ble_eq_true rfl) ?_
  show AW l G 3 RX11 cX11_readLands 1 (some .boolean) 0 [some (.ref (G.1 3 0))] [] (pH h s.1 s.2.1 s.2.2) Q
  have hI1 := hI.go (h.1 3 1)
  rw [lndsP] at hQ
  refine a_aload_n dX11_readLands_0 rfl ?_
  refine a_bipush (v := 108) dX11_readLands_1 (by decide) ?_
  refine a_bipush (v := 97) dX11_readLands_3 (by decide) ?_
  refine a_bipush (v := 110) dX11_readLands_5 (by decide) ?_
  refine a_bipush (v := 100) dX11_readLands_7 (by decide) ?_
  refine a_bipush (v := 115) dX11_readLands_9 (by decide) ?_
  refine a_cS5l dX11_readLands_11 ml_11_56 ws_11_five (by decide) (Nat.le_of_ble_eq_true rfl) (c11_five ⟨rfl, rfl⟩) ?_
  try simp (disch := first | decide | assumption | omega) only [ui_eq, ui_k, ui_j, ui_b, ui_2, ul_1, ul_eq, ul_k, ul_j, ul_b, pH_g, pH_gr, pH_gw, pH_gt, pH_o, pH_r, pH_w, up_eq, up_ne, up_2, up_c]
  refine a_cV1i dX11_readLands_14 ml_11_120 wv_11_isWord rfl rfl (by decide) (Nat.le_of_ble_eq_true rfl) (c11_isWord ⟨rfl, rfl⟩) ?_
  try simp (disch := first | decide | assumption | omega) only [ui_eq, ui_k, ui_j, ui_b, ui_2, ul_1, ul_eq, ul_k, ul_j, ul_b, pH_g, pH_gr, pH_gw, pH_gt, pH_o, pH_r, pH_w, up_eq, up_ne, up_2, up_c]
  refine a_if_ne dX11_readLands_17 (tgt := 26) (by decide) (fun c17 => ?_) (fun c17 => ?_)
  · rw [if_neg c17] at hQ
    refine a_aload_n dX11_readLands_26 rfl ?_
    refine a_cV0v dX11_readLands_27 ml_11_110 wv_11_go rfl rfl (by decide) (Nat.le_of_ble_eq_true rfl) (c11_goP hI ⟨rfl, rfl⟩) ?_
    try simp (disch := first | decide | assumption | omega) only [ui_eq, ui_k, ui_j, ui_b, ui_2, ul_1, ul_eq, ul_k, ul_j, ul_b, pH_g, pH_gr, pH_gw, pH_gt, pH_o, pH_r, pH_w, up_eq, up_ne, up_2, up_c]
    refine a_aload_n dX11_readLands_30 rfl ?_
    refine a_iconst (v := 0) dX11_readLands_31 (by decide) ?_
    refine a_iconst (v := 1) dX11_readLands_32 (by decide) ?_
    refine a_bipush (v := 8) dX11_readLands_33 (by decide) ?_
    refine a_cV3i dX11_readLands_35 ml_11_124 wv_11_told rfl rfl (by decide) (Nat.le_of_ble_eq_true rfl) (c11_told (a := 0) hI1 (by decide) (fun v _ z => rv_0 hI1.rv z) ⟨rfl, rfl⟩) ?_
    try simp (disch := first | decide | assumption | omega) only [ui_eq, ui_k, ui_j, ui_b, ui_2, ul_1, ul_eq, ul_k, ul_j, ul_b, pH_g, pH_gr, pH_gw, pH_gt, pH_o, pH_r, pH_w, up_eq, up_ne, up_2, up_c]
    refine a_if_eq dX11_readLands_38 (tgt := 56) (by decide) (fun c38 => ?_) (fun c38 => ?_)
    · rw [andP_f c38] at hQ
      refine a_iconst (v := 0) dX11_readLands_56 (by decide) ?_
      exact a_zret dX11_readLands_57 rfl rfl hQ
    · rw [andP_t c38] at hQ
      have hI2 := told0_PI (h.1 3 1) hI1
      refine a_aload_n dX11_readLands_41 rfl ?_
      refine a_iconst (v := 1) dX11_readLands_42 (by decide) ?_
      refine a_iconst (v := 1) dX11_readLands_43 (by decide) ?_
      refine a_bipush (v := 9) dX11_readLands_44 (by decide) ?_
      refine a_cV3i dX11_readLands_46 ml_11_124 wv_11_told rfl rfl (by decide) (Nat.le_of_ble_eq_true rfl) (c11_told (a := 1) hI2 (by omega) (fun v _ _ => rv_up hI2.rv (by omega)) ⟨rfl, rfl⟩) ?_
      try simp (disch := first | decide | assumption | omega) only [ui_eq, ui_k, ui_j, ui_b, ui_2, ul_1, ul_eq, ul_k, ul_j, ul_b, pH_g, pH_gr, pH_gw, pH_gt, pH_o, pH_r, pH_w, up_eq, up_ne, up_2, up_c]
      refine a_if_eq dX11_readLands_49 (tgt := 56) (by decide) (fun c49 => ?_) (fun c49 => ?_)
      · rw [andP_f c49] at hQ
        refine a_iconst (v := 0) dX11_readLands_56 (by decide) ?_
        exact a_zret dX11_readLands_57 rfl rfl hQ
      · rw [andP_t c49] at hQ
        refine a_iconst (v := 1) dX11_readLands_52 (by decide) ?_
        refine a_goto dX11_readLands_53 (tgt := 57) (by decide) ?_
        exact a_zret dX11_readLands_57 rfl rfl hQ
  · rw [if_pos c17] at hQ
    refine a_aload_n dX11_readLands_20 rfl ?_
    refine a_iconst (v := 1) dX11_readLands_21 (by decide) ?_
    refine a_cV1i dX11_readLands_22 ml_11_103 wv_11_bad rfl rfl (by decide) (Nat.le_of_ble_eq_true rfl) (c11_bad ⟨rfl, rfl⟩) ?_
    try simp (disch := first | decide | assumption | omega) only [ui_eq, ui_k, ui_j, ui_b, ui_2, ul_1, ul_eq, ul_k, ul_j, ul_b, pH_g, pH_gr, pH_gw, pH_gt, pH_o, pH_r, pH_w, up_eq, up_ne, up_2, up_c]
    exact a_zret dX11_readLands_25 rfl rfl hQ
theorem l11_brd48 {l : Launch} {G : GG} {h : AH} {Q : Option Value → AH → Prop} {s : PSt} {x : Int32} {a g : Nat} (ha8 : a < 8) (hae : x = nI a) (hg8 : g < 8) (hge : s.1 15 = nI g) (hQ : Q (some (.int 1)) (pH h s.1 s.2.1 (brdR s.2.2 x (s.1 15)))) : AW l G 3 RX11 cX11_readBorder 2 (some .boolean) 48 [some (.ref (G.1 3 0)), some (.int x)] [] (pH h s.1 s.2.1 s.2.2) Q := by
  have ea1 : x.toNatClampNeg = a := by rw [hae]; exact nI_clamp (by omega)
  have eg1 : (s.1 15).toNatClampNeg = g := by rw [hge]; exact nI_clamp (by omega)
  have ha2 : (103 : Int32) + x = nI (103 + a) := by rw [hae]; exact nI_add 103 a
  have hg2 : (103 : Int32) + s.1 15 = nI (103 + g) := by rw [hge]; exact nI_add 103 g
  have ea : (nI (103 + a)).toNatClampNeg = 103 + a := nI_clamp (by omega)
  have eg : (nI (103 + g)).toNatClampNeg = 103 + g := nI_clamp (by omega)
  simp only [brdR, ea1, eg1] at hQ
  have n2 : ∀ f v, upd f (103 + g) v 2 = f 2 := fun f v => up_ne (by omega)
  have n3 : ∀ f v, upd f (103 + a) v 2 = f 2 := fun f v => up_ne (by omega)
  refine a_aload_n dX11_readBorder_48 rfl ?_
  refine a_getR (ci := 11) (j := 12) dX11_readBorder_49 rfl rfl (by decide) rfl fl_11_75 ?_
  refine a_bipush (v := 103) dX11_readBorder_52 (by decide) ?_
  refine a_iload_n dX11_readBorder_54 rfl ?_
  refine a_iadd dX11_readBorder_55 ?_
  refine a_dup2 dX11_readBorder_56 rfl rfl ?_
  refine a_iaload dX11_readBorder_57 rfl (by (try rw [ha2]); (try rw [hg2]); exact vp_in_nI (by omega) (by decide)) ?_
  try simp (disch := first | decide | assumption | omega) only [ui_eq, ui_k, ui_j, ui_b, ui_2, ul_1, ul_eq, ul_k, ul_j, ul_b, pH_g, pH_gr, pH_r, cl2, ha2, hg2, ea, eg, n2, n3]
  refine a_iconst (v := 1) dX11_readBorder_58 (by decide) ?_
  refine a_aload_n dX11_readBorder_59 rfl ?_
  refine a_getI (ci := 11) (j := 15) dX11_readBorder_60 rfl rfl (by decide) rfl fl_11_117 ?_
  try simp (disch := first | decide | assumption | omega) only [ui_eq, ui_k, ui_j, ui_b, ui_2, ul_1, ul_eq, ul_k, ul_j, ul_b, pH_g, pH_gr, pH_r, cl2, ha2, hg2, ea, eg, n2, n3]
  refine a_ishl dX11_readBorder_63 ?_
  refine a_ior dX11_readBorder_64 ?_
  refine a_iastore dX11_readBorder_65 rfl (by (try rw [ha2]); (try rw [hg2]); exact vp_in_nI (by omega) (by decide)) ?_
  refine a_aload_n dX11_readBorder_66 rfl ?_
  refine a_getR (ci := 11) (j := 12) dX11_readBorder_67 rfl rfl (by decide) rfl fl_11_75 ?_
  refine a_bipush (v := 103) dX11_readBorder_70 (by decide) ?_
  refine a_aload_n dX11_readBorder_72 rfl ?_
  refine a_getI (ci := 11) (j := 15) dX11_readBorder_73 rfl rfl (by decide) rfl fl_11_117 ?_
  try simp (disch := first | decide | assumption | omega) only [ui_eq, ui_k, ui_j, ui_b, ui_2, ul_1, ul_eq, ul_k, ul_j, ul_b, pH_g, pH_gr, pH_r, cl2, ha2, hg2, ea, eg, n2, n3]
  refine a_iadd dX11_readBorder_76 ?_
  refine a_dup2 dX11_readBorder_77 rfl rfl ?_
  refine a_iaload dX11_readBorder_78 rfl (by (try rw [ha2]); (try rw [hg2]); exact vp_in_nI (by omega) (by decide)) ?_
  try simp (disch := first | decide | assumption | omega) only [ui_eq, ui_k, ui_j, ui_b, ui_2, ul_1, ul_eq, ul_k, ul_j, ul_b, pH_g, pH_gr, pH_r, cl2, ha2, hg2, ea, eg, n2, n3]
  refine a_iconst (v := 1) dX11_readBorder_79 (by decide) ?_
  refine a_iload_n dX11_readBorder_80 rfl ?_
  refine a_ishl dX11_readBorder_81 ?_
  refine a_ior dX11_readBorder_82 ?_
  refine a_iastore dX11_readBorder_83 rfl (by (try rw [ha2]); (try rw [hg2]); exact vp_in_nI (by omega) (by decide)) ?_
  refine a_aload_n dX11_readBorder_84 rfl ?_
  refine a_getR (ci := 11) (j := 12) dX11_readBorder_85 rfl rfl (by decide) rfl fl_11_75 ?_
  refine a_iconst (v := 2) dX11_readBorder_88 (by decide) ?_
  refine a_dup2 dX11_readBorder_89 rfl rfl ?_
  refine a_iaload dX11_readBorder_90 rfl (by rw [vp_in_iff]; decide) ?_
  try simp (disch := first | decide | assumption | omega) only [ui_eq, ui_k, ui_j, ui_b, ui_2, ul_1, ul_eq, ul_k, ul_j, ul_b, pH_g, pH_gr, pH_r, cl2, ha2, hg2, ea, eg, n2, n3]
  refine a_iconst (v := 1) dX11_readBorder_91 (by decide) ?_
  refine a_iadd dX11_readBorder_92 ?_
  refine a_iastore dX11_readBorder_93 rfl (by rw [vp_in_iff]; decide) ?_
  refine a_iconst (v := 1) dX11_readBorder_94 (by decide) ?_
  exact a_zret dX11_readBorder_95 rfl rfl (by
  simp only [pH_r, cl2]
  exact hQ)
theorem c11_readBorder {l : Launch} {G : GG} {h : AH} {Q : Option Value → AH → Prop} {s : PSt} {L : Nat} (hI : PI L s) (hQ : Q (some (.int (bordP (h.1 3 1) L s).1)) (pH h (bordP (h.1 3 1) L s).2.1 (bordP (h.1 3 1) L s).2.2.1 (bordP (h.1 3 1) L s).2.2.2)) : Ct l G 3 yX11_readBorder cX11_readBorder 2 (some .boolean) [.ref (G.1 3 0)] (pH h s.1 s.2.1 s.2.2) Q := by
  refine Ct.of (by decide) (Nat.le_of_ble_eq_true rfl) ?_
  show AW l G 3 RX11 cX11_readBorder 2 (some .boolean) 0 [some (.ref (G.1 3 0))] [] (pH h s.1 s.2.1 s.2.2) Q
  have hI1 := hI.go (h.1 3 1)
  rw [bordP] at hQ
  refine a_aload_n dX11_readBorder_0 rfl ?_
  refine a_getR (ci := 11) (j := 12) dX11_readBorder_1 rfl rfl (by decide) rfl fl_11_75 ?_
  refine a_iconst (v := 2) dX11_readBorder_4 (by decide) ?_
  refine a_iaload dX11_readBorder_5 rfl (by rw [vp_in_iff]; decide) ?_
  try simp (disch := first | decide | assumption | omega) only [ui_eq, ui_k, ui_j, ui_b, ui_2, ul_1, ul_eq, ul_k, ul_j, ul_b, pH_g, pH_gr, cl2]
  refine a_bipush (v := 28) dX11_readBorder_6 (by decide) ?_
  refine a_icmp_ne dX11_readBorder_8 (tgt := 17) (by decide) (fun c8 => ?_) (fun c8 => ?_)
  · rw [if_neg c8] at hQ
    refine a_aload_n dX11_readBorder_17 rfl ?_
    refine a_cV0v dX11_readBorder_18 ml_11_110 wv_11_go rfl rfl (by decide) (Nat.le_of_ble_eq_true rfl) (c11_goP hI ⟨rfl, rfl⟩) ?_
    try simp (disch := first | decide | assumption | omega) only [ui_eq, ui_k, ui_j, ui_b, ui_2, ul_1, ul_eq, ul_k, ul_j, ul_b, pH_g, pH_gr, cl2]
    refine a_aload_n dX11_readBorder_21 rfl ?_
    refine a_iconst (v := 0) dX11_readBorder_22 (by decide) ?_
    refine a_cV1i dX11_readBorder_23 ml_11_127 wv_11_land rfl rfl (by decide) (Nat.le_of_ble_eq_true rfl) (c11_land hI1 ⟨rfl, rfl⟩) ?_
    try simp (disch := first | decide | assumption | omega) only [ui_eq, ui_k, ui_j, ui_b, ui_2, ul_1, ul_eq, ul_k, ul_j, ul_b, pH_g, pH_gr, cl2]
    refine a_if_ne dX11_readBorder_26 (tgt := 31) (by decide) (fun c26 => ?_) (fun c26 => ?_)
    · rw [andP_t c26] at hQ
      obtain ⟨-, a, ha8, hae⟩ := landP_ok (h.1 3 1) hI1 c26
      refine a_aload_n dX11_readBorder_31 rfl ?_
      refine a_getI (ci := 11) (j := 15) dX11_readBorder_32 rfl rfl (by decide) rfl fl_11_117 ?_
      try simp (disch := first | decide | assumption | omega) only [ui_eq, ui_k, ui_j, ui_b, ui_2, ul_1, ul_eq, ul_k, ul_j, ul_b, pH_g, pH_gr, cl2]
      refine a_istore_n dX11_readBorder_35 (by decide) rfl ?_
      dsimp only [lset]
      refine a_aload_n dX11_readBorder_36 rfl ?_
      refine a_iconst (v := 1) dX11_readBorder_37 (by decide) ?_
      refine a_iload_n dX11_readBorder_38 rfl ?_
      refine a_ishl dX11_readBorder_39 ?_
      refine a_cV1i dX11_readBorder_40 ml_11_127 wv_11_land rfl rfl (by decide) (Nat.le_of_ble_eq_true rfl) (c11_land (landP_PI (h.1 3 1) (but := 0) hI1) ⟨rfl, rfl⟩) ?_
      try simp (disch := first | decide | assumption | omega) only [ui_eq, ui_k, ui_j, ui_b, ui_2, ul_1, ul_eq, ul_k, ul_j, ul_b, pH_g, pH_gr, cl2]
      refine a_if_ne dX11_readBorder_43 (tgt := 48) (by decide) (fun c43 => ?_) (fun c43 => ?_)
      · rw [andP_t c43] at hQ
        obtain ⟨-, g, hg8, hge⟩ := landP_ok (h.1 3 1) (landP_PI (h.1 3 1) (but := 0) hI1) c43
        exact l11_brd48 ha8 hae hg8 hge hQ
      · rw [andP_f c43] at hQ
        refine a_iconst (v := 0) dX11_readBorder_46 (by decide) ?_
        exact a_zret dX11_readBorder_47 rfl rfl hQ
    · rw [andP_f c26] at hQ
      refine a_iconst (v := 0) dX11_readBorder_29 (by decide) ?_
      exact a_zret dX11_readBorder_30 rfl rfl hQ
  · rw [if_pos c8] at hQ
    refine a_aload_n dX11_readBorder_11 rfl ?_
    refine a_iconst (v := 3) dX11_readBorder_12 (by decide) ?_
    refine a_cV1i dX11_readBorder_13 ml_11_103 wv_11_bad rfl rfl (by decide) (Nat.le_of_ble_eq_true rfl) (c11_bad ⟨rfl, rfl⟩) ?_
    try simp (disch := first | decide | assumption | omega) only [ui_eq, ui_k, ui_j, ui_b, ui_2, ul_1, ul_eq, ul_k, ul_j, ul_b, pH_g, pH_gr, cl2]
    exact a_zret dX11_readBorder_16 rfl rfl hQ
theorem l11_kn74S {l : Launch} {G : GG} {h : AH} {Q : Option Value → AH → Prop} {s : PSt} {L : Nat} (hI : PI L s) {a : Nat} (ha5 : 5 ≤ a) (ha : a < 600) {x y : Int32} (hx : ¬ x = 0) (hQ : Q (some (.int (kn74 (h.1 3 1) L a x y s).1)) (pH h (kn74 (h.1 3 1) L a x y s).2.1 (kn74 (h.1 3 1) L a x y s).2.2.1 (kn74 (h.1 3 1) L a x y s).2.2.2)) : AW l G 3 RX11 cX11_readKind 4 (some .boolean) 74 [some (.ref (G.1 3 0)), some (.int (nI a)), some (.int x), some (.int y)] [] (pH h s.1 s.2.1 s.2.2) Q := by
  have ea0 : nI a + 0 = nI a := Int32.add_zero _
  have hac : (nI a).toNatClampNeg = a := nI_clamp (by omega)
  have hac1 : (nI (a + 1)).toNatClampNeg = a + 1 := nI_clamp (by omega)
  rw [kn74, if_neg hx] at hQ
  have hI1 : ∀ v w, PI L (s.1, s.2.1, upd (upd s.2.2 a v) (a + 1) w) := fun v w => hI.r (rv_up (rv_up hI.rv (by omega)) (by omega))
  refine a_aload_n dX11_readKind_74 rfl ?_
  refine a_getR (ci := 11) (j := 12) dX11_readKind_75 rfl rfl (by decide) rfl fl_11_75 ?_
  refine a_iload_n dX11_readKind_78 rfl ?_
  refine a_iconst (v := 0) dX11_readKind_79 (by decide) ?_
  refine a_iadd dX11_readKind_80 ?_
  refine a_iload_n dX11_readKind_81 rfl ?_
  refine a_if_eq dX11_readKind_82 (tgt := 89) (by decide) (fun c82 => ?_) (fun c82 => ?_)
  · exact absurd c82 hx
  · refine a_iconst (v := 2) dX11_readKind_85 (by decide) ?_
    refine a_goto dX11_readKind_86 (tgt := 98) (by decide) ?_
    refine a_iastore dX11_readKind_98 rfl (by (try rw [ea0]); (try rw [nI_1]); exact vp_in_nI (by omega) (by decide)) ?_
    refine a_aload_n dX11_readKind_99 rfl ?_
    refine a_getR (ci := 11) (j := 12) dX11_readKind_100 rfl rfl (by decide) rfl fl_11_75 ?_
    refine a_iload_n dX11_readKind_103 rfl ?_
    refine a_iconst (v := 1) dX11_readKind_104 (by decide) ?_
    refine a_iadd dX11_readKind_105 ?_
    refine a_iconst (v := 1) dX11_readKind_106 (by decide) ?_
    refine a_iastore dX11_readKind_107 rfl (by (try rw [ea0]); (try rw [nI_1]); exact vp_in_nI (by omega) (by decide)) ?_
    refine a_aload_n dX11_readKind_108 rfl ?_
    simp only [pH_r, ea0, nI_1, hac, hac1]
    refine a_cV0v dX11_readKind_109 ml_11_110 wv_11_go rfl rfl (by decide) (Nat.le_of_ble_eq_true rfl) (c11_goP (hI1 _ _) ⟨rfl, rfl⟩) ?_
    try simp (disch := first | decide | assumption | omega) only [ui_eq, ui_k, ui_j, ui_b, ui_2, ul_1, ul_eq, ul_k, ul_j, ul_b, pH_g, pH_gr, pH_gw, pH_gt, pH_o, pH_r, pH_w, up_eq, up_ne, up_2, up_c, ea0, nI_1, hac, hac1]
    refine a_iload_n dX11_readKind_112 rfl ?_
    refine a_if_eq dX11_readKind_113 (tgt := 129) (by decide) (fun c113 => ?_) (fun c113 => ?_)
    · exact absurd c113 hx
    · refine a_aload_n dX11_readKind_116 rfl ?_
      refine a_iload_n dX11_readKind_117 rfl ?_
      refine a_iconst (v := 1) dX11_readKind_118 (by decide) ?_
      refine a_iadd dX11_readKind_119 ?_
      refine a_iconst (v := 2) dX11_readKind_120 (by decide) ?_
      refine a_bipush (v := 9) dX11_readKind_121 (by decide) ?_
      rw [nI_1]
      refine a_cV3i dX11_readKind_123 ml_11_124 wv_11_told rfl rfl (by decide) (Nat.le_of_ble_eq_true rfl) (c11_told (a := a + 1) ((hI1 _ _).go _) (by omega) (fun v _ _ => rv_up ((hI1 _ _).go _).rv (by omega)) ⟨rfl, rfl⟩) ?_
      try simp (disch := first | decide | assumption | omega) only [ui_eq, ui_k, ui_j, ui_b, ui_2, ul_1, ul_eq, ul_k, ul_j, ul_b, pH_g, pH_gr, pH_gw, pH_gt, pH_o, pH_r, pH_w, up_eq, up_ne, up_2, up_c, ea0, nI_1, hac, hac1]
      refine a_if_eq dX11_readKind_126 (tgt := 133) (by decide) (fun c126 => ?_) (fun c126 => ?_)
      · rw [andP_f c126] at hQ
        refine a_iconst (v := 0) dX11_readKind_133 (by decide) ?_
        exact a_zret dX11_readKind_134 rfl rfl hQ
      · rw [andP_t c126] at hQ
        refine a_iconst (v := 1) dX11_readKind_129 (by decide) ?_
        refine a_goto dX11_readKind_130 (tgt := 134) (by decide) ?_
        exact a_zret dX11_readKind_134 rfl rfl hQ
theorem l11_kn74M {l : Launch} {G : GG} {h : AH} {Q : Option Value → AH → Prop} {s : PSt} {L : Nat} (hI : PI L s) {a : Nat} (ha5 : 5 ≤ a) (ha : a < 600) {x y : Int32} (hx : x = 0) (hy : ¬ y = 0) (hQ : Q (some (.int (kn74 (h.1 3 1) L a x y s).1)) (pH h (kn74 (h.1 3 1) L a x y s).2.1 (kn74 (h.1 3 1) L a x y s).2.2.1 (kn74 (h.1 3 1) L a x y s).2.2.2)) : AW l G 3 RX11 cX11_readKind 4 (some .boolean) 74 [some (.ref (G.1 3 0)), some (.int (nI a)), some (.int x), some (.int y)] [] (pH h s.1 s.2.1 s.2.2) Q := by
  have ea0 : nI a + 0 = nI a := Int32.add_zero _
  have hac : (nI a).toNatClampNeg = a := nI_clamp (by omega)
  have hac1 : (nI (a + 1)).toNatClampNeg = a + 1 := nI_clamp (by omega)
  rw [kn74, if_pos hx, if_neg hy] at hQ
  have hI1 : ∀ v w, PI L (s.1, s.2.1, upd (upd s.2.2 a v) (a + 1) w) := fun v w => hI.r (rv_up (rv_up hI.rv (by omega)) (by omega))
  refine a_aload_n dX11_readKind_74 rfl ?_
  refine a_getR (ci := 11) (j := 12) dX11_readKind_75 rfl rfl (by decide) rfl fl_11_75 ?_
  refine a_iload_n dX11_readKind_78 rfl ?_
  refine a_iconst (v := 0) dX11_readKind_79 (by decide) ?_
  refine a_iadd dX11_readKind_80 ?_
  refine a_iload_n dX11_readKind_81 rfl ?_
  refine a_if_eq dX11_readKind_82 (tgt := 89) (by decide) (fun c82 => ?_) (fun c82 => ?_)
  · refine a_iload_n dX11_readKind_89 rfl ?_
    refine a_if_eq dX11_readKind_90 (tgt := 97) (by decide) (fun c90 => ?_) (fun c90 => ?_)
    · exact absurd c90 hy
    · refine a_iconst (v := 1) dX11_readKind_93 (by decide) ?_
      refine a_goto dX11_readKind_94 (tgt := 98) (by decide) ?_
      refine a_iastore dX11_readKind_98 rfl (by (try rw [ea0]); (try rw [nI_1]); exact vp_in_nI (by omega) (by decide)) ?_
      refine a_aload_n dX11_readKind_99 rfl ?_
      refine a_getR (ci := 11) (j := 12) dX11_readKind_100 rfl rfl (by decide) rfl fl_11_75 ?_
      refine a_iload_n dX11_readKind_103 rfl ?_
      refine a_iconst (v := 1) dX11_readKind_104 (by decide) ?_
      refine a_iadd dX11_readKind_105 ?_
      refine a_iconst (v := 1) dX11_readKind_106 (by decide) ?_
      refine a_iastore dX11_readKind_107 rfl (by (try rw [ea0]); (try rw [nI_1]); exact vp_in_nI (by omega) (by decide)) ?_
      refine a_aload_n dX11_readKind_108 rfl ?_
      simp only [pH_r, ea0, nI_1, hac, hac1]
      refine a_cV0v dX11_readKind_109 ml_11_110 wv_11_go rfl rfl (by decide) (Nat.le_of_ble_eq_true rfl) (c11_goP (hI1 _ _) ⟨rfl, rfl⟩) ?_
      try simp (disch := first | decide | assumption | omega) only [ui_eq, ui_k, ui_j, ui_b, ui_2, ul_1, ul_eq, ul_k, ul_j, ul_b, pH_g, pH_gr, pH_gw, pH_gt, pH_o, pH_r, pH_w, up_eq, up_ne, up_2, up_c, ea0, nI_1, hac, hac1]
      refine a_iload_n dX11_readKind_112 rfl ?_
      refine a_if_eq dX11_readKind_113 (tgt := 129) (by decide) (fun c113 => ?_) (fun c113 => ?_)
      · refine a_iconst (v := 1) dX11_readKind_129 (by decide) ?_
        refine a_goto dX11_readKind_130 (tgt := 134) (by decide) ?_
        exact a_zret dX11_readKind_134 rfl rfl hQ
      · exact absurd hx c113
  · exact absurd hx c82
theorem l11_kn74N {l : Launch} {G : GG} {h : AH} {Q : Option Value → AH → Prop} {s : PSt} {L : Nat} (hI : PI L s) {a : Nat} (ha5 : 5 ≤ a) (ha : a < 600) {x y : Int32} (hx : x = 0) (hy : y = 0) (hQ : Q (some (.int (kn74 (h.1 3 1) L a x y s).1)) (pH h (kn74 (h.1 3 1) L a x y s).2.1 (kn74 (h.1 3 1) L a x y s).2.2.1 (kn74 (h.1 3 1) L a x y s).2.2.2)) : AW l G 3 RX11 cX11_readKind 4 (some .boolean) 74 [some (.ref (G.1 3 0)), some (.int (nI a)), some (.int x), some (.int y)] [] (pH h s.1 s.2.1 s.2.2) Q := by
  have ea0 : nI a + 0 = nI a := Int32.add_zero _
  have hac : (nI a).toNatClampNeg = a := nI_clamp (by omega)
  have hac1 : (nI (a + 1)).toNatClampNeg = a + 1 := nI_clamp (by omega)
  rw [kn74, if_pos hx, if_pos hy] at hQ
  have hI1 : ∀ v w, PI L (s.1, s.2.1, upd (upd s.2.2 a v) (a + 1) w) := fun v w => hI.r (rv_up (rv_up hI.rv (by omega)) (by omega))
  refine a_aload_n dX11_readKind_74 rfl ?_
  refine a_getR (ci := 11) (j := 12) dX11_readKind_75 rfl rfl (by decide) rfl fl_11_75 ?_
  refine a_iload_n dX11_readKind_78 rfl ?_
  refine a_iconst (v := 0) dX11_readKind_79 (by decide) ?_
  refine a_iadd dX11_readKind_80 ?_
  refine a_iload_n dX11_readKind_81 rfl ?_
  refine a_if_eq dX11_readKind_82 (tgt := 89) (by decide) (fun c82 => ?_) (fun c82 => ?_)
  · refine a_iload_n dX11_readKind_89 rfl ?_
    refine a_if_eq dX11_readKind_90 (tgt := 97) (by decide) (fun c90 => ?_) (fun c90 => ?_)
    · refine a_iconst (v := 0) dX11_readKind_97 (by decide) ?_
      refine a_iastore dX11_readKind_98 rfl (by (try rw [ea0]); (try rw [nI_1]); exact vp_in_nI (by omega) (by decide)) ?_
      refine a_aload_n dX11_readKind_99 rfl ?_
      refine a_getR (ci := 11) (j := 12) dX11_readKind_100 rfl rfl (by decide) rfl fl_11_75 ?_
      refine a_iload_n dX11_readKind_103 rfl ?_
      refine a_iconst (v := 1) dX11_readKind_104 (by decide) ?_
      refine a_iadd dX11_readKind_105 ?_
      refine a_iconst (v := 1) dX11_readKind_106 (by decide) ?_
      refine a_iastore dX11_readKind_107 rfl (by (try rw [ea0]); (try rw [nI_1]); exact vp_in_nI (by omega) (by decide)) ?_
      refine a_aload_n dX11_readKind_108 rfl ?_
      simp only [pH_r, ea0, nI_1, hac, hac1]
      refine a_cV0v dX11_readKind_109 ml_11_110 wv_11_go rfl rfl (by decide) (Nat.le_of_ble_eq_true rfl) (c11_goP (hI1 _ _) ⟨rfl, rfl⟩) ?_
      try simp (disch := first | decide | assumption | omega) only [ui_eq, ui_k, ui_j, ui_b, ui_2, ul_1, ul_eq, ul_k, ul_j, ul_b, pH_g, pH_gr, pH_gw, pH_gt, pH_o, pH_r, pH_w, up_eq, up_ne, up_2, up_c, ea0, nI_1, hac, hac1]
      refine a_iload_n dX11_readKind_112 rfl ?_
      refine a_if_eq dX11_readKind_113 (tgt := 129) (by decide) (fun c113 => ?_) (fun c113 => ?_)
      · refine a_iconst (v := 1) dX11_readKind_129 (by decide) ?_
        refine a_goto dX11_readKind_130 (tgt := 134) (by decide) ?_
        exact a_zret dX11_readKind_134 rfl rfl hQ
      · exact absurd hx c113
    · exact absurd hy c90
  · exact absurd hx c82
theorem l11_kn74 {l : Launch} {G : GG} {h : AH} {Q : Option Value → AH → Prop} {s : PSt} {L : Nat} (hI : PI L s) {a : Nat} (ha5 : 5 ≤ a) (ha : a < 600) {x y : Int32} (hQ : Q (some (.int (kn74 (h.1 3 1) L a x y s).1)) (pH h (kn74 (h.1 3 1) L a x y s).2.1 (kn74 (h.1 3 1) L a x y s).2.2.1 (kn74 (h.1 3 1) L a x y s).2.2.2)) : AW l G 3 RX11 cX11_readKind 4 (some .boolean) 74 [some (.ref (G.1 3 0)), some (.int (nI a)), some (.int x), some (.int y)] [] (pH h s.1 s.2.1 s.2.2) Q := by
  by_cases hx : x = 0
  · by_cases hy : y = 0
    · exact l11_kn74N hI ha5 ha hx hy hQ
    · exact l11_kn74M hI ha5 ha hx hy hQ
  · exact l11_kn74S hI ha5 ha hx hQ
theorem c11_readKind {l : Launch} {G : GG} {h : AH} {Q : Option Value → AH → Prop} {s : PSt} {L : Nat} (hI : PI L s) {a : Nat} (ha5 : 5 ≤ a) (ha : a < 600) (hQ : Q (some (.int (kndP (h.1 3 1) L a s).1)) (pH h (kndP (h.1 3 1) L a s).2.1 (kndP (h.1 3 1) L a s).2.2.1 (kndP (h.1 3 1) L a s).2.2.2)) : Ct l G 3 yX11_readKind cX11_readKind 4 (some .boolean) [.ref (G.1 3 0), .int (nI a)] (pH h s.1 s.2.1 s.2.2) Q := by
  refine Ct.of (by decide) (Nat.le_of_ble_eq_true rfl) ?_
  show AW l G 3 RX11 cX11_readKind 4 (some .boolean) 0 [some (.ref (G.1 3 0)), some (.int (nI a))] [] (pH h s.1 s.2.1 s.2.2) Q
  rw [kndP] at hQ
  refine a_aload_n dX11_readKind_0 rfl ?_
  refine a_bipush (v := 115) dX11_readKind_1 (by decide) ?_
  refine a_bipush (v := 104) dX11_readKind_3 (by decide) ?_
  refine a_bipush (v := 97) dX11_readKind_5 (by decide) ?_
  refine a_bipush (v := 114) dX11_readKind_7 (by decide) ?_
  refine a_bipush (v := 101) dX11_readKind_9 (by decide) ?_
  refine a_bipush (v := 100) dX11_readKind_11 (by decide) ?_
  refine a_cS6l dX11_readKind_13 ml_11_130 ws_11_six (by decide) (Nat.le_of_ble_eq_true rfl) (c11_six ⟨rfl, rfl⟩) ?_
  refine a_cV1i dX11_readKind_16 ml_11_120 wv_11_isWord rfl rfl (by decide) (Nat.le_of_ble_eq_true rfl) (c11_isWord ⟨rfl, rfl⟩) ?_
  refine a_istore_n dX11_readKind_19 (by decide) rfl ?_
  dsimp only [lset]
  refine a_aload_n dX11_readKind_20 rfl ?_
  refine a_bipush (v := 109) dX11_readKind_21 (by decide) ?_
  refine a_bipush (v := 117) dX11_readKind_23 (by decide) ?_
  refine a_bipush (v := 108) dX11_readKind_25 (by decide) ?_
  refine a_bipush (v := 116) dX11_readKind_27 (by decide) ?_
  refine a_bipush (v := 105) dX11_readKind_29 (by decide) ?_
  refine a_cS5l dX11_readKind_31 ml_11_56 ws_11_five (by decide) (Nat.le_of_ble_eq_true rfl) (c11_five ⟨rfl, rfl⟩) ?_
  refine a_cV1i dX11_readKind_34 ml_11_120 wv_11_isWord rfl rfl (by decide) (Nat.le_of_ble_eq_true rfl) (c11_isWord ⟨rfl, rfl⟩) ?_
  refine a_istore_n dX11_readKind_37 (by decide) rfl ?_
  dsimp only [lset]
  refine a_iload_n dX11_readKind_38 rfl ?_
  refine a_if_ne dX11_readKind_39 (tgt := 74) (by decide) (fun c39 => ?_) (fun c39 => ?_)
  · rw [if_neg (fun z => by first | exact c39 z.1 | exact c43 z.2.1 | exact c65 z.2.2)] at hQ
    exact l11_kn74 hI ha5 ha hQ
  · refine a_iload_n dX11_readKind_42 rfl ?_
    refine a_if_ne dX11_readKind_43 (tgt := 74) (by decide) (fun c43 => ?_) (fun c43 => ?_)
    · rw [if_neg (fun z => by first | exact c39 z.1 | exact c43 z.2.1 | exact c65 z.2.2)] at hQ
      exact l11_kn74 hI ha5 ha hQ
    · refine a_aload_n dX11_readKind_46 rfl ?_
      refine a_bipush (v := 115) dX11_readKind_47 (by decide) ?_
      refine a_bipush (v := 105) dX11_readKind_49 (by decide) ?_
      refine a_bipush (v := 110) dX11_readKind_51 (by decide) ?_
      refine a_bipush (v := 103) dX11_readKind_53 (by decide) ?_
      refine a_bipush (v := 108) dX11_readKind_55 (by decide) ?_
      refine a_bipush (v := 101) dX11_readKind_57 (by decide) ?_
      refine a_cS6l dX11_readKind_59 ml_11_130 ws_11_six (by decide) (Nat.le_of_ble_eq_true rfl) (c11_six ⟨rfl, rfl⟩) ?_
      refine a_cV1i dX11_readKind_62 ml_11_120 wv_11_isWord rfl rfl (by decide) (Nat.le_of_ble_eq_true rfl) (c11_isWord ⟨rfl, rfl⟩) ?_
      refine a_if_ne dX11_readKind_65 (tgt := 74) (by decide) (fun c65 => ?_) (fun c65 => ?_)
      · rw [if_neg (fun z => by first | exact c39 z.1 | exact c43 z.2.1 | exact c65 z.2.2)] at hQ
        exact l11_kn74 hI ha5 ha hQ
      · rw [if_pos ⟨c39, c43, c65⟩] at hQ
        refine a_aload_n dX11_readKind_68 rfl ?_
        refine a_iconst (v := 1) dX11_readKind_69 (by decide) ?_
        refine a_cV1i dX11_readKind_70 ml_11_103 wv_11_bad rfl rfl (by decide) (Nat.le_of_ble_eq_true rfl) (c11_bad ⟨rfl, rfl⟩) ?_
        exact a_zret dX11_readKind_73 rfl rfl hQ
