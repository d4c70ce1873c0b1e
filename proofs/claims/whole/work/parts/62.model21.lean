theorem ixT2 (t : Nat) : (111 : Int32) + 13 * nI t + 2 = nI (111 + 13 * t + 2) := ixT t 2
theorem ixT3 (t : Nat) : (111 : Int32) + 13 * nI t + 3 = nI (111 + 13 * t + 3) := ixT t 3
theorem ixT4 (t : Nat) : (111 : Int32) + 13 * nI t + 4 = nI (111 + 13 * t + 4) := ixT t 4
theorem ixT5 (t : Nat) : (111 : Int32) + 13 * nI t + 5 = nI (111 + 13 * t + 5) := ixT t 5
theorem ixT6 (t : Nat) : (111 : Int32) + 13 * nI t + 6 = nI (111 + 13 * t + 6) := ixT t 6
theorem ixL2 (t : Nat) : (79 : Int32) + 3 * nI t + 2 = nI (79 + 3 * t + 2) := ixL t 2
theorem ixY7 (t : Nat) : (7 : Int32) + 12 * nI t + 7 = nI (7 + 12 * t + 7) := ixY t 7
theorem ixY8 (t : Nat) : (7 : Int32) + 12 * nI t + 8 = nI (7 + 12 * t + 8) := ixY t 8
def mDrop (h : AH) (nt sm : Nat) (x : Int32) : Int32 × AH := if hasI (nI nt) x = 0 then (0, ui h 3 0 0 0) else
  if mT (h.1 3 2) x.toNatClampNeg 2 = 0 then (1, acH h sm (upd (upd (h.1 3 2) (111 + 13 * x.toNatClampNeg + 2) 2) (111 + 13 * x.toNatClampNeg + 5) (h.1 3 2 6))) else (0, ui h 3 0 0 0)
def mPass (h : AH) (sm : Nat) (x : Int32) : Int32 × AH := if isInF x 1 99 = 0 then (-1, ui h 3 0 0 0) else if h.1 3 2 6 + x ≤ 999 then (h.1 3 2 6 + x, acH h sm (upd (h.1 3 2) 6 (h.1 3 2 6 + x))) else (-1, ui h 3 0 0 0)
def stpN (N : Nat → Int32) (q : Nat) (w : Int32) : Nat → Int32 := if w ≤ 0 then N else upd N (79 + 3 * q + 2) (N (79 + 3 * q + 2) + 1)
def mStop (h : AH) (nl nq nt sm : Nat) (x y : Int32) : Int32 × AH := if hasI (nI nq) x = 0 then (-1, ui h 3 0 0 0) else if hasI (nI nl) y = 0 then (-1, ui h 3 0 0 0) else
  (whyF (h.1 3 2) nt x y, acH h sm (stpN (h.1 3 2) x.toNatClampNeg (whyF (h.1 3 2) nt x y)))
def hbN1 (N : Nat → Int32) (k : Nat) (n : Int32) : Nat → Int32 := upd (upd N (7 + 12 * k + 7) (N (7 + 12 * k + 7) - n)) (7 + 12 * k + 9) (N (7 + 12 * k + 9) + n)
def hbM (N : Nat → Int32) (k : Nat) (n : Int32) : Int32 := (N (7 + 12 * k + 9) + n) / N 1 - N (7 + 12 * k + 10)
def hbN (N : Nat → Int32) (k : Nat) (n : Int32) : Nat → Int32 := upd (hbN1 N k n) (7 + 12 * k + 10) (N (7 + 12 * k + 10) + hbM N k n)
def mBack (h : AH) (np sm : Nat) (x n : Int32) : Int32 × AH := if hasI (nI np) x = 0 then (-1, ui h 3 0 0 0) else if n < 1 then (-1, ui h 3 0 0 0) else
  if n ≤ mY (h.1 3 2) x.toNatClampNeg 7 then (hbM (h.1 3 2) x.toNatClampNeg n, acH h sm (hbN (h.1 3 2) x.toNatClampNeg n)) else (-1, ui h 3 0 0 0)
theorem c11_drop {l : Launch} {G : GG} {h : AH} {Q : Option Value → AH → Prop} {nl np nq nt sm : Nat} (hW : WM h nl np nq nt sm) {x : Int32} (hQ : Q (some (.int (mDrop h nt sm x).1)) (mDrop h nt sm x).2) : Ct l G 2 yX11_drop cX11_drop 2 (some .boolean) [.ref (G.1 3 0), .int x] h Q := by
  refine Ct.of (by decide) (Nat.le_of_ble_eq_true rfl) ?_
  show AW l G 2 RX11 cX11_drop 2 (some .boolean) 0 [some (.ref (G.1 3 0)), some (.int x)] [] h Q
  have hW0 := hW.th (v := 0)
  obtain ⟨hnl, hl8, hnp, hp6, hnq, hq8, hnt, ht40, hsm, hsm10, hz, hT⟩ := id hW0
  obtain ⟨gnl, -, gnp, -, gnq, -, gnt, -, gsm, -, gz, gT⟩ := id hW
  have e2c : (0 : Nat) = 0 := rfl
  have e5c : (0 : Nat) = 0 := rfl
  refine a_aload_n dX11_drop_0 rfl ?_
  refine a_iconst (v := 0) dX11_drop_1 (by decide) ?_
  refine a_putI (ci := 11) (j := 0) dX11_drop_2 rfl rfl (by decide) (by decide) rfl fl_11_1 ?_
  refine a_aload_n dX11_drop_5 rfl ?_
  refine a_iload_n dX11_drop_6 rfl ?_
  refine a_cV1i dX11_drop_7 ml_11_207 wv_11_isTrip rfl rfl (by decide) (Nat.le_of_ble_eq_true rfl) (c11_isTrip hnt (by omega) ⟨rfl, rfl⟩) ?_
  try simp (disch := first | decide | assumption | omega) only [ui_eq, ui_k, ui_j, ui_b, ui_2, ul_1, ul_eq, ul_k, ul_j, ul_b, N_k, gnl, gnp, gnq, gnt, gsm, cl0, cl1, cl2, cl3, cl4, cl5, cl6, cl7, cl8, cl9, cl10, acH_0, acG, acGj, acU, ixT2, ixT5, e2c, e5c, up_ne]
  refine a_if_eq dX11_drop_10 (tgt := 22) (by decide) (fun c10 => ?_) (fun c10 => ?_)
  · refine a_iconst (v := 0) dX11_drop_22 (by decide) ?_
    exact a_zret dX11_drop_23 rfl rfl (by
  first
    | (simp only [mDrop, c10, if_true, if_false] at hQ; exact hQ)
    | (simp only [mDrop, htc, mT, c10, if_true, if_false] at hQ; exact hQ))
  · obtain ⟨t, ht, rfl⟩ := hasI_of (by omega) c10
    have htc : (nI t).toNatClampNeg = t := nI_clamp (by omega)
    have e2c : (nI (111 + 13 * t + 2)).toNatClampNeg = 111 + 13 * t + 2 := nI_clamp (by omega)
    have e5c : (nI (111 + 13 * t + 5)).toNatClampNeg = 111 + 13 * t + 5 := nI_clamp (by omega)
    refine a_aload_n dX11_drop_13 rfl ?_
    refine a_iload_n dX11_drop_14 rfl ?_
    refine a_iconst (v := 2) dX11_drop_15 (by decide) ?_
    refine a_cV2i dX11_drop_16 ml_11_160 wv_11_its rfl rfl (by decide) (Nat.le_of_ble_eq_true rfl) (c11_its (t := t) (w := 2) (by omega) (by decide) ⟨rfl, rfl⟩) ?_
    try simp (disch := first | decide | assumption | omega) only [ui_eq, ui_k, ui_j, ui_b, ui_2, ul_1, ul_eq, ul_k, ul_j, ul_b, N_k, gnl, gnp, gnq, gnt, gsm, cl0, cl1, cl2, cl3, cl4, cl5, cl6, cl7, cl8, cl9, cl10, acH_0, acG, acGj, acU, ixT2, ixT5, e2c, e5c, up_ne]
    refine a_if_eq dX11_drop_19 (tgt := 24) (by decide) (fun c19 => ?_) (fun c19 => ?_)
    · refine a_aload_n dX11_drop_24 rfl ?_
      refine a_cV0v dX11_drop_25 ml_11_259 wv_11_snap rfl rfl (by decide) (Nat.le_of_ble_eq_true rfl) (c11_snapH hsm hsm10 ⟨rfl, rfl⟩) ?_
      try simp (disch := first | decide | assumption | omega) only [ui_eq, ui_k, ui_j, ui_b, ui_2, ul_1, ul_eq, ul_k, ul_j, ul_b, N_k, gnl, gnp, gnq, gnt, gsm, cl0, cl1, cl2, cl3, cl4, cl5, cl6, cl7, cl8, cl9, cl10, acH_0, acG, acGj, acU, ixT2, ixT5, e2c, e5c, up_ne]
      refine a_aload_n dX11_drop_28 rfl ?_
      refine a_getR (ci := 11) (j := 11) dX11_drop_29 rfl rfl (by decide) rfl fl_11_72 ?_
      refine a_bipush (v := 111) dX11_drop_32 (by decide) ?_
      refine a_bipush (v := 13) dX11_drop_34 (by decide) ?_
      refine a_iload_n dX11_drop_36 rfl ?_
      refine a_imul dX11_drop_37 ?_
      refine a_iadd dX11_drop_38 ?_
      refine a_iconst (v := 2) dX11_drop_39 (by decide) ?_
      refine a_iadd dX11_drop_40 ?_
      refine a_iconst (v := 2) dX11_drop_41 (by decide) ?_
      refine a_iastore dX11_drop_42 rfl (by (first | rw [ixT2] | rw [ixT3] | rw [ixT4] | rw [ixT5] | rw [ixT6] | rw [ixL2] | rw [ixY7] | rw [ixY8] | skip); exact vp_in_nI (by omega) (by decide)) ?_
      refine a_aload_n dX11_drop_43 rfl ?_
      refine a_getR (ci := 11) (j := 11) dX11_drop_44 rfl rfl (by decide) rfl fl_11_72 ?_
      refine a_bipush (v := 111) dX11_drop_47 (by decide) ?_
      refine a_bipush (v := 13) dX11_drop_49 (by decide) ?_
      refine a_iload_n dX11_drop_51 rfl ?_
      refine a_imul dX11_drop_52 ?_
      refine a_iadd dX11_drop_53 ?_
      refine a_iconst (v := 5) dX11_drop_54 (by decide) ?_
      refine a_iadd dX11_drop_55 ?_
      refine a_aload_n dX11_drop_56 rfl ?_
      refine a_getR (ci := 11) (j := 11) dX11_drop_57 rfl rfl (by decide) rfl fl_11_72 ?_
      refine a_bipush (v := 6) dX11_drop_60 (by decide) ?_
      refine a_iaload dX11_drop_62 rfl (by rw [vp_in_iff]; decide) ?_
      try simp (disch := first | decide | assumption | omega) only [ui_eq, ui_k, ui_j, ui_b, ui_2, ul_1, ul_eq, ul_k, ul_j, ul_b, N_k, gnl, gnp, gnq, gnt, gsm, cl0, cl1, cl2, cl3, cl4, cl5, cl6, cl7, cl8, cl9, cl10, acH_0, acG, acGj, acU, ixT2, ixT5, e2c, e5c, up_ne]
      refine a_iastore dX11_drop_63 rfl (by (first | rw [ixT2] | rw [ixT3] | rw [ixT4] | rw [ixT5] | rw [ixT6] | rw [ixL2] | rw [ixY7] | rw [ixY8] | skip); exact vp_in_nI (by omega) (by decide)) ?_
      refine a_iconst (v := 1) dX11_drop_64 (by decide) ?_
      exact a_zret dX11_drop_65 rfl rfl (by
  simp only [ixT2, ixT5, e2c, e5c, acU] at *
  simp only [mDrop, htc, mT, c10, c19, if_true, if_false] at hQ
  exact hQ)
    · refine a_iconst (v := 0) dX11_drop_22 (by decide) ?_
      exact a_zret dX11_drop_23 rfl rfl (by
  first
    | (simp only [mDrop, c10, c19, if_true, if_false] at hQ; exact hQ)
    | (simp only [mDrop, htc, mT, c10, c19, if_true, if_false] at hQ; exact hQ))
theorem c11_pass {l : Launch} {G : GG} {h : AH} {Q : Option Value → AH → Prop} {nl np nq nt sm : Nat} (hW : WM h nl np nq nt sm) {x : Int32} (hQ : Q (some (.int (mPass h sm x).1)) (mPass h sm x).2) : Ct l G 2 yX11_pass cX11_pass 2 (some .int) [.ref (G.1 3 0), .int x] h Q := by
  refine Ct.of (by decide) (Nat.le_of_ble_eq_true rfl) ?_
  show AW l G 2 RX11 cX11_pass 2 (some .int) 0 [some (.ref (G.1 3 0)), some (.int x)] [] h Q
  have hW0 := hW.th (v := 0)
  obtain ⟨hnl, hl8, hnp, hp6, hnq, hq8, hnt, ht40, hsm, hsm10, hz, hT⟩ := id hW0
  obtain ⟨gnl, -, gnp, -, gnq, -, gnt, -, gsm, -, gz, gT⟩ := id hW
  refine a_aload_n dX11_pass_0 rfl ?_
  refine a_iconst (v := 0) dX11_pass_1 (by decide) ?_
  refine a_putI (ci := 11) (j := 0) dX11_pass_2 rfl rfl (by decide) (by decide) rfl fl_11_1 ?_
  refine a_iload_n dX11_pass_5 rfl ?_
  refine a_iconst (v := 1) dX11_pass_6 (by decide) ?_
  refine a_bipush (v := 99) dX11_pass_7 (by decide) ?_
  refine a_cS3i dX11_pass_9 ml_11_106 ws_11_isIn (by decide) (Nat.le_of_ble_eq_true rfl) (c11_isIn ⟨rfl, rfl⟩) ?_
  try simp (disch := first | decide | assumption | omega) only [ui_eq, ui_k, ui_j, ui_b, ui_2, ul_1, ul_eq, ul_k, ul_j, ul_b, N_k, gnl, gnp, gnq, gnt, gsm, cl0, cl1, cl2, cl3, cl4, cl5, cl6, cl7, cl8, cl9, cl10, acH_0, acG, acGj, acU, up_eq]
  refine a_if_eq dX11_pass_12 (tgt := 30) (by decide) (fun c12 => ?_) (fun c12 => ?_)
  · refine a_iconst (v := (-1)) dX11_pass_30 (by decide) ?_
    exact a_iret dX11_pass_31 rfl (by
  (try simp only [cl6, acU])
  simp only [mPass, c12, if_true, if_false] at hQ
  exact hQ)
  · refine a_aload_n dX11_pass_15 rfl ?_
    refine a_getR (ci := 11) (j := 11) dX11_pass_16 rfl rfl (by decide) rfl fl_11_72 ?_
    refine a_bipush (v := 6) dX11_pass_19 (by decide) ?_
    refine a_iaload dX11_pass_21 rfl (by rw [vp_in_iff]; decide) ?_
    try simp (disch := first | decide | assumption | omega) only [ui_eq, ui_k, ui_j, ui_b, ui_2, ul_1, ul_eq, ul_k, ul_j, ul_b, N_k, gnl, gnp, gnq, gnt, gsm, cl0, cl1, cl2, cl3, cl4, cl5, cl6, cl7, cl8, cl9, cl10, acH_0, acG, acGj, acU, up_eq]
    refine a_iload_n dX11_pass_22 rfl ?_
    refine a_iadd dX11_pass_23 ?_
    refine a_sipush (v := 999) dX11_pass_24 (by decide) ?_
    refine a_icmp_le dX11_pass_27 (tgt := 32) (by decide) (fun c27 => ?_) (fun c27 => ?_)
    · refine a_aload_n dX11_pass_32 rfl ?_
      refine a_cV0v dX11_pass_33 ml_11_259 wv_11_snap rfl rfl (by decide) (Nat.le_of_ble_eq_true rfl) (c11_snapH hsm hsm10 ⟨rfl, rfl⟩) ?_
      try simp (disch := first | decide | assumption | omega) only [ui_eq, ui_k, ui_j, ui_b, ui_2, ul_1, ul_eq, ul_k, ul_j, ul_b, N_k, gnl, gnp, gnq, gnt, gsm, cl0, cl1, cl2, cl3, cl4, cl5, cl6, cl7, cl8, cl9, cl10, acH_0, acG, acGj, acU, up_eq]
      refine a_aload_n dX11_pass_36 rfl ?_
      refine a_getR (ci := 11) (j := 11) dX11_pass_37 rfl rfl (by decide) rfl fl_11_72 ?_
      refine a_bipush (v := 6) dX11_pass_40 (by decide) ?_
      refine a_dup2 dX11_pass_42 rfl rfl ?_
      refine a_iaload dX11_pass_43 rfl (by rw [vp_in_iff]; decide) ?_
      try simp (disch := first | decide | assumption | omega) only [ui_eq, ui_k, ui_j, ui_b, ui_2, ul_1, ul_eq, ul_k, ul_j, ul_b, N_k, gnl, gnp, gnq, gnt, gsm, cl0, cl1, cl2, cl3, cl4, cl5, cl6, cl7, cl8, cl9, cl10, acH_0, acG, acGj, acU, up_eq]
      refine a_iload_n dX11_pass_44 rfl ?_
      refine a_iadd dX11_pass_45 ?_
      refine a_iastore dX11_pass_46 rfl (by rw [vp_in_iff]; decide) ?_
      refine a_aload_n dX11_pass_47 rfl ?_
      refine a_getR (ci := 11) (j := 11) dX11_pass_48 rfl rfl (by decide) rfl fl_11_72 ?_
      refine a_bipush (v := 6) dX11_pass_51 (by decide) ?_
      refine a_iaload dX11_pass_53 rfl (by rw [vp_in_iff]; decide) ?_
      try simp (disch := first | decide | assumption | omega) only [ui_eq, ui_k, ui_j, ui_b, ui_2, ul_1, ul_eq, ul_k, ul_j, ul_b, N_k, gnl, gnp, gnq, gnt, gsm, cl0, cl1, cl2, cl3, cl4, cl5, cl6, cl7, cl8, cl9, cl10, acH_0, acG, acGj, acU, up_eq]
      exact a_iret dX11_pass_54 rfl (by
  (try simp only [cl6, acU])
  simp only [mPass, c12, c27, if_true, if_false] at hQ
  exact hQ)
    · refine a_iconst (v := (-1)) dX11_pass_30 (by decide) ?_
      exact a_iret dX11_pass_31 rfl (by
  (try simp only [cl6, acU])
  simp only [mPass, c12, c27, if_true, if_false] at hQ
  exact hQ)
theorem c11_stop {l : Launch} {G : GG} {h : AH} {Q : Option Value → AH → Prop} {nl np nq nt sm : Nat} (hW : WM h nl np nq nt sm) {x y : Int32} (hQ : Q (some (.int (mStop h nl nq nt sm x y).1)) (mStop h nl nq nt sm x y).2) : Ct l G 3 yX11_stop cX11_stop 4 (some .int) [.ref (G.1 3 0), .int x, .int y] h Q := by
  refine Ct.of (by decide) (Nat.le_of_ble_eq_true rfl) ?_
  show AW l G 3 RX11 cX11_stop 4 (some .int) 0 [some (.ref (G.1 3 0)), some (.int x), some (.int y)] [] h Q
  have hW0 := hW.th (v := 0)
  obtain ⟨hnl, hl8, hnp, hp6, hnq, hq8, hnt, ht40, hsm, hsm10, hz, hT⟩ := id hW0
  obtain ⟨gnl, -, gnp, -, gnq, -, gnt, -, gsm, -, gz, gT⟩ := id hW
  have e2c : (0 : Nat) = 0 := rfl
  refine a_aload_n dX11_stop_0 rfl ?_
  refine a_iconst (v := 0) dX11_stop_1 (by decide) ?_
  refine a_putI (ci := 11) (j := 0) dX11_stop_2 rfl rfl (by decide) (by decide) rfl fl_11_1 ?_
  refine a_aload_n dX11_stop_5 rfl ?_
  refine a_iload_n dX11_stop_6 rfl ?_
  refine a_cV1i dX11_stop_7 ml_11_195 wv_11_isLorry rfl rfl (by decide) (Nat.le_of_ble_eq_true rfl) (c11_isLorry hnq (by omega) ⟨rfl, rfl⟩) ?_
  try simp (disch := first | decide | assumption | omega) only [ui_eq, ui_k, ui_j, ui_b, ui_2, ul_1, ul_eq, ul_k, ul_j, ul_b, N_k, gnl, gnp, gnq, gnt, gsm, cl0, cl1, cl2, cl3, cl4, cl5, cl6, cl7, cl8, cl9, cl10, acH_0, acG, acGj, acU, ixL2, e2c]
  refine a_if_eq dX11_stop_10 (tgt := 21) (by decide) (fun c10 => ?_) (fun c10 => ?_)
  · refine a_iconst (v := (-1)) dX11_stop_21 (by decide) ?_
    exact a_iret dX11_stop_22 rfl (by
  simp only [mStop, c10, if_true, if_false] at hQ
  exact hQ)
  · refine a_aload_n dX11_stop_13 rfl ?_
    refine a_iload_n dX11_stop_14 rfl ?_
    refine a_cV1i dX11_stop_15 ml_11_250 wv_11_isLand rfl rfl (by decide) (Nat.le_of_ble_eq_true rfl) (c11_isLand hnl (by omega) ⟨rfl, rfl⟩) ?_
    try simp (disch := first | decide | assumption | omega) only [ui_eq, ui_k, ui_j, ui_b, ui_2, ul_1, ul_eq, ul_k, ul_j, ul_b, N_k, gnl, gnp, gnq, gnt, gsm, cl0, cl1, cl2, cl3, cl4, cl5, cl6, cl7, cl8, cl9, cl10, acH_0, acG, acGj, acU, ixL2, e2c]
    refine a_if_ne dX11_stop_18 (tgt := 23) (by decide) (fun c18 => ?_) (fun c18 => ?_)
    · obtain ⟨q, hq, rfl⟩ := hasI_of (by omega) c10
      have hqc : (nI q).toNatClampNeg = q := nI_clamp (by omega)
      have e2c : (nI (79 + 3 * q + 2)).toNatClampNeg = 79 + 3 * q + 2 := nI_clamp (by omega)
      rw [mStop, if_neg c10, if_neg c18, hqc] at hQ
      refine a_aload_n dX11_stop_23 rfl ?_
      refine a_cV0v dX11_stop_24 ml_11_259 wv_11_snap rfl rfl (by decide) (Nat.le_of_ble_eq_true rfl) (c11_snapH hsm hsm10 ⟨rfl, rfl⟩) ?_
      try simp (disch := first | decide | assumption | omega) only [ui_eq, ui_k, ui_j, ui_b, ui_2, ul_1, ul_eq, ul_k, ul_j, ul_b, N_k, gnl, gnp, gnq, gnt, gsm, cl0, cl1, cl2, cl3, cl4, cl5, cl6, cl7, cl8, cl9, cl10, acH_0, acG, acGj, acU, ixL2, e2c]
      refine a_aload_n dX11_stop_27 rfl ?_
      refine a_iload_n dX11_stop_28 rfl ?_
      refine a_iload_n dX11_stop_29 rfl ?_
      refine a_cV2i dX11_stop_30 ml_11_253 wv_11_whyStopped rfl rfl (by decide) (Nat.le_of_ble_eq_true rfl) (c11_whyStopped (h := acH h sm (h.1 3 2)) (nt := nt) gnt ht40 gT ⟨rfl, rfl⟩) ?_
      try simp (disch := first | decide | assumption | omega) only [ui_eq, ui_k, ui_j, ui_b, ui_2, ul_1, ul_eq, ul_k, ul_j, ul_b, N_k, gnl, gnp, gnq, gnt, gsm, cl0, cl1, cl2, cl3, cl4, cl5, cl6, cl7, cl8, cl9, cl10, acH_0, acG, acGj, acU, ixL2, e2c]
      refine a_istore_n dX11_stop_33 (by decide) rfl ?_
      dsimp only [lset]
      refine a_iload_n dX11_stop_34 rfl ?_
      refine a_if_le dX11_stop_35 (tgt := 55) (by decide) (fun c35 => ?_) (fun c35 => ?_)
      · rw [stpN, if_pos c35] at hQ
        refine a_iload_n dX11_stop_55 rfl ?_
        exact a_iret dX11_stop_56 rfl (by
  first
    | exact hQ
    | (simp only [ixL2, e2c, acU]; exact hQ))
      · rw [stpN, if_neg c35] at hQ
        refine a_aload_n dX11_stop_38 rfl ?_
        refine a_getR (ci := 11) (j := 11) dX11_stop_39 rfl rfl (by decide) rfl fl_11_72 ?_
        refine a_bipush (v := 79) dX11_stop_42 (by decide) ?_
        refine a_iconst (v := 3) dX11_stop_44 (by decide) ?_
        refine a_iload_n dX11_stop_45 rfl ?_
        refine a_imul dX11_stop_46 ?_
        refine a_iadd dX11_stop_47 ?_
        refine a_iconst (v := 2) dX11_stop_48 (by decide) ?_
        refine a_iadd dX11_stop_49 ?_
        refine a_dup2 dX11_stop_50 rfl rfl ?_
        refine a_iaload dX11_stop_51 rfl (by (first | rw [ixT2] | rw [ixT3] | rw [ixT4] | rw [ixT5] | rw [ixT6] | rw [ixL2] | rw [ixY7] | rw [ixY8] | skip); exact vp_in_nI (by omega) (by decide)) ?_
        try simp (disch := first | decide | assumption | omega) only [ui_eq, ui_k, ui_j, ui_b, ui_2, ul_1, ul_eq, ul_k, ul_j, ul_b, N_k, gnl, gnp, gnq, gnt, gsm, cl0, cl1, cl2, cl3, cl4, cl5, cl6, cl7, cl8, cl9, cl10, acH_0, acG, acGj, acU, ixL2, e2c]
        refine a_iconst (v := 1) dX11_stop_52 (by decide) ?_
        refine a_iadd dX11_stop_53 ?_
        refine a_iastore dX11_stop_54 rfl (by (first | rw [ixT2] | rw [ixT3] | rw [ixT4] | rw [ixT5] | rw [ixT6] | rw [ixL2] | rw [ixY7] | rw [ixY8] | skip); exact vp_in_nI (by omega) (by decide)) ?_
        refine a_iload_n dX11_stop_55 rfl ?_
        exact a_iret dX11_stop_56 rfl (by
  first
    | exact hQ
    | (simp only [ixL2, e2c, acU]; exact hQ))
    · refine a_iconst (v := (-1)) dX11_stop_21 (by decide) ?_
      exact a_iret dX11_stop_22 rfl (by
  simp only [mStop, c10, c18, if_true, if_false] at hQ
  exact hQ)
theorem c11_handBack {l : Launch} {G : GG} {h : AH} {Q : Option Value → AH → Prop} {nl np nq nt sm : Nat} (hW : WM h nl np nq nt sm) {x n : Int32} (hre : ¬ h.1 3 2 1 = 0) (hQ : Q (some (.int (mBack h np sm x n).1)) (mBack h np sm x n).2) : Ct l G 2 yX11_handBack cX11_handBack 5 (some .int) [.ref (G.1 3 0), .int x, .int n] h Q := by
  refine Ct.of (by decide) (Nat.le_of_ble_eq_true rfl) ?_
  show AW l G 2 RX11 cX11_handBack 5 (some .int) 0 [some (.ref (G.1 3 0)), some (.int x), some (.int n)] [] h Q
  have hW0 := hW.th (v := 0)
  obtain ⟨hnl, hl8, hnp, hp6, hnq, hq8, hnt, ht40, hsm, hsm10, hz, hT⟩ := id hW0
  obtain ⟨gnl, -, gnp, -, gnq, -, gnt, -, gsm, -, gz, gT⟩ := id hW
  have e7c : (0 : Nat) = 0 := rfl
  have e9c : (0 : Nat) = 0 := rfl
  have e10c : (0 : Nat) = 0 := rfl
  have a7 : (0 : Nat) = 0 := rfl
  have a9 : (0 : Nat) = 0 := rfl
  have a10 : (0 : Nat) = 0 := rfl
  refine a_aload_n dX11_handBack_0 rfl ?_
  refine a_iconst (v := 0) dX11_handBack_1 (by decide) ?_
  refine a_putI (ci := 11) (j := 0) dX11_handBack_2 rfl rfl (by decide) (by decide) rfl fl_11_1 ?_
  refine a_aload_n dX11_handBack_5 rfl ?_
  refine a_iload_n dX11_handBack_6 rfl ?_
  refine a_cV1i dX11_handBack_7 ml_11_189 wv_11_isType rfl rfl (by decide) (Nat.le_of_ble_eq_true rfl) (c11_isType hnp (by omega) ⟨rfl, rfl⟩) ?_
  try simp (disch := first | decide | assumption | omega) only [ui_eq, ui_k, ui_j, ui_b, ui_2, ul_1, ul_eq, ul_k, ul_j, ul_b, N_k, gnl, gnp, gnq, gnt, gsm, cl0, cl1, cl2, cl3, cl4, cl5, cl6, cl7, cl8, cl9, cl10, acH_0, acG, acGj, acU, e7c, e9c, e10c, a7, a9, a10, up_eq, up_ne]
  refine a_if_eq dX11_handBack_10 (tgt := 29) (by decide) (fun c10 => ?_) (fun c10 => ?_)
  · refine a_iconst (v := (-1)) dX11_handBack_29 (by decide) ?_
    exact a_iret dX11_handBack_30 rfl (by
  first
    | (simp only [mBack, c10, if_true, if_false] at hQ; exact hQ)
    | (rw [mBack, if_neg c10, if_neg c15, hkc, if_neg (show ¬ n ≤ mY (h.1 3 2) k 7 from c26)] at hQ; exact hQ))
  · obtain ⟨k, hk, rfl⟩ := hasI_of (by omega) c10
    have hkc : (nI k).toNatClampNeg = k := nI_clamp (by omega)
    have e7c : (nI (7 + 12 * k + 7)).toNatClampNeg = 7 + 12 * k + 7 := nI_clamp (by omega)
    have e9c : (nI (7 + 12 * k + 9)).toNatClampNeg = 7 + 12 * k + 9 := nI_clamp (by omega)
    have e10c : (nI (7 + 12 * k + 10)).toNatClampNeg = 7 + 12 * k + 10 := nI_clamp (by omega)
    have a7 : nI (7 + 12 * k) + 7 = nI (7 + 12 * k + 7) := nI_add _ 7
    have a9 : nI (7 + 12 * k) + 9 = nI (7 + 12 * k + 9) := nI_add _ 9
    have a10 : nI (7 + 12 * k) + 10 = nI (7 + 12 * k + 10) := nI_add _ 10
    refine a_iload_n dX11_handBack_13 rfl ?_
    refine a_iconst (v := 1) dX11_handBack_14 (by decide) ?_
    refine a_icmp_lt dX11_handBack_15 (tgt := 29) (by decide) (fun c15 => ?_) (fun c15 => ?_)
    · refine a_iconst (v := (-1)) dX11_handBack_29 (by decide) ?_
      exact a_iret dX11_handBack_30 rfl (by
  first
    | (simp only [mBack, c10, c15, if_true, if_false] at hQ; exact hQ)
    | (rw [mBack, if_neg c10, if_neg c15, hkc, if_neg (show ¬ n ≤ mY (h.1 3 2) k 7 from c26)] at hQ; exact hQ))
    · refine a_iload_n dX11_handBack_18 rfl ?_
      refine a_aload_n dX11_handBack_19 rfl ?_
      refine a_iload_n dX11_handBack_20 rfl ?_
      refine a_bipush (v := 7) dX11_handBack_21 (by decide) ?_
      refine a_cV2i dX11_handBack_23 ml_11_167 wv_11_typed rfl rfl (by decide) (Nat.le_of_ble_eq_true rfl) (c11_typed (t := k) (w := 7) (by omega) (by decide) ⟨rfl, rfl⟩) ?_
      try simp (disch := first | decide | assumption | omega) only [ui_eq, ui_k, ui_j, ui_b, ui_2, ul_1, ul_eq, ul_k, ul_j, ul_b, N_k, gnl, gnp, gnq, gnt, gsm, cl0, cl1, cl2, cl3, cl4, cl5, cl6, cl7, cl8, cl9, cl10, acH_0, acG, acGj, acU, e7c, e9c, e10c, a7, a9, a10, up_eq, up_ne]
      refine a_icmp_le dX11_handBack_26 (tgt := 31) (by decide) (fun c26 => ?_) (fun c26 => ?_)
      · refine a_aload_n dX11_handBack_31 rfl ?_
        refine a_cV0v dX11_handBack_32 ml_11_259 wv_11_snap rfl rfl (by decide) (Nat.le_of_ble_eq_true rfl) (c11_snapH hsm hsm10 ⟨rfl, rfl⟩) ?_
        try simp (disch := first | decide | assumption | omega) only [ui_eq, ui_k, ui_j, ui_b, ui_2, ul_1, ul_eq, ul_k, ul_j, ul_b, N_k, gnl, gnp, gnq, gnt, gsm, cl0, cl1, cl2, cl3, cl4, cl5, cl6, cl7, cl8, cl9, cl10, acH_0, acG, acGj, acU, e7c, e9c, e10c, a7, a9, a10, up_eq, up_ne]
        refine a_bipush (v := 7) dX11_handBack_35 (by decide) ?_
        refine a_bipush (v := 12) dX11_handBack_37 (by decide) ?_
        refine a_iload_n dX11_handBack_39 rfl ?_
        refine a_imul dX11_handBack_40 ?_
        refine a_iadd dX11_handBack_41 ?_
        rw [ixY0]
        refine a_istore_n dX11_handBack_42 (by decide) rfl ?_
        dsimp only [lset]
        refine a_aload_n dX11_handBack_43 rfl ?_
        refine a_getR (ci := 11) (j := 11) dX11_handBack_44 rfl rfl (by decide) rfl fl_11_72 ?_
        refine a_iload_n dX11_handBack_47 rfl ?_
        refine a_bipush (v := 7) dX11_handBack_48 (by decide) ?_
        refine a_iadd dX11_handBack_50 ?_
        refine a_dup2 dX11_handBack_51 rfl rfl ?_
        refine a_iaload dX11_handBack_52 rfl (by (first | rw [a7] | rw [a9] | rw [a10] | skip); exact vp_in_nI (by omega) (by decide)) ?_
        try simp (disch := first | decide | assumption | omega) only [ui_eq, ui_k, ui_j, ui_b, ui_2, ul_1, ul_eq, ul_k, ul_j, ul_b, N_k, gnl, gnp, gnq, gnt, gsm, cl0, cl1, cl2, cl3, cl4, cl5, cl6, cl7, cl8, cl9, cl10, acH_0, acG, acGj, acU, e7c, e9c, e10c, a7, a9, a10, up_eq, up_ne]
        refine a_iload_n dX11_handBack_53 rfl ?_
        refine a_isub dX11_handBack_54 ?_
        refine a_iastore dX11_handBack_55 rfl (by (first | rw [a7] | rw [a9] | rw [a10] | skip); exact vp_in_nI (by omega) (by decide)) ?_
        refine a_aload_n dX11_handBack_56 rfl ?_
        refine a_getR (ci := 11) (j := 11) dX11_handBack_57 rfl rfl (by decide) rfl fl_11_72 ?_
        refine a_iload_n dX11_handBack_60 rfl ?_
        refine a_bipush (v := 9) dX11_handBack_61 (by decide) ?_
        refine a_iadd dX11_handBack_63 ?_
        refine a_dup2 dX11_handBack_64 rfl rfl ?_
        refine a_iaload dX11_handBack_65 rfl (by (first | rw [a7] | rw [a9] | rw [a10] | skip); exact vp_in_nI (by omega) (by decide)) ?_
        try simp (disch := first | decide | assumption | omega) only [ui_eq, ui_k, ui_j, ui_b, ui_2, ul_1, ul_eq, ul_k, ul_j, ul_b, N_k, gnl, gnp, gnq, gnt, gsm, cl0, cl1, cl2, cl3, cl4, cl5, cl6, cl7, cl8, cl9, cl10, acH_0, acG, acGj, acU, e7c, e9c, e10c, a7, a9, a10, up_eq, up_ne]
        refine a_iload_n dX11_handBack_66 rfl ?_
        refine a_iadd dX11_handBack_67 ?_
        refine a_iastore dX11_handBack_68 rfl (by (first | rw [a7] | rw [a9] | rw [a10] | skip); exact vp_in_nI (by omega) (by decide)) ?_
        refine a_aload_n dX11_handBack_69 rfl ?_
        refine a_getR (ci := 11) (j := 11) dX11_handBack_70 rfl rfl (by decide) rfl fl_11_72 ?_
        refine a_iload_n dX11_handBack_73 rfl ?_
        refine a_bipush (v := 9) dX11_handBack_74 (by decide) ?_
        refine a_iadd dX11_handBack_76 ?_
        refine a_iaload dX11_handBack_77 rfl (by (first | rw [a7] | rw [a9] | rw [a10] | skip); exact vp_in_nI (by omega) (by decide)) ?_
        try simp (disch := first | decide | assumption | omega) only [ui_eq, ui_k, ui_j, ui_b, ui_2, ul_1, ul_eq, ul_k, ul_j, ul_b, N_k, gnl, gnp, gnq, gnt, gsm, cl0, cl1, cl2, cl3, cl4, cl5, cl6, cl7, cl8, cl9, cl10, acH_0, acG, acGj, acU, e7c, e9c, e10c, a7, a9, a10, up_eq, up_ne]
        refine a_aload_n dX11_handBack_78 rfl ?_
        refine a_getR (ci := 11) (j := 11) dX11_handBack_79 rfl rfl (by decide) rfl fl_11_72 ?_
        refine a_iconst (v := 1) dX11_handBack_82 (by decide) ?_
        refine a_iaload dX11_handBack_83 rfl (by rw [vp_in_iff]; decide) ?_
        try simp (disch := first | decide | assumption | omega) only [ui_eq, ui_k, ui_j, ui_b, ui_2, ul_1, ul_eq, ul_k, ul_j, ul_b, N_k, gnl, gnp, gnq, gnt, gsm, cl0, cl1, cl2, cl3, cl4, cl5, cl6, cl7, cl8, cl9, cl10, acH_0, acG, acGj, acU, e7c, e9c, e10c, a7, a9, a10, up_eq, up_ne]
        refine a_idiv dX11_handBack_84 hre ?_
        refine a_aload_n dX11_handBack_85 rfl ?_
        refine a_getR (ci := 11) (j := 11) dX11_handBack_86 rfl rfl (by decide) rfl fl_11_72 ?_
        refine a_iload_n dX11_handBack_89 rfl ?_
        refine a_bipush (v := 10) dX11_handBack_90 (by decide) ?_
        refine a_iadd dX11_handBack_92 ?_
        refine a_iaload dX11_handBack_93 rfl (by (first | rw [a7] | rw [a9] | rw [a10] | skip); exact vp_in_nI (by omega) (by decide)) ?_
        try simp (disch := first | decide | assumption | omega) only [ui_eq, ui_k, ui_j, ui_b, ui_2, ul_1, ul_eq, ul_k, ul_j, ul_b, N_k, gnl, gnp, gnq, gnt, gsm, cl0, cl1, cl2, cl3, cl4, cl5, cl6, cl7, cl8, cl9, cl10, acH_0, acG, acGj, acU, e7c, e9c, e10c, a7, a9, a10, up_eq, up_ne]
        refine a_isub dX11_handBack_94 ?_
        refine a_istore dX11_handBack_95 (by decide) rfl ?_
        dsimp only [lset]
        refine a_aload_n dX11_handBack_97 rfl ?_
        refine a_getR (ci := 11) (j := 11) dX11_handBack_98 rfl rfl (by decide) rfl fl_11_72 ?_
        refine a_iload_n dX11_handBack_101 rfl ?_
        refine a_bipush (v := 10) dX11_handBack_102 (by decide) ?_
        refine a_iadd dX11_handBack_104 ?_
        refine a_dup2 dX11_handBack_105 rfl rfl ?_
        refine a_iaload dX11_handBack_106 rfl (by (first | rw [a7] | rw [a9] | rw [a10] | skip); exact vp_in_nI (by omega) (by decide)) ?_
        try simp (disch := first | decide | assumption | omega) only [ui_eq, ui_k, ui_j, ui_b, ui_2, ul_1, ul_eq, ul_k, ul_j, ul_b, N_k, gnl, gnp, gnq, gnt, gsm, cl0, cl1, cl2, cl3, cl4, cl5, cl6, cl7, cl8, cl9, cl10, acH_0, acG, acGj, acU, e7c, e9c, e10c, a7, a9, a10, up_eq, up_ne]
        refine a_iload dX11_handBack_107 rfl ?_
        refine a_iadd dX11_handBack_109 ?_
        refine a_iastore dX11_handBack_110 rfl (by (first | rw [a7] | rw [a9] | rw [a10] | skip); exact vp_in_nI (by omega) (by decide)) ?_
        refine a_iload dX11_handBack_111 rfl ?_
        exact a_iret dX11_handBack_113 rfl (by
  (try simp only [a7, a9, a10, e7c, e9c, e10c, acU])
  rw [mBack, if_neg c10, if_neg c15, hkc, if_pos (show n ≤ mY (h.1 3 2) k 7 from c26)] at hQ
  exact hQ)
      · refine a_iconst (v := (-1)) dX11_handBack_29 (by decide) ?_
        exact a_iret dX11_handBack_30 rfl (by
  first
    | (simp only [mBack, c10, c15, c26, if_true, if_false] at hQ; exact hQ)
    | (rw [mBack, if_neg c10, if_neg c15, hkc, if_neg (show ¬ n ≤ mY (h.1 3 2) k 7 from c26)] at hQ; exact hQ))
