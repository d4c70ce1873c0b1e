theorem nI_ltD {a b : Nat} (h : nI a < nI b) (ha : a < 2 ^ 31) (hb : b < 2 ^ 31) : a < b := by
  rw [Int32.lt_iff_toInt_lt, nI_toInt ha, nI_toInt hb] at h
  omega
theorem nI_ltU {a b : Nat} (h : a < b) (hb : b < 2 ^ 31) : nI a < nI b := by
  rw [Int32.lt_iff_toInt_lt, nI_toInt (by omega), nI_toInt hb]
  omega
def fOG (N : Nat → Int32) (nt : Nat) (x y : Int32) : Nat → Int32
  | 0 => 0
  | k + 1 => if hasB (mY N k 6) x = 0 then fOG N nt x y k else if y < mY N k 2 then fOG N nt x y k else fOG N nt x y k + mFree N nt k
def mFreeA (N : Nat → Int32) (nl np nt : Nat) (x y : Int32) : Int32 := if hasI (nI nl) x = 0 then -1 else if isInF y 1 6 = 0 then -1 else fOG N nt x y np
def mNx (N : Nat → Int32) (f s : Int32) : Nat → Int32
  | 0 => s
  | a + 1 => if hasB s (nI a) = 0 then mNx N f s a else mNx N f s a ||| (N (103 + a) &&& f)
def mBe (s land best : Int32) (n : Nat) : Int32 := if hasB s land = 0 then best else if best = -2 then nI n else if best ≤ nI n then best else nI n
def mSh (N : Nat → Int32) (nl : Nat) (land f : Int32) : Nat → Nat → Int32 → Int32 → Int32
  | 0, _, _, best => best
  | g + 1, n, s, best => if hasB s land = 0 then mSh N nl land f g (n + 1) (mNx N f s nl) (mBe (mNx N f s nl) land best n) else best
def mSO (N : Nat → Int32) (nl q : Nat) (land : Int32) : Nat → Int32
  | 0 => -2
  | k + 1 => if mY N k 2 ≤ mQ N q 1 then mSh N nl land (mY N k 6) 7 2 (1 <<< (mQ N q 0 &&& 31)) (mSO N nl q land k) else mSO N nl q land k
def mShort (N : Nat → Int32) (nl np nq : Nat) (x y : Int32) : Int32 := if hasI (nI nq) x = 0 then -1 else if hasI (nI nl) y = 0 then -1 else if mQ N x.toNatClampNeg 0 = y then -1 else mSO N nl x.toNatClampNeg y np
theorem c11_fits {l : Launch} {G : GG} {h : AH} {Q : Option Value → AH → Prop} {nl np nq nt sm : Nat} (hW : WM h nl np nq nt sm) {x y : Int32} (hQ : Q (some (.int (mFits (h.1 3 2) np nt x y))) (ui h 3 0 0 0)) : Ct l G 3 yX11_fits cX11_fits 3 (some .boolean) [.ref (G.1 3 0), .int x, .int y] h Q := by
  refine Ct.of (by decide) (Nat.le_of_ble_eq_true rfl) ?_
  show AW l G 3 RX11 cX11_fits 3 (some .boolean) 0 [some (.ref (G.1 3 0)), some (.int x), some (.int y)] [] h Q
  have hW0 := hW.th (v := 0)
  obtain ⟨hnl, hl8, hnp, hp6, hnq, hq8, hnt, ht40, hsm, hsm10, hz, hT⟩ := id hW0
  obtain ⟨gnl, -, gnp, -, gnq, -, gnt, -, gsm, -, gz, gT⟩ := id hW
  refine a_aload_n dX11_fits_0 rfl ?_
  refine a_iconst (v := 0) dX11_fits_1 (by decide) ?_
  refine a_putI (ci := 11) (j := 0) dX11_fits_2 rfl rfl (by decide) (by decide) rfl fl_11_1 ?_
  refine a_aload_n dX11_fits_5 rfl ?_
  refine a_iload_n dX11_fits_6 rfl ?_
  refine a_cV1i dX11_fits_7 ml_11_189 wv_11_isType rfl rfl (by decide) (Nat.le_of_ble_eq_true rfl) (c11_isType hnp (by omega) ⟨rfl, rfl⟩) ?_
  try simp (disch := first | decide | assumption | omega) only [ui_eq, ui_k, ui_j, ui_b, ui_2, ul_1, ul_eq, ul_k, ul_j, ul_b, N_k, gnl, gnp, gnq, gnt, gsm, cl0, cl1, cl2, cl3, cl4, cl5, cl6, cl7, cl8, cl9, cl10]
  refine a_if_eq dX11_fits_10 (tgt := 34) (by decide) (fun c10 => ?_) (fun c10 => ?_)
  · refine a_iconst (v := 0) dX11_fits_34 (by decide) ?_
    exact a_zret dX11_fits_35 rfl rfl (by
  first
    | (simp only [mFits, hkc, htc, c10, if_true, if_false] at hQ ⊢; exact hQ)
    | (simp only [mFits, c10, if_true, if_false] at hQ ⊢; exact hQ))
  · refine a_aload_n dX11_fits_13 rfl ?_
    refine a_iload_n dX11_fits_14 rfl ?_
    refine a_cV1i dX11_fits_15 ml_11_207 wv_11_isTrip rfl rfl (by decide) (Nat.le_of_ble_eq_true rfl) (c11_isTrip hnt (by omega) ⟨rfl, rfl⟩) ?_
    try simp (disch := first | decide | assumption | omega) only [ui_eq, ui_k, ui_j, ui_b, ui_2, ul_1, ul_eq, ul_k, ul_j, ul_b, N_k, gnl, gnp, gnq, gnt, gsm, cl0, cl1, cl2, cl3, cl4, cl5, cl6, cl7, cl8, cl9, cl10]
    refine a_if_eq dX11_fits_18 (tgt := 34) (by decide) (fun c18 => ?_) (fun c18 => ?_)
    · refine a_iconst (v := 0) dX11_fits_34 (by decide) ?_
      exact a_zret dX11_fits_35 rfl rfl (by
  first
    | (simp only [mFits, hkc, htc, c10, c18, if_true, if_false] at hQ ⊢; exact hQ)
    | (simp only [mFits, c10, c18, if_true, if_false] at hQ ⊢; exact hQ))
    · obtain ⟨k, hk, rfl⟩ := hasI_of (by omega) c10
      have hkc : (nI k).toNatClampNeg = k := nI_clamp (by omega)
      obtain ⟨t, ht, rfl⟩ := hasI_of (by omega) c18
      have htc : (nI t).toNatClampNeg = t := nI_clamp (by omega)
      obtain ⟨⟨q, hq8b, hq⟩, ⟨m, hm6, hm⟩, -⟩ := hT t ht
      refine a_aload_n dX11_fits_21 rfl ?_
      refine a_iload_n dX11_fits_22 rfl ?_
      refine a_iload_n dX11_fits_23 rfl ?_
      refine a_cV2i dX11_fits_24 ml_11_213 wv_11_isFit rfl rfl (by decide) (Nat.le_of_ble_eq_true rfl) (c11_isFit (by omega) (by omega) hm hm6 hq hq8b ⟨rfl, rfl⟩) ?_
      try simp (disch := first | decide | assumption | omega) only [ui_eq, ui_k, ui_j, ui_b, ui_2, ul_1, ul_eq, ul_k, ul_j, ul_b, N_k, gnl, gnp, gnq, gnt, gsm, cl0, cl1, cl2, cl3, cl4, cl5, cl6, cl7, cl8, cl9, cl10]
      refine a_if_eq dX11_fits_27 (tgt := 34) (by decide) (fun c27 => ?_) (fun c27 => ?_)
      · refine a_iconst (v := 0) dX11_fits_34 (by decide) ?_
        exact a_zret dX11_fits_35 rfl rfl (by
  first
    | (simp only [mFits, hkc, htc, c10, c18, c27, if_true, if_false] at hQ ⊢; exact hQ)
    | (simp only [mFits, c10, c18, c27, if_true, if_false] at hQ ⊢; exact hQ))
      · refine a_iconst (v := 1) dX11_fits_30 (by decide) ?_
        refine a_goto dX11_fits_31 (tgt := 35) (by decide) ?_
        exact a_zret dX11_fits_35 rfl rfl (by
  first
    | (simp only [mFits, hkc, htc, c10, c18, c27, if_true, if_false] at hQ ⊢; exact hQ)
    | (simp only [mFits, c10, c18, c27, if_true, if_false] at hQ ⊢; exact hQ))
theorem c11_lawful {l : Launch} {G : GG} {h : AH} {Q : Option Value → AH → Prop} {nl np nq nt sm : Nat} (hW : WM h nl np nq nt sm) {x y : Int32} (hQ : Q (some (.int (mLaw (h.1 3 2) nl nq nt x y))) (ui h 3 0 0 0)) : Ct l G 3 yX11_lawful cX11_lawful 3 (some .int) [.ref (G.1 3 0), .int x, .int y] h Q := by
  refine Ct.of (by decide) (Nat.le_of_ble_eq_true rfl) ?_
  show AW l G 3 RX11 cX11_lawful 3 (some .int) 0 [some (.ref (G.1 3 0)), some (.int x), some (.int y)] [] h Q
  have hW0 := hW.th (v := 0)
  obtain ⟨hnl, hl8, hnp, hp6, hnq, hq8, hnt, ht40, hsm, hsm10, hz, hT⟩ := id hW0
  obtain ⟨gnl, -, gnp, -, gnq, -, gnt, -, gsm, -, gz, gT⟩ := id hW
  refine a_aload_n dX11_lawful_0 rfl ?_
  refine a_iconst (v := 0) dX11_lawful_1 (by decide) ?_
  refine a_putI (ci := 11) (j := 0) dX11_lawful_2 rfl rfl (by decide) (by decide) rfl fl_11_1 ?_
  refine a_aload_n dX11_lawful_5 rfl ?_
  refine a_iload_n dX11_lawful_6 rfl ?_
  refine a_cV1i dX11_lawful_7 ml_11_195 wv_11_isLorry rfl rfl (by decide) (Nat.le_of_ble_eq_true rfl) (c11_isLorry hnq (by omega) ⟨rfl, rfl⟩) ?_
  try simp (disch := first | decide | assumption | omega) only [ui_eq, ui_k, ui_j, ui_b, ui_2, ul_1, ul_eq, ul_k, ul_j, ul_b, N_k, gnl, gnp, gnq, gnt, gsm, cl0, cl1, cl2, cl3, cl4, cl5, cl6, cl7, cl8, cl9, cl10]
  refine a_if_eq dX11_lawful_10 (tgt := 30) (by decide) (fun c10 => ?_) (fun c10 => ?_)
  · refine a_iconst (v := (-1)) dX11_lawful_30 (by decide) ?_
    exact a_iret dX11_lawful_31 rfl (by
  first
    | (simp only [mLaw, c10, if_true, if_false] at hQ ⊢; exact hQ))
  · refine a_aload_n dX11_lawful_13 rfl ?_
    refine a_iload_n dX11_lawful_14 rfl ?_
    refine a_cV1i dX11_lawful_15 ml_11_250 wv_11_isLand rfl rfl (by decide) (Nat.le_of_ble_eq_true rfl) (c11_isLand hnl (by omega) ⟨rfl, rfl⟩) ?_
    try simp (disch := first | decide | assumption | omega) only [ui_eq, ui_k, ui_j, ui_b, ui_2, ul_1, ul_eq, ul_k, ul_j, ul_b, N_k, gnl, gnp, gnq, gnt, gsm, cl0, cl1, cl2, cl3, cl4, cl5, cl6, cl7, cl8, cl9, cl10]
    refine a_if_eq dX11_lawful_18 (tgt := 30) (by decide) (fun c18 => ?_) (fun c18 => ?_)
    · refine a_iconst (v := (-1)) dX11_lawful_30 (by decide) ?_
      exact a_iret dX11_lawful_31 rfl (by
  first
    | (simp only [mLaw, c10, c18, if_true, if_false] at hQ ⊢; exact hQ))
    · refine a_aload_n dX11_lawful_21 rfl ?_
      refine a_iload_n dX11_lawful_22 rfl ?_
      refine a_iload_n dX11_lawful_23 rfl ?_
      refine a_cV2i dX11_lawful_24 ml_11_253 wv_11_whyStopped rfl rfl (by decide) (Nat.le_of_ble_eq_true rfl) (c11_whyStopped hnt ht40 hT ⟨rfl, rfl⟩) ?_
      try simp (disch := first | decide | assumption | omega) only [ui_eq, ui_k, ui_j, ui_b, ui_2, ul_1, ul_eq, ul_k, ul_j, ul_b, N_k, gnl, gnp, gnq, gnt, gsm, cl0, cl1, cl2, cl3, cl4, cl5, cl6, cl7, cl8, cl9, cl10]
      refine a_goto dX11_lawful_27 (tgt := 31) (by decide) ?_
      exact a_iret dX11_lawful_31 rfl (by
  first
    | (simp only [mLaw, c10, c18, if_true, if_false] at hQ ⊢; exact hQ))
theorem l11_free {l : Launch} {G : GG} {h : AH} {Q : Option Value → AH → Prop} {nl np nq nt sm : Nat} (hW : WM h nl np nq nt sm) {x y : Int32} (k : Nat) (hk : k ≤ np) (hQ : Q (some (.int (fOG (h.1 3 2) nt x y np))) h) : AW l G 5 RX11 cX11_free 5 (some .int) 30 [some (.ref (G.1 3 0)), some (.int x), some (.int y), some (.int (fOG (h.1 3 2) nt x y k)), some (.int (nI k))] [] h Q := by
  obtain ⟨gnl, hl8, gnp, hp6, gnq, hq8, gnt, ht40, gsm, hsm10, gz, gT⟩ := id hW
  refine a_iload dX11_free_30 rfl ?_
  refine a_aload_n dX11_free_32 rfl ?_
  refine a_getR (ci := 11) (j := 11) dX11_free_33 rfl rfl (by decide) rfl fl_11_72 ?_
  refine a_iconst (v := 3) dX11_free_36 (by decide) ?_
  refine a_iaload dX11_free_37 rfl (by rw [vp_in_iff]; decide) ?_
  try simp (disch := first | decide | assumption | omega) only [ui_eq, ui_k, ui_j, ui_b, ui_2, ul_1, ul_eq, ul_k, ul_j, ul_b, cl3, gnp]
  refine a_icmp_ge dX11_free_38 (tgt := 82) (by decide) (fun c38 => ?_) (fun c38 => ?_)
  · have hge : np ≤ k := le_of_le c38 (by omega) (by omega)
    have hie : k = np := by omega
    subst hie
    refine a_iload_n dX11_free_82 rfl ?_
    exact a_iret dX11_free_83 rfl hQ
  · have hlt : k < np := lt_of_nle c38 (by omega) (by omega)
    refine a_aload_n dX11_free_41 rfl ?_
    refine a_iload dX11_free_42 rfl ?_
    refine a_bipush (v := 6) dX11_free_44 (by decide) ?_
    refine a_cV2i dX11_free_46 ml_11_167 wv_11_typed rfl rfl (by decide) (Nat.le_of_ble_eq_true rfl) (c11_typed (t := k) (w := 6) (by omega) (by decide) ⟨rfl, rfl⟩) ?_
    try simp (disch := first | decide | assumption | omega) only [ui_eq, ui_k, ui_j, ui_b, ui_2, ul_1, ul_eq, ul_k, ul_j, ul_b, cl3, gnp]
    refine a_iload_n dX11_free_49 rfl ?_
    refine a_cS2i dX11_free_50 ml_11_113 ws_11_has (by decide) (Nat.le_of_ble_eq_true rfl) (c11_has ⟨rfl, rfl⟩) ?_
    try simp (disch := first | decide | assumption | omega) only [ui_eq, ui_k, ui_j, ui_b, ui_2, ul_1, ul_eq, ul_k, ul_j, ul_b, cl3, gnp]
    refine a_if_eq dX11_free_53 (tgt := 76) (by decide) (fun c53 => ?_) (fun c53 => ?_)
    · refine a_inc (c := 1) dX11_free_76 rfl (by decide) (by decide) rfl ?_
      dsimp only [lset]
      refine a_goto dX11_free_79 (tgt := 30) (by decide) ?_
      rw [nI_1]
      have e := l11_free (l := l) (G := G) (x := x) (y := y) hW (k + 1) (by omega) hQ
      simp only [fOG, mY, c38, c53, if_true, if_false] at e ⊢
      exact e
    · refine a_iload_n dX11_free_56 rfl ?_
      refine a_aload_n dX11_free_57 rfl ?_
      refine a_iload dX11_free_58 rfl ?_
      refine a_iconst (v := 2) dX11_free_60 (by decide) ?_
      refine a_cV2i dX11_free_61 ml_11_167 wv_11_typed rfl rfl (by decide) (Nat.le_of_ble_eq_true rfl) (c11_typed (t := k) (w := 2) (by omega) (by decide) ⟨rfl, rfl⟩) ?_
      try simp (disch := first | decide | assumption | omega) only [ui_eq, ui_k, ui_j, ui_b, ui_2, ul_1, ul_eq, ul_k, ul_j, ul_b, cl3, gnp]
      refine a_icmp_lt dX11_free_64 (tgt := 76) (by decide) (fun c64 => ?_) (fun c64 => ?_)
      · refine a_inc (c := 1) dX11_free_76 rfl (by decide) (by decide) rfl ?_
        dsimp only [lset]
        refine a_goto dX11_free_79 (tgt := 30) (by decide) ?_
        rw [nI_1]
        have e := l11_free (l := l) (G := G) (x := x) (y := y) hW (k + 1) (by omega) hQ
        simp only [fOG, mY, c38, c53, c64, if_true, if_false] at e ⊢
        exact e
      · refine a_iload_n dX11_free_67 rfl ?_
        refine a_aload_n dX11_free_68 rfl ?_
        refine a_iload dX11_free_69 rfl ?_
        refine a_cV1i dX11_free_71 ml_11_192 wv_11_freeOf rfl rfl (by decide) (Nat.le_of_ble_eq_true rfl) (c11_freeOf gnt ht40 (by omega) (gz k hlt) ⟨rfl, rfl⟩) ?_
        try simp (disch := first | decide | assumption | omega) only [ui_eq, ui_k, ui_j, ui_b, ui_2, ul_1, ul_eq, ul_k, ul_j, ul_b, cl3, gnp]
        refine a_iadd dX11_free_74 ?_
        refine a_istore_n dX11_free_75 (by decide) rfl ?_
        dsimp only [lset]
        refine a_inc (c := 1) dX11_free_76 rfl (by decide) (by decide) rfl ?_
        dsimp only [lset]
        refine a_goto dX11_free_79 (tgt := 30) (by decide) ?_
        rw [nI_1]
        have e := l11_free (l := l) (G := G) (x := x) (y := y) hW (k + 1) (by omega) hQ
        simp only [fOG, mY, c38, c53, c64, if_true, if_false] at e ⊢
        exact e
termination_by np - k
decreasing_by all_goals omega
theorem c11_free {l : Launch} {G : GG} {h : AH} {Q : Option Value → AH → Prop} {nl np nq nt sm : Nat} (hW : WM h nl np nq nt sm) {x y : Int32} (hQ : Q (some (.int (mFreeA (h.1 3 2) nl np nt x y))) (ui h 3 0 0 0)) : Ct l G 5 yX11_free cX11_free 5 (some .int) [.ref (G.1 3 0), .int x, .int y] h Q := by
  refine Ct.of (by decide) (Nat.le_of_ble_eq_true rfl) ?_
  show AW l G 5 RX11 cX11_free 5 (some .int) 0 [some (.ref (G.1 3 0)), some (.int x), some (.int y)] [] h Q
  have hW0 := hW.th (v := 0)
  obtain ⟨hnl, hl8, hnp, hp6, hnq, hq8, hnt, ht40, hsm, hsm10, hz, hT⟩ := id hW0
  obtain ⟨gnl, -, gnp, -, gnq, -, gnt, -, gsm, -, gz, gT⟩ := id hW
  refine a_aload_n dX11_free_0 rfl ?_
  refine a_iconst (v := 0) dX11_free_1 (by decide) ?_
  refine a_putI (ci := 11) (j := 0) dX11_free_2 rfl rfl (by decide) (by decide) rfl fl_11_1 ?_
  refine a_aload_n dX11_free_5 rfl ?_
  refine a_iload_n dX11_free_6 rfl ?_
  refine a_cV1i dX11_free_7 ml_11_250 wv_11_isLand rfl rfl (by decide) (Nat.le_of_ble_eq_true rfl) (c11_isLand hnl (by omega) ⟨rfl, rfl⟩) ?_
  try simp (disch := first | decide | assumption | omega) only [ui_eq, ui_k, ui_j, ui_b, ui_2, ul_1, ul_eq, ul_k, ul_j, ul_b, N_k, gnl, gnp, gnq, gnt, gsm, cl0, cl1, cl2, cl3, cl4, cl5, cl6, cl7, cl8, cl9, cl10]
  refine a_if_eq dX11_free_10 (tgt := 23) (by decide) (fun c10 => ?_) (fun c10 => ?_)
  · refine a_iconst (v := (-1)) dX11_free_23 (by decide) ?_
    exact a_iret dX11_free_24 rfl (by
  first
    | (simp only [mFreeA, c10, if_true, if_false] at hQ ⊢; exact hQ))
  · refine a_iload_n dX11_free_13 rfl ?_
    refine a_iconst (v := 1) dX11_free_14 (by decide) ?_
    refine a_bipush (v := 6) dX11_free_15 (by decide) ?_
    refine a_cS3i dX11_free_17 ml_11_106 ws_11_isIn (by decide) (Nat.le_of_ble_eq_true rfl) (c11_isIn ⟨rfl, rfl⟩) ?_
    try simp (disch := first | decide | assumption | omega) only [ui_eq, ui_k, ui_j, ui_b, ui_2, ul_1, ul_eq, ul_k, ul_j, ul_b, N_k, gnl, gnp, gnq, gnt, gsm, cl0, cl1, cl2, cl3, cl4, cl5, cl6, cl7, cl8, cl9, cl10]
    refine a_if_ne dX11_free_20 (tgt := 25) (by decide) (fun c20 => ?_) (fun c20 => ?_)
    · refine a_iconst (v := 0) dX11_free_25 (by decide) ?_
      refine a_istore_n dX11_free_26 (by decide) rfl ?_
      dsimp only [lset]
      refine a_iconst (v := 0) dX11_free_27 (by decide) ?_
      refine a_istore dX11_free_28 (by decide) rfl ?_
      dsimp only [lset]
      refine l11_free hW0 0 (by omega) ?_
      rw [N_k (by decide)]
      simp only [mFreeA, c10, c20, if_true, if_false] at hQ
      exact hQ
    · refine a_iconst (v := (-1)) dX11_free_23 (by decide) ?_
      exact a_iret dX11_free_24 rfl (by
  first
    | (simp only [mFreeA, c10, c20, if_true, if_false] at hQ ⊢; exact hQ))
theorem l11_shN {l : Launch} {G : GG} {h : AH} {Q : Option Value → AH → Prop} {nl : Nat} (hnl : h.1 3 2 0 = nI nl) (hl8 : nl ≤ 8) {q k n : Nat} (hk : k < 6) {y best s : Int32} (a : Nat) (ha : a ≤ nl) (hE : AW l G 2 RX11 cX11_shortest 9 (some .int) 156 [some (.ref (G.1 3 0)), some (.int (nI q)), some (.int y), some (.int best), some (.int (nI k)), some (.int s), some (.int (nI n)), some (.int (mNx (h.1 3 2) (mY (h.1 3 2) k 6) s nl)), some (.int (nI nl))] [] h Q) : AW l G 2 RX11 cX11_shortest 9 (some .int) 105 [some (.ref (G.1 3 0)), some (.int (nI q)), some (.int y), some (.int best), some (.int (nI k)), some (.int s), some (.int (nI n)), some (.int (mNx (h.1 3 2) (mY (h.1 3 2) k 6) s a)), some (.int (nI a))] [] h Q := by
  have e1 : (103 : Int32) + nI a = nI (103 + a) := nI_add 103 a
  have e2 : (nI (103 + a)).toNatClampNeg = 103 + a := nI_clamp (by omega)
  refine a_iload dX11_shortest_105 rfl ?_
  refine a_aload_n dX11_shortest_107 rfl ?_
  refine a_getR (ci := 11) (j := 11) dX11_shortest_108 rfl rfl (by decide) rfl fl_11_72 ?_
  refine a_iconst (v := 0) dX11_shortest_111 (by decide) ?_
  refine a_iaload dX11_shortest_112 rfl (by rw [vp_in_iff]; decide) ?_
  try simp (disch := first | decide | assumption | omega) only [ui_eq, ui_k, ui_j, ui_b, ui_2, ul_1, ul_eq, ul_k, ul_j, ul_b, cl0, e1, e2, hnl]
  refine a_icmp_ge dX11_shortest_113 (tgt := 156) (by decide) (fun c113 => ?_) (fun c113 => ?_)
  · have hge : nl ≤ a := le_of_le c113 (by omega) (by omega)
    have hie : a = nl := by omega
    subst hie
    exact hE
  · have hlt : a < nl := lt_of_nle c113 (by omega) (by omega)
    refine a_iload dX11_shortest_116 rfl ?_
    refine a_iload dX11_shortest_118 rfl ?_
    refine a_cS2i dX11_shortest_120 ml_11_113 ws_11_has (by decide) (Nat.le_of_ble_eq_true rfl) (c11_has ⟨rfl, rfl⟩) ?_
    try simp (disch := first | decide | assumption | omega) only [ui_eq, ui_k, ui_j, ui_b, ui_2, ul_1, ul_eq, ul_k, ul_j, ul_b, cl0, e1, e2, hnl]
    refine a_if_eq dX11_shortest_123 (tgt := 150) (by decide) (fun c123 => ?_) (fun c123 => ?_)
    · refine a_inc (c := 1) dX11_shortest_150 rfl (by decide) (by decide) rfl ?_
      dsimp only [lset]
      refine a_goto dX11_shortest_153 (tgt := 105) (by decide) ?_
      rw [nI_1]
      have e := l11_shN (l := l) (G := G) hnl hl8 hk (a + 1) (by omega) hE
      simp only [mNx, c113, c123, if_true, if_false] at e
      exact e
    · refine a_iload dX11_shortest_126 rfl ?_
      refine a_aload_n dX11_shortest_128 rfl ?_
      refine a_getR (ci := 11) (j := 11) dX11_shortest_129 rfl rfl (by decide) rfl fl_11_72 ?_
      refine a_bipush (v := 103) dX11_shortest_132 (by decide) ?_
      refine a_iload dX11_shortest_134 rfl ?_
      refine a_iadd dX11_shortest_136 ?_
      refine a_iaload dX11_shortest_137 rfl (by (try rw [e1]); exact vp_in_nI (by omega) (by decide)) ?_
      try simp (disch := first | decide | assumption | omega) only [ui_eq, ui_k, ui_j, ui_b, ui_2, ul_1, ul_eq, ul_k, ul_j, ul_b, cl0, e1, e2, hnl]
      refine a_aload_n dX11_shortest_138 rfl ?_
      refine a_iload dX11_shortest_139 rfl ?_
      refine a_bipush (v := 6) dX11_shortest_141 (by decide) ?_
      refine a_cV2i dX11_shortest_143 ml_11_167 wv_11_typed rfl rfl (by decide) (Nat.le_of_ble_eq_true rfl) (c11_typed (t := k) (w := 6) (by omega) (by decide) ⟨rfl, rfl⟩) ?_
      try simp (disch := first | decide | assumption | omega) only [ui_eq, ui_k, ui_j, ui_b, ui_2, ul_1, ul_eq, ul_k, ul_j, ul_b, cl0, e1, e2, hnl]
      refine a_iand dX11_shortest_146 ?_
      refine a_ior dX11_shortest_147 ?_
      refine a_istore dX11_shortest_148 (by decide) rfl ?_
      dsimp only [lset]
      refine a_inc (c := 1) dX11_shortest_150 rfl (by decide) (by decide) rfl ?_
      dsimp only [lset]
      refine a_goto dX11_shortest_153 (tgt := 105) (by decide) ?_
      rw [nI_1]
      have e := l11_shN (l := l) (G := G) hnl hl8 hk (a + 1) (by omega) hE
      simp only [mNx, c113, c123, if_true, if_false] at e
      exact e
termination_by nl - a
decreasing_by all_goals omega
theorem l11_shL {l : Launch} {G : GG} {h : AH} {Q : Option Value → AH → Prop} {nl : Nat} (hnl : h.1 3 2 0 = nI nl) (hl8 : nl ≤ 8) {q k : Nat} (hk : k < 6) {y best s : Int32} (n : Nat) (hn : n ≤ 9) (hE : ∀ best2 s2 n2, best2 = mSh (h.1 3 2) nl y (mY (h.1 3 2) k 6) (9 - n) n s best → AW l G 2 RX11 cX11_shortest 9 (some .int) 190 [some (.ref (G.1 3 0)), some (.int (nI q)), some (.int y), some (.int best2), some (.int (nI k)), some (.int s2), some (.int (nI n2))] [] h Q) : AW l G 2 RX11 cX11_shortest 9 (some .int) 82 [some (.ref (G.1 3 0)), some (.int (nI q)), some (.int y), some (.int best), some (.int (nI k)), some (.int s), some (.int (nI n))] [] h Q := by
  refine a_iload dX11_shortest_82 rfl ?_
  refine a_bipush (v := 8) dX11_shortest_84 (by decide) ?_
  refine a_icmp_gt dX11_shortest_86 (tgt := 190) (by decide) (fun c86 => ?_) (fun c86 => ?_)
  · have hge : 8 < n := nI_ltD (a := 8) c86 (by decide) (by omega)
    rw [show 9 - n = 0 by omega] at hE
    first
      | exact hE _ _ _ rfl
      | (refine hE _ _ _ ?_; rw [mSh, if_neg c95])
  · have hlt : n ≤ 8 := Nat.le_of_not_lt (fun z => c86 (nI_ltU (a := 8) z (by omega)))
    rw [show 9 - n = (9 - (n + 1)) + 1 by omega] at hE
    refine a_iload dX11_shortest_89 rfl ?_
    refine a_iload_n dX11_shortest_91 rfl ?_
    refine a_cS2i dX11_shortest_92 ml_11_113 ws_11_has (by decide) (Nat.le_of_ble_eq_true rfl) (c11_has ⟨rfl, rfl⟩) ?_
    refine a_if_ne dX11_shortest_95 (tgt := 190) (by decide) (fun c95 => ?_) (fun c95 => ?_)
    · first
        | exact hE _ _ _ rfl
        | (refine hE _ _ _ ?_; rw [mSh, if_neg c95])
    · refine a_iload dX11_shortest_98 rfl ?_
      refine a_istore dX11_shortest_100 (by decide) rfl ?_
      dsimp only [lset]
      refine a_iconst (v := 0) dX11_shortest_102 (by decide) ?_
      refine a_istore dX11_shortest_103 (by decide) rfl ?_
      dsimp only [lset]
      refine l11_shN hnl hl8 hk 0 (by omega) ?_
      refine a_iload dX11_shortest_156 rfl ?_
      refine a_istore dX11_shortest_158 (by decide) rfl ?_
      dsimp only [lset]
      refine a_iload dX11_shortest_160 rfl ?_
      refine a_iload_n dX11_shortest_162 rfl ?_
      refine a_cS2i dX11_shortest_163 ml_11_113 ws_11_has (by decide) (Nat.le_of_ble_eq_true rfl) (c11_has ⟨rfl, rfl⟩) ?_
      refine a_if_eq dX11_shortest_166 (tgt := 184) (by decide) (fun c166 => ?_) (fun c166 => ?_)
      · refine a_inc (c := 1) dX11_shortest_184 rfl (by decide) (by decide) rfl ?_
        dsimp only [lset]
        refine a_goto dX11_shortest_187 (tgt := 82) (by decide) ?_
        refine a_take 7 ?_
        dsimp only [List.take]
        rw [nI_1]
        refine l11_shL hnl hl8 hk (n + 1) (by omega) (fun b2 s2 n2 e => hE b2 s2 n2 ?_)
        rw [e, mSh, if_pos (by assumption)]
        congr 1
        simp only [mBe, c86, c95, c166, if_true, if_false]
      · refine a_iload_n dX11_shortest_169 rfl ?_
        refine a_bipush (v := (-2)) dX11_shortest_170 (by decide) ?_
        refine a_icmp_eq dX11_shortest_172 (tgt := 181) (by decide) (fun c172 => ?_) (fun c172 => ?_)
        · refine a_iload dX11_shortest_181 rfl ?_
          refine a_istore_n dX11_shortest_183 (by decide) rfl ?_
          dsimp only [lset]
          refine a_inc (c := 1) dX11_shortest_184 rfl (by decide) (by decide) rfl ?_
          dsimp only [lset]
          refine a_goto dX11_shortest_187 (tgt := 82) (by decide) ?_
          refine a_take 7 ?_
          dsimp only [List.take]
          rw [nI_1]
          refine l11_shL hnl hl8 hk (n + 1) (by omega) (fun b2 s2 n2 e => hE b2 s2 n2 ?_)
          rw [e, mSh, if_pos (by assumption)]
          congr 1
          simp only [mBe, c86, c95, c166, c172, if_true, if_false]
        · refine a_iload dX11_shortest_175 rfl ?_
          refine a_iload_n dX11_shortest_177 rfl ?_
          refine a_icmp_ge dX11_shortest_178 (tgt := 184) (by decide) (fun c178 => ?_) (fun c178 => ?_)
          · refine a_inc (c := 1) dX11_shortest_184 rfl (by decide) (by decide) rfl ?_
            dsimp only [lset]
            refine a_goto dX11_shortest_187 (tgt := 82) (by decide) ?_
            refine a_take 7 ?_
            dsimp only [List.take]
            rw [nI_1]
            refine l11_shL hnl hl8 hk (n + 1) (by omega) (fun b2 s2 n2 e => hE b2 s2 n2 ?_)
            rw [e, mSh, if_pos (by assumption)]
            congr 1
            simp only [mBe, c86, c95, c166, c172, c178, if_true, if_false]
          · refine a_iload dX11_shortest_181 rfl ?_
            refine a_istore_n dX11_shortest_183 (by decide) rfl ?_
            dsimp only [lset]
            refine a_inc (c := 1) dX11_shortest_184 rfl (by decide) (by decide) rfl ?_
            dsimp only [lset]
            refine a_goto dX11_shortest_187 (tgt := 82) (by decide) ?_
            refine a_take 7 ?_
            dsimp only [List.take]
            rw [nI_1]
            refine l11_shL hnl hl8 hk (n + 1) (by omega) (fun b2 s2 n2 e => hE b2 s2 n2 ?_)
            rw [e, mSh, if_pos (by assumption)]
            congr 1
            simp only [mBe, c86, c95, c166, c172, c178, if_true, if_false]
termination_by 9 - n
decreasing_by all_goals omega
theorem l11_shO {l : Launch} {G : GG} {h : AH} {Q : Option Value → AH → Prop} {nl np nq nt sm : Nat} (hW : WM h nl np nq nt sm) {q : Nat} (hq : q < 8) {y : Int32} (k : Nat) (hk : k ≤ np) (hQ : Q (some (.int (mSO (h.1 3 2) nl q y np))) h) : AW l G 2 RX11 cX11_shortest 9 (some .int) 39 [some (.ref (G.1 3 0)), some (.int (nI q)), some (.int y), some (.int (mSO (h.1 3 2) nl q y k)), some (.int (nI k))] [] h Q := by
  obtain ⟨gnl, hl8, gnp, hp6, gnq, hq8, gnt, ht40, gsm, hsm10, gz, gT⟩ := id hW
  refine a_iload dX11_shortest_39 rfl ?_
  refine a_aload_n dX11_shortest_41 rfl ?_
  refine a_getR (ci := 11) (j := 11) dX11_shortest_42 rfl rfl (by decide) rfl fl_11_72 ?_
  refine a_iconst (v := 3) dX11_shortest_45 (by decide) ?_
  refine a_iaload dX11_shortest_46 rfl (by rw [vp_in_iff]; decide) ?_
  try simp (disch := first | decide | assumption | omega) only [ui_eq, ui_k, ui_j, ui_b, ui_2, ul_1, ul_eq, ul_k, ul_j, ul_b, cl3, gnp]
  refine a_icmp_ge dX11_shortest_47 (tgt := 196) (by decide) (fun c47 => ?_) (fun c47 => ?_)
  · have hge : np ≤ k := le_of_le c47 (by omega) (by omega)
    have hie : k = np := by omega
    subst hie
    refine a_iload_n dX11_shortest_196 rfl ?_
    exact a_iret dX11_shortest_197 rfl hQ
  · have hlt : k < np := lt_of_nle c47 (by omega) (by omega)
    refine a_aload_n dX11_shortest_50 rfl ?_
    refine a_iload dX11_shortest_51 rfl ?_
    refine a_iconst (v := 2) dX11_shortest_53 (by decide) ?_
    refine a_cV2i dX11_shortest_54 ml_11_167 wv_11_typed rfl rfl (by decide) (Nat.le_of_ble_eq_true rfl) (c11_typed (t := k) (w := 2) (by omega) (by decide) ⟨rfl, rfl⟩) ?_
    try simp (disch := first | decide | assumption | omega) only [ui_eq, ui_k, ui_j, ui_b, ui_2, ul_1, ul_eq, ul_k, ul_j, ul_b, cl3, gnp]
    refine a_aload_n dX11_shortest_57 rfl ?_
    refine a_iload_n dX11_shortest_58 rfl ?_
    refine a_iconst (v := 1) dX11_shortest_59 (by decide) ?_
    refine a_cV2i dX11_shortest_60 ml_11_176 wv_11_lorryOf rfl rfl (by decide) (Nat.le_of_ble_eq_true rfl) (c11_lorryOf (t := q) (w := 1) (by omega) (by decide) ⟨rfl, rfl⟩) ?_
    try simp (disch := first | decide | assumption | omega) only [ui_eq, ui_k, ui_j, ui_b, ui_2, ul_1, ul_eq, ul_k, ul_j, ul_b, cl3, gnp]
    refine a_icmp_le dX11_shortest_63 (tgt := 69) (by decide) (fun c63 => ?_) (fun c63 => ?_)
    · refine a_iconst (v := 1) dX11_shortest_69 (by decide) ?_
      refine a_aload_n dX11_shortest_70 rfl ?_
      refine a_iload_n dX11_shortest_71 rfl ?_
      refine a_iconst (v := 0) dX11_shortest_72 (by decide) ?_
      refine a_cV2i dX11_shortest_73 ml_11_176 wv_11_lorryOf rfl rfl (by decide) (Nat.le_of_ble_eq_true rfl) (c11_lorryOf (t := q) (w := 0) (by omega) (by decide) ⟨rfl, rfl⟩) ?_
      try simp (disch := first | decide | assumption | omega) only [ui_eq, ui_k, ui_j, ui_b, ui_2, ul_1, ul_eq, ul_k, ul_j, ul_b, cl3, gnp]
      refine a_ishl dX11_shortest_76 ?_
      refine a_istore dX11_shortest_77 (by decide) rfl ?_
      dsimp only [lset]
      refine a_iconst (v := 2) dX11_shortest_79 (by decide) ?_
      refine a_istore dX11_shortest_80 (by decide) rfl ?_
      dsimp only [lset]
      refine l11_shL (n := 2) gnl hl8 (show k < 6 by omega) (by omega) (fun b2 s2 n2 eb => ?_)
      subst eb
      refine a_inc (c := 1) dX11_shortest_190 rfl (by decide) (by decide) rfl ?_
      dsimp only [lset]
      refine a_goto dX11_shortest_193 (tgt := 39) (by decide) ?_
      (try refine a_take 5 ?_)
      dsimp only [List.take]
      rw [nI_1]
      have e := l11_shO (l := l) (G := G) (y := y) hW hq (k + 1) (by omega) hQ
      simp only [mSO, mY, mQ, c63, if_true, if_false] at e ⊢
      exact e
    · refine a_goto dX11_shortest_66 (tgt := 190) (by decide) ?_
      refine a_inc (c := 1) dX11_shortest_190 rfl (by decide) (by decide) rfl ?_
      dsimp only [lset]
      refine a_goto dX11_shortest_193 (tgt := 39) (by decide) ?_
      (try refine a_take 5 ?_)
      dsimp only [List.take]
      rw [nI_1]
      have e := l11_shO (l := l) (G := G) (y := y) hW hq (k + 1) (by omega) hQ
      simp only [mSO, mY, mQ, c63, if_true, if_false] at e ⊢
      exact e
termination_by np - k
decreasing_by all_goals omega
theorem c11_shortest {l : Launch} {G : GG} {h : AH} {Q : Option Value → AH → Prop} {nl np nq nt sm : Nat} (hW : WM h nl np nq nt sm) {x y : Int32} (hQ : Q (some (.int (mShort (h.1 3 2) nl np nq x y))) (ui h 3 0 0 0)) : Ct l G 2 yX11_shortest cX11_shortest 9 (some .int) [.ref (G.1 3 0), .int x, .int y] h Q := by
  refine Ct.of (by decide) (Nat.le_of_ble_eq_true rfl) ?_
  show AW l G 2 RX11 cX11_shortest 9 (some .int) 0 [some (.ref (G.1 3 0)), some (.int x), some (.int y)] [] h Q
  have hW0 := hW.th (v := 0)
  obtain ⟨hnl, hl8, hnp, hp6, hnq, hq8, hnt, ht40, hsm, hsm10, hz, hT⟩ := id hW0
  obtain ⟨gnl, -, gnp, -, gnq, -, gnt, -, gsm, -, gz, gT⟩ := id hW
  refine a_aload_n dX11_shortest_0 rfl ?_
  refine a_iconst (v := 0) dX11_shortest_1 (by decide) ?_
  refine a_putI (ci := 11) (j := 0) dX11_shortest_2 rfl rfl (by decide) (by decide) rfl fl_11_1 ?_
  refine a_aload_n dX11_shortest_5 rfl ?_
  refine a_iload_n dX11_shortest_6 rfl ?_
  refine a_cV1i dX11_shortest_7 ml_11_195 wv_11_isLorry rfl rfl (by decide) (Nat.le_of_ble_eq_true rfl) (c11_isLorry hnq (by omega) ⟨rfl, rfl⟩) ?_
  try simp (disch := first | decide | assumption | omega) only [ui_eq, ui_k, ui_j, ui_b, ui_2, ul_1, ul_eq, ul_k, ul_j, ul_b, N_k, gnl, gnp, gnq, gnt, gsm, cl0, cl1, cl2, cl3, cl4, cl5, cl6, cl7, cl8, cl9, cl10]
  refine a_if_eq dX11_shortest_10 (tgt := 31) (by decide) (fun c10 => ?_) (fun c10 => ?_)
  · refine a_iconst (v := (-1)) dX11_shortest_31 (by decide) ?_
    exact a_iret dX11_shortest_32 rfl (by
  first
    | (simp only [mShort, c10, if_true, if_false] at hQ ⊢; exact hQ)
    | (simp only [mShort, hqc, mQ, c10, if_true, if_false] at hQ ⊢; exact hQ))
  · refine a_aload_n dX11_shortest_13 rfl ?_
    refine a_iload_n dX11_shortest_14 rfl ?_
    refine a_cV1i dX11_shortest_15 ml_11_250 wv_11_isLand rfl rfl (by decide) (Nat.le_of_ble_eq_true rfl) (c11_isLand hnl (by omega) ⟨rfl, rfl⟩) ?_
    try simp (disch := first | decide | assumption | omega) only [ui_eq, ui_k, ui_j, ui_b, ui_2, ul_1, ul_eq, ul_k, ul_j, ul_b, N_k, gnl, gnp, gnq, gnt, gsm, cl0, cl1, cl2, cl3, cl4, cl5, cl6, cl7, cl8, cl9, cl10]
    refine a_if_eq dX11_shortest_18 (tgt := 31) (by decide) (fun c18 => ?_) (fun c18 => ?_)
    · refine a_iconst (v := (-1)) dX11_shortest_31 (by decide) ?_
      exact a_iret dX11_shortest_32 rfl (by
  first
    | (simp only [mShort, c10, c18, if_true, if_false] at hQ ⊢; exact hQ)
    | (simp only [mShort, hqc, mQ, c10, c18, if_true, if_false] at hQ ⊢; exact hQ))
    · obtain ⟨q, hq, rfl⟩ := hasI_of (by omega) c10
      have hqc : (nI q).toNatClampNeg = q := nI_clamp (by omega)
      refine a_aload_n dX11_shortest_21 rfl ?_
      refine a_iload_n dX11_shortest_22 rfl ?_
      refine a_iconst (v := 0) dX11_shortest_23 (by decide) ?_
      refine a_cV2i dX11_shortest_24 ml_11_176 wv_11_lorryOf rfl rfl (by decide) (Nat.le_of_ble_eq_true rfl) (c11_lorryOf (t := q) (w := 0) (by omega) (by decide) ⟨rfl, rfl⟩) ?_
      try simp (disch := first | decide | assumption | omega) only [ui_eq, ui_k, ui_j, ui_b, ui_2, ul_1, ul_eq, ul_k, ul_j, ul_b, N_k, gnl, gnp, gnq, gnt, gsm, cl0, cl1, cl2, cl3, cl4, cl5, cl6, cl7, cl8, cl9, cl10]
      refine a_iload_n dX11_shortest_27 rfl ?_
      refine a_icmp_ne dX11_shortest_28 (tgt := 33) (by decide) (fun c28 => ?_) (fun c28 => ?_)
      · refine a_bipush (v := (-2)) dX11_shortest_33 (by decide) ?_
        refine a_istore_n dX11_shortest_35 (by decide) rfl ?_
        dsimp only [lset]
        refine a_iconst (v := 0) dX11_shortest_36 (by decide) ?_
        refine a_istore dX11_shortest_37 (by decide) rfl ?_
        dsimp only [lset]
        refine l11_shO hW0 (by omega) 0 (by omega) ?_
        rw [N_k (by decide)]
        simp only [mShort, hqc, mQ, c10, c18, c28, if_true, if_false] at hQ
        exact hQ
      · refine a_iconst (v := (-1)) dX11_shortest_31 (by decide) ?_
        exact a_iret dX11_shortest_32 rfl (by
  first
    | (simp only [mShort, c10, c18, c28, if_true, if_false] at hQ ⊢; exact hQ)
    | (simp only [mShort, hqc, mQ, c10, c18, c28, if_true, if_false] at hQ ⊢; exact hQ))
