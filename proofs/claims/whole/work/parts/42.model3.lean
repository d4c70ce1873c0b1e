theorem hasI_of {n : Nat} {x : Int32} (hn : n < 1000) (h : ¬ hasI (nI n) x = 0) : ∃ k, k < n ∧ x = nI k := by
  obtain ⟨h1, h2⟩ := hasI_ne h
  obtain ⟨j, hj, rfl⟩ := nI_of h1
  exact ⟨j, lt_of_nle h2 hj (by omega), rfl⟩
theorem isIn_of {a b : Nat} {x : Int32} (ha : a < 1000) (hb : b < 1000) (h : ¬ isInF x (nI a) (nI b) = 0) : ∃ k, a ≤ k ∧ k ≤ b ∧ x = nI k := by
  unfold isInF at h
  split at h
  · exact absurd rfl h
  · split at h
    · exact absurd rfl h
    · rename_i h1 h2
      rw [Int32.lt_iff_toInt_lt, nI_toInt (by omega)] at h1 h2
      refine ⟨x.toInt.toNat, by omega, by omega, ?_⟩
      apply Int32.toInt_inj.mp
      rw [nI_toInt (by omega)]
      omega
theorem mY_th {N : Nat → Int32} : True := trivial
def mType (N : Nat → Int32) (np nt : Nat) (x y : Int32) : Int32 := if hasI (nI np) x = 0 then -1 else if isInF y 0 7 = 0 then -1 else if 7 ≤ y then mFree N nt x.toNatClampNeg else mY N x.toNatClampNeg y.toNatClampNeg
def mLedg (N : Nat → Int32) (np nt : Nat) (x y : Int32) : Int32 := if hasI (nI np) x = 0 then -1 else if isInF y 0 5 = 0 then -1 else if y = 0 then mIn N nt x.toNatClampNeg else if y = 1 then mOut N nt x.toNatClampNeg else mY N x.toNatClampNeg (7 + y.toNatClampNeg - 2)
def mTrip (N : Nat → Int32) (nt : Nat) (x y : Int32) : Int32 := if hasI (nI nt) x = 0 then -1 else if isInF y 10 (9 + mT N x.toNatClampNeg 1) = 0 then (if isInF y 0 6 = 0 then -1 else mT N x.toNatClampNeg y.toNatClampNeg) else mT N x.toNatClampNeg (7 + y.toNatClampNeg - 10)
def mFits (N : Nat → Int32) (np nt : Nat) (x y : Int32) : Int32 := if hasI (nI np) x = 0 then 0 else if hasI (nI nt) y = 0 then 0 else if fitM N x.toNatClampNeg y.toNatClampNeg = 0 then 0 else 1
def mLaw (N : Nat → Int32) (nl nq nt : Nat) (x y : Int32) : Int32 := if hasI (nI nq) x = 0 then -1 else if hasI (nI nl) y = 0 then -1 else whyF N nt x y
def mLor (h : AH) (nq nt : Nat) (x y : Int32) : Int32 × AH :=
  if hasI (nI nq) x = 0 then (0, ui (ui h 3 0 0 0) 3 0 0 1) else
  if y = 0 then (mQ (h.1 3 2) x.toNatClampNeg 0, ui h 3 0 0 0) else if y = 1 then (mQ (h.1 3 2) x.toNatClampNeg 1, ui h 3 0 0 0) else if y = 2 then (tOG (h.1 3 2) x nt 0, ui h 3 0 0 0) else if y = 3 then (mQ (h.1 3 2) x.toNatClampNeg 2, ui h 3 0 0 0) else if y = 4 then (dBG (h.1 3 2) x nt, ui h 3 0 0 0) else (0, ui (ui h 3 0 0 0) 3 0 0 1)
theorem c11_now {l : Launch} {G : GG} {h : AH} {Q : Option Value → AH → Prop} {nl np nq nt sm : Nat} (hW : WM h nl np nq nt sm) {x : Int32} (hQ : Q (some (.int (mNow h nq nt x))) (ui h 3 0 0 0)) : Ct l G 2 yX11_now cX11_now 2 (some .int) [.ref (G.1 3 0), .int x] h Q := by
  refine Ct.of (by decide) (Nat.le_of_ble_eq_true rfl) ?_
  show AW l G 2 RX11 cX11_now 2 (some .int) 0 [some (.ref (G.1 3 0)), some (.int x)] [] h Q
  have hW0 := hW.th (v := 0)
  obtain ⟨hnl, hl8, hnp, hp6, hnq, hq8, hnt, ht40, hsm, hsm10, hz, hT⟩ := id hW0
  obtain ⟨gnl, -, gnp, -, gnq, -, gnt, -, gsm, -, gz, gT⟩ := id hW
  refine a_aload_n dX11_now_0 rfl ?_
  refine a_iconst (v := 0) dX11_now_1 (by decide) ?_
  refine a_putI (ci := 11) (j := 0) dX11_now_2 rfl rfl (by decide) (by decide) rfl fl_11_1 ?_
  refine a_iload_n dX11_now_5 rfl ?_
  by_cases s6_0 : x = 0
  · rw [s6_0]
    refine a_tableIn dX11_now_6 (off := 58) (by decide) (by decide) (by decide) (tgt := 64) (by decide) ?_
    refine a_aload_n dX11_now_64 rfl ?_
    refine a_getR (ci := 11) (j := 11) dX11_now_65 rfl rfl (by decide) rfl fl_11_72 ?_
    refine a_bipush (v := 6) dX11_now_68 (by decide) ?_
    refine a_iaload dX11_now_70 rfl (by rw [vp_in_iff]; decide) ?_
    try simp (disch := first | decide | assumption | omega) only [ui_eq, ui_k, ui_j, ui_b, ui_2, ul_1, ul_eq, ul_k, ul_j, ul_b, N_k, gnl, gnp, gnq, gnt, gsm, cl0, cl1, cl2, cl3, cl4, cl5, cl6, cl7, cl8, cl9, cl10]
    exact a_iret dX11_now_71 rfl (by
  simp (disch := decide) only [mNow, N_k, ui_j, s6_0, if_true, if_false] at hQ ⊢
  first
    | exact hQ
    | (simp [mNow, s6_0] at hQ ⊢; exact hQ)
    | (simp (disch := decide) [gnl, gnp, gnq, gnt, gsm] at hQ ⊢; exact hQ))
  by_cases s6_1 : x = 1
  · rw [s6_1]
    refine a_tableIn dX11_now_6 (off := 66) (by decide) (by decide) (by decide) (tgt := 72) (by decide) ?_
    refine a_aload_n dX11_now_72 rfl ?_
    refine a_getR (ci := 11) (j := 11) dX11_now_73 rfl rfl (by decide) rfl fl_11_72 ?_
    refine a_iconst (v := 0) dX11_now_76 (by decide) ?_
    refine a_iaload dX11_now_77 rfl (by rw [vp_in_iff]; decide) ?_
    try simp (disch := first | decide | assumption | omega) only [ui_eq, ui_k, ui_j, ui_b, ui_2, ul_1, ul_eq, ul_k, ul_j, ul_b, N_k, gnl, gnp, gnq, gnt, gsm, cl0, cl1, cl2, cl3, cl4, cl5, cl6, cl7, cl8, cl9, cl10]
    exact a_iret dX11_now_78 rfl (by
  simp (disch := decide) only [mNow, N_k, ui_j, s6_1, if_true, if_false] at hQ ⊢
  first
    | exact hQ
    | (simp [mNow, s6_1] at hQ ⊢; exact hQ)
    | (simp (disch := decide) [gnl, gnp, gnq, gnt, gsm] at hQ ⊢; exact hQ))
  by_cases s6_2 : x = 2
  · rw [s6_2]
    refine a_tableIn dX11_now_6 (off := 73) (by decide) (by decide) (by decide) (tgt := 79) (by decide) ?_
    refine a_aload_n dX11_now_79 rfl ?_
    refine a_getR (ci := 11) (j := 11) dX11_now_80 rfl rfl (by decide) rfl fl_11_72 ?_
    refine a_iconst (v := 3) dX11_now_83 (by decide) ?_
    refine a_iaload dX11_now_84 rfl (by rw [vp_in_iff]; decide) ?_
    try simp (disch := first | decide | assumption | omega) only [ui_eq, ui_k, ui_j, ui_b, ui_2, ul_1, ul_eq, ul_k, ul_j, ul_b, N_k, gnl, gnp, gnq, gnt, gsm, cl0, cl1, cl2, cl3, cl4, cl5, cl6, cl7, cl8, cl9, cl10]
    exact a_iret dX11_now_85 rfl (by
  simp (disch := decide) only [mNow, N_k, ui_j, s6_2, if_true, if_false] at hQ ⊢
  first
    | exact hQ
    | (simp [mNow, s6_2] at hQ ⊢; exact hQ)
    | (simp (disch := decide) [gnl, gnp, gnq, gnt, gsm] at hQ ⊢; exact hQ))
  by_cases s6_3 : x = 3
  · rw [s6_3]
    refine a_tableIn dX11_now_6 (off := 80) (by decide) (by decide) (by decide) (tgt := 86) (by decide) ?_
    refine a_aload_n dX11_now_86 rfl ?_
    refine a_getR (ci := 11) (j := 11) dX11_now_87 rfl rfl (by decide) rfl fl_11_72 ?_
    refine a_iconst (v := 4) dX11_now_90 (by decide) ?_
    refine a_iaload dX11_now_91 rfl (by rw [vp_in_iff]; decide) ?_
    try simp (disch := first | decide | assumption | omega) only [ui_eq, ui_k, ui_j, ui_b, ui_2, ul_1, ul_eq, ul_k, ul_j, ul_b, N_k, gnl, gnp, gnq, gnt, gsm, cl0, cl1, cl2, cl3, cl4, cl5, cl6, cl7, cl8, cl9, cl10]
    exact a_iret dX11_now_92 rfl (by
  simp (disch := decide) only [mNow, N_k, ui_j, s6_3, if_true, if_false] at hQ ⊢
  first
    | exact hQ
    | (simp [mNow, s6_3] at hQ ⊢; exact hQ)
    | (simp (disch := decide) [gnl, gnp, gnq, gnt, gsm] at hQ ⊢; exact hQ))
  by_cases s6_4 : x = 4
  · rw [s6_4]
    refine a_tableIn dX11_now_6 (off := 87) (by decide) (by decide) (by decide) (tgt := 93) (by decide) ?_
    refine a_aload_n dX11_now_93 rfl ?_
    refine a_getR (ci := 11) (j := 11) dX11_now_94 rfl rfl (by decide) rfl fl_11_72 ?_
    refine a_iconst (v := 5) dX11_now_97 (by decide) ?_
    refine a_iaload dX11_now_98 rfl (by rw [vp_in_iff]; decide) ?_
    try simp (disch := first | decide | assumption | omega) only [ui_eq, ui_k, ui_j, ui_b, ui_2, ul_1, ul_eq, ul_k, ul_j, ul_b, N_k, gnl, gnp, gnq, gnt, gsm, cl0, cl1, cl2, cl3, cl4, cl5, cl6, cl7, cl8, cl9, cl10]
    exact a_iret dX11_now_99 rfl (by
  simp (disch := decide) only [mNow, N_k, ui_j, s6_4, if_true, if_false] at hQ ⊢
  first
    | exact hQ
    | (simp [mNow, s6_4] at hQ ⊢; exact hQ)
    | (simp (disch := decide) [gnl, gnp, gnq, gnt, gsm] at hQ ⊢; exact hQ))
  by_cases s6_5 : x = 5
  · rw [s6_5]
    refine a_tableIn dX11_now_6 (off := 94) (by decide) (by decide) (by decide) (tgt := 100) (by decide) ?_
    refine a_aload_n dX11_now_100 rfl ?_
    refine a_iconst (v := 0) dX11_now_101 (by decide) ?_
    refine a_cV1i dX11_now_102 ml_11_179 wv_11_having rfl rfl (by decide) (Nat.le_of_ble_eq_true rfl) (c11_having hnt ht40 ⟨rfl, rfl⟩) ?_
    try simp (disch := first | decide | assumption | omega) only [ui_eq, ui_k, ui_j, ui_b, ui_2, ul_1, ul_eq, ul_k, ul_j, ul_b, N_k, gnl, gnp, gnq, gnt, gsm, cl0, cl1, cl2, cl3, cl4, cl5, cl6, cl7, cl8, cl9, cl10]
    exact a_iret dX11_now_105 rfl (by
  simp (disch := decide) only [mNow, N_k, ui_j, s6_5, if_true, if_false] at hQ ⊢
  first
    | exact hQ
    | (simp [mNow, s6_5] at hQ ⊢; exact hQ)
    | (simp (disch := decide) [gnl, gnp, gnq, gnt, gsm] at hQ ⊢; exact hQ))
  by_cases s6_6 : x = 6
  · rw [s6_6]
    refine a_tableIn dX11_now_6 (off := 100) (by decide) (by decide) (by decide) (tgt := 106) (by decide) ?_
    refine a_aload_n dX11_now_106 rfl ?_
    refine a_iconst (v := 1) dX11_now_107 (by decide) ?_
    refine a_cV1i dX11_now_108 ml_11_179 wv_11_having rfl rfl (by decide) (Nat.le_of_ble_eq_true rfl) (c11_having hnt ht40 ⟨rfl, rfl⟩) ?_
    try simp (disch := first | decide | assumption | omega) only [ui_eq, ui_k, ui_j, ui_b, ui_2, ul_1, ul_eq, ul_k, ul_j, ul_b, N_k, gnl, gnp, gnq, gnt, gsm, cl0, cl1, cl2, cl3, cl4, cl5, cl6, cl7, cl8, cl9, cl10]
    exact a_iret dX11_now_111 rfl (by
  simp (disch := decide) only [mNow, N_k, ui_j, s6_6, if_true, if_false] at hQ ⊢
  first
    | exact hQ
    | (simp [mNow, s6_6] at hQ ⊢; exact hQ)
    | (simp (disch := decide) [gnl, gnp, gnq, gnt, gsm] at hQ ⊢; exact hQ))
  by_cases s6_7 : x = 7
  · rw [s6_7]
    refine a_tableIn dX11_now_6 (off := 106) (by decide) (by decide) (by decide) (tgt := 112) (by decide) ?_
    refine a_aload_n dX11_now_112 rfl ?_
    refine a_cV0i dX11_now_113 ml_11_182 wv_11_borders rfl rfl (by decide) (Nat.le_of_ble_eq_true rfl) (c11_borders ⟨rfl, rfl⟩) ?_
    try simp (disch := first | decide | assumption | omega) only [ui_eq, ui_k, ui_j, ui_b, ui_2, ul_1, ul_eq, ul_k, ul_j, ul_b, N_k, gnl, gnp, gnq, gnt, gsm, cl0, cl1, cl2, cl3, cl4, cl5, cl6, cl7, cl8, cl9, cl10]
    exact a_iret dX11_now_116 rfl (by
  simp (disch := decide) only [mNow, N_k, ui_j, s6_7, if_true, if_false] at hQ ⊢
  first
    | exact hQ
    | (simp [mNow, s6_7] at hQ ⊢; exact hQ)
    | (simp (disch := decide) [gnl, gnp, gnq, gnt, gsm] at hQ ⊢; exact hQ))
  by_cases s6_8 : x = 8
  · rw [s6_8]
    refine a_tableIn dX11_now_6 (off := 111) (by decide) (by decide) (by decide) (tgt := 117) (by decide) ?_
    refine a_aload_n dX11_now_117 rfl ?_
    refine a_cV0i dX11_now_118 ml_11_186 wv_11_misuses rfl rfl (by decide) (Nat.le_of_ble_eq_true rfl) (c11_misuses hnq hq8 ⟨rfl, rfl⟩) ?_
    try simp (disch := first | decide | assumption | omega) only [ui_eq, ui_k, ui_j, ui_b, ui_2, ul_1, ul_eq, ul_k, ul_j, ul_b, N_k, gnl, gnp, gnq, gnt, gsm, cl0, cl1, cl2, cl3, cl4, cl5, cl6, cl7, cl8, cl9, cl10]
    exact a_iret dX11_now_121 rfl (by
  simp (disch := decide) only [mNow, N_k, ui_j, s6_8, if_true, if_false] at hQ ⊢
  first
    | exact hQ
    | (simp [mNow, s6_8] at hQ ⊢; exact hQ)
    | (simp (disch := decide) [gnl, gnp, gnq, gnt, gsm] at hQ ⊢; exact hQ))
  by_cases s6_9 : x = 9
  · rw [s6_9]
    refine a_tableIn dX11_now_6 (off := 116) (by decide) (by decide) (by decide) (tgt := 122) (by decide) ?_
    refine a_aload_n dX11_now_122 rfl ?_
    refine a_getI (ci := 11) (j := 14) dX11_now_123 rfl rfl (by decide) rfl fl_11_157 ?_
    try simp (disch := first | decide | assumption | omega) only [ui_eq, ui_k, ui_j, ui_b, ui_2, ul_1, ul_eq, ul_k, ul_j, ul_b, N_k, gnl, gnp, gnq, gnt, gsm, cl0, cl1, cl2, cl3, cl4, cl5, cl6, cl7, cl8, cl9, cl10]
    exact a_iret dX11_now_126 rfl (by
  simp (disch := decide) only [mNow, N_k, ui_j, s6_9, if_true, if_false] at hQ ⊢
  first
    | exact hQ
    | (simp [mNow, s6_9] at hQ ⊢; exact hQ)
    | (simp (disch := decide) [gnl, gnp, gnq, gnt, gsm] at hQ ⊢; exact hQ))
  by_cases s6_10 : x = 10
  · rw [s6_10]
    refine a_tableIn dX11_now_6 (off := 121) (by decide) (by decide) (by decide) (tgt := 127) (by decide) ?_
    refine a_aload_n dX11_now_127 rfl ?_
    refine a_getI (ci := 11) (j := 2) dX11_now_128 rfl rfl (by decide) rfl fl_11_11 ?_
    try simp (disch := first | decide | assumption | omega) only [ui_eq, ui_k, ui_j, ui_b, ui_2, ul_1, ul_eq, ul_k, ul_j, ul_b, N_k, gnl, gnp, gnq, gnt, gsm, cl0, cl1, cl2, cl3, cl4, cl5, cl6, cl7, cl8, cl9, cl10]
    exact a_iret dX11_now_131 rfl (by
  simp (disch := decide) only [mNow, N_k, ui_j, s6_10, if_true, if_false] at hQ ⊢
  first
    | exact hQ
    | (simp [mNow, s6_10] at hQ ⊢; exact hQ)
    | (simp (disch := decide) [gnl, gnp, gnq, gnt, gsm] at hQ ⊢; exact hQ))
  refine a_tableOut dX11_now_6 (by have q0 := lv_neT (a := 0) s6_0 (by decide); have q1 := lv_neT (a := 1) s6_1 (by decide); have q2 := lv_neT (a := 2) s6_2 (by decide); have q3 := lv_neT (a := 3) s6_3 (by decide); have q4 := lv_neT (a := 4) s6_4 (by decide); have q5 := lv_neT (a := 5) s6_5 (by decide); have q6 := lv_neT (a := 6) s6_6 (by decide); have q7 := lv_neT (a := 7) s6_7 (by decide); have q8 := lv_neT (a := 8) s6_8 (by decide); have q9 := lv_neT (a := 9) s6_9 (by decide); have q10 := lv_neT (a := 10) s6_10 (by decide); omega) (tgt := 132) (by decide) ?_
  refine a_iconst (v := (-1)) dX11_now_132 (by decide) ?_
  exact a_iret dX11_now_133 rfl (by
  simp (disch := decide) only [mNow, N_k, ui_j, s6_0, s6_1, s6_2, s6_3, s6_4, s6_5, s6_6, s6_7, s6_8, s6_9, s6_10, if_true, if_false] at hQ ⊢
  first
    | exact hQ
    | (simp [mNow, s6_0, s6_1, s6_2, s6_3, s6_4, s6_5, s6_6, s6_7, s6_8, s6_9, s6_10] at hQ ⊢; exact hQ)
    | (simp (disch := decide) [gnl, gnp, gnq, gnt, gsm] at hQ ⊢; exact hQ))
theorem c11_type {l : Launch} {G : GG} {h : AH} {Q : Option Value → AH → Prop} {nl np nq nt sm : Nat} (hW : WM h nl np nq nt sm) {x y : Int32} (hQ : Q (some (.int (mType (h.1 3 2) np nt x y))) (ui h 3 0 0 0)) : Ct l G 5 yX11_type cX11_type 3 (some .int) [.ref (G.1 3 0), .int x, .int y] h Q := by
  refine Ct.of (by decide) (Nat.le_of_ble_eq_true rfl) ?_
  show AW l G 5 RX11 cX11_type 3 (some .int) 0 [some (.ref (G.1 3 0)), some (.int x), some (.int y)] [] h Q
  have hW0 := hW.th (v := 0)
  obtain ⟨hnl, hl8, hnp, hp6, hnq, hq8, hnt, ht40, hsm, hsm10, hz, hT⟩ := id hW0
  obtain ⟨gnl, -, gnp, -, gnq, -, gnt, -, gsm, -, gz, gT⟩ := id hW
  refine a_aload_n dX11_type_0 rfl ?_
  refine a_iconst (v := 0) dX11_type_1 (by decide) ?_
  refine a_putI (ci := 11) (j := 0) dX11_type_2 rfl rfl (by decide) (by decide) rfl fl_11_1 ?_
  refine a_aload_n dX11_type_5 rfl ?_
  refine a_iload_n dX11_type_6 rfl ?_
  refine a_cV1i dX11_type_7 ml_11_189 wv_11_isType rfl rfl (by decide) (Nat.le_of_ble_eq_true rfl) (c11_isType hnp (by omega) ⟨rfl, rfl⟩) ?_
  try simp (disch := first | decide | assumption | omega) only [ui_eq, ui_k, ui_j, ui_b, ui_2, ul_1, ul_eq, ul_k, ul_j, ul_b, N_k, gnl, gnp, gnq, gnt, gsm, cl0, cl1, cl2, cl3, cl4, cl5, cl6, cl7, cl8, cl9, cl10]
  refine a_if_eq dX11_type_10 (tgt := 23) (by decide) (fun c10 => ?_) (fun c10 => ?_)
  · refine a_iconst (v := (-1)) dX11_type_23 (by decide) ?_
    refine a_goto dX11_type_24 (tgt := 47) (by decide) ?_
    exact a_iret dX11_type_47 rfl (by
  first
    | (simp only [mType, hkc, hwc, mY, c10, if_true, if_false] at hQ ⊢; exact hQ)
    | (simp only [mType, c10, if_true, if_false] at hQ ⊢; exact hQ))
  · refine a_iload_n dX11_type_13 rfl ?_
    refine a_iconst (v := 0) dX11_type_14 (by decide) ?_
    refine a_bipush (v := 7) dX11_type_15 (by decide) ?_
    refine a_cS3i dX11_type_17 ml_11_106 ws_11_isIn (by decide) (Nat.le_of_ble_eq_true rfl) (c11_isIn ⟨rfl, rfl⟩) ?_
    try simp (disch := first | decide | assumption | omega) only [ui_eq, ui_k, ui_j, ui_b, ui_2, ul_1, ul_eq, ul_k, ul_j, ul_b, N_k, gnl, gnp, gnq, gnt, gsm, cl0, cl1, cl2, cl3, cl4, cl5, cl6, cl7, cl8, cl9, cl10]
    refine a_if_ne dX11_type_20 (tgt := 27) (by decide) (fun c20 => ?_) (fun c20 => ?_)
    · obtain ⟨k, hk, rfl⟩ := hasI_of (by omega) c10
      have hkc : (nI k).toNatClampNeg = k := nI_clamp (by omega)
      have hzk : ¬ mY ((ui h 3 0 0 0).1 3 2) k 1 = 0 := hz k hk
      obtain ⟨w, -, hw7, rfl⟩ := isIn_of (a := 0) (b := 7) (by decide) (by decide) c20
      have hwc : (nI w).toNatClampNeg = w := nI_clamp (by omega)
      refine a_iload_n dX11_type_27 rfl ?_
      refine a_bipush (v := 7) dX11_type_28 (by decide) ?_
      refine a_icmp_ge dX11_type_30 (tgt := 42) (by decide) (fun c30 => ?_) (fun c30 => ?_)
      · refine a_aload_n dX11_type_42 rfl ?_
        refine a_iload_n dX11_type_43 rfl ?_
        refine a_cV1i dX11_type_44 ml_11_192 wv_11_freeOf rfl rfl (by decide) (Nat.le_of_ble_eq_true rfl) (c11_freeOf hnt ht40 (by omega) hzk ⟨rfl, rfl⟩) ?_
        try simp (disch := first | decide | assumption | omega) only [ui_eq, ui_k, ui_j, ui_b, ui_2, ul_1, ul_eq, ul_k, ul_j, ul_b, N_k, gnl, gnp, gnq, gnt, gsm, cl0, cl1, cl2, cl3, cl4, cl5, cl6, cl7, cl8, cl9, cl10]
        exact a_iret dX11_type_47 rfl (by
  first
    | (simp only [mType, hkc, hwc, mY, c10, c20, c30, if_true, if_false] at hQ ⊢; exact hQ)
    | (simp only [mType, c10, c20, c30, if_true, if_false] at hQ ⊢; exact hQ))
      · have hlt : w < 7 := lt_of_nle (b := 7) c30 (by omega) (by decide)
        refine a_aload_n dX11_type_33 rfl ?_
        refine a_iload_n dX11_type_34 rfl ?_
        refine a_iload_n dX11_type_35 rfl ?_
        refine a_cV2i dX11_type_36 ml_11_167 wv_11_typed rfl rfl (by decide) (Nat.le_of_ble_eq_true rfl) (c11_typed (t := k) (w := w) (by omega) (by omega) ⟨rfl, rfl⟩) ?_
        try simp (disch := first | decide | assumption | omega) only [ui_eq, ui_k, ui_j, ui_b, ui_2, ul_1, ul_eq, ul_k, ul_j, ul_b, N_k, gnl, gnp, gnq, gnt, gsm, cl0, cl1, cl2, cl3, cl4, cl5, cl6, cl7, cl8, cl9, cl10]
        refine a_goto dX11_type_39 (tgt := 47) (by decide) ?_
        exact a_iret dX11_type_47 rfl (by
  first
    | (simp only [mType, hkc, hwc, mY, c10, c20, c30, if_true, if_false] at hQ ⊢; exact hQ)
    | (simp only [mType, c10, c20, c30, if_true, if_false] at hQ ⊢; exact hQ))
    · refine a_iconst (v := (-1)) dX11_type_23 (by decide) ?_
      refine a_goto dX11_type_24 (tgt := 47) (by decide) ?_
      exact a_iret dX11_type_47 rfl (by
  first
    | (simp only [mType, hkc, hwc, mY, c10, c20, if_true, if_false] at hQ ⊢; exact hQ)
    | (simp only [mType, c10, c20, if_true, if_false] at hQ ⊢; exact hQ))
theorem c11_ledger {l : Launch} {G : GG} {h : AH} {Q : Option Value → AH → Prop} {nl np nq nt sm : Nat} (hW : WM h nl np nq nt sm) {x y : Int32} (hQ : Q (some (.int (mLedg (h.1 3 2) np nt x y))) (ui h 3 0 0 0)) : Ct l G 4 yX11_ledger cX11_ledger 3 (some .int) [.ref (G.1 3 0), .int x, .int y] h Q := by
  refine Ct.of (by decide) (Nat.le_of_ble_eq_true rfl) ?_
  show AW l G 4 RX11 cX11_ledger 3 (some .int) 0 [some (.ref (G.1 3 0)), some (.int x), some (.int y)] [] h Q
  have hW0 := hW.th (v := 0)
  obtain ⟨hnl, hl8, hnp, hp6, hnq, hq8, hnt, ht40, hsm, hsm10, hz, hT⟩ := id hW0
  obtain ⟨gnl, -, gnp, -, gnq, -, gnt, -, gsm, -, gz, gT⟩ := id hW
  refine a_aload_n dX11_ledger_0 rfl ?_
  refine a_iconst (v := 0) dX11_ledger_1 (by decide) ?_
  refine a_putI (ci := 11) (j := 0) dX11_ledger_2 rfl rfl (by decide) (by decide) rfl fl_11_1 ?_
  refine a_aload_n dX11_ledger_5 rfl ?_
  refine a_iload_n dX11_ledger_6 rfl ?_
  refine a_cV1i dX11_ledger_7 ml_11_189 wv_11_isType rfl rfl (by decide) (Nat.le_of_ble_eq_true rfl) (c11_isType hnp (by omega) ⟨rfl, rfl⟩) ?_
  try simp (disch := first | decide | assumption | omega) only [ui_eq, ui_k, ui_j, ui_b, ui_2, ul_1, ul_eq, ul_k, ul_j, ul_b, N_k, gnl, gnp, gnq, gnt, gsm, cl0, cl1, cl2, cl3, cl4, cl5, cl6, cl7, cl8, cl9, cl10]
  refine a_if_eq dX11_ledger_10 (tgt := 22) (by decide) (fun c10 => ?_) (fun c10 => ?_)
  · refine a_iconst (v := (-1)) dX11_ledger_22 (by decide) ?_
    exact a_iret dX11_ledger_23 rfl (by
  first
    | (simp only [mLedg, hkc, hwc, c10, if_true, if_false] at hQ ⊢; exact hQ)
    | (simp only [mLedg, hkc, hwc, mY, c10, if_true, if_false] at hQ ⊢; exact hQ)
    | (simp only [mLedg, c10, if_true, if_false] at hQ ⊢; exact hQ))
  · refine a_iload_n dX11_ledger_13 rfl ?_
    refine a_iconst (v := 0) dX11_ledger_14 (by decide) ?_
    refine a_iconst (v := 5) dX11_ledger_15 (by decide) ?_
    refine a_cS3i dX11_ledger_16 ml_11_106 ws_11_isIn (by decide) (Nat.le_of_ble_eq_true rfl) (c11_isIn ⟨rfl, rfl⟩) ?_
    try simp (disch := first | decide | assumption | omega) only [ui_eq, ui_k, ui_j, ui_b, ui_2, ul_1, ul_eq, ul_k, ul_j, ul_b, N_k, gnl, gnp, gnq, gnt, gsm, cl0, cl1, cl2, cl3, cl4, cl5, cl6, cl7, cl8, cl9, cl10]
    refine a_if_ne dX11_ledger_19 (tgt := 24) (by decide) (fun c19 => ?_) (fun c19 => ?_)
    · obtain ⟨k, hk, rfl⟩ := hasI_of (by omega) c10
      have hkc : (nI k).toNatClampNeg = k := nI_clamp (by omega)
      have hzk : ¬ mY ((ui h 3 0 0 0).1 3 2) k 1 = 0 := hz k hk
      obtain ⟨w, -, hw7, rfl⟩ := isIn_of (a := 0) (b := 5) (by decide) (by decide) c19
      have hwc : (nI w).toNatClampNeg = w := nI_clamp (by omega)
      refine a_iload_n dX11_ledger_24 rfl ?_
      refine a_if_ne dX11_ledger_25 (tgt := 36) (by decide) (fun c25 => ?_) (fun c25 => ?_)
      · refine a_iload_n dX11_ledger_36 rfl ?_
        refine a_iconst (v := 1) dX11_ledger_37 (by decide) ?_
        refine a_icmp_ne dX11_ledger_38 (tgt := 49) (by decide) (fun c38 => ?_) (fun c38 => ?_)
        · have hw0 : w ≠ 0 := fun z => c25 (by rw [z]; rfl)
          have hw1 : w ≠ 1 := fun z => c38 (by rw [z]; rfl)
          have e72 : (7 : Int32) + nI w - 2 = nI (7 + w - 2) := by
            rw [show (7 : Int32) + nI w = nI (7 + w) from nI_add 7 w]
            exact pk_sub (a := 7 + w) (b := 2) (by omega)
          refine a_aload_n dX11_ledger_49 rfl ?_
          refine a_iload_n dX11_ledger_50 rfl ?_
          refine a_bipush (v := 7) dX11_ledger_51 (by decide) ?_
          refine a_iload_n dX11_ledger_53 rfl ?_
          refine a_iadd dX11_ledger_54 ?_
          refine a_iconst (v := 2) dX11_ledger_55 (by decide) ?_
          refine a_isub dX11_ledger_56 ?_
          rw [e72]
          refine a_cV2i dX11_ledger_57 ml_11_167 wv_11_typed rfl rfl (by decide) (Nat.le_of_ble_eq_true rfl) (c11_typed (t := k) (w := 7 + w - 2) (by omega) (by omega) ⟨rfl, rfl⟩) ?_
          try simp (disch := first | decide | assumption | omega) only [ui_eq, ui_k, ui_j, ui_b, ui_2, ul_1, ul_eq, ul_k, ul_j, ul_b, N_k, gnl, gnp, gnq, gnt, gsm, cl0, cl1, cl2, cl3, cl4, cl5, cl6, cl7, cl8, cl9, cl10]
          exact a_iret dX11_ledger_60 rfl (by
  first
    | (simp only [mLedg, hkc, hwc, c10, c19, c25, c38, if_true, if_false] at hQ ⊢; exact hQ)
    | (simp only [mLedg, hkc, hwc, mY, c10, c19, c25, c38, if_true, if_false] at hQ ⊢; exact hQ)
    | (simp only [mLedg, c10, c19, c25, c38, if_true, if_false] at hQ ⊢; exact hQ))
        · refine a_aload_n dX11_ledger_41 rfl ?_
          refine a_iload_n dX11_ledger_42 rfl ?_
          refine a_cV1i dX11_ledger_43 ml_11_170 wv_11_piecesOut rfl rfl (by decide) (Nat.le_of_ble_eq_true rfl) (c11_piecesOut hnt ht40 (by omega) hzk ⟨rfl, rfl⟩) ?_
          try simp (disch := first | decide | assumption | omega) only [ui_eq, ui_k, ui_j, ui_b, ui_2, ul_1, ul_eq, ul_k, ul_j, ul_b, N_k, gnl, gnp, gnq, gnt, gsm, cl0, cl1, cl2, cl3, cl4, cl5, cl6, cl7, cl8, cl9, cl10]
          refine a_goto dX11_ledger_46 (tgt := 60) (by decide) ?_
          exact a_iret dX11_ledger_60 rfl (by
  first
    | (simp only [mLedg, hkc, hwc, c10, c19, c25, c38, if_true, if_false] at hQ ⊢; exact hQ)
    | (simp only [mLedg, hkc, hwc, mY, c10, c19, c25, c38, if_true, if_false] at hQ ⊢; exact hQ)
    | (simp only [mLedg, c10, c19, c25, c38, if_true, if_false] at hQ ⊢; exact hQ))
      · refine a_aload_n dX11_ledger_28 rfl ?_
        refine a_iload_n dX11_ledger_29 rfl ?_
        refine a_cV1i dX11_ledger_30 ml_11_173 wv_11_piecesIn rfl rfl (by decide) (Nat.le_of_ble_eq_true rfl) (c11_piecesIn hnt ht40 (by omega) hzk ⟨rfl, rfl⟩) ?_
        try simp (disch := first | decide | assumption | omega) only [ui_eq, ui_k, ui_j, ui_b, ui_2, ul_1, ul_eq, ul_k, ul_j, ul_b, N_k, gnl, gnp, gnq, gnt, gsm, cl0, cl1, cl2, cl3, cl4, cl5, cl6, cl7, cl8, cl9, cl10]
        refine a_goto dX11_ledger_33 (tgt := 60) (by decide) ?_
        exact a_iret dX11_ledger_60 rfl (by
  first
    | (simp only [mLedg, hkc, hwc, c10, c19, c25, if_true, if_false] at hQ ⊢; exact hQ)
    | (simp only [mLedg, hkc, hwc, mY, c10, c19, c25, if_true, if_false] at hQ ⊢; exact hQ)
    | (simp only [mLedg, c10, c19, c25, if_true, if_false] at hQ ⊢; exact hQ))
    · refine a_iconst (v := (-1)) dX11_ledger_22 (by decide) ?_
      exact a_iret dX11_ledger_23 rfl (by
  first
    | (simp only [mLedg, hkc, hwc, c10, c19, if_true, if_false] at hQ ⊢; exact hQ)
    | (simp only [mLedg, hkc, hwc, mY, c10, c19, if_true, if_false] at hQ ⊢; exact hQ)
    | (simp only [mLedg, c10, c19, if_true, if_false] at hQ ⊢; exact hQ))
theorem c11_lorry {l : Launch} {G : GG} {h : AH} {Q : Option Value → AH → Prop} {nl np nq nt sm : Nat} (hW : WM h nl np nq nt sm) {x y : Int32} (hQ : Q (some (.int (mLor h nq nt x y).1)) (mLor h nq nt x y).2) : Ct l G 2 yX11_lorry cX11_lorry 3 (some .int) [.ref (G.1 3 0), .int x, .int y] h Q := by
  refine Ct.of (by decide) (Nat.le_of_ble_eq_true rfl) ?_
  show AW l G 2 RX11 cX11_lorry 3 (some .int) 0 [some (.ref (G.1 3 0)), some (.int x), some (.int y)] [] h Q
  have hW0 := hW.th (v := 0)
  obtain ⟨hnl, hl8, hnp, hp6, hnq, hq8, hnt, ht40, hsm, hsm10, hz, hT⟩ := id hW0
  obtain ⟨gnl, -, gnp, -, gnq, -, gnt, -, gsm, -, gz, gT⟩ := id hW
  refine a_aload_n dX11_lorry_0 rfl ?_
  refine a_iconst (v := 0) dX11_lorry_1 (by decide) ?_
  refine a_putI (ci := 11) (j := 0) dX11_lorry_2 rfl rfl (by decide) (by decide) rfl fl_11_1 ?_
  refine a_aload_n dX11_lorry_5 rfl ?_
  refine a_iload_n dX11_lorry_6 rfl ?_
  refine a_cV1i dX11_lorry_7 ml_11_195 wv_11_isLorry rfl rfl (by decide) (Nat.le_of_ble_eq_true rfl) (c11_isLorry hnq (by omega) ⟨rfl, rfl⟩) ?_
  try simp (disch := first | decide | assumption | omega) only [ui_eq, ui_k, ui_j, ui_b, ui_2, ul_1, ul_eq, ul_k, ul_j, ul_b, N_k, gnl, gnp, gnq, gnt, gsm, cl0, cl1, cl2, cl3, cl4, cl5, cl6, cl7, cl8, cl9, cl10]
  refine a_if_ne dX11_lorry_10 (tgt := 18) (by decide) (fun c10 => ?_) (fun c10 => ?_)
  · obtain ⟨q, hq, rfl⟩ := hasI_of (by omega) c10
    have hqc : (nI q).toNatClampNeg = q := nI_clamp (by omega)
    refine a_iload_n dX11_lorry_18 rfl ?_
    by_cases s19_0 : y = 0
    · rw [s19_0]
      refine a_tableIn dX11_lorry_19 (off := 33) (by decide) (by decide) (by decide) (tgt := 52) (by decide) ?_
      refine a_aload_n dX11_lorry_52 rfl ?_
      refine a_iload_n dX11_lorry_53 rfl ?_
      refine a_iload_n dX11_lorry_54 rfl ?_
      refine a_cV2i dX11_lorry_55 ml_11_176 wv_11_lorryOf rfl rfl (by decide) (Nat.le_of_ble_eq_true rfl) (c11_lorryOf (t := q) (w := 0) (by omega) (by decide) ⟨rfl, rfl⟩) ?_
      try simp (disch := first | decide | assumption | omega) only [ui_eq, ui_k, ui_j, ui_b, ui_2, ul_1, ul_eq, ul_k, ul_j, ul_b, N_k, gnl, gnp, gnq, gnt, gsm, cl0, cl1, cl2, cl3, cl4, cl5, cl6, cl7, cl8, cl9, cl10]
      exact a_iret dX11_lorry_58 rfl (by
  first
    | (simp only [mLor, hqc, mQ, c10, s19_0, if_true, if_false] at hQ ⊢; exact hQ)
    | (simp only [mLor, c10, s19_0, if_true, if_false] at hQ ⊢; exact hQ)
    | (simp [mLor, hqc, mQ, c10, s19_0] at hQ ⊢; exact hQ))
    by_cases s19_1 : y = 1
    · rw [s19_1]
      refine a_tableIn dX11_lorry_19 (off := 33) (by decide) (by decide) (by decide) (tgt := 52) (by decide) ?_
      refine a_aload_n dX11_lorry_52 rfl ?_
      refine a_iload_n dX11_lorry_53 rfl ?_
      refine a_iload_n dX11_lorry_54 rfl ?_
      refine a_cV2i dX11_lorry_55 ml_11_176 wv_11_lorryOf rfl rfl (by decide) (Nat.le_of_ble_eq_true rfl) (c11_lorryOf (t := q) (w := 1) (by omega) (by decide) ⟨rfl, rfl⟩) ?_
      try simp (disch := first | decide | assumption | omega) only [ui_eq, ui_k, ui_j, ui_b, ui_2, ul_1, ul_eq, ul_k, ul_j, ul_b, N_k, gnl, gnp, gnq, gnt, gsm, cl0, cl1, cl2, cl3, cl4, cl5, cl6, cl7, cl8, cl9, cl10]
      exact a_iret dX11_lorry_58 rfl (by
  first
    | (simp only [mLor, hqc, mQ, c10, s19_1, if_true, if_false] at hQ ⊢; exact hQ)
    | (simp only [mLor, c10, s19_1, if_true, if_false] at hQ ⊢; exact hQ)
    | (simp [mLor, hqc, mQ, c10, s19_1] at hQ ⊢; exact hQ))
    by_cases s19_2 : y = 2
    · rw [s19_2]
      refine a_tableIn dX11_lorry_19 (off := 40) (by decide) (by decide) (by decide) (tgt := 59) (by decide) ?_
      refine a_aload_n dX11_lorry_59 rfl ?_
      refine a_iload_n dX11_lorry_60 rfl ?_
      refine a_cV1i dX11_lorry_61 ml_11_201 wv_11_tripOf rfl rfl (by decide) (Nat.le_of_ble_eq_true rfl) (c11_tripOf hnt ht40 ⟨rfl, rfl⟩) ?_
      try simp (disch := first | decide | assumption | omega) only [ui_eq, ui_k, ui_j, ui_b, ui_2, ul_1, ul_eq, ul_k, ul_j, ul_b, N_k, gnl, gnp, gnq, gnt, gsm, cl0, cl1, cl2, cl3, cl4, cl5, cl6, cl7, cl8, cl9, cl10]
      exact a_iret dX11_lorry_64 rfl (by
  first
    | (simp only [mLor, hqc, mQ, c10, s19_2, if_true, if_false] at hQ ⊢; exact hQ)
    | (simp only [mLor, c10, s19_2, if_true, if_false] at hQ ⊢; exact hQ)
    | (simp [mLor, hqc, mQ, c10, s19_2] at hQ ⊢; exact hQ))
    by_cases s19_3 : y = 3
    · rw [s19_3]
      refine a_tableIn dX11_lorry_19 (off := 46) (by decide) (by decide) (by decide) (tgt := 65) (by decide) ?_
      refine a_aload_n dX11_lorry_65 rfl ?_
      refine a_iload_n dX11_lorry_66 rfl ?_
      refine a_iconst (v := 2) dX11_lorry_67 (by decide) ?_
      refine a_cV2i dX11_lorry_68 ml_11_176 wv_11_lorryOf rfl rfl (by decide) (Nat.le_of_ble_eq_true rfl) (c11_lorryOf (t := q) (w := 2) (by omega) (by decide) ⟨rfl, rfl⟩) ?_
      try simp (disch := first | decide | assumption | omega) only [ui_eq, ui_k, ui_j, ui_b, ui_2, ul_1, ul_eq, ul_k, ul_j, ul_b, N_k, gnl, gnp, gnq, gnt, gsm, cl0, cl1, cl2, cl3, cl4, cl5, cl6, cl7, cl8, cl9, cl10]
      exact a_iret dX11_lorry_71 rfl (by
  first
    | (simp only [mLor, hqc, mQ, c10, s19_3, if_true, if_false] at hQ ⊢; exact hQ)
    | (simp only [mLor, c10, s19_3, if_true, if_false] at hQ ⊢; exact hQ)
    | (simp [mLor, hqc, mQ, c10, s19_3] at hQ ⊢; exact hQ))
    by_cases s19_4 : y = 4
    · rw [s19_4]
      refine a_tableIn dX11_lorry_19 (off := 53) (by decide) (by decide) (by decide) (tgt := 72) (by decide) ?_
      refine a_aload_n dX11_lorry_72 rfl ?_
      refine a_iload_n dX11_lorry_73 rfl ?_
      refine a_cV1i dX11_lorry_74 ml_11_204 wv_11_doneBy rfl rfl (by decide) (Nat.le_of_ble_eq_true rfl) (c11_doneBy hnt ht40 ⟨rfl, rfl⟩) ?_
      try simp (disch := first | decide | assumption | omega) only [ui_eq, ui_k, ui_j, ui_b, ui_2, ul_1, ul_eq, ul_k, ul_j, ul_b, N_k, gnl, gnp, gnq, gnt, gsm, cl0, cl1, cl2, cl3, cl4, cl5, cl6, cl7, cl8, cl9, cl10]
      exact a_iret dX11_lorry_77 rfl (by
  first
    | (simp only [mLor, hqc, mQ, c10, s19_4, if_true, if_false] at hQ ⊢; exact hQ)
    | (simp only [mLor, c10, s19_4, if_true, if_false] at hQ ⊢; exact hQ)
    | (simp [mLor, hqc, mQ, c10, s19_4] at hQ ⊢; exact hQ))
    refine a_tableOut dX11_lorry_19 (by have q0 := lv_neT (a := 0) s19_0 (by decide); have q1 := lv_neT (a := 1) s19_1 (by decide); have q2 := lv_neT (a := 2) s19_2 (by decide); have q3 := lv_neT (a := 3) s19_3 (by decide); have q4 := lv_neT (a := 4) s19_4 (by decide); omega) (tgt := 78) (by decide) ?_
    refine a_aload_n dX11_lorry_78 rfl ?_
    refine a_cV0i dX11_lorry_79 ml_11_198 wv_11_refuse rfl rfl (by decide) (Nat.le_of_ble_eq_true rfl) (c11_refuse ⟨rfl, rfl⟩) ?_
    try simp (disch := first | decide | assumption | omega) only [ui_eq, ui_k, ui_j, ui_b, ui_2, ul_1, ul_eq, ul_k, ul_j, ul_b, N_k, gnl, gnp, gnq, gnt, gsm, cl0, cl1, cl2, cl3, cl4, cl5, cl6, cl7, cl8, cl9, cl10]
    exact a_iret dX11_lorry_82 rfl (by
  first
    | (simp only [mLor, hqc, mQ, c10, s19_0, s19_1, s19_2, s19_3, s19_4, if_true, if_false] at hQ ⊢; exact hQ)
    | (simp only [mLor, c10, s19_0, s19_1, s19_2, s19_3, s19_4, if_true, if_false] at hQ ⊢; exact hQ)
    | (simp [mLor, hqc, mQ, c10, s19_0, s19_1, s19_2, s19_3, s19_4] at hQ ⊢; exact hQ))
  · refine a_aload_n dX11_lorry_13 rfl ?_
    refine a_cV0i dX11_lorry_14 ml_11_198 wv_11_refuse rfl rfl (by decide) (Nat.le_of_ble_eq_true rfl) (c11_refuse ⟨rfl, rfl⟩) ?_
    try simp (disch := first | decide | assumption | omega) only [ui_eq, ui_k, ui_j, ui_b, ui_2, ul_1, ul_eq, ul_k, ul_j, ul_b, N_k, gnl, gnp, gnq, gnt, gsm, cl0, cl1, cl2, cl3, cl4, cl5, cl6, cl7, cl8, cl9, cl10]
    exact a_iret dX11_lorry_17 rfl (by
  first
    | (simp only [mLor, hqc, mQ, c10, if_true, if_false] at hQ ⊢; exact hQ)
    | (simp only [mLor, c10, if_true, if_false] at hQ ⊢; exact hQ)
    | (simp [mLor, hqc, mQ, c10] at hQ ⊢; exact hQ))
theorem c11_trip {l : Launch} {G : GG} {h : AH} {Q : Option Value → AH → Prop} {nl np nq nt sm : Nat} (hW : WM h nl np nq nt sm) {x y : Int32} (hQ : Q (some (.int (mTrip (h.1 3 2) nt x y))) (ui h 3 0 0 0)) : Ct l G 2 yX11_trip cX11_trip 3 (some .int) [.ref (G.1 3 0), .int x, .int y] h Q := by
  refine Ct.of (by decide) (Nat.le_of_ble_eq_true rfl) ?_
  show AW l G 2 RX11 cX11_trip 3 (some .int) 0 [some (.ref (G.1 3 0)), some (.int x), some (.int y)] [] h Q
  have hW0 := hW.th (v := 0)
  obtain ⟨hnl, hl8, hnp, hp6, hnq, hq8, hnt, ht40, hsm, hsm10, hz, hT⟩ := id hW0
  obtain ⟨gnl, -, gnp, -, gnq, -, gnt, -, gsm, -, gz, gT⟩ := id hW
  have hmm : (0 : Nat) = 0 := rfl
  refine a_aload_n dX11_trip_0 rfl ?_
  refine a_iconst (v := 0) dX11_trip_1 (by decide) ?_
  refine a_putI (ci := 11) (j := 0) dX11_trip_2 rfl rfl (by decide) (by decide) rfl fl_11_1 ?_
  refine a_aload_n dX11_trip_5 rfl ?_
  refine a_iload_n dX11_trip_6 rfl ?_
  refine a_cV1i dX11_trip_7 ml_11_207 wv_11_isTrip rfl rfl (by decide) (Nat.le_of_ble_eq_true rfl) (c11_isTrip hnt (by omega) ⟨rfl, rfl⟩) ?_
  try simp (disch := first | decide | assumption | omega) only [ui_eq, ui_k, ui_j, ui_b, ui_2, ul_1, ul_eq, ul_k, ul_j, ul_b, N_k, gnl, gnp, gnq, gnt, gsm, cl0, cl1, cl2, cl3, cl4, cl5, cl6, cl7, cl8, cl9, cl10, hmm]
  refine a_if_ne dX11_trip_10 (tgt := 15) (by decide) (fun c10 => ?_) (fun c10 => ?_)
  · obtain ⟨t, ht, rfl⟩ := hasI_of (by omega) c10
    have htc : (nI t).toNatClampNeg = t := nI_clamp (by omega)
    obtain ⟨⟨q, hq8b, hq⟩, ⟨m, hm6, hm⟩, -⟩ := gT t ht
    have hm2 : h.1 3 2 (111 + 13 * t + 1) = nI m := hm
    have e9 : (9 : Int32) + nI m = nI (9 + m) := nI_add 9 m
    have hmm := hm2
    refine a_iload_n dX11_trip_15 rfl ?_
    refine a_bipush (v := 10) dX11_trip_16 (by decide) ?_
    refine a_bipush (v := 9) dX11_trip_18 (by decide) ?_
    refine a_aload_n dX11_trip_20 rfl ?_
    refine a_iload_n dX11_trip_21 rfl ?_
    refine a_iconst (v := 1) dX11_trip_22 (by decide) ?_
    refine a_cV2i dX11_trip_23 ml_11_160 wv_11_its rfl rfl (by decide) (Nat.le_of_ble_eq_true rfl) (c11_its (t := t) (w := 1) (by omega) (by decide) ⟨rfl, rfl⟩) ?_
    try simp (disch := first | decide | assumption | omega) only [ui_eq, ui_k, ui_j, ui_b, ui_2, ul_1, ul_eq, ul_k, ul_j, ul_b, N_k, gnl, gnp, gnq, gnt, gsm, cl0, cl1, cl2, cl3, cl4, cl5, cl6, cl7, cl8, cl9, cl10, hmm]
    refine a_iadd dX11_trip_26 ?_
    rw [e9]
    refine a_cS3i dX11_trip_27 ml_11_106 ws_11_isIn (by decide) (Nat.le_of_ble_eq_true rfl) (c11_isIn ⟨rfl, rfl⟩) ?_
    try simp (disch := first | decide | assumption | omega) only [ui_eq, ui_k, ui_j, ui_b, ui_2, ul_1, ul_eq, ul_k, ul_j, ul_b, N_k, gnl, gnp, gnq, gnt, gsm, cl0, cl1, cl2, cl3, cl4, cl5, cl6, cl7, cl8, cl9, cl10, hmm]
    refine a_if_eq dX11_trip_30 (tgt := 46) (by decide) (fun c30 => ?_) (fun c30 => ?_)
    · refine a_iload_n dX11_trip_46 rfl ?_
      refine a_iconst (v := 0) dX11_trip_47 (by decide) ?_
      refine a_bipush (v := 6) dX11_trip_48 (by decide) ?_
      refine a_cS3i dX11_trip_50 ml_11_106 ws_11_isIn (by decide) (Nat.le_of_ble_eq_true rfl) (c11_isIn ⟨rfl, rfl⟩) ?_
      try simp (disch := first | decide | assumption | omega) only [ui_eq, ui_k, ui_j, ui_b, ui_2, ul_1, ul_eq, ul_k, ul_j, ul_b, N_k, gnl, gnp, gnq, gnt, gsm, cl0, cl1, cl2, cl3, cl4, cl5, cl6, cl7, cl8, cl9, cl10, hmm]
      refine a_if_eq dX11_trip_53 (tgt := 65) (by decide) (fun c53 => ?_) (fun c53 => ?_)
      · refine a_iconst (v := (-1)) dX11_trip_65 (by decide) ?_
        exact a_iret dX11_trip_66 rfl (by
  first
    | (simp only [mTrip, c10, c30, c53, if_true, if_false] at hQ ⊢; exact hQ)
    | (rw [mTrip, if_neg c10, htc, hm, e9] at hQ; simp only [hwc, mT, c10, c30, c53, if_true, if_false] at hQ ⊢; exact hQ)
    | (rw [mTrip, if_neg c10, htc, hm, e9] at hQ; simp only [c10, c30, c53, if_true, if_false] at hQ ⊢; exact hQ))
      · obtain ⟨w, -, hw6, rfl⟩ := isIn_of (a := 0) (b := 6) (by decide) (by decide) c53
        have hwc : (nI w).toNatClampNeg = w := nI_clamp (by omega)
        refine a_aload_n dX11_trip_56 rfl ?_
        refine a_iload_n dX11_trip_57 rfl ?_
        refine a_iload_n dX11_trip_58 rfl ?_
        refine a_cV2i dX11_trip_59 ml_11_160 wv_11_its rfl rfl (by decide) (Nat.le_of_ble_eq_true rfl) (c11_its (t := t) (w := w) (by omega) (by omega) ⟨rfl, rfl⟩) ?_
        try simp (disch := first | decide | assumption | omega) only [ui_eq, ui_k, ui_j, ui_b, ui_2, ul_1, ul_eq, ul_k, ul_j, ul_b, N_k, gnl, gnp, gnq, gnt, gsm, cl0, cl1, cl2, cl3, cl4, cl5, cl6, cl7, cl8, cl9, cl10, hmm]
        refine a_goto dX11_trip_62 (tgt := 66) (by decide) ?_
        exact a_iret dX11_trip_66 rfl (by
  first
    | (simp only [mTrip, c10, c30, c53, if_true, if_false] at hQ ⊢; exact hQ)
    | (rw [mTrip, if_neg c10, htc, hm, e9] at hQ; simp only [hwc, mT, c10, c30, c53, if_true, if_false] at hQ ⊢; exact hQ)
    | (rw [mTrip, if_neg c10, htc, hm, e9] at hQ; simp only [c10, c30, c53, if_true, if_false] at hQ ⊢; exact hQ))
    · obtain ⟨w, hw10, hw9, rfl⟩ := isIn_of (a := 10) (b := 9 + m) (by decide) (by omega) c30
      have hwc : (nI w).toNatClampNeg = w := nI_clamp (by omega)
      have e710 : (7 : Int32) + nI w - 10 = nI (7 + w - 10) := by
        rw [show (7 : Int32) + nI w = nI (7 + w) from nI_add 7 w]
        exact pk_sub (a := 7 + w) (b := 10) (by omega)
      refine a_aload_n dX11_trip_33 rfl ?_
      refine a_iload_n dX11_trip_34 rfl ?_
      refine a_bipush (v := 7) dX11_trip_35 (by decide) ?_
      refine a_iload_n dX11_trip_37 rfl ?_
      refine a_iadd dX11_trip_38 ?_
      refine a_bipush (v := 10) dX11_trip_39 (by decide) ?_
      refine a_isub dX11_trip_41 ?_
      rw [e710]
      refine a_cV2i dX11_trip_42 ml_11_160 wv_11_its rfl rfl (by decide) (Nat.le_of_ble_eq_true rfl) (c11_its (t := t) (w := 7 + w - 10) (by omega) (by omega) ⟨rfl, rfl⟩) ?_
      try simp (disch := first | decide | assumption | omega) only [ui_eq, ui_k, ui_j, ui_b, ui_2, ul_1, ul_eq, ul_k, ul_j, ul_b, N_k, gnl, gnp, gnq, gnt, gsm, cl0, cl1, cl2, cl3, cl4, cl5, cl6, cl7, cl8, cl9, cl10, hmm]
      exact a_iret dX11_trip_45 rfl (by
  first
    | (simp only [mTrip, c10, c30, if_true, if_false] at hQ ⊢; exact hQ)
    | (rw [mTrip, if_neg c10, htc, hm, e9] at hQ; simp only [hwc, mT, c10, c30, if_true, if_false] at hQ ⊢; exact hQ)
    | (rw [mTrip, if_neg c10, htc, hm, e9] at hQ; simp only [c10, c30, if_true, if_false] at hQ ⊢; exact hQ))
  · refine a_iconst (v := (-1)) dX11_trip_13 (by decide) ?_
    exact a_iret dX11_trip_14 rfl (by
  first
    | (simp only [mTrip, c10, if_true, if_false] at hQ ⊢; exact hQ)
    | (rw [mTrip, if_neg c10, htc, hm, e9] at hQ; simp only [hwc, mT, c10, if_true, if_false] at hQ ⊢; exact hQ)
    | (rw [mTrip, if_neg c10, htc, hm, e9] at hQ; simp only [c10, if_true, if_false] at hQ ⊢; exact hQ))
