def frn (N : Nat → Int32) (np nt k : Nat) (y : Int32) : Nat → Int32 := upd (mfr N np nt) k (if 0 ≤ mfr N np nt k + y then mfr N np nt k + y else 0)
def SWR (h : AH) (np nt k : Nat) (y : Int32) (v : Option Value) (h2 : AH) : Prop := ∃ fr us gv cm qu st, v = some (.int (nI (srvN (h.1 3 2) nt gv))) ∧ h2 = qH (SM h (nI (srvN (h.1 3 2) nt gv)) (nI (scN (h.1 3 2) nt gv))) fr us gv cm qu st ∧ MR (h.1 3 2) np nt (frn (h.1 3 2) np nt k y) gv ∧ R6 np gv
theorem frn_0 {N : Nat → Int32} {np nt k : Nat} {y : Int32} {fr : Nat → Int32} (hf0 : ∀ k, k < np → 0 ≤ (mFree N nt k).toInt) : ∀ j, j < 6 → 0 ≤ (upd (filG (mfr N np nt) fr 6) k (if 0 ≤ mfr N np nt k + y then mfr N np nt k + y else 0) j).toInt := by
  intro j hj
  by_cases e : j = k
  · subst e
    rw [up_eq]
    split
    · rename_i z
      rw [Int32.le_iff_toInt_le] at z
      exact z
    · exact Int.le_refl 0
  · rw [up_ne e]
    exact mfr_0 hf0 j hj
theorem frn_c {N : Nat → Int32} {np nt k : Nat} {y : Int32} {fr : Nat → Int32} (hp : np ≤ 6) : ∀ j, j < np → frn N np nt k y j = upd (filG (mfr N np nt) fr 6) k (if 0 ≤ mfr N np nt k + y then mfr N np nt k + y else 0) j := by
  intro j hj
  unfold frn
  by_cases e : j = k
  · subst e
    rw [up_eq, up_eq]
  · rw [up_ne e, up_ne e]
    exact (if_pos (by omega) : filG (mfr N np nt) fr 6 j = mfr N np nt j).symm
theorem c11_servedWith {l : Launch} {G : GG} {h : AH} {Q : Option Value → AH → Prop} {np nt : Nat} (hP : PW (h.1 3 2) np nt) (hf0 : ∀ k, k < np → 0 ≤ (mFree (h.1 3 2) nt k).toInt) (hw8 : wN (h.1 3 2) nt ≤ 8) {a b : Int32} {fr us gv cm qu st : Nat → Int32} {k : Nat} (hk : k < np) {y : Int32} (hQ : ∀ v h2, SWR h np nt k y v h2 → Q v h2) : Ct l G 6 yX11_servedWith cX11_servedWith 3 (some .int) [.ref (G.1 3 0), .int (nI k), .int y] (qH (SM h a b) fr us gv cm qu st) Q := by
  refine Ct.of (by decide) (Nat.le_of_ble_eq_true rfl) ?_
  show AW l G 6 RX11 cX11_servedWith 3 (some .int) 0 [some (.ref (G.1 3 0)), some (.int (nI k)), some (.int y)] [] (qH (SM h a b) fr us gv cm qu st) Q
  obtain ⟨hnp, hp6, hnt, ht40, hz, hTW, hCo⟩ := id hP
  have hkc : (nI k).toNatClampNeg = k := nI_clamp (by omega)
  have hfk : filG (mfr (h.1 3 2) np nt) fr 6 k = mfr (h.1 3 2) np nt k := if_pos (by omega)
  have hst : ∀ t, t < nt → filG (fun _ => (0 : Int32)) st 40 t = 0 := fun t ht => if_pos (by omega)
  refine a_aload_n dX11_servedWith_0 rfl ?_
  refine a_cV0v dX11_servedWith_1 ml_11_234 wv_11_laysFree rfl rfl (by decide) (Nat.le_of_ble_eq_true rfl) (c11_laysFree hP ⟨rfl, rfl⟩) ?_
  try simp (disch := first | decide | assumption | omega) only [ui_eq, ui_k, ui_j, ui_b, ui_2, ul_1, ul_eq, ul_k, ul_j, ul_b, qG_222, qG_223, qG_2, qG_2j, qG_0j, qG_5, qG_5j, qH_5, qG_6, qG_6j, qH_6, qG_7, qG_7j, qH_7, qG_8, qG_8j, qH_8, qG_9, qG_9j, qH_9, qG_10, qG_10j, qH_10, qH_0, SM_N, hkc, hfk]
  refine a_aload_n dX11_servedWith_4 rfl ?_
  refine a_getR (ci := 11) (j := 16) dX11_servedWith_5 rfl rfl (by decide) rfl fl_11_81 ?_
  refine a_iload_n dX11_servedWith_8 rfl ?_
  refine a_aload_n dX11_servedWith_9 rfl ?_
  refine a_getR (ci := 11) (j := 16) dX11_servedWith_10 rfl rfl (by decide) rfl fl_11_81 ?_
  refine a_iload_n dX11_servedWith_13 rfl ?_
  refine a_iaload dX11_servedWith_14 rfl (vp_in_nI (show k < 6 by omega) (by decide)) ?_
  try simp (disch := first | decide | assumption | omega) only [ui_eq, ui_k, ui_j, ui_b, ui_2, ul_1, ul_eq, ul_k, ul_j, ul_b, qG_222, qG_223, qG_2, qG_2j, qG_0j, qG_5, qG_5j, qH_5, qG_6, qG_6j, qH_6, qG_7, qG_7j, qH_7, qG_8, qG_8j, qH_8, qG_9, qG_9j, qH_9, qG_10, qG_10j, qH_10, qH_0, SM_N, hkc, hfk]
  refine a_iload_n dX11_servedWith_15 rfl ?_
  refine a_iadd dX11_servedWith_16 ?_
  refine a_if_ge dX11_servedWith_17 (tgt := 24) (by decide) (fun c17 => ?_) (fun c17 => ?_)
  · have e25 : (if 0 ≤ mfr (h.1 3 2) np nt k + y then mfr (h.1 3 2) np nt k + y else 0) = mfr (h.1 3 2) np nt k + y := if_pos c17
    refine a_aload_n dX11_servedWith_24 rfl ?_
    refine a_getR (ci := 11) (j := 16) dX11_servedWith_25 rfl rfl (by decide) rfl fl_11_81 ?_
    refine a_iload_n dX11_servedWith_28 rfl ?_
    refine a_iaload dX11_servedWith_29 rfl (vp_in_nI (show k < 6 by omega) (by decide)) ?_
    try simp (disch := first | decide | assumption | omega) only [ui_eq, ui_k, ui_j, ui_b, ui_2, ul_1, ul_eq, ul_k, ul_j, ul_b, qG_222, qG_223, qG_2, qG_2j, qG_0j, qG_5, qG_5j, qH_5, qG_6, qG_6j, qH_6, qG_7, qG_7j, qH_7, qG_8, qG_8j, qH_8, qG_9, qG_9j, qH_9, qG_10, qG_10j, qH_10, qH_0, SM_N, hkc, hfk]
    refine a_iload_n dX11_servedWith_30 rfl ?_
    refine a_iadd dX11_servedWith_31 ?_
    refine a_iastore dX11_servedWith_32 rfl (vp_in_nI (show k < 6 by omega) (by decide)) ?_
    refine a_aload_n dX11_servedWith_33 rfl ?_
    rw [hkc, qH_5, ← e25]
    refine a_cV0v dX11_servedWith_34 ml_11_237 wv_11_opensAll rfl rfl (by decide) (Nat.le_of_ble_eq_true rfl) (c11_opensAll ⟨rfl, rfl⟩) ?_
    try simp (disch := first | decide | assumption | omega) only [ui_eq, ui_k, ui_j, ui_b, ui_2, ul_1, ul_eq, ul_k, ul_j, ul_b, qG_222, qG_223, qG_2, qG_2j, qG_0j, qG_5, qG_5j, qH_5, qG_6, qG_6j, qH_6, qG_7, qG_7j, qH_7, qG_8, qG_8j, qH_8, qG_9, qG_9j, qH_9, qG_10, qG_10j, qH_10, qH_0, SM_N, hkc, hfk]
    refine a_aload_n dX11_servedWith_37 rfl ?_
    refine a_cV0 dX11_servedWith_38 ml_11_231 wv_11_serves rfl rfl (by decide) (Nat.le_of_ble_eq_true rfl) (c11_servesS (Q := fun v h2 => ∃ us2 gv2 cm2 qu2, SVR (h.1 3 2) np nt (upd (filG (mfr (h.1 3 2) np nt) fr 6) k (if 0 ≤ mfr (h.1 3 2) np nt k + y then mfr (h.1 3 2) np nt k + y else 0)) us2 gv2 (filG (fun _ => 0) st 40) (filG (fun _ => -1) gv 40) ∧ v = none ∧ h2 = qH (SM h (nI (srvN (h.1 3 2) nt gv2)) (nI (scN (h.1 3 2) nt gv2))) (upd (filG (mfr (h.1 3 2) np nt) fr 6) k (if 0 ≤ mfr (h.1 3 2) np nt k + y then mfr (h.1 3 2) np nt k + y else 0)) us2 gv2 cm2 qu2 (filG (fun _ => 0) st 40)) hP R6_n (fun us2 gv2 cm2 qu2 hS => ⟨us2, gv2, cm2, qu2, hS, rfl, rfl⟩)) (fun v38 h38 p38 => ?_)
    obtain ⟨us1, g1, cm1, qu1, hS, rfl, rfl⟩ := p38
    simp only [Option.toList, List.nil_append]
    try simp (disch := first | decide | assumption | omega) only [ui_eq, ui_k, ui_j, ui_b, ui_2, ul_1, ul_eq, ul_k, ul_j, ul_b, qG_222, qG_223, qG_2, qG_2j, qG_0j, qG_5, qG_5j, qH_5, qG_6, qG_6j, qH_6, qG_7, qG_7j, qH_7, qG_8, qG_8j, qH_8, qG_9, qG_9j, qH_9, qG_10, qG_10j, qH_10, qH_0, SM_N, hkc, hfk]
    refine a_aload_n dX11_servedWith_41 rfl ?_
    refine a_getI (ci := 11) (j := 22) dX11_servedWith_42 rfl rfl (by decide) rfl fl_11_225 ?_
    try simp (disch := first | decide | assumption | omega) only [ui_eq, ui_k, ui_j, ui_b, ui_2, ul_1, ul_eq, ul_k, ul_j, ul_b, qG_222, qG_223, qG_2, qG_2j, qG_0j, qG_5, qG_5j, qH_5, qG_6, qG_6j, qH_6, qG_7, qG_7j, qH_7, qG_8, qG_8j, qH_8, qG_9, qG_9j, qH_9, qG_10, qG_10j, qH_10, qH_0, SM_N, hkc, hfk]
    exact a_iret dX11_servedWith_45 rfl (hQ _ _ ⟨_, us1, g1, cm1, qu1, _, rfl, rfl, MR_congr (frn_c hp6) (SVR_MR hP (frn_0 hf0) hst hS), hS.1.1⟩)
  · have e25 : (if 0 ≤ mfr (h.1 3 2) np nt k + y then mfr (h.1 3 2) np nt k + y else 0) = 0 := if_neg c17
    refine a_iconst (v := 0) dX11_servedWith_20 (by decide) ?_
    refine a_goto dX11_servedWith_21 (tgt := 32) (by decide) ?_
    refine a_iastore dX11_servedWith_32 rfl (vp_in_nI (show k < 6 by omega) (by decide)) ?_
    refine a_aload_n dX11_servedWith_33 rfl ?_
    rw [hkc, qH_5, ← e25]
    refine a_cV0v dX11_servedWith_34 ml_11_237 wv_11_opensAll rfl rfl (by decide) (Nat.le_of_ble_eq_true rfl) (c11_opensAll ⟨rfl, rfl⟩) ?_
    try simp (disch := first | decide | assumption | omega) only [ui_eq, ui_k, ui_j, ui_b, ui_2, ul_1, ul_eq, ul_k, ul_j, ul_b, qG_222, qG_223, qG_2, qG_2j, qG_0j, qG_5, qG_5j, qH_5, qG_6, qG_6j, qH_6, qG_7, qG_7j, qH_7, qG_8, qG_8j, qH_8, qG_9, qG_9j, qH_9, qG_10, qG_10j, qH_10, qH_0, SM_N, hkc, hfk]
    refine a_aload_n dX11_servedWith_37 rfl ?_
    refine a_cV0 dX11_servedWith_38 ml_11_231 wv_11_serves rfl rfl (by decide) (Nat.le_of_ble_eq_true rfl) (c11_servesS (Q := fun v h2 => ∃ us2 gv2 cm2 qu2, SVR (h.1 3 2) np nt (upd (filG (mfr (h.1 3 2) np nt) fr 6) k (if 0 ≤ mfr (h.1 3 2) np nt k + y then mfr (h.1 3 2) np nt k + y else 0)) us2 gv2 (filG (fun _ => 0) st 40) (filG (fun _ => -1) gv 40) ∧ v = none ∧ h2 = qH (SM h (nI (srvN (h.1 3 2) nt gv2)) (nI (scN (h.1 3 2) nt gv2))) (upd (filG (mfr (h.1 3 2) np nt) fr 6) k (if 0 ≤ mfr (h.1 3 2) np nt k + y then mfr (h.1 3 2) np nt k + y else 0)) us2 gv2 cm2 qu2 (filG (fun _ => 0) st 40)) hP R6_n (fun us2 gv2 cm2 qu2 hS => ⟨us2, gv2, cm2, qu2, hS, rfl, rfl⟩)) (fun v38 h38 p38 => ?_)
    obtain ⟨us1, g1, cm1, qu1, hS, rfl, rfl⟩ := p38
    simp only [Option.toList, List.nil_append]
    try simp (disch := first | decide | assumption | omega) only [ui_eq, ui_k, ui_j, ui_b, ui_2, ul_1, ul_eq, ul_k, ul_j, ul_b, qG_222, qG_223, qG_2, qG_2j, qG_0j, qG_5, qG_5j, qH_5, qG_6, qG_6j, qH_6, qG_7, qG_7j, qH_7, qG_8, qG_8j, qH_8, qG_9, qG_9j, qH_9, qG_10, qG_10j, qH_10, qH_0, SM_N, hkc, hfk]
    refine a_aload_n dX11_servedWith_41 rfl ?_
    refine a_getI (ci := 11) (j := 22) dX11_servedWith_42 rfl rfl (by decide) rfl fl_11_225 ?_
    try simp (disch := first | decide | assumption | omega) only [ui_eq, ui_k, ui_j, ui_b, ui_2, ul_1, ul_eq, ul_k, ul_j, ul_b, qG_222, qG_223, qG_2, qG_2j, qG_0j, qG_5, qG_5j, qH_5, qG_6, qG_6j, qH_6, qG_7, qG_7j, qH_7, qG_8, qG_8j, qH_8, qG_9, qG_9j, qH_9, qG_10, qG_10j, qH_10, qH_0, SM_N, hkc, hfk]
    exact a_iret dX11_servedWith_45 rfl (hQ _ _ ⟨_, us1, g1, cm1, qu1, _, rfl, rfl, MR_congr (frn_c hp6) (SVR_MR hP (frn_0 hf0) hst hS), hS.1.1⟩)
theorem c11_servedWithH {l : Launch} {G : GG} {h : AH} {Q : Option Value → AH → Prop} {np nt k : Nat} (hP : PP (h.1 3 2) np nt) (hk : k < np) {y : Int32} (hQ : ∀ v h2, SWR h np nt k y v h2 → Q v h2) : Ct l G 6 yX11_servedWith cX11_servedWith 3 (some .int) [.ref (G.1 3 0), .int (nI k), .int y] h Q := by
  have e := c11_servedWith (l := l) (G := G) (h := h) (a := h.1 3 0 22) (b := h.1 3 0 23) (fr := h.1 3 5) (us := h.1 3 6) (gv := h.1 3 7) (cm := h.1 3 8) (qu := h.1 3 9) (st := h.1 3 10) (Q := Q) hP.1 hP.2.1 hP.2.2 hk hQ
  rw [qS_self] at e
  exact e
def seOk (np : Nat) (x y : Int32) : Prop := ¬ hasI (nI np) x = 0 ∧ ¬ isInF y (-99) 99 = 0
def NDR (N : Nat → Int32) (np nt k : Nat) (r : Int32) : Prop :=
  (∃ n, n ≤ wN N nt ∧ r = nI n ∧ (∃ g, MR N np nt (frn N np nt k (nI n)) g ∧ R6 np g ∧ srvN N nt g = wN N nt) ∧ ∀ n', n' < n → ∃ g, MR N np nt (frn N np nt k (nI n')) g ∧ R6 np g ∧ ¬ srvN N nt g = wN N nt) ∨
  (r = -2 ∧ ∀ n', n' < wN N nt + 1 → ∃ g, MR N np nt (frn N np nt k (nI n')) g ∧ R6 np g ∧ ¬ srvN N nt g = wN N nt)
theorem cnt_wN (N : Nat → Int32) : ∀ n, cntI (fun t => mT N t 2) 0 n = nI (wN N n)
  | 0 => rfl
  | n + 1 => by
    have e : wN N (n + 1) = wN N n + (if mT N n 2 = 0 then 1 else 0) := rfl
    rw [cntI, e, cnt_wN N n]
    split
    · rw [nI_1]
    · rfl
theorem c11_served {l : Launch} {G : GG} {h : AH} {Q : Option Value → AH → Prop} {nl np nq nt sm : Nat} (hW : WM h nl np nq nt sm) {x y : Int32} (hPP : PP (h.1 3 2) np nt) (hQ1 : ¬ seOk np x y → Q (some (.int (-1))) (ui h 3 0 0 0)) (hQ2 : seOk np x y → ∀ v h2, SWR (ui h 3 0 0 0) np nt x.toNatClampNeg y v h2 → Q v h2) : Ct l G 7 yX11_served cX11_served 3 (some .int) [.ref (G.1 3 0), .int x, .int y] h Q := by
  refine Ct.of (by decide) (Nat.le_of_ble_eq_true rfl) ?_
  show AW l G 7 RX11 cX11_served 3 (some .int) 0 [some (.ref (G.1 3 0)), some (.int x), some (.int y)] [] h Q
  have hW0 := hW.th (v := 0)
  obtain ⟨hnl, hl8, hnp, hp6, hnq, hq8, hnt, ht40, hsm, hsm10, hz, hT⟩ := id hW0
  obtain ⟨gnl, -, gnp, -, gnq, -, gnt, -, gsm, -, gz, gT⟩ := id hW
  have hPP0 : PP ((ui h 3 0 0 0).1 3 2) np nt := by rw [N_k (by decide)]; exact hPP
  refine a_aload_n dX11_served_0 rfl ?_
  refine a_iconst (v := 0) dX11_served_1 (by decide) ?_
  refine a_putI (ci := 11) (j := 0) dX11_served_2 rfl rfl (by decide) (by decide) rfl fl_11_1 ?_
  refine a_aload_n dX11_served_5 rfl ?_
  refine a_iload_n dX11_served_6 rfl ?_
  refine a_cV1i dX11_served_7 ml_11_189 wv_11_isType rfl rfl (by decide) (Nat.le_of_ble_eq_true rfl) (c11_isType hnp (by omega) ⟨rfl, rfl⟩) ?_
  try simp (disch := first | decide | assumption | omega) only [ui_eq, ui_k, ui_j, ui_b, ui_2, ul_1, ul_eq, ul_k, ul_j, ul_b, N_k, gnl, gnp, gnq, gnt, gsm, cl0, cl1, cl2, cl3, cl4, cl5, cl6, cl7, cl8, cl9, cl10]
  refine a_if_eq dX11_served_10 (tgt := 33) (by decide) (fun c10 => ?_) (fun c10 => ?_)
  · refine a_iconst (v := (-1)) dX11_served_33 (by decide) ?_
    exact a_iret dX11_served_34 rfl (by
  first
    | exact hQ1 (fun z => z.1 c10)
    | exact hQ1 (fun z => z.2 c21)
    | exact hQ2 ⟨c10, c21⟩ _ _ ⟨fr, us, gv, cm, qu, st, rfl, rfl, by rw [hkc]; exact hR, h6⟩)
  · refine a_iload_n dX11_served_13 rfl ?_
    refine a_bipush (v := (-99)) dX11_served_14 (by decide) ?_
    refine a_bipush (v := 99) dX11_served_16 (by decide) ?_
    refine a_cS3i dX11_served_18 ml_11_106 ws_11_isIn (by decide) (Nat.le_of_ble_eq_true rfl) (c11_isIn ⟨rfl, rfl⟩) ?_
    try simp (disch := first | decide | assumption | omega) only [ui_eq, ui_k, ui_j, ui_b, ui_2, ul_1, ul_eq, ul_k, ul_j, ul_b, N_k, gnl, gnp, gnq, gnt, gsm, cl0, cl1, cl2, cl3, cl4, cl5, cl6, cl7, cl8, cl9, cl10]
    refine a_if_eq dX11_served_21 (tgt := 33) (by decide) (fun c21 => ?_) (fun c21 => ?_)
    · refine a_iconst (v := (-1)) dX11_served_33 (by decide) ?_
      exact a_iret dX11_served_34 rfl (by
  first
    | exact hQ1 (fun z => z.1 c10)
    | exact hQ1 (fun z => z.2 c21)
    | exact hQ2 ⟨c10, c21⟩ _ _ ⟨fr, us, gv, cm, qu, st, rfl, rfl, by rw [hkc]; exact hR, h6⟩)
    · obtain ⟨k, hk, rfl⟩ := hasI_of (by omega) c10
      have hkc : (nI k).toNatClampNeg = k := nI_clamp (by omega)
      refine a_aload_n dX11_served_24 rfl ?_
      refine a_iload_n dX11_served_25 rfl ?_
      refine a_iload_n dX11_served_26 rfl ?_
      refine a_cV2 dX11_served_27 ml_11_247 wv_11_servedWith rfl rfl (by decide) (Nat.le_of_ble_eq_true rfl) (c11_servedWithH (k := k) (Q := SWR (ui h 3 0 0 0) np nt k y) hPP0 hk (fun _ _ z => z)) (fun v27 h27 p27 => ?_)
      obtain ⟨fr, us, gv, cm, qu, st, rfl, rfl, hR, h6⟩ := p27
      simp only [Option.toList, List.cons_append, List.nil_append]
      try simp (disch := first | decide | assumption | omega) only [ui_eq, ui_k, ui_j, ui_b, ui_2, ul_1, ul_eq, ul_k, ul_j, ul_b, N_k, gnl, gnp, gnq, gnt, gsm, cl0, cl1, cl2, cl3, cl4, cl5, cl6, cl7, cl8, cl9, cl10]
      refine a_goto dX11_served_30 (tgt := 34) (by decide) ?_
      exact a_iret dX11_served_34 rfl (by
  first
    | exact hQ1 (fun z => z.1 c10)
    | exact hQ1 (fun z => z.2 c21)
    | exact hQ2 ⟨c10, c21⟩ _ _ ⟨fr, us, gv, cm, qu, st, rfl, rfl, by rw [hkc]; exact hR, h6⟩)
theorem l11_nd {l : Launch} {G : GG} {h : AH} {Q : Option Value → AH → Prop} {np nt k : Nat} (hP : PP (h.1 3 2) np nt) (hk : k < np) (fr us gv cm qu st : Nat → Int32) (a b : Int32) (n : Nat) (hn : n ≤ wN (h.1 3 2) nt + 1) (hI : ∀ n', n' < n → ∃ g, MR (h.1 3 2) np nt (frn (h.1 3 2) np nt k (nI n')) g ∧ R6 np g ∧ ¬ srvN (h.1 3 2) nt g = wN (h.1 3 2) nt) (hQ : ∀ r fr us gv cm qu st a b, NDR (h.1 3 2) np nt k r → Q (some (.int r)) (qH (SM h a b) fr us gv cm qu st)) : AW l G 7 RX11 cX11_needs 4 (some .int) 23 [some (.ref (G.1 3 0)), some (.int (nI k)), some (.int (nI (wN (h.1 3 2) nt))), some (.int (nI n))] [] (qH (SM h a b) fr us gv cm qu st) Q := by
  have hw8 := hP.2.2
  have h40 := hP.1.2.2.2.1
  refine a_iload_n dX11_needs_23 rfl ?_
  refine a_iload_n dX11_needs_24 rfl ?_
  refine a_icmp_gt dX11_needs_25 (tgt := 46) (by decide) (fun c25 => ?_) (fun c25 => ?_)
  · have hge := nI_ltD c25 (by omega) (by omega)
    have hie : n = wN (h.1 3 2) nt + 1 := by omega
    subst hie
    refine a_bipush (v := (-2)) dX11_needs_46 (by decide) ?_
    exact a_iret dX11_needs_48 rfl (hQ _ _ _ _ _ _ _ _ _ (Or.inr ⟨rfl, hI⟩))
  · have hle : n ≤ wN (h.1 3 2) nt := Nat.le_of_not_lt (fun z => c25 (nI_lt z (by omega)))
    refine a_aload_n dX11_needs_28 rfl ?_
    refine a_iload_n dX11_needs_29 rfl ?_
    refine a_iload_n dX11_needs_30 rfl ?_
    refine a_cV2 dX11_needs_31 ml_11_247 wv_11_servedWith rfl rfl (by decide) (Nat.le_of_ble_eq_true rfl) (c11_servedWith (Q := SWR h np nt k (nI n)) hP.1 hP.2.1 hP.2.2 hk (fun _ _ z => z)) (fun v31 h31 p31 => ?_)
    obtain ⟨fr1, us1, g1, cm1, qu1, st1, rfl, rfl, hR, h6⟩ := p31
    simp only [Option.toList, List.cons_append, List.nil_append]
    try simp (disch := first | decide | assumption | omega) only [ui_eq, ui_k, ui_j, ui_b, ui_2, ul_1, ul_eq, ul_k, ul_j, ul_b]
    refine a_iload_n dX11_needs_34 rfl ?_
    refine a_icmp_ne dX11_needs_35 (tgt := 40) (by decide) (fun c35 => ?_) (fun c35 => ?_)
    · have hne : ¬ srvN (h.1 3 2) nt g1 = wN (h.1 3 2) nt := fun z => c35 (by rw [z])
      refine a_inc (c := 1) dX11_needs_40 rfl (by decide) (by decide) rfl ?_
      dsimp only [lset]
      refine a_goto dX11_needs_43 (tgt := 23) (by decide) ?_
      rw [nI_1]
      exact l11_nd hP hk _ _ _ _ _ _ _ _ (n + 1) (by omega) (fun n' hn' => by
        by_cases e : n' = n
        · subst e; exact ⟨g1, hR, h6, hne⟩
        · exact hI n' (by omega)) hQ
    · have heq : srvN (h.1 3 2) nt g1 = wN (h.1 3 2) nt := nI_inj (Nat.lt_of_le_of_lt (sN_le (fun _ _ => if01_le _)) (by omega)) (by omega) c35
      refine a_iload_n dX11_needs_38 rfl ?_
      exact a_iret dX11_needs_39 rfl (hQ _ _ _ _ _ _ _ _ _ (Or.inl ⟨n, hle, rfl, ⟨g1, hR, h6, heq⟩, hI⟩))
termination_by wN (h.1 3 2) nt + 1 - n
decreasing_by all_goals omega
theorem c11_needs {l : Launch} {G : GG} {h : AH} {Q : Option Value → AH → Prop} {nl np nq nt sm : Nat} (hW : WM h nl np nq nt sm) {x : Int32} (hPP : PP (h.1 3 2) np nt) (hQ1 : hasI (nI np) x = 0 → Q (some (.int (-1))) (ui h 3 0 0 0)) (hQ2 : ¬ hasI (nI np) x = 0 → ∀ r fr us gv cm qu st a b, NDR (h.1 3 2) np nt x.toNatClampNeg r → Q (some (.int r)) (qH (SM (ui h 3 0 0 0) a b) fr us gv cm qu st)) : Ct l G 7 yX11_needs cX11_needs 4 (some .int) [.ref (G.1 3 0), .int x] h Q := by
  refine Ct.of (by decide) (Nat.le_of_ble_eq_true rfl) ?_
  show AW l G 7 RX11 cX11_needs 4 (some .int) 0 [some (.ref (G.1 3 0)), some (.int x)] [] h Q
  have hW0 := hW.th (v := 0)
  obtain ⟨hnl, hl8, hnp, hp6, hnq, hq8, hnt, ht40, hsm, hsm10, hz, hT⟩ := id hW0
  obtain ⟨gnl, -, gnp, -, gnq, -, gnt, -, gsm, -, gz, gT⟩ := id hW
  have hPP0 : PP ((ui h 3 0 0 0).1 3 2) np nt := by rw [N_k (by decide)]; exact hPP
  refine a_aload_n dX11_needs_0 rfl ?_
  refine a_iconst (v := 0) dX11_needs_1 (by decide) ?_
  refine a_putI (ci := 11) (j := 0) dX11_needs_2 rfl rfl (by decide) (by decide) rfl fl_11_1 ?_
  refine a_aload_n dX11_needs_5 rfl ?_
  refine a_iload_n dX11_needs_6 rfl ?_
  refine a_cV1i dX11_needs_7 ml_11_189 wv_11_isType rfl rfl (by decide) (Nat.le_of_ble_eq_true rfl) (c11_isType hnp (by omega) ⟨rfl, rfl⟩) ?_
  try simp (disch := first | decide | assumption | omega) only [ui_eq, ui_k, ui_j, ui_b, ui_2, ul_1, ul_eq, ul_k, ul_j, ul_b, N_k, gnl, gnp, gnq, gnt, gsm, cl0, cl1, cl2, cl3, cl4, cl5, cl6, cl7, cl8, cl9, cl10]
  refine a_if_ne dX11_needs_10 (tgt := 15) (by decide) (fun c10 => ?_) (fun c10 => ?_)
  · obtain ⟨k, hk, rfl⟩ := hasI_of (by omega) c10
    have hkc : (nI k).toNatClampNeg = k := nI_clamp (by omega)
    refine a_aload_n dX11_needs_15 rfl ?_
    refine a_iconst (v := 0) dX11_needs_16 (by decide) ?_
    refine a_cV1i dX11_needs_17 ml_11_179 wv_11_having rfl rfl (by decide) (Nat.le_of_ble_eq_true rfl) (c11_having hnt ht40 ⟨rfl, rfl⟩) ?_
    try simp (disch := first | decide | assumption | omega) only [ui_eq, ui_k, ui_j, ui_b, ui_2, ul_1, ul_eq, ul_k, ul_j, ul_b, N_k, gnl, gnp, gnq, gnt, gsm, cl0, cl1, cl2, cl3, cl4, cl5, cl6, cl7, cl8, cl9, cl10]
    refine a_istore_n dX11_needs_20 (by decide) rfl ?_
    dsimp only [lset]
    refine a_iconst (v := 0) dX11_needs_21 (by decide) ?_
    refine a_istore_n dX11_needs_22 (by decide) rfl ?_
    dsimp only [lset]
    rw [cnt_wN]
    have e := l11_nd (l := l) (G := G) (h := ui h 3 0 0 0) (Q := Q) hPP0 hk ((ui h 3 0 0 0).1 3 5) ((ui h 3 0 0 0).1 3 6) ((ui h 3 0 0 0).1 3 7) ((ui h 3 0 0 0).1 3 8) ((ui h 3 0 0 0).1 3 9) ((ui h 3 0 0 0).1 3 10) ((ui h 3 0 0 0).1 3 0 22) ((ui h 3 0 0 0).1 3 0 23) 0 (by omega) (fun _ z => absurd z (by omega)) (fun r fr us gv cm qu st a b hN => hQ2 c10 r fr us gv cm qu st a b (by rw [hkc]; rw [N_k (by decide)] at hN; exact hN))
    rw [qS_self] at e
    rw [N_k (by decide)] at e
    exact e
  · refine a_iconst (v := (-1)) dX11_needs_13 (by decide) ?_
    exact a_iret dX11_needs_14 rfl (hQ1 c10)
