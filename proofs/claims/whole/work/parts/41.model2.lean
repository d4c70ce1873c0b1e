def TW (N : Nat → Int32) (nt : Nat) : Prop := ∀ t, t < nt → (∃ q, q < 8 ∧ mT N t 0 = nI q) ∧ (∃ m, m ≤ 6 ∧ mT N t 1 = nI m) ∧ (mT N t 2 = 1 → ∃ k, k < 6 ∧ mT N t 3 = nI k)
def WM (h : AH) (nl np nq nt sm : Nat) : Prop := h.1 3 2 0 = nI nl ∧ nl ≤ 8 ∧ h.1 3 2 3 = nI np ∧ np ≤ 6 ∧ h.1 3 2 4 = nI nq ∧ nq ≤ 8 ∧ h.1 3 2 5 = nI nt ∧ nt ≤ 40 ∧ h.1 3 0 14 = nI sm ∧ sm ≤ 10 ∧ (∀ k, k < np → ¬ mY (h.1 3 2) k 1 = 0) ∧ TW (h.1 3 2) nt
theorem N_k {h : AH} {k j : Nat} {v : Int32} (hk : k ≠ 2) : (ui h 3 k j v).1 3 2 = h.1 3 2 := ui_ne (fun q => hk q.2.symm)
theorem N_b {h : AH} {b k j : Nat} {v : Int32} (hb : b ≠ 3) : (ui h b k j v).1 3 2 = h.1 3 2 := ui_ne (fun q => hb q.1.symm)
theorem WM.th {h : AH} {nl np nq nt sm : Nat} {v : Int32} (hW : WM h nl np nq nt sm) : WM (ui h 3 0 0 v) nl np nq nt sm := by
  unfold WM at *
  rw [N_k (by decide)]
  simp (disch := decide) only [ui_j]
  exact hW
def bI (N : Nat → Int32) (a : Nat) (acc : Int32) : Nat → Int32
  | 0 => acc
  | c + 1 => if hasB (N (103 + a)) (nI c) = 0 then bI N a acc c else bI N a acc c + 1
def bO (N : Nat → Int32) : Nat → Int32
  | 0 => 0
  | a + 1 => bI N a (bO N a) a
def wayG (N : Nat → Int32) (t : Nat) : Nat → Int32
  | 0 => 0
  | k + 1 => wayG N t k ||| 1 <<< (mT N t (7 + k) &&& 31)
def wayM (N : Nat → Int32) (t : Nat) : Int32 := wayG N t (mT N t 1).toNatClampNeg
def fitM (N : Nat → Int32) (k t : Nat) : Int32 :=
  if (wayM N t &&& ((1 <<< (mT N t 7 &&& 31)) ^^^ (-1))) &&& (mY N k 6 ^^^ (-1)) = 0 then (if mQ N (mT N t 0).toNatClampNeg 1 < mY N k 2 then 0 else 1) else 0
def mNow (h : AH) (nq nt : Nat) (x : Int32) : Int32 :=
  if x = 0 then h.1 3 2 6 else if x = 1 then h.1 3 2 0 else if x = 2 then h.1 3 2 3 else if x = 3 then h.1 3 2 4 else if x = 4 then h.1 3 2 5 else if x = 5 then cntI (fun t => mT (h.1 3 2) t 2) 0 nt else if x = 6 then cntI (fun t => mT (h.1 3 2) t 2) 1 nt else
  if x = 7 then bO (h.1 3 2) 8 else if x = 8 then sumI (fun q => mQ (h.1 3 2) q 2) nq else if x = 9 then h.1 3 0 14 else if x = 10 then h.1 3 0 2 else -1
theorem l11_bI {l : Launch} {G : GG} {h : AH} {Q : Option Value → AH → Prop} {a : Nat} (ha : a < 8) {acc : Int32} (c : Nat) (hc : c ≤ a) (hE : AW l G 1 RX11 cX11_borders 4 (some .int) 42 [some (.ref (G.1 3 0)), some (.int (bI (h.1 3 2) a acc a)), some (.int (nI a)), some (.int (nI a))] [] h Q) : AW l G 1 RX11 cX11_borders 4 (some .int) 12 [some (.ref (G.1 3 0)), some (.int (bI (h.1 3 2) a acc c)), some (.int (nI a)), some (.int (nI c))] [] h Q := by
  have e1 : (103 : Int32) + nI a = nI (103 + a) := nI_add 103 a
  have e2 : (nI (103 + a)).toNatClampNeg = 103 + a := nI_clamp (by omega)
  refine a_iload_n dX11_borders_12 rfl ?_
  refine a_iload_n dX11_borders_13 rfl ?_
  refine a_icmp_ge dX11_borders_14 (tgt := 42) (by decide) (fun c14 => ?_) (fun c14 => ?_)
  · have hge : a ≤ c := le_of_le c14 (by omega) (by omega)
    have hie : c = a := by omega
    subst hie
    exact hE
  · have hlt : c < a := lt_of_nle c14 (by omega) (by omega)
    refine a_aload_n dX11_borders_17 rfl ?_
    refine a_getR (ci := 11) (j := 11) dX11_borders_18 rfl rfl (by decide) rfl fl_11_72 ?_
    refine a_bipush (v := 103) dX11_borders_21 (by decide) ?_
    refine a_iload_n dX11_borders_23 rfl ?_
    refine a_iadd dX11_borders_24 ?_
    refine a_iaload dX11_borders_25 rfl (by (try rw [e1]); exact vp_in_nI (by omega) (by decide)) ?_
    try simp (disch := first | decide | assumption | omega) only [ui_eq, ui_k, ui_j, ui_b, ui_2, ul_1, ul_eq, ul_k, ul_j, ul_b, e1, e2]
    refine a_iload_n dX11_borders_26 rfl ?_
    refine a_cS2i dX11_borders_27 ml_11_113 ws_11_has (by decide) (Nat.le_of_ble_eq_true rfl) (c11_has ⟨rfl, rfl⟩) ?_
    try simp (disch := first | decide | assumption | omega) only [ui_eq, ui_k, ui_j, ui_b, ui_2, ul_1, ul_eq, ul_k, ul_j, ul_b, e1, e2]
    refine a_if_eq dX11_borders_30 (tgt := 36) (by decide) (fun c30 => ?_) (fun c30 => ?_)
    · refine a_inc (c := 1) dX11_borders_36 rfl (by decide) (by decide) rfl ?_
      dsimp only [lset]
      refine a_goto dX11_borders_39 (tgt := 12) (by decide) ?_
      rw [nI_1]
      have e := l11_bI (l := l) (G := G) ha (c + 1) (by omega) hE
      simp only [bI, c14, c30, if_true, if_false] at e
      exact e
    · refine a_inc (c := 1) dX11_borders_33 rfl (by decide) (by decide) rfl ?_
      dsimp only [lset]
      refine a_inc (c := 1) dX11_borders_36 rfl (by decide) (by decide) rfl ?_
      dsimp only [lset]
      refine a_goto dX11_borders_39 (tgt := 12) (by decide) ?_
      rw [nI_1]
      have e := l11_bI (l := l) (G := G) ha (c + 1) (by omega) hE
      simp only [bI, c14, c30, if_true, if_false] at e
      exact e
termination_by a - c
decreasing_by all_goals omega
theorem l11_bO {l : Launch} {G : GG} {h : AH} {Q : Option Value → AH → Prop} (a : Nat) (ha : a ≤ 8) (hQ : Q (some (.int (bO (h.1 3 2) 8))) h) : AW l G 1 RX11 cX11_borders 4 (some .int) 4 [some (.ref (G.1 3 0)), some (.int (bO (h.1 3 2) a)), some (.int (nI a))] [] h Q := by
  refine a_iload_n dX11_borders_4 rfl ?_
  refine a_bipush (v := 8) dX11_borders_5 (by decide) ?_
  refine a_icmp_ge dX11_borders_7 (tgt := 48) (by decide) (fun c7 => ?_) (fun c7 => ?_)
  · have hge : 8 ≤ a := le_of_le (b := 8) c7 (by omega) (by decide)
    have hie : a = 8 := by omega
    subst hie
    refine a_iload_n dX11_borders_48 rfl ?_
    exact a_iret dX11_borders_49 rfl hQ
  · have hlt : a < 8 := lt_of_nle (b := 8) c7 (by omega) (by decide)
    refine a_iconst (v := 0) dX11_borders_10 (by decide) ?_
    refine a_istore_n dX11_borders_11 (by decide) rfl ?_
    dsimp only [lset]
    refine l11_bI hlt 0 (by omega) ?_
    refine a_inc (c := 1) dX11_borders_42 rfl (by decide) (by decide) rfl ?_
    dsimp only [lset]
    refine a_goto dX11_borders_45 (tgt := 4) (by decide) ?_
    refine a_take 3 ?_
    dsimp only [List.take]
    rw [nI_1]
    exact l11_bO (a + 1) (by omega) hQ
termination_by 8 - a
decreasing_by all_goals omega
theorem c11_borders {l : Launch} {G : GG} {h : AH} {Q : Option Value → AH → Prop}  (hQ : Q (some (.int (bO (h.1 3 2) 8))) h) : Ct l G 1 yX11_borders cX11_borders 4 (some .int) [.ref (G.1 3 0)] h Q := by
  refine Ct.of (by decide) (Nat.le_of_ble_eq_true rfl) ?_
  show AW l G 1 RX11 cX11_borders 4 (some .int) 0 [some (.ref (G.1 3 0))] [] h Q
  refine a_iconst (v := 0) dX11_borders_0 (by decide) ?_
  refine a_istore_n dX11_borders_1 (by decide) rfl ?_
  dsimp only [lset]
  refine a_iconst (v := 0) dX11_borders_2 (by decide) ?_
  refine a_istore_n dX11_borders_3 (by decide) rfl ?_
  dsimp only [lset]
  exact l11_bO 0 (by omega) hQ
theorem l11_mis {l : Launch} {G : GG} {h : AH} {Q : Option Value → AH → Prop} {nq : Nat} (hnq : h.1 3 2 4 = nI nq) (hq8 : nq ≤ 8) (q : Nat) (hq : q ≤ nq) (hQ : Q (some (.int (sumI (fun q => mQ (h.1 3 2) q 2) nq))) h) : AW l G 1 RX11 cX11_misuses 3 (some .int) 4 [some (.ref (G.1 3 0)), some (.int (sumI (fun q => mQ (h.1 3 2) q 2) q)), some (.int (nI q))] [] h Q := by
  refine a_iload_n dX11_misuses_4 rfl ?_
  refine a_aload_n dX11_misuses_5 rfl ?_
  refine a_getR (ci := 11) (j := 11) dX11_misuses_6 rfl rfl (by decide) rfl fl_11_72 ?_
  refine a_iconst (v := 4) dX11_misuses_9 (by decide) ?_
  refine a_iaload dX11_misuses_10 rfl (by rw [vp_in_iff]; decide) ?_
  try simp (disch := first | decide | assumption | omega) only [ui_eq, ui_k, ui_j, ui_b, ui_2, ul_1, ul_eq, ul_k, ul_j, ul_b, cl4, hnq]
  refine a_icmp_ge dX11_misuses_11 (tgt := 29) (by decide) (fun c11 => ?_) (fun c11 => ?_)
  · have hge : nq ≤ q := le_of_le c11 (by omega) (by omega)
    have hie : q = nq := by omega
    subst hie
    refine a_iload_n dX11_misuses_29 rfl ?_
    exact a_iret dX11_misuses_30 rfl hQ
  · have hlt : q < nq := lt_of_nle c11 (by omega) (by omega)
    refine a_iload_n dX11_misuses_14 rfl ?_
    refine a_aload_n dX11_misuses_15 rfl ?_
    refine a_iload_n dX11_misuses_16 rfl ?_
    refine a_iconst (v := 2) dX11_misuses_17 (by decide) ?_
    refine a_cV2i dX11_misuses_18 ml_11_176 wv_11_lorryOf rfl rfl (by decide) (Nat.le_of_ble_eq_true rfl) (c11_lorryOf (t := q) (w := 2) (by omega) (by decide) ⟨rfl, rfl⟩) ?_
    try simp (disch := first | decide | assumption | omega) only [ui_eq, ui_k, ui_j, ui_b, ui_2, ul_1, ul_eq, ul_k, ul_j, ul_b, cl4, hnq]
    refine a_iadd dX11_misuses_21 ?_
    refine a_istore_n dX11_misuses_22 (by decide) rfl ?_
    dsimp only [lset]
    refine a_inc (c := 1) dX11_misuses_23 rfl (by decide) (by decide) rfl ?_
    dsimp only [lset]
    refine a_goto dX11_misuses_26 (tgt := 4) (by decide) ?_
    rw [nI_1]
    exact l11_mis hnq hq8 (q + 1) (by omega) hQ
termination_by nq - q
decreasing_by all_goals omega
theorem c11_misuses {l : Launch} {G : GG} {h : AH} {Q : Option Value → AH → Prop} {nq : Nat} (hnq : h.1 3 2 4 = nI nq) (hq8 : nq ≤ 8) (hQ : Q (some (.int (sumI (fun q => mQ (h.1 3 2) q 2) nq))) h) : Ct l G 1 yX11_misuses cX11_misuses 3 (some .int) [.ref (G.1 3 0)] h Q := by
  refine Ct.of (by decide) (Nat.le_of_ble_eq_true rfl) ?_
  show AW l G 1 RX11 cX11_misuses 3 (some .int) 0 [some (.ref (G.1 3 0))] [] h Q
  refine a_iconst (v := 0) dX11_misuses_0 (by decide) ?_
  refine a_istore_n dX11_misuses_1 (by decide) rfl ?_
  dsimp only [lset]
  refine a_iconst (v := 0) dX11_misuses_2 (by decide) ?_
  refine a_istore_n dX11_misuses_3 (by decide) rfl ?_
  dsimp only [lset]
  exact l11_mis hnq hq8 0 (by omega) hQ
theorem l11_way {l : Launch} {G : GG} {h : AH} {Q : Option Value → AH → Prop} {t m : Nat} (ht : t < 40) (hm : mT (h.1 3 2) t 1 = nI m) (hm6 : m ≤ 6) (k : Nat) (hk : k ≤ m) (hQ : Q (some (.int (wayG (h.1 3 2) t m))) h) : AW l G 1 RX11 cX11_wayOf 4 (some .int) 4 [some (.ref (G.1 3 0)), some (.int (nI t)), some (.int (wayG (h.1 3 2) t k)), some (.int (nI k))] [] h Q := by
  have e7 : (7 : Int32) + nI k = nI (7 + k) := nI_add 7 k
  have hm2 : h.1 3 2 (111 + 13 * t + 1) = nI m := hm
  refine a_iload_n dX11_wayOf_4 rfl ?_
  refine a_aload_n dX11_wayOf_5 rfl ?_
  refine a_iload_n dX11_wayOf_6 rfl ?_
  refine a_iconst (v := 1) dX11_wayOf_7 (by decide) ?_
  refine a_cV2i dX11_wayOf_8 ml_11_160 wv_11_its rfl rfl (by decide) (Nat.le_of_ble_eq_true rfl) (c11_its (t := t) (w := 1) (by omega) (by decide) ⟨rfl, rfl⟩) ?_
  try simp (disch := first | decide | assumption | omega) only [ui_eq, ui_k, ui_j, ui_b, ui_2, ul_1, ul_eq, ul_k, ul_j, ul_b, hm2]
  refine a_icmp_ge dX11_wayOf_11 (tgt := 34) (by decide) (fun c11 => ?_) (fun c11 => ?_)
  · have hge : m ≤ k := le_of_le c11 (by omega) (by omega)
    have hie : k = m := by omega
    subst hie
    refine a_iload_n dX11_wayOf_34 rfl ?_
    exact a_iret dX11_wayOf_35 rfl hQ
  · have hlt : k < m := lt_of_nle c11 (by omega) (by omega)
    refine a_iload_n dX11_wayOf_14 rfl ?_
    refine a_iconst (v := 1) dX11_wayOf_15 (by decide) ?_
    refine a_aload_n dX11_wayOf_16 rfl ?_
    refine a_iload_n dX11_wayOf_17 rfl ?_
    refine a_bipush (v := 7) dX11_wayOf_18 (by decide) ?_
    refine a_iload_n dX11_wayOf_20 rfl ?_
    refine a_iadd dX11_wayOf_21 ?_
    rw [e7]
    refine a_cV2i dX11_wayOf_22 ml_11_160 wv_11_its rfl rfl (by decide) (Nat.le_of_ble_eq_true rfl) (c11_its (t := t) (w := 7 + k) (by omega) (by omega) ⟨rfl, rfl⟩) ?_
    try simp (disch := first | decide | assumption | omega) only [ui_eq, ui_k, ui_j, ui_b, ui_2, ul_1, ul_eq, ul_k, ul_j, ul_b, hm2]
    refine a_ishl dX11_wayOf_25 ?_
    refine a_ior dX11_wayOf_26 ?_
    refine a_istore_n dX11_wayOf_27 (by decide) rfl ?_
    dsimp only [lset]
    refine a_inc (c := 1) dX11_wayOf_28 rfl (by decide) (by decide) rfl ?_
    dsimp only [lset]
    refine a_goto dX11_wayOf_31 (tgt := 4) (by decide) ?_
    rw [nI_1]
    exact l11_way ht hm hm6 (k + 1) (by omega) hQ
termination_by m - k
decreasing_by all_goals omega
theorem c11_wayOf {l : Launch} {G : GG} {h : AH} {Q : Option Value → AH → Prop} {t m : Nat} (ht : t < 40) (hm : mT (h.1 3 2) t 1 = nI m) (hm6 : m ≤ 6) (hQ : Q (some (.int (wayM (h.1 3 2) t))) h) : Ct l G 1 yX11_wayOf cX11_wayOf 4 (some .int) [.ref (G.1 3 0), .int (nI t)] h Q := by
  refine Ct.of (by decide) (Nat.le_of_ble_eq_true rfl) ?_
  show AW l G 1 RX11 cX11_wayOf 4 (some .int) 0 [some (.ref (G.1 3 0)), some (.int (nI t))] [] h Q
  have ew : wayM (h.1 3 2) t = wayG (h.1 3 2) t m := by rw [wayM, hm, nI_clamp (by omega)]
  rw [ew] at hQ
  refine a_iconst (v := 0) dX11_wayOf_0 (by decide) ?_
  refine a_istore_n dX11_wayOf_1 (by decide) rfl ?_
  dsimp only [lset]
  refine a_iconst (v := 0) dX11_wayOf_2 (by decide) ?_
  refine a_istore_n dX11_wayOf_3 (by decide) rfl ?_
  dsimp only [lset]
  exact l11_way ht hm hm6 0 (by omega) hQ
theorem c11_isFit {l : Launch} {G : GG} {h : AH} {Q : Option Value → AH → Prop} {k t m q : Nat} (hk : k < 6) (ht : t < 40) (hm : mT (h.1 3 2) t 1 = nI m) (hm6 : m ≤ 6) (hq : mT (h.1 3 2) t 0 = nI q) (hq8 : q < 8) (hQ : Q (some (.int (fitM (h.1 3 2) k t))) h) : Ct l G 2 yX11_isFit cX11_isFit 4 (some .boolean) [.ref (G.1 3 0), .int (nI k), .int (nI t)] h Q := by
  refine Ct.of (by decide) (Nat.le_of_ble_eq_true rfl) ?_
  show AW l G 2 RX11 cX11_isFit 4 (some .boolean) 0 [some (.ref (G.1 3 0)), some (.int (nI k)), some (.int (nI t))] [] h Q
  have hq2 : h.1 3 2 (111 + 13 * t + 0) = nI q := hq
  have eq : (mT (h.1 3 2) t 0).toNatClampNeg = q := by rw [hq]; exact nI_clamp (by omega)
  refine a_aload_n dX11_isFit_0 rfl ?_
  refine a_iload_n dX11_isFit_1 rfl ?_
  refine a_cV1i dX11_isFit_2 ml_11_210 wv_11_wayOf rfl rfl (by decide) (Nat.le_of_ble_eq_true rfl) (c11_wayOf ht hm hm6 ⟨rfl, rfl⟩) ?_
  try simp (disch := first | decide | assumption | omega) only [ui_eq, ui_k, ui_j, ui_b, ui_2, ul_1, ul_eq, ul_k, ul_j, ul_b, hq2]
  refine a_iconst (v := 1) dX11_isFit_5 (by decide) ?_
  refine a_aload_n dX11_isFit_6 rfl ?_
  refine a_iload_n dX11_isFit_7 rfl ?_
  refine a_bipush (v := 7) dX11_isFit_8 (by decide) ?_
  refine a_cV2i dX11_isFit_10 ml_11_160 wv_11_its rfl rfl (by decide) (Nat.le_of_ble_eq_true rfl) (c11_its (t := t) (w := 7) ht (by decide) ⟨rfl, rfl⟩) ?_
  try simp (disch := first | decide | assumption | omega) only [ui_eq, ui_k, ui_j, ui_b, ui_2, ul_1, ul_eq, ul_k, ul_j, ul_b, hq2]
  refine a_ishl dX11_isFit_13 ?_
  refine a_iconst (v := (-1)) dX11_isFit_14 (by decide) ?_
  refine a_ixor dX11_isFit_15 ?_
  refine a_iand dX11_isFit_16 ?_
  refine a_istore_n dX11_isFit_17 (by decide) rfl ?_
  dsimp only [lset]
  refine a_iload_n dX11_isFit_18 rfl ?_
  refine a_aload_n dX11_isFit_19 rfl ?_
  refine a_iload_n dX11_isFit_20 rfl ?_
  refine a_bipush (v := 6) dX11_isFit_21 (by decide) ?_
  refine a_cV2i dX11_isFit_23 ml_11_167 wv_11_typed rfl rfl (by decide) (Nat.le_of_ble_eq_true rfl) (c11_typed (t := k) (w := 6) hk (by decide) ⟨rfl, rfl⟩) ?_
  try simp (disch := first | decide | assumption | omega) only [ui_eq, ui_k, ui_j, ui_b, ui_2, ul_1, ul_eq, ul_k, ul_j, ul_b, hq2]
  refine a_iconst (v := (-1)) dX11_isFit_26 (by decide) ?_
  refine a_ixor dX11_isFit_27 ?_
  refine a_iand dX11_isFit_28 ?_
  refine a_if_ne dX11_isFit_29 (tgt := 56) (by decide) (fun c29 => ?_) (fun c29 => ?_)
  · refine a_iconst (v := 0) dX11_isFit_56 (by decide) ?_
    exact a_zret dX11_isFit_57 rfl rfl (by rw [fitM, eq] at hQ; simp only [mT, mY, mQ, c29, if_true, if_false] at hQ ⊢; exact hQ)
  · refine a_aload_n dX11_isFit_32 rfl ?_
    refine a_aload_n dX11_isFit_33 rfl ?_
    refine a_iload_n dX11_isFit_34 rfl ?_
    refine a_iconst (v := 0) dX11_isFit_35 (by decide) ?_
    refine a_cV2i dX11_isFit_36 ml_11_160 wv_11_its rfl rfl (by decide) (Nat.le_of_ble_eq_true rfl) (c11_its (t := t) (w := 0) ht (by decide) ⟨rfl, rfl⟩) ?_
    try simp (disch := first | decide | assumption | omega) only [ui_eq, ui_k, ui_j, ui_b, ui_2, ul_1, ul_eq, ul_k, ul_j, ul_b, hq2]
    refine a_iconst (v := 1) dX11_isFit_39 (by decide) ?_
    refine a_cV2i dX11_isFit_40 ml_11_176 wv_11_lorryOf rfl rfl (by decide) (Nat.le_of_ble_eq_true rfl) (c11_lorryOf (t := q) (w := 1) hq8 (by decide) ⟨rfl, rfl⟩) ?_
    try simp (disch := first | decide | assumption | omega) only [ui_eq, ui_k, ui_j, ui_b, ui_2, ul_1, ul_eq, ul_k, ul_j, ul_b, hq2]
    refine a_aload_n dX11_isFit_43 rfl ?_
    refine a_iload_n dX11_isFit_44 rfl ?_
    refine a_iconst (v := 2) dX11_isFit_45 (by decide) ?_
    refine a_cV2i dX11_isFit_46 ml_11_167 wv_11_typed rfl rfl (by decide) (Nat.le_of_ble_eq_true rfl) (c11_typed (t := k) (w := 2) hk (by decide) ⟨rfl, rfl⟩) ?_
    try simp (disch := first | decide | assumption | omega) only [ui_eq, ui_k, ui_j, ui_b, ui_2, ul_1, ul_eq, ul_k, ul_j, ul_b, hq2]
    refine a_icmp_lt dX11_isFit_49 (tgt := 56) (by decide) (fun c49 => ?_) (fun c49 => ?_)
    · refine a_iconst (v := 0) dX11_isFit_56 (by decide) ?_
      exact a_zret dX11_isFit_57 rfl rfl (by rw [fitM, eq] at hQ; simp only [mT, mY, mQ, c29, c49, if_true, if_false] at hQ ⊢; exact hQ)
    · refine a_iconst (v := 1) dX11_isFit_52 (by decide) ?_
      refine a_goto dX11_isFit_53 (tgt := 57) (by decide) ?_
      exact a_zret dX11_isFit_57 rfl rfl (by rw [fitM, eq] at hQ; simp only [mT, mY, mQ, c29, c49, if_true, if_false] at hQ ⊢; exact hQ)
theorem fitM_01 (N : Nat → Int32) (k t : Nat) : fitM N k t = 0 ∨ fitM N k t = 1 := by
  unfold fitM
  repeat' split
  all_goals first | exact Or.inl rfl | exact Or.inr rfl
theorem tOG_c (N : Nat → Int32) (x : Int32) (f : Nat) : ∀ t, tOG N x f t = -1 ∨ ∃ u, t ≤ u ∧ u < t + f ∧ tOG N x f t = nI u ∧ mT N u 0 = x ∧ ¬ mT N u 2 = 2 := by
  induction f with
  | zero => intro t; exact Or.inl rfl
  | succ f ih =>
    intro t
    unfold tOG
    split
    · split
      · rcases ih (t + 1) with e | ⟨u, h1, h2, h3, h4⟩
        · exact Or.inl e
        · exact Or.inr ⟨u, by omega, by omega, h3, h4⟩
      · exact Or.inr ⟨t, by omega, by omega, rfl, by assumption, by assumption⟩
    · rcases ih (t + 1) with e | ⟨u, h1, h2, h3, h4⟩
      · exact Or.inl e
      · exact Or.inr ⟨u, by omega, by omega, h3, h4⟩
def whyF (N : Nat → Int32) (nt : Nat) (x y : Int32) : Int32 :=
  if tOG N x nt 0 = -1 then 1 else
  if mT N (tOG N x nt 0).toNatClampNeg 2 = 1 then (if hasB (wayM N (tOG N x nt 0).toNatClampNeg) y = 0 then 2 else
    if N 6 - mT N (tOG N x nt 0).toNatClampNeg 4 ≤ mY N (mT N (tOG N x nt 0).toNatClampNeg 3).toNatClampNeg 5 then 0 else 3) else 1
theorem hasB_01 (x y : Int32) : hasB x y = 0 ∨ hasB x y = 1 := by
  unfold hasB
  split
  · exact Or.inr rfl
  · exact Or.inl rfl
theorem c11_whyStopped {l : Launch} {G : GG} {h : AH} {Q : Option Value → AH → Prop} {nt : Nat} (hnt : h.1 3 2 5 = nI nt) (ht40 : nt ≤ 40) (hT : TW (h.1 3 2) nt) {x y : Int32} (hQ : Q (some (.int (whyF (h.1 3 2) nt x y))) h) : Ct l G 2 yX11_whyStopped cX11_whyStopped 4 (some .int) [.ref (G.1 3 0), .int x, .int y] h Q := by
  refine Ct.of (by decide) (Nat.le_of_ble_eq_true rfl) ?_
  show AW l G 2 RX11 cX11_whyStopped 4 (some .int) 0 [some (.ref (G.1 3 0)), some (.int x), some (.int y)] [] h Q
  refine a_aload_n dX11_whyStopped_0 rfl ?_
  refine a_iload_n dX11_whyStopped_1 rfl ?_
  refine a_cV1i dX11_whyStopped_2 ml_11_201 wv_11_tripOf rfl rfl (by decide) (Nat.le_of_ble_eq_true rfl) (c11_tripOf hnt ht40 ⟨rfl, rfl⟩) ?_
  try simp (disch := first | decide | assumption | omega) only [ui_eq, ui_k, ui_j, ui_b, ui_2, ul_1, ul_eq, ul_k, ul_j, ul_b, cl6, hb2]
  refine a_istore_n dX11_whyStopped_5 (by decide) rfl ?_
  dsimp only [lset]
  refine a_iload_n dX11_whyStopped_6 rfl ?_
  refine a_iconst (v := (-1)) dX11_whyStopped_7 (by decide) ?_
  refine a_icmp_eq dX11_whyStopped_8 (tgt := 21) (by decide) (fun c8 => ?_) (fun c8 => ?_)
  · rw [whyF, if_pos c8] at hQ
    have hb2 : (0 : Nat) = 0 := rfl
    refine a_iconst (v := 1) dX11_whyStopped_21 (by decide) ?_
    exact a_iret dX11_whyStopped_22 rfl (by
  first
    | exact hQ
    | (rw [if_neg c18m] at hQ; exact hQ))
  · obtain ⟨u, -, hu, hue, -, -⟩ := (tOG_c (h.1 3 2) x nt 0).resolve_left c8
    rw [Nat.zero_add] at hu
    have eu : (tOG (h.1 3 2) x nt 0).toNatClampNeg = u := by rw [hue]; exact nI_clamp (by omega)
    rw [whyF, if_neg c8, eu] at hQ
    rw [hue]
    obtain ⟨-, ⟨m, hm6, hm⟩, hT3⟩ := hT u hu
    have hb2 : (0 : Nat) = 0 := rfl
    refine a_aload_n dX11_whyStopped_11 rfl ?_
    refine a_iload_n dX11_whyStopped_12 rfl ?_
    refine a_iconst (v := 2) dX11_whyStopped_13 (by decide) ?_
    refine a_cV2i dX11_whyStopped_14 ml_11_160 wv_11_its rfl rfl (by decide) (Nat.le_of_ble_eq_true rfl) (c11_its (t := u) (w := 2) (by omega) (by decide) ⟨rfl, rfl⟩) ?_
    try simp (disch := first | decide | assumption | omega) only [ui_eq, ui_k, ui_j, ui_b, ui_2, ul_1, ul_eq, ul_k, ul_j, ul_b, cl6, hb2]
    refine a_iconst (v := 1) dX11_whyStopped_17 (by decide) ?_
    refine a_icmp_eq dX11_whyStopped_18 (tgt := 23) (by decide) (fun c18 => ?_) (fun c18 => ?_)
    · have c18m : mT (h.1 3 2) u 2 = 1 := c18
      obtain ⟨k, hk, hb1⟩ := hT3 c18m
      have hb2 : h.1 3 2 (111 + 13 * u + 3) = nI k := hb1
      have ek : (mT (h.1 3 2) u 3).toNatClampNeg = k := by rw [hb1]; exact nI_clamp (by omega)
      refine a_aload_n dX11_whyStopped_23 rfl ?_
      refine a_iload_n dX11_whyStopped_24 rfl ?_
      refine a_cV1i dX11_whyStopped_25 ml_11_210 wv_11_wayOf rfl rfl (by decide) (Nat.le_of_ble_eq_true rfl) (c11_wayOf (by omega) hm hm6 ⟨rfl, rfl⟩) ?_
      try simp (disch := first | decide | assumption | omega) only [ui_eq, ui_k, ui_j, ui_b, ui_2, ul_1, ul_eq, ul_k, ul_j, ul_b, cl6, hb2]
      refine a_iload_n dX11_whyStopped_28 rfl ?_
      refine a_cS2i dX11_whyStopped_29 ml_11_113 ws_11_has (by decide) (Nat.le_of_ble_eq_true rfl) (c11_has ⟨rfl, rfl⟩) ?_
      try simp (disch := first | decide | assumption | omega) only [ui_eq, ui_k, ui_j, ui_b, ui_2, ul_1, ul_eq, ul_k, ul_j, ul_b, cl6, hb2]
      refine a_if_ne dX11_whyStopped_32 (tgt := 37) (by decide) (fun c32 => ?_) (fun c32 => ?_)
      · refine a_aload_n dX11_whyStopped_37 rfl ?_
        refine a_getR (ci := 11) (j := 11) dX11_whyStopped_38 rfl rfl (by decide) rfl fl_11_72 ?_
        refine a_bipush (v := 6) dX11_whyStopped_41 (by decide) ?_
        refine a_iaload dX11_whyStopped_43 rfl (by rw [vp_in_iff]; decide) ?_
        try simp (disch := first | decide | assumption | omega) only [ui_eq, ui_k, ui_j, ui_b, ui_2, ul_1, ul_eq, ul_k, ul_j, ul_b, cl6, hb2]
        refine a_aload_n dX11_whyStopped_44 rfl ?_
        refine a_iload_n dX11_whyStopped_45 rfl ?_
        refine a_iconst (v := 4) dX11_whyStopped_46 (by decide) ?_
        refine a_cV2i dX11_whyStopped_47 ml_11_160 wv_11_its rfl rfl (by decide) (Nat.le_of_ble_eq_true rfl) (c11_its (t := u) (w := 4) (by omega) (by decide) ⟨rfl, rfl⟩) ?_
        try simp (disch := first | decide | assumption | omega) only [ui_eq, ui_k, ui_j, ui_b, ui_2, ul_1, ul_eq, ul_k, ul_j, ul_b, cl6, hb2]
        refine a_isub dX11_whyStopped_50 ?_
        refine a_aload_n dX11_whyStopped_51 rfl ?_
        refine a_aload_n dX11_whyStopped_52 rfl ?_
        refine a_iload_n dX11_whyStopped_53 rfl ?_
        refine a_iconst (v := 3) dX11_whyStopped_54 (by decide) ?_
        refine a_cV2i dX11_whyStopped_55 ml_11_160 wv_11_its rfl rfl (by decide) (Nat.le_of_ble_eq_true rfl) (c11_its (t := u) (w := 3) (by omega) (by decide) ⟨rfl, rfl⟩) ?_
        try simp (disch := first | decide | assumption | omega) only [ui_eq, ui_k, ui_j, ui_b, ui_2, ul_1, ul_eq, ul_k, ul_j, ul_b, cl6, hb2]
        refine a_iconst (v := 5) dX11_whyStopped_58 (by decide) ?_
        refine a_cV2i dX11_whyStopped_59 ml_11_167 wv_11_typed rfl rfl (by decide) (Nat.le_of_ble_eq_true rfl) (c11_typed (t := k) (w := 5) hk (by decide) ⟨rfl, rfl⟩) ?_
        try simp (disch := first | decide | assumption | omega) only [ui_eq, ui_k, ui_j, ui_b, ui_2, ul_1, ul_eq, ul_k, ul_j, ul_b, cl6, hb2]
        refine a_icmp_le dX11_whyStopped_62 (tgt := 69) (by decide) (fun c62 => ?_) (fun c62 => ?_)
        · refine a_iconst (v := 0) dX11_whyStopped_69 (by decide) ?_
          exact a_iret dX11_whyStopped_70 rfl (by
  rw [if_pos c18m] at hQ
  first
    | (rw [if_pos c32] at hQ; exact hQ)
    | (rw [if_neg c32, ek] at hQ; simp only [mT, mY, c8, c18, c32, c62, if_true, if_false] at hQ ⊢; exact hQ))
        · refine a_iconst (v := 3) dX11_whyStopped_65 (by decide) ?_
          refine a_goto dX11_whyStopped_66 (tgt := 70) (by decide) ?_
          exact a_iret dX11_whyStopped_70 rfl (by
  rw [if_pos c18m] at hQ
  first
    | (rw [if_pos c32] at hQ; exact hQ)
    | (rw [if_neg c32, ek] at hQ; simp only [mT, mY, c8, c18, c32, c62, if_true, if_false] at hQ ⊢; exact hQ))
      · refine a_iconst (v := 2) dX11_whyStopped_35 (by decide) ?_
        exact a_iret dX11_whyStopped_36 rfl (by
  rw [if_pos c18m] at hQ
  first
    | (rw [if_pos c32] at hQ; exact hQ)
    | (rw [if_neg c32, ek] at hQ; simp only [mT, mY, c8, c18, c32, if_true, if_false] at hQ ⊢; exact hQ))
    · have c18m : ¬ mT (h.1 3 2) u 2 = 1 := c18
      refine a_iconst (v := 1) dX11_whyStopped_21 (by decide) ?_
      exact a_iret dX11_whyStopped_22 rfl (by
  first
    | exact hQ
    | (rw [if_neg c18m] at hQ; exact hQ))
