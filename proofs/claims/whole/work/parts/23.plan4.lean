theorem isB0 {b : Nat} (hb : isB b) : b ≠ 0 := by rcases hb with rfl | rfl <;> decide
theorem isB0' {b : Nat} (hb : isB b) : 0 ≠ b := by rcases hb with rfl | rfl <;> decide
def prF (h : AH) (b k : Nat) (wt : Int64) (c : Nat) : Int64 := if suitF h b (nI c) (h.1 0 7 k) = 0 then 5764801000000 else (h.1 b 7 c).toInt64 * 5764801 + (nI c).toInt64 * wt
def filL (f : Nat → Int64) (P : Nat → Int64) (a i : Nat) : Nat → Int64 := fun j => if a ≤ j ∧ j < a + i then f (j - a) else P j
theorem filL_0 (f P : Nat → Int64) (a : Nat) : filL f P a 0 = P := by funext j; simp [filL]; omega
theorem filL_s (f P : Nat → Int64) (a i : Nat) : vp_updL (filL f P a i) (a + i) (f i) = filL f P a (i + 1) := by
  funext j
  simp only [vp_updL, filL]
  by_cases h : j = a + i
  · subst h
    simp
  · by_cases h2 : a ≤ j ∧ j < a + i
    · simp [h, h2, show j < a + (i + 1) by omega]
    · simp [h, h2, show ¬ (a ≤ j ∧ j < a + (i + 1)) by omega]
def prP (h : AH) (b k : Nat) (wt : Int64) (P : Nat → Int64) : Nat → Int64 := vp_updL (filL (prF h b k wt) P (k * 7) 6) (k * 7 + 6) (5764801000 + 6 * wt)
theorem uls {h : AH} {b k j : Nat} {f : Nat → Int64} {v : Int64} : ul (setL h b k f) b k j v = setL h b k (vp_updL f j v) := by
  rw [ul_set, setL_f, setL_setL]
theorem suitF_L {h : AH} {b k : Nat} {f : Nat → Int64} : suitF (setL h b k f) = suitF h := rfl
theorem toNat_le {h : AH} {b k j n : Nat} (hn : h.1 b k j = nI n) (N : Nat) (h8 : n ≤ N) (hN : N < 2 ^ 31) : (h.1 b k j).toInt ≤ N := by
  rw [hn, nI_toInt (by omega)]
  omega
theorem l5_pr {l : Launch} {G : GG} {h : AH} {Q : Option Value → AH → Prop} {b : Nat} (hb : isB b) (hp : (h.1 b 3 11).toInt ≤ 6) (ht : (h.1 b 21 9).toInt ≤ 40) (hq : (h.1 b 15 5).toInt ≤ 8) {k : Nat} (hk : k < 8) {wt : Int64} {P : Nat → Int64} (c : Nat) (hc : c ≤ 6) (hQ : Q none (setL h 0 8 (prP h b k wt P))) : AW l G 2 RX5 cX5_setPrices 6 none 3 [some (.ref (G.1 0 6)), some (.ref (G.1 b 0)), some (.int (nI k)), some (.long wt), none, some (.int (nI c))] [] (setL h 0 8 (filL (prF h b k wt) P (k * 7) c)) Q := by
  have hki : (nI k).toNatClampNeg = k := nI_clamp (by omega)
  have hci : (nI c).toNatClampNeg = c := nI_clamp (by omega)
  have hx1 := ix7 k c
  have hy1 : (nI (k * 7 + c)).toNatClampNeg = k * 7 + c := nI_clamp (by omega)
  have hx6 : nI k * 7 + 6 = nI (k * 7 + 6) := ix7 k 6
  have hy6 : (nI (k * 7 + 6)).toNatClampNeg = k * 7 + 6 := nI_clamp (by omega)
  refine a_iload dX5_setPrices_3 rfl ?_
  refine a_bipush (v := 6) dX5_setPrices_5 (by decide) ?_
  refine a_icmp_ge dX5_setPrices_7 (tgt := 70) (by decide) (fun c7 => ?_) (fun c7 => ?_)
  · have hge : 6 ≤ c := le_of_le (b := 6) c7 (by omega) (by decide)
    have hie : c = 6 := by omega
    subst hie
    refine a_aload_n dX5_setPrices_70 rfl ?_
    refine a_getR (ci := 5) (j := 1) dX5_setPrices_71 rfl rfl (by decide) rfl fl_5_15 ?_
    refine a_iload_n dX5_setPrices_74 rfl ?_
    refine a_bipush (v := 7) dX5_setPrices_75 (by decide) ?_
    refine a_imul dX5_setPrices_77 ?_
    refine a_bipush (v := 6) dX5_setPrices_78 (by decide) ?_
    refine a_iadd dX5_setPrices_80 ?_
    refine a_ldc2 (v := 5764801000) kl_5_82 dX5_setPrices_81 ?_
    refine a_ldc2 (v := 6) kl_5_84 dX5_setPrices_84 ?_
    refine a_lload_n dX5_setPrices_87 rfl ?_
    refine a_lmul dX5_setPrices_88 ?_
    refine a_ladd dX5_setPrices_89 ?_
    refine a_lastore dX5_setPrices_90 rfl (by (try rw [hx6]); exact vp_in_nI (by omega) (by decide)) ?_
    exact a_vret dX5_setPrices_91 rfl (by (try rw [hx6]); rw [hy6, uls]; exact hQ)
  · have hlt : c < 6 := lt_of_nle (b := 6) c7 (by omega) (by decide)
    refine a_aload_n dX5_setPrices_10 rfl ?_
    refine a_getR (ci := 5) (j := 1) dX5_setPrices_11 rfl rfl (by decide) rfl fl_5_15 ?_
    refine a_iload_n dX5_setPrices_14 rfl ?_
    refine a_bipush (v := 7) dX5_setPrices_15 (by decide) ?_
    refine a_imul dX5_setPrices_17 ?_
    refine a_iload dX5_setPrices_18 rfl ?_
    refine a_iadd dX5_setPrices_20 ?_
    refine a_aload_n dX5_setPrices_21 rfl ?_
    refine a_iload dX5_setPrices_22 rfl ?_
    refine a_aload_n dX5_setPrices_24 rfl ?_
    refine a_getR (ci := 5) (j := 0) dX5_setPrices_25 rfl rfl (by decide) rfl fl_5_11 ?_
    refine a_iload_n dX5_setPrices_28 rfl ?_
    refine a_iaload dX5_setPrices_29 rfl (vp_in_nI hk (by decide)) ?_
    try simp (disch := first | decide | assumption | omega) only [ui_eq, ui_k, ui_j, ui_b, ui_2, ul_1, ul_eq, ul_k, ul_j, ul_b, setI_eq, setI_k, setI_b, setI_2, setL_1, setL_eq, setL_k, setL_b, hki, hci, hx1, hy1, hx6, hy6, suitF_L]
    refine a_cV2i dX5_setPrices_30 ml_5_71 wv_1_suits (kdB hb rfl) rfl (by decide) (Nat.le_of_ble_eq_true rfl) (c1_suits hb hp ht hq ⟨rfl, rfl⟩) ?_
    try simp (disch := first | decide | assumption | omega) only [ui_eq, ui_k, ui_j, ui_b, ui_2, ul_1, ul_eq, ul_k, ul_j, ul_b, setI_eq, setI_k, setI_b, setI_2, setL_1, setL_eq, setL_k, setL_b, hki, hci, hx1, hy1, hx6, hy6, suitF_L]
    refine a_if_eq dX5_setPrices_33 (tgt := 60) (by decide) (fun c33 => ?_) (fun c33 => ?_)
    · refine a_ldc2 (v := 5764801000000) kl_5_80 dX5_setPrices_60 ?_
      refine a_lastore dX5_setPrices_63 rfl (by (try rw [hx1]); exact vp_in_nI (by omega) (by decide)) ?_
      refine a_inc (c := 1) dX5_setPrices_64 rfl (by decide) (by decide) rfl ?_
      dsimp only [lset]
      refine a_goto dX5_setPrices_67 (tgt := 3) (by decide) ?_
      try rw [hx1]
      rw [hy1, uls, nI_1]
      first
        | (rw [show (5764801000000 : Int64) = prF h b k wt c by rw [prF, if_pos c33], filL_s]; exact l5_pr hb hp ht hq hk (c + 1) (by omega) hQ)
        | (rw [show (h.1 b 7 c).toInt64 * 5764801 + (nI c).toInt64 * wt = prF h b k wt c by rw [prF, if_neg c33], filL_s]; exact l5_pr hb hp ht hq hk (c + 1) (by omega) hQ)
    · refine a_aload_n dX5_setPrices_36 rfl ?_
      refine a_getR (ci := 1) (j := 1) dX5_setPrices_37 (kdB hb rfl) rfl (by decide) rfl fl_5_57 ?_
      refine a_getR (ci := 4) (j := 3) dX5_setPrices_40 (kdB hb rfl) rfl (by decide) rfl fl_5_75 ?_
      refine a_iload dX5_setPrices_43 rfl ?_
      refine a_iaload dX5_setPrices_45 (kdB hb rfl) (vp_in_nI hlt (by decide)) ?_
      try simp (disch := first | decide | assumption | omega) only [ui_eq, ui_k, ui_j, ui_b, ui_2, ul_1, ul_eq, ul_k, ul_j, ul_b, setI_eq, setI_k, setI_b, setI_2, setL_1, setL_eq, setL_k, setL_b, hki, hci, hx1, hy1, hx6, hy6, suitF_L]
      refine a_i2l dX5_setPrices_46 ?_
      refine a_ldc2 (v := 5764801) kl_5_78 dX5_setPrices_47 ?_
      refine a_lmul dX5_setPrices_50 ?_
      refine a_iload dX5_setPrices_51 rfl ?_
      refine a_i2l dX5_setPrices_53 ?_
      refine a_lload_n dX5_setPrices_54 rfl ?_
      refine a_lmul dX5_setPrices_55 ?_
      refine a_ladd dX5_setPrices_56 ?_
      refine a_goto dX5_setPrices_57 (tgt := 63) (by decide) ?_
      refine a_lastore dX5_setPrices_63 rfl (by (try rw [hx1]); exact vp_in_nI (by omega) (by decide)) ?_
      refine a_inc (c := 1) dX5_setPrices_64 rfl (by decide) (by decide) rfl ?_
      dsimp only [lset]
      refine a_goto dX5_setPrices_67 (tgt := 3) (by decide) ?_
      try rw [hx1]
      rw [hy1, uls, nI_1]
      first
        | (rw [show (5764801000000 : Int64) = prF h b k wt c by rw [prF, if_pos c33], filL_s]; exact l5_pr hb hp ht hq hk (c + 1) (by omega) hQ)
        | (rw [show (h.1 b 7 c).toInt64 * 5764801 + (nI c).toInt64 * wt = prF h b k wt c by rw [prF, if_neg c33], filL_s]; exact l5_pr hb hp ht hq hk (c + 1) (by omega) hQ)
termination_by 6 - c
decreasing_by all_goals omega
theorem c5_setPrices {l : Launch} {G : GG} {h : AH} {Q : Option Value → AH → Prop} {b : Nat} (hb : isB b) (hp : (h.1 b 3 11).toInt ≤ 6) (ht : (h.1 b 21 9).toInt ≤ 40) (hq : (h.1 b 15 5).toInt ≤ 8) {k : Nat} (hk : k < 8) {wt : Int64} (hQ : Q none (setL h 0 8 (prP h b k wt (h.2 0 8)))) : Ct l G 2 yX5_setPrices cX5_setPrices 6 none [.ref (G.1 0 6), .ref (G.1 b 0), .int (nI k), .long wt] h Q := by
  refine Ct.of (by decide) (Nat.le_of_ble_eq_true rfl) ?_
  show AW l G 2 RX5 cX5_setPrices 6 none 0 [some (.ref (G.1 0 6)), some (.ref (G.1 b 0)), some (.int (nI k)), some (.long wt), none] [] h Q
  refine a_iconst (v := 0) dX5_setPrices_0 (by decide) ?_
  refine a_istore dX5_setPrices_1 (by decide) rfl ?_
  dsimp only [lset]
  have e0 := setL_self (h := h) (b := 0) (k := 8)
  rw [← filL_0 (prF h b k wt) (h.2 0 8) (k * 7)] at e0
  have e := l5_pr (l := l) (G := G) (h := h) (P := h.2 0 8) hb hp ht hq hk (wt := wt) 0 (by omega) hQ
  rw [e0] at e
  exact e
def costG (h : AH) (b : Nat) : Nat → Int32
  | 0 => 0
  | k + 1 => if hasI (h.1 b 3 11) (h.1 0 11 k) = 0 then costG h b k else costG h b k + h.1 b 7 (h.1 0 11 k).toNatClampNeg
def typG (tr g : Nat → Int32) (x : Int32) : Nat → Nat → Int32
  | 0, _ => -1
  | f + 1, k => if tr k = x then (if g k = 6 then typG tr g x f (k + 1) else g k) else typG tr g x f (k + 1)
theorem l5_cost {l : Launch} {G : GG} {h : AH} {Q : Option Value → AH → Prop} {b : Nat} (hb : isB b) (hp : (h.1 b 3 11).toInt ≤ 6) {w : Nat} (hw : h.1 0 6 7 = nI w) (hw8 : w ≤ 8) (k : Nat) (hk : k ≤ w) (hQ : Q (some (.int (costG h b w))) h) : AW l G 1 RX5 cX5_costTogether 4 (some .int) 4 [some (.ref (G.1 0 6)), some (.ref (G.1 b 3)), some (.int (costG h b k)), some (.int (nI k))] [] h Q := by
  have hki : (nI k).toNatClampNeg = k := nI_clamp (by omega)
  refine a_iload_n dX5_costTogether_4 rfl ?_
  refine a_aload_n dX5_costTogether_5 rfl ?_
  refine a_getI (ci := 5) (j := 7) dX5_costTogether_6 rfl rfl (by decide) rfl fl_5_34 ?_
  try simp (disch := first | decide | assumption | omega) only [ui_eq, ui_k, ui_j, ui_b, ui_2, ul_1, ul_eq, ul_k, ul_j, ul_b, hki, hw]
  refine a_icmp_ge dX5_costTogether_9 (tgt := 45) (by decide) (fun c9 => ?_) (fun c9 => ?_)
  · have hge : w ≤ k := le_of_le c9 (by omega) (by omega)
    have hie : k = w := by omega
    subst hie
    refine a_iload_n dX5_costTogether_45 rfl ?_
    exact a_iret dX5_costTogether_46 rfl hQ
  · have hlt : k < w := lt_of_nle c9 (by omega) (by omega)
    refine a_aload_n dX5_costTogether_12 rfl ?_
    refine a_aload_n dX5_costTogether_13 rfl ?_
    refine a_getR (ci := 5) (j := 4) dX5_costTogether_14 rfl rfl (by decide) rfl fl_5_25 ?_
    refine a_iload_n dX5_costTogether_17 rfl ?_
    refine a_iaload dX5_costTogether_18 rfl (vp_in_nI (show k < 8 by omega) (by decide)) ?_
    try simp (disch := first | decide | assumption | omega) only [ui_eq, ui_k, ui_j, ui_b, ui_2, ul_1, ul_eq, ul_k, ul_j, ul_b, hki, hw]
    refine a_cV1i dX5_costTogether_19 ml_5_61 wv_4_has (kdB hb rfl) rfl (by decide) (Nat.le_of_ble_eq_true rfl) (c4_has hb ⟨rfl, rfl⟩) ?_
    try simp (disch := first | decide | assumption | omega) only [ui_eq, ui_k, ui_j, ui_b, ui_2, ul_1, ul_eq, ul_k, ul_j, ul_b, hki, hw]
    refine a_if_eq dX5_costTogether_22 (tgt := 39) (by decide) (fun c22 => ?_) (fun c22 => ?_)
    · refine a_inc (c := 1) dX5_costTogether_39 rfl (by decide) (by decide) rfl ?_
      dsimp only [lset]
      refine a_goto dX5_costTogether_42 (tgt := 4) (by decide) ?_
      rw [nI_1]
      have e := l5_cost (l := l) (G := G) hb hp hw hw8 (k + 1) (by omega) hQ
      simp only [costG, c22, if_true, if_false] at e
      exact e
    · refine a_iload_n dX5_costTogether_25 rfl ?_
      refine a_aload_n dX5_costTogether_26 rfl ?_
      refine a_getR (ci := 4) (j := 3) dX5_costTogether_27 (kdB hb rfl) rfl (by decide) rfl fl_5_75 ?_
      refine a_aload_n dX5_costTogether_30 rfl ?_
      refine a_getR (ci := 5) (j := 4) dX5_costTogether_31 rfl rfl (by decide) rfl fl_5_25 ?_
      refine a_iload_n dX5_costTogether_34 rfl ?_
      refine a_iaload dX5_costTogether_35 rfl (vp_in_nI (show k < 8 by omega) (by decide)) ?_
      try simp (disch := first | decide | assumption | omega) only [ui_eq, ui_k, ui_j, ui_b, ui_2, ul_1, ul_eq, ul_k, ul_j, ul_b, hki, hw]
      refine a_iaload dX5_costTogether_36 (kdB hb rfl) (hasI_in c22 hp) ?_
      try simp (disch := first | decide | assumption | omega) only [ui_eq, ui_k, ui_j, ui_b, ui_2, ul_1, ul_eq, ul_k, ul_j, ul_b, hki, hw]
      refine a_iadd dX5_costTogether_37 ?_
      refine a_istore_n dX5_costTogether_38 (by decide) rfl ?_
      dsimp only [lset]
      refine a_inc (c := 1) dX5_costTogether_39 rfl (by decide) (by decide) rfl ?_
      dsimp only [lset]
      refine a_goto dX5_costTogether_42 (tgt := 4) (by decide) ?_
      rw [nI_1]
      have e := l5_cost (l := l) (G := G) hb hp hw hw8 (k + 1) (by omega) hQ
      simp only [costG, c22, if_true, if_false] at e
      exact e
termination_by w - k
decreasing_by all_goals omega
theorem c5_costTogether {l : Launch} {G : GG} {h : AH} {Q : Option Value → AH → Prop} {b : Nat} (hb : isB b) (hp : (h.1 b 3 11).toInt ≤ 6) {w : Nat} (hw : h.1 0 6 7 = nI w) (hw8 : w ≤ 8) (hQ : Q (some (.int (costG h b w))) h) : Ct l G 1 yX5_costTogether cX5_costTogether 4 (some .int) [.ref (G.1 0 6), .ref (G.1 b 3)] h Q := by
  refine Ct.of (by decide) (Nat.le_of_ble_eq_true rfl) ?_
  show AW l G 1 RX5 cX5_costTogether 4 (some .int) 0 [some (.ref (G.1 0 6)), some (.ref (G.1 b 3))] [] h Q
  refine a_iconst (v := 0) dX5_costTogether_0 (by decide) ?_
  refine a_istore_n dX5_costTogether_1 (by decide) rfl ?_
  dsimp only [lset]
  refine a_iconst (v := 0) dX5_costTogether_2 (by decide) ?_
  refine a_istore_n dX5_costTogether_3 (by decide) rfl ?_
  dsimp only [lset]
  exact l5_cost hb hp hw hw8 0 (by omega) hQ
theorem l5_typ {l : Launch} {G : GG} {h : AH} {Q : Option Value → AH → Prop} {x : Int32} {w : Nat} (hw : h.1 0 6 7 = nI w) (hw8 : w ≤ 8) (k : Nat) (hk : k ≤ w) (hQ : Q (some (.int (typG (h.1 0 7) (h.1 0 11) x (w - k) k))) h) : AW l G 0 RX5 cX5_typeFor 3 (some .int) 2 [some (.ref (G.1 0 6)), some (.int x), some (.int (nI k))] [] h Q := by
  have hki : (nI k).toNatClampNeg = k := nI_clamp (by omega)
  refine a_iload_n dX5_typeFor_2 rfl ?_
  refine a_aload_n dX5_typeFor_3 rfl ?_
  refine a_getI (ci := 5) (j := 7) dX5_typeFor_4 rfl rfl (by decide) rfl fl_5_34 ?_
  try simp (disch := first | decide | assumption | omega) only [ui_eq, ui_k, ui_j, ui_b, ui_2, ul_1, ul_eq, ul_k, ul_j, ul_b, hki, hw]
  refine a_icmp_ge dX5_typeFor_7 (tgt := 44) (by decide) (fun c7 => ?_) (fun c7 => ?_)
  · have hge : w ≤ k := le_of_le c7 (by omega) (by omega)
    rw [show w - k = 0 by omega, typG] at hQ
    refine a_iconst (v := (-1)) dX5_typeFor_44 (by decide) ?_
    exact a_iret dX5_typeFor_45 rfl hQ
  · have hlt : k < w := lt_of_nle c7 (by omega) (by omega)
    rw [show w - k = (w - (k + 1)) + 1 by omega, typG] at hQ
    refine a_aload_n dX5_typeFor_10 rfl ?_
    refine a_getR (ci := 5) (j := 0) dX5_typeFor_11 rfl rfl (by decide) rfl fl_5_11 ?_
    refine a_iload_n dX5_typeFor_14 rfl ?_
    refine a_iaload dX5_typeFor_15 rfl (vp_in_nI (show k < 8 by omega) (by decide)) ?_
    try simp (disch := first | decide | assumption | omega) only [ui_eq, ui_k, ui_j, ui_b, ui_2, ul_1, ul_eq, ul_k, ul_j, ul_b, hki, hw]
    refine a_iload_n dX5_typeFor_16 rfl ?_
    refine a_icmp_ne dX5_typeFor_17 (tgt := 38) (by decide) (fun c17 => ?_) (fun c17 => ?_)
    · refine a_inc (c := 1) dX5_typeFor_38 rfl (by decide) (by decide) rfl ?_
      dsimp only [lset]
      refine a_goto dX5_typeFor_41 (tgt := 2) (by decide) ?_
      rw [nI_1]
      first
        | (rw [if_neg c17] at hQ; exact l5_typ hw hw8 (k + 1) (by omega) hQ)
        | (rw [if_pos c17, if_pos c28] at hQ; exact l5_typ hw hw8 (k + 1) (by omega) hQ)
    · refine a_aload_n dX5_typeFor_20 rfl ?_
      refine a_getR (ci := 5) (j := 4) dX5_typeFor_21 rfl rfl (by decide) rfl fl_5_25 ?_
      refine a_iload_n dX5_typeFor_24 rfl ?_
      refine a_iaload dX5_typeFor_25 rfl (vp_in_nI (show k < 8 by omega) (by decide)) ?_
      try simp (disch := first | decide | assumption | omega) only [ui_eq, ui_k, ui_j, ui_b, ui_2, ul_1, ul_eq, ul_k, ul_j, ul_b, hki, hw]
      refine a_bipush (v := 6) dX5_typeFor_26 (by decide) ?_
      refine a_icmp_eq dX5_typeFor_28 (tgt := 38) (by decide) (fun c28 => ?_) (fun c28 => ?_)
      · refine a_inc (c := 1) dX5_typeFor_38 rfl (by decide) (by decide) rfl ?_
        dsimp only [lset]
        refine a_goto dX5_typeFor_41 (tgt := 2) (by decide) ?_
        rw [nI_1]
        first
          | (rw [if_neg c17] at hQ; exact l5_typ hw hw8 (k + 1) (by omega) hQ)
          | (rw [if_pos c17, if_pos c28] at hQ; exact l5_typ hw hw8 (k + 1) (by omega) hQ)
      · refine a_aload_n dX5_typeFor_31 rfl ?_
        refine a_getR (ci := 5) (j := 4) dX5_typeFor_32 rfl rfl (by decide) rfl fl_5_25 ?_
        refine a_iload_n dX5_typeFor_35 rfl ?_
        refine a_iaload dX5_typeFor_36 rfl (vp_in_nI (show k < 8 by omega) (by decide)) ?_
        try simp (disch := first | decide | assumption | omega) only [ui_eq, ui_k, ui_j, ui_b, ui_2, ul_1, ul_eq, ul_k, ul_j, ul_b, hki, hw]
        exact a_iret dX5_typeFor_37 rfl (by simp only [c7, c17, c28, if_true, if_false, not_true_eq_false, not_false_eq_true, Classical.not_not] at hQ ⊢; exact hQ)
termination_by w - k
decreasing_by all_goals omega
theorem c5_typeFor {l : Launch} {G : GG} {h : AH} {Q : Option Value → AH → Prop} {x : Int32} {w : Nat} (hw : h.1 0 6 7 = nI w) (hw8 : w ≤ 8) (hQ : Q (some (.int (typG (h.1 0 7) (h.1 0 11) x w 0))) h) : Ct l G 0 yX5_typeFor cX5_typeFor 3 (some .int) [.ref (G.1 0 6), .int x] h Q := by
  refine Ct.of (by decide) (Nat.le_of_ble_eq_true rfl) ?_
  show AW l G 0 RX5 cX5_typeFor 3 (some .int) 0 [some (.ref (G.1 0 6)), some (.int x)] [] h Q
  refine a_iconst (v := 0) dX5_typeFor_0 (by decide) ?_
  refine a_istore_n dX5_typeFor_1 (by decide) rfl ?_
  dsimp only [lset]
  exact l5_typ hw hw8 0 (by omega) hQ
/-- the waiting trips, at most eight -/
def colG (st tr : Nat → Int32) : Nat → (Nat → Int32) × Nat
  | 0 => (tr, 0)
  | t + 1 => if st t = 0 then (if 8 ≤ (colG st tr t).2 then colG st tr t else (upd (colG st tr t).1 (colG st tr t).2 (nI t), (colG st tr t).2 + 1)) else colG st tr t
theorem colG_le (st tr : Nat → Int32) (t : Nat) : (colG st tr t).2 ≤ 8 := by
  induction t with
  | zero => exact Nat.zero_le 8
  | succ t ih =>
    unfold colG
    split
    · split
      · exact ih
      · show (colG st tr t).2 + 1 ≤ 8
        omega
    · exact ih
def colH (h : AH) (c : (Nat → Int32) × Nat) : AH := ui (setI h 0 7 c.1) 0 6 7 (nI c.2)
def pow7 : Nat → Int64
  | 0 => 1
  | n + 1 => pow7 n * 7
/-- the prices of the places w - i .. w - 1 -/
def prG (h : AH) (b w : Nat) (P : Nat → Int64) : Nat → (Nat → Int64)
  | 0 => P
  | i + 1 => prP h b (w - (i + 1)) (pow7 i) (prG h b w P i)
def rmG (h : AH) (b : Nat) (c : Nat) : Int32 := if hasI (h.1 b 3 11) (nI c) = 0 then 0 else freeF h b (nI c)
theorem col_aux {h : AH} {f : Nat → Int32} {j : Nat} {v w w2 : Int32} : ui (ui (ui (setI h 0 7 f) 0 6 7 w) 0 7 j v) 0 6 7 w2 = ui (setI h 0 7 (upd f j v)) 0 6 7 w2 := by
  refine ah_ext (fun b' k' j' => ?_) rfl
  simp only [ui, setI, upd]
  by_cases e1 : b' = 0
  · subst e1
    by_cases e2 : k' = 6
    · subst e2
      by_cases e3 : j' = 7 <;> simp [e3]
    · by_cases e4 : k' = 7
      · subst e4
        by_cases e5 : j' = j <;> simp [e5]
      · simp [e2, e4]
  · simp [e1]
theorem l5_col {l : Launch} {G : GG} {h : AH} {Q : Option Value → AH → Prop} {b : Nat} (hb : isB b) {n : Nat} (hn : h.1 b 21 9 = nI n) (h40 : n ≤ 40) {T0 : Nat → Int32} (t : Nat) (ht : t ≤ n) (hE : AW l G 4 RX5 cX5_setUp 5 none 65 [some (.ref (G.1 0 6)), some (.ref (G.1 b 0)), some (.int (nI n))] [] (colH h (colG (h.1 b 26) T0 n)) Q) : AW l G 4 RX5 cX5_setUp 5 none 7 [some (.ref (G.1 0 6)), some (.ref (G.1 b 0)), some (.int (nI t))] [] (colH h (colG (h.1 b 26) T0 t)) Q := by
  have hti : (nI t).toNatClampNeg = t := nI_clamp (by omega)
  have hb0 := isB0 hb
  have hle := colG_le (h.1 b 26) T0 t
  have hwi : (nI (colG (h.1 b 26) T0 t).2).toNatClampNeg = (colG (h.1 b 26) T0 t).2 := nI_clamp (by omega)
  have e1 : (colH h (colG (h.1 b 26) T0 t)).1 b 21 9 = nI n := by rw [colH, ui_k (by decide), setI_k (by decide), hn]
  have e2 : (colH h (colG (h.1 b 26) T0 t)).1 b 26 t = h.1 b 26 t := by rw [colH, ui_k (by decide), setI_k (by decide)]
  have e3 : (colH h (colG (h.1 b 26) T0 t)).1 0 6 7 = nI (colG (h.1 b 26) T0 t).2 := by rw [colH, ui_eq]
  have e4 : ui (ui (colH h (colG (h.1 b 26) T0 t)) 0 7 (colG (h.1 b 26) T0 t).2 (nI t)) 0 6 7 (nI ((colG (h.1 b 26) T0 t).2 + 1)) = colH h (upd (colG (h.1 b 26) T0 t).1 (colG (h.1 b 26) T0 t).2 (nI t), (colG (h.1 b 26) T0 t).2 + 1) := by
    unfold colH
    rw [col_aux]
  refine a_iload_n dX5_setUp_7 rfl ?_
  refine a_aload_n dX5_setUp_8 rfl ?_
  refine a_getR (ci := 1) (j := 3) dX5_setUp_9 (kdB hb rfl) rfl (by decide) rfl fl_5_38 ?_
  refine a_getI (ci := 9) (j := 9) dX5_setUp_12 (kdB hb rfl) rfl (by decide) rfl fl_5_43 ?_
  try simp (disch := first | decide | assumption | omega) only [ui_eq, ui_k, ui_j, ui_b, ui_2, ul_1, ul_eq, ul_k, ul_j, ul_b, hti, hwi, e1, e2, e3]
  refine a_icmp_ge dX5_setUp_15 (tgt := 65) (by decide) (fun c15 => ?_) (fun c15 => ?_)
  · have hge : n ≤ t := le_of_le c15 (by omega) (by omega)
    have hie : t = n := by omega
    subst hie
    exact hE
  · have hlt : t < n := lt_of_nle c15 (by omega) (by omega)
    refine a_aload_n dX5_setUp_18 rfl ?_
    refine a_getR (ci := 1) (j := 3) dX5_setUp_19 (kdB hb rfl) rfl (by decide) rfl fl_5_38 ?_
    refine a_getR (ci := 9) (j := 4) dX5_setUp_22 (kdB hb rfl) rfl (by decide) rfl fl_5_48 ?_
    refine a_iload_n dX5_setUp_25 rfl ?_
    refine a_iaload dX5_setUp_26 (kdB hb rfl) (vp_in_nI (show t < 40 by omega) (by decide)) ?_
    try simp (disch := first | decide | assumption | omega) only [ui_eq, ui_k, ui_j, ui_b, ui_2, ul_1, ul_eq, ul_k, ul_j, ul_b, hti, hwi, e1, e2, e3]
    refine a_if_ne dX5_setUp_27 (tgt := 59) (by decide) (fun c27 => ?_) (fun c27 => ?_)
    · refine a_inc (c := 1) dX5_setUp_59 rfl (by decide) (by decide) rfl ?_
      dsimp only [lset]
      refine a_goto dX5_setUp_62 (tgt := 7) (by decide) ?_
      have e := l5_col (l := l) (G := G) (h := h) hb hn h40 (T0 := T0) (t + 1) (by omega) hE
      first
        | (rw [colG, if_neg c27] at e; rw [nI_1]; exact e)
        | (rw [colG, if_pos c27, if_pos h8] at e; rw [nI_1]; exact e)
        | (rw [colG, if_pos c27, if_neg (by omega)] at e; (try rw [hwi]); rw [nI_1, nI_1, e4]; exact e)
    · refine a_aload_n dX5_setUp_30 rfl ?_
      refine a_getI (ci := 5) (j := 7) dX5_setUp_31 rfl rfl (by decide) rfl fl_5_34 ?_
      try simp (disch := first | decide | assumption | omega) only [ui_eq, ui_k, ui_j, ui_b, ui_2, ul_1, ul_eq, ul_k, ul_j, ul_b, hti, hwi, e1, e2, e3]
      refine a_bipush (v := 8) dX5_setUp_34 (by decide) ?_
      refine a_icmp_ge dX5_setUp_36 (tgt := 59) (by decide) (fun c36 => ?_) (fun c36 => ?_)
      · have h8 : 8 ≤ (colG (h.1 b 26) T0 t).2 := le_of_le (b := 8) c36 (by omega) (by decide)
        refine a_inc (c := 1) dX5_setUp_59 rfl (by decide) (by decide) rfl ?_
        dsimp only [lset]
        refine a_goto dX5_setUp_62 (tgt := 7) (by decide) ?_
        have e := l5_col (l := l) (G := G) (h := h) hb hn h40 (T0 := T0) (t + 1) (by omega) hE
        first
          | (rw [colG, if_neg c27] at e; rw [nI_1]; exact e)
          | (rw [colG, if_pos c27, if_pos h8] at e; rw [nI_1]; exact e)
          | (rw [colG, if_pos c27, if_neg (by omega)] at e; (try rw [hwi]); rw [nI_1, nI_1, e4]; exact e)
      · have h8 : (colG (h.1 b 26) T0 t).2 < 8 := lt_of_nle (b := 8) c36 (by omega) (by decide)
        refine a_aload_n dX5_setUp_39 rfl ?_
        refine a_getR (ci := 5) (j := 0) dX5_setUp_40 rfl rfl (by decide) rfl fl_5_11 ?_
        refine a_aload_n dX5_setUp_43 rfl ?_
        refine a_getI (ci := 5) (j := 7) dX5_setUp_44 rfl rfl (by decide) rfl fl_5_34 ?_
        try simp (disch := first | decide | assumption | omega) only [ui_eq, ui_k, ui_j, ui_b, ui_2, ul_1, ul_eq, ul_k, ul_j, ul_b, hti, hwi, e1, e2, e3]
        refine a_iload_n dX5_setUp_47 rfl ?_
        refine a_iastore dX5_setUp_48 rfl (vp_in_nI h8 (by decide)) ?_
        refine a_aload_n dX5_setUp_49 rfl ?_
        refine a_dup dX5_setUp_50 rfl ?_
        refine a_getI (ci := 5) (j := 7) dX5_setUp_51 rfl rfl (by decide) rfl fl_5_34 ?_
        try simp (disch := first | decide | assumption | omega) only [ui_eq, ui_k, ui_j, ui_b, ui_2, ul_1, ul_eq, ul_k, ul_j, ul_b, hti, hwi, e1, e2, e3]
        refine a_iconst (v := 1) dX5_setUp_54 (by decide) ?_
        refine a_iadd dX5_setUp_55 ?_
        refine a_putI (ci := 5) (j := 7) dX5_setUp_56 rfl rfl (by decide) (by decide) rfl fl_5_34 ?_
        refine a_inc (c := 1) dX5_setUp_59 rfl (by decide) (by decide) rfl ?_
        dsimp only [lset]
        refine a_goto dX5_setUp_62 (tgt := 7) (by decide) ?_
        have e := l5_col (l := l) (G := G) (h := h) hb hn h40 (T0 := T0) (t + 1) (by omega) hE
        first
          | (rw [colG, if_neg c27] at e; rw [nI_1]; exact e)
          | (rw [colG, if_pos c27, if_pos h8] at e; rw [nI_1]; exact e)
          | (rw [colG, if_pos c27, if_neg (by omega)] at e; (try rw [hwi]); rw [nI_1, nI_1, e4]; exact e)
termination_by n - t
decreasing_by all_goals omega
