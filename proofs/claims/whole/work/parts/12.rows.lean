def rowG (h : AH) (b : Nat) : Nat → Int32 → Int32 → Int32 → Int32
  | 0, _, bits, rest => if rest = 0 then bits else 0
  | n + 1, bef, bits, rest => if joinF h b bef (rest - rest / 10 * 10) = 0 then 0 else if (bits >>> ((rest - rest / 10 * 10) &&& 31)) &&& 1 = 0 then rowG h b n (rest - rest / 10 * 10) (bits ||| 1 <<< ((rest - rest / 10 * 10) &&& 31)) (rest / 10) else 0
def rowF (h : AH) (b : Nat) (home row : Int32) (m : Nat) : Int32 := if row - row / 10 * 10 = home then rowG h b (m - 1) (row - row / 10 * 10) (1 <<< (home &&& 31)) (row / 10) else 0
def nextF (h : AH) (b : Nat) (r a : Int32) : Nat → Int32
  | 0 => r
  | n + 1 => if (r >>> (nI n &&& 31)) &&& 1 = 0 then nextF h b r a n else nextF h b r a n ||| (h.1 b 2 n &&& a)
def shortG (h : AH) (b n : Nat) (land a : Int32) : Nat → Nat → Int32 → Int32
  | 0, _, _ => -2
  | f + 1, m, r => if (nextF h b r a n >>> (land &&& 31)) &&& 1 = 0 then shortG h b n land a f (m + 1) (nextF h b r a n) else nI m
def shortF (h : AH) (b n : Nat) (home land a : Int32) : Int32 := shortG h b n land a 7 2 (1 <<< (home &&& 31))
theorem l2_row {l : Launch} {G : GG} {h : AH} {Q : Option Value → AH → Prop} {b : Nat} (hb : isB b) (hl : (h.1 b 1 1).toInt ≤ 8) {m : Nat} (hm : m ≤ 100) {x y bef bits rest : Int32} (k : Nat) (hk : k ≤ m) (hQ : Q (some (.int (rowG h b (m - k) bef bits rest))) h) : AW l G 2 RX2 cX2_bitsOfRow 9 (some .int) 28 [some (.ref (G.1 b 1)), some (.int x), some (.int y), some (.int (nI m)), some (.int bef), some (.int bits), some (.int rest), some (.int (nI k))] [] h Q := by
  refine a_iload dX2_bitsOfRow_28 rfl ?_
  refine a_iload_n dX2_bitsOfRow_30 rfl ?_
  refine a_icmp_ge dX2_bitsOfRow_31 (tgt := 90) (by decide) (fun c31 => ?_) (fun c31 => ?_)
  · have hge : m ≤ k := le_of_le c31 (by omega) (by omega)
    rw [show m - k = 0 by omega, rowG] at hQ
    refine a_iload dX2_bitsOfRow_90 rfl ?_
    refine a_if_ne dX2_bitsOfRow_92 (tgt := 100) (by decide) (fun c92 => ?_) (fun c92 => ?_)
    · refine a_iconst (v := 0) dX2_bitsOfRow_100 (by decide) ?_
      exact a_iret dX2_bitsOfRow_101 rfl (by simpa [c31, c92] using hQ)
    · refine a_iload dX2_bitsOfRow_95 rfl ?_
      refine a_goto dX2_bitsOfRow_97 (tgt := 101) (by decide) ?_
      exact a_iret dX2_bitsOfRow_101 rfl (by simpa [c31, c92] using hQ)
  · have hlt : k < m := lt_of_nle c31 (by omega) (by omega)
    rw [show m - k = (m - (k + 1)) + 1 by omega, rowG] at hQ
    refine a_iload dX2_bitsOfRow_34 rfl ?_
    refine a_bipush (v := 10) dX2_bitsOfRow_36 (by decide) ?_
    refine a_irem dX2_bitsOfRow_38 (by decide) ?_
    refine a_istore dX2_bitsOfRow_39 (by decide) rfl ?_
    dsimp only [lset]
    refine a_aload_n dX2_bitsOfRow_41 rfl ?_
    refine a_iload dX2_bitsOfRow_42 rfl ?_
    refine a_iload dX2_bitsOfRow_44 rfl ?_
    refine a_cV2i dX2_bitsOfRow_46 ml_2_26 wv_2_areJoined (kdB hb rfl) rfl (by decide) (Nat.le_of_ble_eq_true rfl) (c2_areJoined hb hl ⟨rfl, rfl⟩) ?_
    refine a_if_eq dX2_bitsOfRow_49 (tgt := 62) (by decide) (fun c49 => ?_) (fun c49 => ?_)
    · refine a_iconst (v := 0) dX2_bitsOfRow_62 (by decide) ?_
      exact a_iret dX2_bitsOfRow_63 rfl (by simpa [c31, c49] using hQ)
    · refine a_iload dX2_bitsOfRow_52 rfl ?_
      refine a_iload dX2_bitsOfRow_54 rfl ?_
      refine a_ishr dX2_bitsOfRow_56 ?_
      refine a_iconst (v := 1) dX2_bitsOfRow_57 (by decide) ?_
      refine a_iand dX2_bitsOfRow_58 ?_
      refine a_if_eq dX2_bitsOfRow_59 (tgt := 64) (by decide) (fun c59 => ?_) (fun c59 => ?_)
      · refine a_iload dX2_bitsOfRow_64 rfl ?_
        refine a_iconst (v := 1) dX2_bitsOfRow_66 (by decide) ?_
        refine a_iload dX2_bitsOfRow_67 rfl ?_
        refine a_ishl dX2_bitsOfRow_69 ?_
        refine a_ior dX2_bitsOfRow_70 ?_
        refine a_istore dX2_bitsOfRow_71 (by decide) rfl ?_
        dsimp only [lset]
        refine a_iload dX2_bitsOfRow_73 rfl ?_
        refine a_istore dX2_bitsOfRow_75 (by decide) rfl ?_
        dsimp only [lset]
        refine a_iload dX2_bitsOfRow_77 rfl ?_
        refine a_bipush (v := 10) dX2_bitsOfRow_79 (by decide) ?_
        refine a_idiv dX2_bitsOfRow_81 (by decide) ?_
        refine a_istore dX2_bitsOfRow_82 (by decide) rfl ?_
        dsimp only [lset]
        refine a_inc (c := 1) dX2_bitsOfRow_84 rfl (by decide) (by decide) rfl ?_
        dsimp only [lset]
        refine a_goto dX2_bitsOfRow_87 (tgt := 28) (by decide) ?_
        refine a_take 8 ?_
        dsimp only [List.take]
        rw [nI_1]
        exact l2_row hb hl hm (k + 1) (by omega) (by simpa [c49, c59] using hQ)
      · refine a_iconst (v := 0) dX2_bitsOfRow_62 (by decide) ?_
        exact a_iret dX2_bitsOfRow_63 rfl (by simpa [c31, c49, c59] using hQ)
termination_by m - k
decreasing_by all_goals omega
theorem c2_bitsOfRow {l : Launch} {G : GG} {h : AH} {Q : Option Value → AH → Prop} {b : Nat} (hb : isB b) (hl : (h.1 b 1 1).toInt ≤ 8) {m : Nat} (hm : m ≤ 100) (hm1 : 1 ≤ m) {x y : Int32} (hQ : Q (some (.int (rowF h b x y m))) h) : Ct l G 2 yX2_bitsOfRow cX2_bitsOfRow 9 (some .int) [.ref (G.1 b 1), .int x, .int y, .int (nI m)] h Q := by
  refine Ct.of (by decide) (Nat.le_of_ble_eq_true rfl) ?_
  show AW l G 2 RX2 cX2_bitsOfRow 9 (some .int) 0 [some (.ref (G.1 b 1)), some (.int x), some (.int y), some (.int (nI m))] [] h Q
  refine a_iload_n dX2_bitsOfRow_0 rfl ?_
  refine a_bipush (v := 10) dX2_bitsOfRow_1 (by decide) ?_
  refine a_irem dX2_bitsOfRow_3 (by decide) ?_
  refine a_istore dX2_bitsOfRow_4 (by decide) rfl ?_
  dsimp only [lset]
  refine a_iload dX2_bitsOfRow_6 rfl ?_
  refine a_iload_n dX2_bitsOfRow_8 rfl ?_
  refine a_icmp_eq dX2_bitsOfRow_9 (tgt := 14) (by decide) (fun c9 => ?_) (fun c9 => ?_)
  · refine a_iconst (v := 1) dX2_bitsOfRow_14 (by decide) ?_
    refine a_iload_n dX2_bitsOfRow_15 rfl ?_
    refine a_ishl dX2_bitsOfRow_16 ?_
    refine a_istore dX2_bitsOfRow_17 (by decide) rfl ?_
    dsimp only [lset]
    refine a_iload_n dX2_bitsOfRow_19 rfl ?_
    refine a_bipush (v := 10) dX2_bitsOfRow_20 (by decide) ?_
    refine a_idiv dX2_bitsOfRow_22 (by decide) ?_
    refine a_istore dX2_bitsOfRow_23 (by decide) rfl ?_
    dsimp only [lset]
    refine a_iconst (v := 1) dX2_bitsOfRow_25 (by decide) ?_
    refine a_istore dX2_bitsOfRow_26 (by decide) rfl ?_
    dsimp only [lset]
    exact l2_row hb hl hm 1 hm1 (by simpa [rowF, c9] using hQ)
  · refine a_iconst (v := 0) dX2_bitsOfRow_12 (by decide) ?_
    exact a_iret dX2_bitsOfRow_13 rfl (by simpa [rowF, c9] using hQ)
theorem l2_srI {l : Launch} {G : GG} {h : AH} {Q : Option Value → AH → Prop} {b : Nat} (hb : isB b) {n : Nat} (hn : h.1 b 1 1 = nI n) (h8 : n ≤ 8) {x y a r : Int32} {m : Nat} (k : Nat) (hk : k ≤ n) (hE : AW l G 0 RX2 cX2_shortestRow 8 (some .int) 61 [some (.ref (G.1 b 1)), some (.int x), some (.int y), some (.int a), some (.int r), some (.int (nI m)), some (.int (nextF h b r a n)), some (.int (nI n))] [] h Q) : AW l G 0 RX2 cX2_shortestRow 8 (some .int) 22 [some (.ref (G.1 b 1)), some (.int x), some (.int y), some (.int a), some (.int r), some (.int (nI m)), some (.int (nextF h b r a k)), some (.int (nI k))] [] h Q := by
  have hci : (nI k).toNatClampNeg = k := nI_clamp (by omega)
  refine a_iload dX2_shortestRow_22 rfl ?_
  refine a_aload_n dX2_shortestRow_24 rfl ?_
  refine a_getI (ci := 2) (j := 1) dX2_shortestRow_25 (kdB hb rfl) rfl (by decide) rfl fl_2_15 ?_
  try simp (disch := first | decide | assumption | omega) only [ui_eq, ui_k, ui_j, ui_b, ui_2, ul_1, ul_eq, ul_k, ul_j, ul_b, hci, hn]
  refine a_icmp_ge dX2_shortestRow_28 (tgt := 61) (by decide) (fun c28 => ?_) (fun c28 => ?_)
  · have hge : n ≤ k := le_of_le c28 (by omega) (by omega)
    have hke : k = n := by omega
    subst hke
    exact hE
  · have hlt : k < n := lt_of_nle c28 (by omega) (by omega)
    refine a_iload dX2_shortestRow_31 rfl ?_
    refine a_iload dX2_shortestRow_33 rfl ?_
    refine a_ishr dX2_shortestRow_35 ?_
    refine a_iconst (v := 1) dX2_shortestRow_36 (by decide) ?_
    refine a_iand dX2_shortestRow_37 ?_
    refine a_if_eq dX2_shortestRow_38 (tgt := 55) (by decide) (fun c38 => ?_) (fun c38 => ?_)
    · refine a_inc (c := 1) dX2_shortestRow_55 rfl (by decide) (by decide) rfl ?_
      dsimp only [lset]
      refine a_goto dX2_shortestRow_58 (tgt := 22) (by decide) ?_
      rw [nI_1]
      have e := l2_srI hb hn h8 (k + 1) (by omega) hE
      simpa [nextF, c38] using e
    · refine a_iload dX2_shortestRow_41 rfl ?_
      refine a_aload_n dX2_shortestRow_43 rfl ?_
      refine a_getR (ci := 2) (j := 0) dX2_shortestRow_44 (kdB hb rfl) rfl (by decide) rfl fl_2_9 ?_
      refine a_iload dX2_shortestRow_47 rfl ?_
      refine a_iaload dX2_shortestRow_49 (kdB hb rfl) (vp_in_nI (show k < 8 by omega) (by decide)) ?_
      try simp (disch := first | decide | assumption | omega) only [ui_eq, ui_k, ui_j, ui_b, ui_2, ul_1, ul_eq, ul_k, ul_j, ul_b, hci, hn]
      refine a_iload_n dX2_shortestRow_50 rfl ?_
      refine a_iand dX2_shortestRow_51 ?_
      refine a_ior dX2_shortestRow_52 ?_
      refine a_istore dX2_shortestRow_53 (by decide) rfl ?_
      dsimp only [lset]
      refine a_inc (c := 1) dX2_shortestRow_55 rfl (by decide) (by decide) rfl ?_
      dsimp only [lset]
      refine a_goto dX2_shortestRow_58 (tgt := 22) (by decide) ?_
      rw [nI_1]
      have e := l2_srI hb hn h8 (k + 1) (by omega) hE
      simpa [nextF, c38] using e
termination_by n - k
decreasing_by all_goals omega
theorem l2_sr {l : Launch} {G : GG} {h : AH} {Q : Option Value → AH → Prop} {b : Nat} (hb : isB b) {n : Nat} (hn : h.1 b 1 1 = nI n) (h8 : n ≤ 8) {x y a : Int32} (r : Int32) (m : Nat) (hm : m ≤ 9) (hQ : Q (some (.int (shortG h b n y a (9 - m) m r))) h) : AW l G 0 RX2 cX2_shortestRow 8 (some .int) 8 [some (.ref (G.1 b 1)), some (.int x), some (.int y), some (.int a), some (.int r), some (.int (nI m))] [] h Q := by
  refine a_iload dX2_shortestRow_8 rfl ?_
  refine a_bipush (v := 8) dX2_shortestRow_10 (by decide) ?_
  refine a_icmp_gt dX2_shortestRow_12 (tgt := 83) (by decide) (fun c12 => ?_) (fun c12 => ?_)
  · have hge : m = 9 := by
      have q : 8 < m := (nI_ltI (by decide) (by omega)).mp (show nI 8 < nI m from c12)
      omega
    subst hge
    rw [shortG] at hQ
    refine a_bipush (v := (-2)) dX2_shortestRow_83 (by decide) ?_
    exact a_iret dX2_shortestRow_85 rfl (by simpa [c12] using hQ)
  · have hle : m ≤ 8 := by
      rcases Nat.lt_or_ge 8 m with q | q
      · exact absurd ((nI_ltI (by decide) (by omega)).mpr q) c12
      · exact q
    rw [show 9 - m = (9 - (m + 1)) + 1 by omega, shortG] at hQ
    refine a_iload dX2_shortestRow_15 rfl ?_
    refine a_istore dX2_shortestRow_17 (by decide) rfl ?_
    dsimp only [lset]
    refine a_iconst (v := 0) dX2_shortestRow_19 (by decide) ?_
    refine a_istore dX2_shortestRow_20 (by decide) rfl ?_
    dsimp only [lset]
    refine l2_srI (k := 0) hb hn h8 (by omega) ?_
    refine a_iload dX2_shortestRow_61 rfl ?_
    refine a_iload_n dX2_shortestRow_63 rfl ?_
    refine a_ishr dX2_shortestRow_64 ?_
    refine a_iconst (v := 1) dX2_shortestRow_65 (by decide) ?_
    refine a_iand dX2_shortestRow_66 ?_
    refine a_if_eq dX2_shortestRow_67 (tgt := 73) (by decide) (fun c67 => ?_) (fun c67 => ?_)
    · refine a_iload dX2_shortestRow_73 rfl ?_
      refine a_istore dX2_shortestRow_75 (by decide) rfl ?_
      dsimp only [lset]
      refine a_inc (c := 1) dX2_shortestRow_77 rfl (by decide) (by decide) rfl ?_
      dsimp only [lset]
      refine a_goto dX2_shortestRow_80 (tgt := 8) (by decide) ?_
      refine a_take 6 ?_
      dsimp only [List.take]
      rw [nI_1]
      exact l2_sr hb hn h8 _ (m + 1) (by omega) (by simpa [c67] using hQ)
    · refine a_iload dX2_shortestRow_70 rfl ?_
      exact a_iret dX2_shortestRow_72 rfl (by simpa [c12, c67] using hQ)
termination_by 9 - m
decreasing_by all_goals omega
theorem c2_shortestRow {l : Launch} {G : GG} {h : AH} {Q : Option Value → AH → Prop} {b : Nat} (hb : isB b) {n : Nat} (hn : h.1 b 1 1 = nI n) (h8 : n ≤ 8) {x y a : Int32} (hQ : Q (some (.int (shortF h b n x y a))) h) : Ct l G 0 yX2_shortestRow cX2_shortestRow 8 (some .int) [.ref (G.1 b 1), .int x, .int y, .int a] h Q := by
  refine Ct.of (by decide) (Nat.le_of_ble_eq_true rfl) ?_
  show AW l G 0 RX2 cX2_shortestRow 8 (some .int) 0 [some (.ref (G.1 b 1)), some (.int x), some (.int y), some (.int a)] [] h Q
  refine a_iconst (v := 1) dX2_shortestRow_0 (by decide) ?_
  refine a_iload_n dX2_shortestRow_1 rfl ?_
  refine a_ishl dX2_shortestRow_2 ?_
  refine a_istore dX2_shortestRow_3 (by decide) rfl ?_
  dsimp only [lset]
  refine a_iconst (v := 2) dX2_shortestRow_5 (by decide) ?_
  refine a_istore dX2_shortestRow_6 (by decide) rfl ?_
  dsimp only [lset]
  exact l2_sr hb hn h8 _ 2 (by omega) hQ
