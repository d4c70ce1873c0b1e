def addT (h : AH) (b : Nat) (lo row many bits : Int32) : AH :=
  let t := (h.1 b 21 9).toNatClampNeg
  ui (ui (ui (ui (ui (ui (ui (ui (ui (ui h b 22 t lo) b 24 t row) b 23 t many) b 25 t bits) b 26 t 0) b 27 t (-1)) b 28 t (-1)) b 29 t (-1)) b 30 t 0) b 21 9 (h.1 b 21 9 + 1)
def divG : Nat → Int32 → Int32
  | 0, r => r
  | n + 1, r => divG n (r / 10)
def landF (h : AH) (b : Nat) (x k : Int32) : Int32 := if k < 0 then -1 else if k < h.1 b 23 x.toNatClampNeg then (divG k.toNatClampNeg (h.1 b 24 x.toNatClampNeg) - divG k.toNatClampNeg (h.1 b 24 x.toNatClampNeg) / 10 * 10) else -1
theorem c9_add {l : Launch} {G : GG} {h : AH} {Q : Option Value → AH → Prop} {b : Nat} (hb : isB b) {x y z u : Int32} (hn : ¬ h.1 b 21 9 < 0) (hn2 : h.1 b 21 9 < 40) (hin : vp_in (h.1 b 21 9) 40) (hQ : Q (some (.int (h.1 b 21 9))) (addT h b x y z u)) : Ct l G 0 yX9_add cX9_add 6 (some .int) [.ref (G.1 b 21), .int x, .int y, .int z, .int u] h Q := by
  refine Ct.of (by decide) (Nat.le_of_ble_eq_true rfl) ?_
  show AW l G 0 RX9 cX9_add 6 (some .int) 0 [some (.ref (G.1 b 21)), some (.int x), some (.int y), some (.int z), some (.int u)] [] h Q
  refine a_aload_n dX9_add_0 rfl ?_
  refine a_getI (ci := 9) (j := 9) dX9_add_1 (kdB hb rfl) rfl (by decide) rfl fl_9_39 ?_
  refine a_if_lt dX9_add_4 (tgt := 16) (by decide) (fun c4 => ?_) (fun c4 => ?_)
  · exact absurd c4 hn
  · refine a_aload_n dX9_add_7 rfl ?_
    refine a_getI (ci := 9) (j := 9) dX9_add_8 (kdB hb rfl) rfl (by decide) rfl fl_9_39 ?_
    refine a_bipush (v := 40) dX9_add_11 (by decide) ?_
    refine a_icmp_lt dX9_add_13 (tgt := 18) (by decide) (fun c13 => ?_) (fun c13 => ?_)
    · refine a_aload_n dX9_add_18 rfl ?_
      refine a_getI (ci := 9) (j := 9) dX9_add_19 (kdB hb rfl) rfl (by decide) rfl fl_9_39 ?_
      refine a_istore dX9_add_22 (by decide) rfl ?_
      dsimp only [lset]
      refine a_aload_n dX9_add_24 rfl ?_
      refine a_getR (ci := 9) (j := 0) dX9_add_25 (kdB hb rfl) rfl (by decide) rfl fl_9_9 ?_
      refine a_iload dX9_add_28 rfl ?_
      refine a_iload_n dX9_add_30 rfl ?_
      refine a_iastore dX9_add_31 (kdB hb rfl) (by assumption) ?_
      refine a_aload_n dX9_add_32 rfl ?_
      refine a_getR (ci := 9) (j := 2) dX9_add_33 (kdB hb rfl) rfl (by decide) rfl fl_9_18 ?_
      refine a_iload dX9_add_36 rfl ?_
      refine a_iload_n dX9_add_38 rfl ?_
      refine a_iastore dX9_add_39 (kdB hb rfl) (by assumption) ?_
      refine a_aload_n dX9_add_40 rfl ?_
      refine a_getR (ci := 9) (j := 1) dX9_add_41 (kdB hb rfl) rfl (by decide) rfl fl_9_15 ?_
      refine a_iload dX9_add_44 rfl ?_
      refine a_iload_n dX9_add_46 rfl ?_
      refine a_iastore dX9_add_47 (kdB hb rfl) (by assumption) ?_
      refine a_aload_n dX9_add_48 rfl ?_
      refine a_getR (ci := 9) (j := 3) dX9_add_49 (kdB hb rfl) rfl (by decide) rfl fl_9_21 ?_
      refine a_iload dX9_add_52 rfl ?_
      refine a_iload dX9_add_54 rfl ?_
      refine a_iastore dX9_add_56 (kdB hb rfl) (by assumption) ?_
      refine a_aload_n dX9_add_57 rfl ?_
      refine a_getR (ci := 9) (j := 4) dX9_add_58 (kdB hb rfl) rfl (by decide) rfl fl_9_24 ?_
      refine a_iload dX9_add_61 rfl ?_
      refine a_iconst (v := 0) dX9_add_63 (by decide) ?_
      refine a_iastore dX9_add_64 (kdB hb rfl) (by assumption) ?_
      refine a_aload_n dX9_add_65 rfl ?_
      refine a_getR (ci := 9) (j := 5) dX9_add_66 (kdB hb rfl) rfl (by decide) rfl fl_9_27 ?_
      refine a_iload dX9_add_69 rfl ?_
      refine a_iconst (v := (-1)) dX9_add_71 (by decide) ?_
      refine a_iastore dX9_add_72 (kdB hb rfl) (by assumption) ?_
      refine a_aload_n dX9_add_73 rfl ?_
      refine a_getR (ci := 9) (j := 6) dX9_add_74 (kdB hb rfl) rfl (by decide) rfl fl_9_30 ?_
      refine a_iload dX9_add_77 rfl ?_
      refine a_iconst (v := (-1)) dX9_add_79 (by decide) ?_
      refine a_iastore dX9_add_80 (kdB hb rfl) (by assumption) ?_
      refine a_aload_n dX9_add_81 rfl ?_
      refine a_getR (ci := 9) (j := 7) dX9_add_82 (kdB hb rfl) rfl (by decide) rfl fl_9_33 ?_
      refine a_iload dX9_add_85 rfl ?_
      refine a_iconst (v := (-1)) dX9_add_87 (by decide) ?_
      refine a_iastore dX9_add_88 (kdB hb rfl) (by assumption) ?_
      refine a_aload_n dX9_add_89 rfl ?_
      refine a_getR (ci := 9) (j := 8) dX9_add_90 (kdB hb rfl) rfl (by decide) rfl fl_9_36 ?_
      refine a_iload dX9_add_93 rfl ?_
      refine a_iconst (v := 0) dX9_add_95 (by decide) ?_
      refine a_iastore dX9_add_96 (kdB hb rfl) (by assumption) ?_
      refine a_aload_n dX9_add_97 rfl ?_
      refine a_dup dX9_add_98 rfl ?_
      refine a_getI (ci := 9) (j := 9) dX9_add_99 (kdB hb rfl) rfl (by decide) rfl fl_9_39 ?_
      try simp (disch := first | decide | assumption | omega) only [ui_eq, ui_k, ui_j, ui_b, ui_2, ul_1, ul_eq, ul_k, ul_j, ul_b]
      refine a_iconst (v := 1) dX9_add_102 (by decide) ?_
      refine a_iadd dX9_add_103 ?_
      refine a_putI (ci := 9) (j := 9) dX9_add_104 (kdB hb rfl) rfl (by decide) (by decide) rfl fl_9_39 ?_
      refine a_iload dX9_add_107 rfl ?_
      exact a_iret dX9_add_109 rfl hQ
    · exact absurd hn2 c13
theorem l9_land {l : Launch} {G : GG} {h : AH} {Q : Option Value → AH → Prop} {b : Nat} (hb : isB b) {x : Int32} {m : Nat} (hm : m < 2 ^ 31) (r : Int32) (i : Nat) (hi : i ≤ m) (hQ : Q (some (.int (divG (m - i) r - divG (m - i) r / 10 * 10))) h) : AW l G 0 RX9 cX9_landOf 5 (some .int) 26 [some (.ref (G.1 b 21)), some (.int x), some (.int (nI m)), some (.int r), some (.int (nI i))] [] h Q := by
  refine a_iload dX9_landOf_26 rfl ?_
  refine a_iload_n dX9_landOf_28 rfl ?_
  refine a_icmp_ge dX9_landOf_29 (tgt := 43) (by decide) (fun c29 => ?_) (fun c29 => ?_)
  · have hge : m ≤ i := le_of_le c29 (by omega) (by omega)
    rw [show m - i = 0 by omega, divG] at hQ
    refine a_iload_n dX9_landOf_43 rfl ?_
    refine a_bipush (v := 10) dX9_landOf_44 (by decide) ?_
    refine a_irem dX9_landOf_46 (by decide) ?_
    exact a_iret dX9_landOf_47 rfl hQ
  · have hlt : i < m := lt_of_nle c29 (by omega) (by omega)
    rw [show m - i = (m - (i + 1)) + 1 by omega, divG] at hQ
    refine a_iload_n dX9_landOf_32 rfl ?_
    refine a_bipush (v := 10) dX9_landOf_33 (by decide) ?_
    refine a_idiv dX9_landOf_35 (by decide) ?_
    refine a_istore_n dX9_landOf_36 (by decide) rfl ?_
    dsimp only [lset]
    refine a_inc (c := 1) dX9_landOf_37 rfl (by decide) (by decide) rfl ?_
    dsimp only [lset]
    refine a_goto dX9_landOf_40 (tgt := 26) (by decide) ?_
    rw [nI_1]
    exact l9_land hb hm _ (i + 1) (by omega) hQ
termination_by m - i
decreasing_by all_goals omega
theorem c9_landOf {l : Launch} {G : GG} {h : AH} {Q : Option Value → AH → Prop} {b : Nat} (hb : isB b) {x k : Int32} (hx : vp_in x 40) (hQ : Q (some (.int (landF h b x k))) h) : Ct l G 0 yX9_landOf cX9_landOf 5 (some .int) [.ref (G.1 b 21), .int x, .int k] h Q := by
  refine Ct.of (by decide) (Nat.le_of_ble_eq_true rfl) ?_
  show AW l G 0 RX9 cX9_landOf 5 (some .int) 0 [some (.ref (G.1 b 21)), some (.int x), some (.int k)] [] h Q
  refine a_iload_n dX9_landOf_0 rfl ?_
  refine a_if_lt dX9_landOf_1 (tgt := 14) (by decide) (fun c1 => ?_) (fun c1 => ?_)
  · refine a_iconst (v := (-1)) dX9_landOf_14 (by decide) ?_
    exact a_iret dX9_landOf_15 rfl (by simpa [landF, c1] using hQ)
  · refine a_iload_n dX9_landOf_4 rfl ?_
    refine a_aload_n dX9_landOf_5 rfl ?_
    refine a_getR (ci := 9) (j := 1) dX9_landOf_6 (kdB hb rfl) rfl (by decide) rfl fl_9_15 ?_
    refine a_iload_n dX9_landOf_9 rfl ?_
    refine a_iaload dX9_landOf_10 (kdB hb rfl) (by assumption) ?_
    refine a_icmp_lt dX9_landOf_11 (tgt := 16) (by decide) (fun c11 => ?_) (fun c11 => ?_)
    · refine a_aload_n dX9_landOf_16 rfl ?_
      refine a_getR (ci := 9) (j := 2) dX9_landOf_17 (kdB hb rfl) rfl (by decide) rfl fl_9_18 ?_
      refine a_iload_n dX9_landOf_20 rfl ?_
      refine a_iaload dX9_landOf_21 (kdB hb rfl) (by assumption) ?_
      refine a_istore_n dX9_landOf_22 (by decide) rfl ?_
      dsimp only [lset]
      refine a_iconst (v := 0) dX9_landOf_23 (by decide) ?_
      refine a_istore dX9_landOf_24 (by decide) rfl ?_
      dsimp only [lset]
      obtain ⟨m, hm, rfl⟩ := nI_of c1
      exact l9_land hb hm _ 0 (by omega) (by simpa [landF, c1, c11, nI_clamp hm] using hQ)
    · refine a_iconst (v := (-1)) dX9_landOf_14 (by decide) ?_
      exact a_iret dX9_landOf_15 rfl (by simpa [landF, c1, c11] using hQ)
theorem l9_cnt {l : Launch} {G : GG} {h : AH} {Q : Option Value → AH → Prop} {b : Nat} (hb : isB b) {x : Int32} {n : Nat} (hn : h.1 b 21 9 = nI n) (h40 : n ≤ 40) (i : Nat) (hi : i ≤ n) (hQ : Q (some (.int (cntI (h.1 b 26) x n))) h) : AW l G 0 RX9 cX9_countIn 4 (some .int) 4 [some (.ref (G.1 b 21)), some (.int x), some (.int (cntI (h.1 b 26) x i)), some (.int (nI i))] [] h Q := by
  have hci : (nI i).toNatClampNeg = i := nI_clamp (by omega)
  refine a_iload_n dX9_countIn_4 rfl ?_
  refine a_aload_n dX9_countIn_5 rfl ?_
  refine a_getI (ci := 9) (j := 9) dX9_countIn_6 (kdB hb rfl) rfl (by decide) rfl fl_9_39 ?_
  try simp (disch := first | decide | assumption | omega) only [ui_eq, ui_k, ui_j, ui_b, ui_2, ul_1, ul_eq, ul_k, ul_j, ul_b, hci, hn]
  refine a_icmp_ge dX9_countIn_9 (tgt := 31) (by decide) (fun c9 => ?_) (fun c9 => ?_)
  · have hge : n ≤ i := le_of_le c9 (by omega) (by omega)
    have hie : i = n := by omega
    subst hie
    refine a_iload_n dX9_countIn_31 rfl ?_
    exact a_iret dX9_countIn_32 rfl hQ
  · have hlt : i < n := lt_of_nle c9 (by omega) (by omega)
    refine a_aload_n dX9_countIn_12 rfl ?_
    refine a_getR (ci := 9) (j := 4) dX9_countIn_13 (kdB hb rfl) rfl (by decide) rfl fl_9_24 ?_
    refine a_iload_n dX9_countIn_16 rfl ?_
    refine a_iaload dX9_countIn_17 (kdB hb rfl) (vp_in_nI (show i < 40 by omega) (by decide)) ?_
    try simp (disch := first | decide | assumption | omega) only [ui_eq, ui_k, ui_j, ui_b, ui_2, ul_1, ul_eq, ul_k, ul_j, ul_b, hci, hn]
    refine a_iload_n dX9_countIn_18 rfl ?_
    refine a_icmp_ne dX9_countIn_19 (tgt := 25) (by decide) (fun c19 => ?_) (fun c19 => ?_)
    · refine a_inc (c := 1) dX9_countIn_25 rfl (by decide) (by decide) rfl ?_
      dsimp only [lset]
      refine a_goto dX9_countIn_28 (tgt := 4) (by decide) ?_
      rw [nI_1]
      have e := l9_cnt (l := l) (G := G) hb hn h40 (i + 1) (by omega) hQ
      simpa [cntI, c19] using e
    · refine a_inc (c := 1) dX9_countIn_22 rfl (by decide) (by decide) rfl ?_
      dsimp only [lset]
      refine a_inc (c := 1) dX9_countIn_25 rfl (by decide) (by decide) rfl ?_
      dsimp only [lset]
      refine a_goto dX9_countIn_28 (tgt := 4) (by decide) ?_
      rw [nI_1]
      have e := l9_cnt (l := l) (G := G) hb hn h40 (i + 1) (by omega) hQ
      simpa [cntI, c19] using e
termination_by n - i
decreasing_by all_goals omega
theorem c9_countIn {l : Launch} {G : GG} {h : AH} {Q : Option Value → AH → Prop} {b : Nat} (hb : isB b) {x : Int32} {n : Nat} (hn : h.1 b 21 9 = nI n) (h40 : n ≤ 40) (hQ : Q (some (.int (cntI (h.1 b 26) x n))) h) : Ct l G 0 yX9_countIn cX9_countIn 4 (some .int) [.ref (G.1 b 21), .int x] h Q := by
  refine Ct.of (by decide) (Nat.le_of_ble_eq_true rfl) ?_
  show AW l G 0 RX9 cX9_countIn 4 (some .int) 0 [some (.ref (G.1 b 21)), some (.int x)] [] h Q
  refine a_iconst (v := 0) dX9_countIn_0 (by decide) ?_
  refine a_istore_n dX9_countIn_1 (by decide) rfl ?_
  dsimp only [lset]
  refine a_iconst (v := 0) dX9_countIn_2 (by decide) ?_
  refine a_istore_n dX9_countIn_3 (by decide) rfl ?_
  dsimp only [lset]
  exact l9_cnt hb hn h40 0 (by omega) hQ
