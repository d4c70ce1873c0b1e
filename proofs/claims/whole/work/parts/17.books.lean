theorem giveF_k {h : AH} {b : Nat} {x la t : Int32} {b' k' j' : Nat} (h1 : k' ≠ 11) (h2 : k' ≠ 12) (h3 : k' ≠ 13) : (giveF h b x la t).1 b' k' j' = h.1 b' k' j' := by
  unfold giveF
  split
  · rfl
  · dsimp only
    split
    · split
      · rw [ui_k h2, ui_k h1]
      · rw [ui_k h3, ui_k h1]
    · rw [ui_k h1]
def suitF (h : AH) (b : Nat) (x y : Int32) : Int32 :=
  if hasI (h.1 b 3 11) x = 0 then 0 else if hasI (h.1 b 21 9) y = 0 then 0 else if hasI (h.1 b 15 5) (h.1 b 22 y.toNatClampNeg) = 0 then 0 else
  if forF h b x (h.1 b 25 y.toNatClampNeg &&& ((1 <<< (h.1 b 16 (h.1 b 22 y.toNatClampNeg).toNatClampNeg &&& 31)) ^^^ (-1))) = 0 then 0 else
  if engF h b x (h.1 b 17 (h.1 b 22 y.toNatClampNeg).toNatClampNeg) = 0 then 0 else 1
def isOutF (h : AH) (b : Nat) (x : Int32) : Int32 :=
  if hasI (h.1 b 15 5) x = 0 then 0 else if hasI (h.1 b 21 9) (h.1 b 18 x.toNatClampNeg) = 0 then 0 else if h.1 b 26 (h.1 b 18 x.toNatClampNeg).toNatClampNeg = 1 then 1 else 0
def lateF (h : AH) (b : Nat) (x : Int32) : Int32 :=
  if hasI (h.1 b 21 9) x = 0 then 0 else if hasI (h.1 b 3 11) (h.1 b 27 x.toNatClampNeg) = 0 then 0 else
  if h.1 b 0 5 - h.1 b 28 x.toNatClampNeg ≤ h.1 b 9 (h.1 b 27 x.toNatClampNeg).toNatClampNeg then 0 else 1
def judgeF (h : AH) (b : Nat) (x y : Int32) : Int32 :=
  if isOutF h b x = 0 then 1 else if hasI (h.1 b 21 9) (h.1 b 18 x.toNatClampNeg) = 0 then 2 else
  if (h.1 b 25 (h.1 b 18 x.toNatClampNeg).toNatClampNeg >>> (y &&& 31)) &&& 1 = 0 then 2 else if lateF h b (h.1 b 18 x.toNatClampNeg) = 0 then 0 else 3
theorem isOutF_has {h : AH} {b : Nat} {x : Int32} (q : ¬ isOutF h b x = 0) : ¬ hasI (h.1 b 15 5) x = 0 := by
  intro e
  exact q (by simp [isOutF, e])
def sendV (h : AH) (b : Nat) (x y : Int32) : Int32 :=
  if hasI (h.1 b 21 9) x = 0 then 0 else if hasI (h.1 b 3 11) y = 0 then 0 else 1 <<< (h.1 b 22 x.toNatClampNeg &&& 31)
def sendF (h : AH) (b : Nat) (x y : Int32) : AH :=
  if hasI (h.1 b 21 9) x = 0 then h else if hasI (h.1 b 3 11) y = 0 then h else
  ui (ui (ui (ui h b 26 x.toNatClampNeg 1) b 27 x.toNatClampNeg y) b 28 x.toNatClampNeg (h.1 b 0 5)) b 11 y.toNatClampNeg (h.1 b 11 y.toNatClampNeg + 1)
def finF (h : AH) (b : Nat) (x : Int32) : AH :=
  if hasI (h.1 b 21 9) x = 0 then h else if hasI (h.1 b 15 5) (h.1 b 22 x.toNatClampNeg) = 0 then h else
  let lo := (h.1 b 22 x.toNatClampNeg).toNatClampNeg
  let la : Int32 := if lateF h b x = 0 then 0 else 1
  let h1 := ui (ui (ui h b 26 x.toNatClampNeg 2) b 29 x.toNatClampNeg (h.1 b 0 5)) b 30 x.toNatClampNeg la
  let h2 := giveF h1 b (h.1 b 27 x.toNatClampNeg) la 1
  ui (ui (ui h2 b 19 lo (h.1 b 19 lo + la)) b 18 lo (-1)) b 20 lo (h.1 b 20 lo + 1)
def tbTripF (h : AH) (b : Nat) (x : Int32) : AH := if hasI (h.1 b 15 5) x = 0 then h else if h.1 b 21 9 ≤ 0 then h else ui (ui h b 18 x.toNatClampNeg (-1)) b 21 9 (h.1 b 21 9 - 1)
def tbMisF (h : AH) (b : Nat) (x m : Int32) : AH := if hasI (h.1 b 15 5) x = 0 then h else ui h b 19 x.toNatClampNeg (h.1 b 19 x.toNatClampNeg - m)
def waitF (h : AH) (b : Nat) (x : Int32) : AH :=
  if hasI (h.1 b 21 9) x = 0 then h else if hasI (h.1 b 3 11) (h.1 b 27 x.toNatClampNeg) = 0 then h else
  let ty := (h.1 b 27 x.toNatClampNeg).toNatClampNeg
  ui (ui (ui (ui h b 11 ty (h.1 b 11 ty - 1)) b 26 x.toNatClampNeg 0) b 27 x.toNatClampNeg (-1)) b 28 x.toNatClampNeg (-1)
theorem waitF_k {h : AH} {b : Nat} {x : Int32} {b' k' j' : Nat} (h1 : k' ≠ 11) (h2 : k' ≠ 26) (h3 : k' ≠ 27) (h4 : k' ≠ 28) : (waitF h b x).1 b' k' j' = h.1 b' k' j' := by
  unfold waitF
  split
  · rfl
  · split
    · rfl
    · rw [ui_k h4, ui_k h3, ui_k h2, ui_k h1]
def callF (h : AH) (b : Nat) (bits : Int32) : Nat → AH
  | 0 => h
  | i + 1 => if (bits >>> (nI i &&& 31)) &&& 1 = 0 then callF h b bits i else if isOutF (callF h b bits i) b (nI i) = 0 then callF h b bits i else waitF (callF h b bits i) b ((callF h b bits i).1 b 18 i)
theorem callF_k {h : AH} {b : Nat} {bits : Int32} {i : Nat} {b' k' j' : Nat} (h1 : k' ≠ 11) (h2 : k' ≠ 26) (h3 : k' ≠ 27) (h4 : k' ≠ 28) : (callF h b bits i).1 b' k' j' = h.1 b' k' j' := by
  induction i with
  | zero => rfl
  | succ i ih =>
    unfold callF
    split
    · exact ih
    · split
      · exact ih
      · rw [waitF_k h1 h2 h3 h4, ih]
def reopF (h : AH) (b : Nat) (x : Int32) : AH :=
  if hasI (h.1 b 21 9) x = 0 then h else if hasI (h.1 b 15 5) (h.1 b 22 x.toNatClampNeg) = 0 then h else
  let lo := (h.1 b 22 x.toNatClampNeg).toNatClampNeg
  let la := h.1 b 30 x.toNatClampNeg
  let h1 := ui (ui (ui h b 26 x.toNatClampNeg (if h.1 b 27 x.toNatClampNeg = -1 then 0 else 1)) b 29 x.toNatClampNeg (-1)) b 30 x.toNatClampNeg 0
  let h2 := giveF h1 b (h.1 b 27 x.toNatClampNeg) la (-1)
  ui (ui (ui h2 b 19 lo (h.1 b 19 lo - la)) b 18 lo x) b 20 lo (h.1 b 20 lo - 1)
def clearB (h : AH) (b : Nat) : AH := ui (ui (ui (clearQ (clearP (clearL h b) b) b) b 21 9 0) b 31 4 0) b 0 5 0
def undoF (h : AH) (b : Nat) (act wh am : Int32) (n : Nat) : AH :=
  if act = 0 then tbTripF h b wh else if act = 1 then callF h b am n else if act = 2 then reopF h b wh else if act = 3 then tbMisF h b wh am else if act = 4 then moveF h b wh (-am) else ui h b 0 5 (h.1 b 0 5 - am)
theorem c1_suits {l : Launch} {G : GG} {h : AH} {Q : Option Value → AH → Prop} {b : Nat} (hb : isB b) {x y : Int32} (hp : (h.1 b 3 11).toInt ≤ 6) (ht : (h.1 b 21 9).toInt ≤ 40) (hq : (h.1 b 15 5).toInt ≤ 8) (hQ : Q (some (.int (suitF h b x y))) h) : Ct l G 1 yX1_suits cX1_suits 5 (some .boolean) [.ref (G.1 b 0), .int x, .int y] h Q := by
  refine Ct.of (by decide) (Nat.le_of_ble_eq_true rfl) ?_
  show AW l G 1 RX1 cX1_suits 5 (some .boolean) 0 [some (.ref (G.1 b 0)), some (.int x), some (.int y)] [] h Q
  refine a_aload_n dX1_suits_0 rfl ?_
  refine a_getR (ci := 1) (j := 1) dX1_suits_1 (kdB hb rfl) rfl (by decide) rfl fl_1_21 ?_
  refine a_iload_n dX1_suits_4 rfl ?_
  refine a_cV1i dX1_suits_5 ml_1_61 wv_4_has (kdB hb rfl) rfl (by decide) (Nat.le_of_ble_eq_true rfl) (c4_has hb ⟨rfl, rfl⟩) ?_
  refine a_if_eq dX1_suits_8 (tgt := 41) (by decide) (fun c8 => ?_) (fun c8 => ?_)
  · refine a_iconst (v := 0) dX1_suits_41 (by decide) ?_
    exact a_zret dX1_suits_42 rfl rfl (by simp only [suitF, c8, if_true, if_false, not_true_eq_false, not_false_eq_true, Classical.not_not] at hQ ⊢; exact hQ)
  · refine a_aload_n dX1_suits_11 rfl ?_
    refine a_getR (ci := 1) (j := 3) dX1_suits_12 (kdB hb rfl) rfl (by decide) rfl fl_1_35 ?_
    refine a_iload_n dX1_suits_15 rfl ?_
    refine a_cV1i dX1_suits_16 ml_1_65 wv_9_has (kdB hb rfl) rfl (by decide) (Nat.le_of_ble_eq_true rfl) (c9_has hb ⟨rfl, rfl⟩) ?_
    refine a_if_eq dX1_suits_19 (tgt := 41) (by decide) (fun c19 => ?_) (fun c19 => ?_)
    · refine a_iconst (v := 0) dX1_suits_41 (by decide) ?_
      exact a_zret dX1_suits_42 rfl rfl (by simp only [suitF, c8, c19, if_true, if_false, not_true_eq_false, not_false_eq_true, Classical.not_not] at hQ ⊢; exact hQ)
    · refine a_aload_n dX1_suits_22 rfl ?_
      refine a_getR (ci := 1) (j := 2) dX1_suits_23 (kdB hb rfl) rfl (by decide) rfl fl_1_28 ?_
      refine a_aload_n dX1_suits_26 rfl ?_
      refine a_getR (ci := 1) (j := 3) dX1_suits_27 (kdB hb rfl) rfl (by decide) rfl fl_1_35 ?_
      refine a_getR (ci := 9) (j := 0) dX1_suits_30 (kdB hb rfl) rfl (by decide) rfl fl_1_66 ?_
      refine a_iload_n dX1_suits_33 rfl ?_
      refine a_iaload dX1_suits_34 (kdB hb rfl) (hasI_in c19 ht) ?_
      refine a_cV1i dX1_suits_35 ml_1_70 wv_3_has (kdB hb rfl) rfl (by decide) (Nat.le_of_ble_eq_true rfl) (c3_has hb ⟨rfl, rfl⟩) ?_
      refine a_if_ne dX1_suits_38 (tgt := 43) (by decide) (fun c38 => ?_) (fun c38 => ?_)
      · refine a_aload_n dX1_suits_43 rfl ?_
        refine a_getR (ci := 1) (j := 3) dX1_suits_44 (kdB hb rfl) rfl (by decide) rfl fl_1_35 ?_
        refine a_getR (ci := 9) (j := 0) dX1_suits_47 (kdB hb rfl) rfl (by decide) rfl fl_1_66 ?_
        refine a_iload_n dX1_suits_50 rfl ?_
        refine a_iaload dX1_suits_51 (kdB hb rfl) (hasI_in c19 ht) ?_
        refine a_istore_n dX1_suits_52 (by decide) rfl ?_
        dsimp only [lset]
        refine a_aload_n dX1_suits_53 rfl ?_
        refine a_getR (ci := 1) (j := 3) dX1_suits_54 (kdB hb rfl) rfl (by decide) rfl fl_1_35 ?_
        refine a_getR (ci := 9) (j := 3) dX1_suits_57 (kdB hb rfl) rfl (by decide) rfl fl_1_71 ?_
        refine a_iload_n dX1_suits_60 rfl ?_
        refine a_iaload dX1_suits_61 (kdB hb rfl) (hasI_in c19 ht) ?_
        refine a_iconst (v := 1) dX1_suits_62 (by decide) ?_
        refine a_aload_n dX1_suits_63 rfl ?_
        refine a_getR (ci := 1) (j := 2) dX1_suits_64 (kdB hb rfl) rfl (by decide) rfl fl_1_28 ?_
        refine a_getR (ci := 3) (j := 0) dX1_suits_67 (kdB hb rfl) rfl (by decide) rfl fl_1_74 ?_
        refine a_iload_n dX1_suits_70 rfl ?_
        refine a_iaload dX1_suits_71 (kdB hb rfl) (hasI_in c38 hq) ?_
        refine a_ishl dX1_suits_72 ?_
        refine a_iconst (v := (-1)) dX1_suits_73 (by decide) ?_
        refine a_ixor dX1_suits_74 ?_
        refine a_iand dX1_suits_75 ?_
        refine a_istore dX1_suits_76 (by decide) rfl ?_
        dsimp only [lset]
        refine a_aload_n dX1_suits_78 rfl ?_
        refine a_getR (ci := 1) (j := 1) dX1_suits_79 (kdB hb rfl) rfl (by decide) rfl fl_1_21 ?_
        refine a_iload_n dX1_suits_82 rfl ?_
        refine a_iload dX1_suits_83 rfl ?_
        refine a_cV2i dX1_suits_85 ml_1_77 wv_4_isFor (kdB hb rfl) rfl (by decide) (Nat.le_of_ble_eq_true rfl) (c4_isFor hb (hasI_in c8 hp) ⟨rfl, rfl⟩) ?_
        refine a_if_eq dX1_suits_88 (tgt := 115) (by decide) (fun c88 => ?_) (fun c88 => ?_)
        · refine a_iconst (v := 0) dX1_suits_115 (by decide) ?_
          exact a_zret dX1_suits_116 rfl rfl (by simp only [suitF, c8, c19, c38, c88, if_true, if_false, not_true_eq_false, not_false_eq_true, Classical.not_not] at hQ ⊢; exact hQ)
        · refine a_aload_n dX1_suits_91 rfl ?_
          refine a_getR (ci := 1) (j := 1) dX1_suits_92 (kdB hb rfl) rfl (by decide) rfl fl_1_21 ?_
          refine a_iload_n dX1_suits_95 rfl ?_
          refine a_aload_n dX1_suits_96 rfl ?_
          refine a_getR (ci := 1) (j := 2) dX1_suits_97 (kdB hb rfl) rfl (by decide) rfl fl_1_28 ?_
          refine a_getR (ci := 3) (j := 1) dX1_suits_100 (kdB hb rfl) rfl (by decide) rfl fl_1_81 ?_
          refine a_iload_n dX1_suits_103 rfl ?_
          refine a_iaload dX1_suits_104 (kdB hb rfl) (hasI_in c38 hq) ?_
          refine a_cV2i dX1_suits_105 ml_1_84 wv_4_suitsEngine (kdB hb rfl) rfl (by decide) (Nat.le_of_ble_eq_true rfl) (c4_suitsEngine hb (hasI_in c8 hp) ⟨rfl, rfl⟩) ?_
          refine a_if_eq dX1_suits_108 (tgt := 115) (by decide) (fun c108 => ?_) (fun c108 => ?_)
          · refine a_iconst (v := 0) dX1_suits_115 (by decide) ?_
            exact a_zret dX1_suits_116 rfl rfl (by simp only [suitF, c8, c19, c38, c88, c108, if_true, if_false, not_true_eq_false, not_false_eq_true, Classical.not_not] at hQ ⊢; exact hQ)
          · refine a_iconst (v := 1) dX1_suits_111 (by decide) ?_
            refine a_goto dX1_suits_112 (tgt := 116) (by decide) ?_
            exact a_zret dX1_suits_116 rfl rfl (by simp only [suitF, c8, c19, c38, c88, c108, if_true, if_false, not_true_eq_false, not_false_eq_true, Classical.not_not] at hQ ⊢; exact hQ)
      · refine a_iconst (v := 0) dX1_suits_41 (by decide) ?_
        exact a_zret dX1_suits_42 rfl rfl (by simp only [suitF, c8, c19, c38, if_true, if_false, not_true_eq_false, not_false_eq_true, Classical.not_not] at hQ ⊢; exact hQ)
theorem c1_isOut {l : Launch} {G : GG} {h : AH} {Q : Option Value → AH → Prop} {b : Nat} (hb : isB b) {x : Int32} (ht : (h.1 b 21 9).toInt ≤ 40) (hq : (h.1 b 15 5).toInt ≤ 8) (hQ : Q (some (.int (isOutF h b x))) h) : Ct l G 1 yX1_isOut cX1_isOut 3 (some .boolean) [.ref (G.1 b 0), .int x] h Q := by
  refine Ct.of (by decide) (Nat.le_of_ble_eq_true rfl) ?_
  show AW l G 1 RX1 cX1_isOut 3 (some .boolean) 0 [some (.ref (G.1 b 0)), some (.int x)] [] h Q
  refine a_aload_n dX1_isOut_0 rfl ?_
  refine a_getR (ci := 1) (j := 2) dX1_isOut_1 (kdB hb rfl) rfl (by decide) rfl fl_1_28 ?_
  refine a_iload_n dX1_isOut_4 rfl ?_
  refine a_cV1i dX1_isOut_5 ml_1_70 wv_3_has (kdB hb rfl) rfl (by decide) (Nat.le_of_ble_eq_true rfl) (c3_has hb ⟨rfl, rfl⟩) ?_
  refine a_if_ne dX1_isOut_8 (tgt := 13) (by decide) (fun c8 => ?_) (fun c8 => ?_)
  · refine a_aload_n dX1_isOut_13 rfl ?_
    refine a_getR (ci := 1) (j := 2) dX1_isOut_14 (kdB hb rfl) rfl (by decide) rfl fl_1_28 ?_
    refine a_getR (ci := 3) (j := 2) dX1_isOut_17 (kdB hb rfl) rfl (by decide) rfl fl_1_87 ?_
    refine a_iload_n dX1_isOut_20 rfl ?_
    refine a_iaload dX1_isOut_21 (kdB hb rfl) (hasI_in c8 hq) ?_
    refine a_istore_n dX1_isOut_22 (by decide) rfl ?_
    dsimp only [lset]
    refine a_aload_n dX1_isOut_23 rfl ?_
    refine a_getR (ci := 1) (j := 3) dX1_isOut_24 (kdB hb rfl) rfl (by decide) rfl fl_1_35 ?_
    refine a_iload_n dX1_isOut_27 rfl ?_
    refine a_cV1i dX1_isOut_28 ml_1_65 wv_9_has (kdB hb rfl) rfl (by decide) (Nat.le_of_ble_eq_true rfl) (c9_has hb ⟨rfl, rfl⟩) ?_
    refine a_if_eq dX1_isOut_31 (tgt := 51) (by decide) (fun c31 => ?_) (fun c31 => ?_)
    · refine a_iconst (v := 0) dX1_isOut_51 (by decide) ?_
      exact a_zret dX1_isOut_52 rfl rfl (by simp only [isOutF, c8, c31, if_true, if_false, not_true_eq_false, not_false_eq_true, Classical.not_not] at hQ ⊢; exact hQ)
    · refine a_aload_n dX1_isOut_34 rfl ?_
      refine a_getR (ci := 1) (j := 3) dX1_isOut_35 (kdB hb rfl) rfl (by decide) rfl fl_1_35 ?_
      refine a_getR (ci := 9) (j := 4) dX1_isOut_38 (kdB hb rfl) rfl (by decide) rfl fl_1_90 ?_
      refine a_iload_n dX1_isOut_41 rfl ?_
      refine a_iaload dX1_isOut_42 (kdB hb rfl) (hasI_in c31 ht) ?_
      refine a_iconst (v := 1) dX1_isOut_43 (by decide) ?_
      refine a_icmp_ne dX1_isOut_44 (tgt := 51) (by decide) (fun c44 => ?_) (fun c44 => ?_)
      · refine a_iconst (v := 0) dX1_isOut_51 (by decide) ?_
        exact a_zret dX1_isOut_52 rfl rfl (by simp only [isOutF, c8, c31, c44, if_true, if_false, not_true_eq_false, not_false_eq_true, Classical.not_not] at hQ ⊢; exact hQ)
      · refine a_iconst (v := 1) dX1_isOut_47 (by decide) ?_
        refine a_goto dX1_isOut_48 (tgt := 52) (by decide) ?_
        exact a_zret dX1_isOut_52 rfl rfl (by simp only [isOutF, c8, c31, c44, if_true, if_false, not_true_eq_false, not_false_eq_true, Classical.not_not] at hQ ⊢; exact hQ)
  · refine a_iconst (v := 0) dX1_isOut_11 (by decide) ?_
    exact a_zret dX1_isOut_12 rfl rfl (by simp only [isOutF, c8, if_true, if_false, not_true_eq_false, not_false_eq_true, Classical.not_not] at hQ ⊢; exact hQ)
theorem c1_isLate {l : Launch} {G : GG} {h : AH} {Q : Option Value → AH → Prop} {b : Nat} (hb : isB b) {x : Int32} (hp : (h.1 b 3 11).toInt ≤ 6) (ht : (h.1 b 21 9).toInt ≤ 40) (hQ : Q (some (.int (lateF h b x))) h) : Ct l G 1 yX1_isLate cX1_isLate 2 (some .boolean) [.ref (G.1 b 0), .int x] h Q := by
  refine Ct.of (by decide) (Nat.le_of_ble_eq_true rfl) ?_
  show AW l G 1 RX1 cX1_isLate 2 (some .boolean) 0 [some (.ref (G.1 b 0)), some (.int x)] [] h Q
  refine a_aload_n dX1_isLate_0 rfl ?_
  refine a_getR (ci := 1) (j := 3) dX1_isLate_1 (kdB hb rfl) rfl (by decide) rfl fl_1_35 ?_
  refine a_iload_n dX1_isLate_4 rfl ?_
  refine a_cV1i dX1_isLate_5 ml_1_65 wv_9_has (kdB hb rfl) rfl (by decide) (Nat.le_of_ble_eq_true rfl) (c9_has hb ⟨rfl, rfl⟩) ?_
  refine a_if_eq dX1_isLate_8 (tgt := 30) (by decide) (fun c8 => ?_) (fun c8 => ?_)
  · refine a_iconst (v := 0) dX1_isLate_30 (by decide) ?_
    exact a_zret dX1_isLate_31 rfl rfl (by simp only [lateF, c8, if_true, if_false, not_true_eq_false, not_false_eq_true, Classical.not_not] at hQ ⊢; exact hQ)
  · refine a_aload_n dX1_isLate_11 rfl ?_
    refine a_getR (ci := 1) (j := 1) dX1_isLate_12 (kdB hb rfl) rfl (by decide) rfl fl_1_21 ?_
    refine a_aload_n dX1_isLate_15 rfl ?_
    refine a_getR (ci := 1) (j := 3) dX1_isLate_16 (kdB hb rfl) rfl (by decide) rfl fl_1_35 ?_
    refine a_getR (ci := 9) (j := 5) dX1_isLate_19 (kdB hb rfl) rfl (by decide) rfl fl_1_93 ?_
    refine a_iload_n dX1_isLate_22 rfl ?_
    refine a_iaload dX1_isLate_23 (kdB hb rfl) (hasI_in c8 ht) ?_
    refine a_cV1i dX1_isLate_24 ml_1_61 wv_4_has (kdB hb rfl) rfl (by decide) (Nat.le_of_ble_eq_true rfl) (c4_has hb ⟨rfl, rfl⟩) ?_
    refine a_if_ne dX1_isLate_27 (tgt := 32) (by decide) (fun c27 => ?_) (fun c27 => ?_)
    · refine a_aload_n dX1_isLate_32 rfl ?_
      refine a_getI (ci := 1) (j := 5) dX1_isLate_33 (kdB hb rfl) rfl (by decide) rfl fl_1_58 ?_
      refine a_aload_n dX1_isLate_36 rfl ?_
      refine a_getR (ci := 1) (j := 3) dX1_isLate_37 (kdB hb rfl) rfl (by decide) rfl fl_1_35 ?_
      refine a_getR (ci := 9) (j := 6) dX1_isLate_40 (kdB hb rfl) rfl (by decide) rfl fl_1_96 ?_
      refine a_iload_n dX1_isLate_43 rfl ?_
      refine a_iaload dX1_isLate_44 (kdB hb rfl) (hasI_in c8 ht) ?_
      refine a_isub dX1_isLate_45 ?_
      refine a_aload_n dX1_isLate_46 rfl ?_
      refine a_getR (ci := 1) (j := 1) dX1_isLate_47 (kdB hb rfl) rfl (by decide) rfl fl_1_21 ?_
      refine a_getR (ci := 4) (j := 5) dX1_isLate_50 (kdB hb rfl) rfl (by decide) rfl fl_1_99 ?_
      refine a_aload_n dX1_isLate_53 rfl ?_
      refine a_getR (ci := 1) (j := 3) dX1_isLate_54 (kdB hb rfl) rfl (by decide) rfl fl_1_35 ?_
      refine a_getR (ci := 9) (j := 5) dX1_isLate_57 (kdB hb rfl) rfl (by decide) rfl fl_1_93 ?_
      refine a_iload_n dX1_isLate_60 rfl ?_
      refine a_iaload dX1_isLate_61 (kdB hb rfl) (hasI_in c8 ht) ?_
      refine a_iaload dX1_isLate_62 (kdB hb rfl) (hasI_in c27 hp) ?_
      refine a_icmp_le dX1_isLate_63 (tgt := 70) (by decide) (fun c63 => ?_) (fun c63 => ?_)
      · refine a_iconst (v := 0) dX1_isLate_70 (by decide) ?_
        exact a_zret dX1_isLate_71 rfl rfl (by simp only [lateF, c8, c27, c63, if_true, if_false, not_true_eq_false, not_false_eq_true, Classical.not_not] at hQ ⊢; exact hQ)
      · refine a_iconst (v := 1) dX1_isLate_66 (by decide) ?_
        refine a_goto dX1_isLate_67 (tgt := 71) (by decide) ?_
        exact a_zret dX1_isLate_71 rfl rfl (by simp only [lateF, c8, c27, c63, if_true, if_false, not_true_eq_false, not_false_eq_true, Classical.not_not] at hQ ⊢; exact hQ)
    · refine a_iconst (v := 0) dX1_isLate_30 (by decide) ?_
      exact a_zret dX1_isLate_31 rfl rfl (by simp only [lateF, c8, c27, if_true, if_false, not_true_eq_false, not_false_eq_true, Classical.not_not] at hQ ⊢; exact hQ)
theorem c1_judge {l : Launch} {G : GG} {h : AH} {Q : Option Value → AH → Prop} {b : Nat} (hb : isB b) {x y : Int32} (hp : (h.1 b 3 11).toInt ≤ 6) (ht : (h.1 b 21 9).toInt ≤ 40) (hq : (h.1 b 15 5).toInt ≤ 8) (hQ : Q (some (.int (judgeF h b x y))) h) : Ct l G 2 yX1_judge cX1_judge 4 (some .int) [.ref (G.1 b 0), .int x, .int y] h Q := by
  refine Ct.of (by decide) (Nat.le_of_ble_eq_true rfl) ?_
  show AW l G 2 RX1 cX1_judge 4 (some .int) 0 [some (.ref (G.1 b 0)), some (.int x), some (.int y)] [] h Q
  refine a_aload_n dX1_judge_0 rfl ?_
  refine a_iload_n dX1_judge_1 rfl ?_
  refine a_cV1i dX1_judge_2 ml_1_102 wv_1_isOut (kdB hb rfl) rfl (by decide) (Nat.le_of_ble_eq_true rfl) (c1_isOut hb ht hq ⟨rfl, rfl⟩) ?_
  refine a_if_ne dX1_judge_5 (tgt := 10) (by decide) (fun c5 => ?_) (fun c5 => ?_)
  · refine a_aload_n dX1_judge_10 rfl ?_
    refine a_getR (ci := 1) (j := 2) dX1_judge_11 (kdB hb rfl) rfl (by decide) rfl fl_1_28 ?_
    refine a_getR (ci := 3) (j := 2) dX1_judge_14 (kdB hb rfl) rfl (by decide) rfl fl_1_87 ?_
    refine a_iload_n dX1_judge_17 rfl ?_
    refine a_iaload dX1_judge_18 (kdB hb rfl) (hasI_in (isOutF_has c5) hq) ?_
    refine a_istore_n dX1_judge_19 (by decide) rfl ?_
    dsimp only [lset]
    refine a_aload_n dX1_judge_20 rfl ?_
    refine a_getR (ci := 1) (j := 3) dX1_judge_21 (kdB hb rfl) rfl (by decide) rfl fl_1_35 ?_
    refine a_iload_n dX1_judge_24 rfl ?_
    refine a_cV1i dX1_judge_25 ml_1_65 wv_9_has (kdB hb rfl) rfl (by decide) (Nat.le_of_ble_eq_true rfl) (c9_has hb ⟨rfl, rfl⟩) ?_
    refine a_if_eq dX1_judge_28 (tgt := 47) (by decide) (fun c28 => ?_) (fun c28 => ?_)
    · refine a_iconst (v := 2) dX1_judge_47 (by decide) ?_
      exact a_iret dX1_judge_48 rfl (by simp only [judgeF, c5, c28, if_true, if_false, not_true_eq_false, not_false_eq_true, Classical.not_not] at hQ ⊢; exact hQ)
    · refine a_aload_n dX1_judge_31 rfl ?_
      refine a_getR (ci := 1) (j := 3) dX1_judge_32 (kdB hb rfl) rfl (by decide) rfl fl_1_35 ?_
      refine a_getR (ci := 9) (j := 3) dX1_judge_35 (kdB hb rfl) rfl (by decide) rfl fl_1_71 ?_
      refine a_iload_n dX1_judge_38 rfl ?_
      refine a_iaload dX1_judge_39 (kdB hb rfl) (hasI_in c28 ht) ?_
      refine a_iload_n dX1_judge_40 rfl ?_
      refine a_ishr dX1_judge_41 ?_
      refine a_iconst (v := 1) dX1_judge_42 (by decide) ?_
      refine a_iand dX1_judge_43 ?_
      refine a_if_ne dX1_judge_44 (tgt := 49) (by decide) (fun c44 => ?_) (fun c44 => ?_)
      · refine a_aload_n dX1_judge_49 rfl ?_
        refine a_iload_n dX1_judge_50 rfl ?_
        refine a_cV1i dX1_judge_51 ml_1_105 wv_1_isLate (kdB hb rfl) rfl (by decide) (Nat.le_of_ble_eq_true rfl) (c1_isLate hb hp ht ⟨rfl, rfl⟩) ?_
        refine a_if_eq dX1_judge_54 (tgt := 61) (by decide) (fun c54 => ?_) (fun c54 => ?_)
        · refine a_iconst (v := 0) dX1_judge_61 (by decide) ?_
          exact a_iret dX1_judge_62 rfl (by simp only [judgeF, c5, c28, c44, c54, if_true, if_false, not_true_eq_false, not_false_eq_true, Classical.not_not] at hQ ⊢; exact hQ)
        · refine a_iconst (v := 3) dX1_judge_57 (by decide) ?_
          refine a_goto dX1_judge_58 (tgt := 62) (by decide) ?_
          exact a_iret dX1_judge_62 rfl (by simp only [judgeF, c5, c28, c44, c54, if_true, if_false, not_true_eq_false, not_false_eq_true, Classical.not_not] at hQ ⊢; exact hQ)
      · refine a_iconst (v := 2) dX1_judge_47 (by decide) ?_
        exact a_iret dX1_judge_48 rfl (by simp only [judgeF, c5, c28, c44, if_true, if_false, not_true_eq_false, not_false_eq_true, Classical.not_not] at hQ ⊢; exact hQ)
  · refine a_iconst (v := 1) dX1_judge_8 (by decide) ?_
    exact a_iret dX1_judge_9 rfl (by simp only [judgeF, c5, if_true, if_false, not_true_eq_false, not_false_eq_true, Classical.not_not] at hQ ⊢; exact hQ)
theorem c1_sendOut {l : Launch} {G : GG} {h : AH} {Q : Option Value → AH → Prop} {b : Nat} (hb : isB b) {x y : Int32} (hp : (h.1 b 3 11).toInt ≤ 6) (ht : (h.1 b 21 9).toInt ≤ 40) (hQ : Q (some (.int (sendV h b x y))) (sendF h b x y)) : Ct l G 1 yX1_sendOut cX1_sendOut 3 (some .int) [.ref (G.1 b 0), .int x, .int y] h Q := by
  refine Ct.of (by decide) (Nat.le_of_ble_eq_true rfl) ?_
  show AW l G 1 RX1 cX1_sendOut 3 (some .int) 0 [some (.ref (G.1 b 0)), some (.int x), some (.int y)] [] h Q
  refine a_aload_n dX1_sendOut_0 rfl ?_
  refine a_getR (ci := 1) (j := 3) dX1_sendOut_1 (kdB hb rfl) rfl (by decide) rfl fl_1_35 ?_
  refine a_iload_n dX1_sendOut_4 rfl ?_
  refine a_cV1i dX1_sendOut_5 ml_1_65 wv_9_has (kdB hb rfl) rfl (by decide) (Nat.le_of_ble_eq_true rfl) (c9_has hb ⟨rfl, rfl⟩) ?_
  refine a_if_eq dX1_sendOut_8 (tgt := 22) (by decide) (fun c8 => ?_) (fun c8 => ?_)
  · refine a_iconst (v := 0) dX1_sendOut_22 (by decide) ?_
    exact a_iret dX1_sendOut_23 rfl (by simp only [sendF, sendV, c8, if_true, if_false, not_true_eq_false, not_false_eq_true, Classical.not_not] at hQ ⊢; exact hQ)
  · refine a_aload_n dX1_sendOut_11 rfl ?_
    refine a_getR (ci := 1) (j := 1) dX1_sendOut_12 (kdB hb rfl) rfl (by decide) rfl fl_1_21 ?_
    refine a_iload_n dX1_sendOut_15 rfl ?_
    refine a_cV1i dX1_sendOut_16 ml_1_61 wv_4_has (kdB hb rfl) rfl (by decide) (Nat.le_of_ble_eq_true rfl) (c4_has hb ⟨rfl, rfl⟩) ?_
    refine a_if_ne dX1_sendOut_19 (tgt := 24) (by decide) (fun c19 => ?_) (fun c19 => ?_)
    · refine a_aload_n dX1_sendOut_24 rfl ?_
      refine a_getR (ci := 1) (j := 3) dX1_sendOut_25 (kdB hb rfl) rfl (by decide) rfl fl_1_35 ?_
      refine a_getR (ci := 9) (j := 4) dX1_sendOut_28 (kdB hb rfl) rfl (by decide) rfl fl_1_90 ?_
      refine a_iload_n dX1_sendOut_31 rfl ?_
      refine a_iconst (v := 1) dX1_sendOut_32 (by decide) ?_
      refine a_iastore dX1_sendOut_33 (kdB hb rfl) (hasI_in c8 ht) ?_
      refine a_aload_n dX1_sendOut_34 rfl ?_
      refine a_getR (ci := 1) (j := 3) dX1_sendOut_35 (kdB hb rfl) rfl (by decide) rfl fl_1_35 ?_
      refine a_getR (ci := 9) (j := 5) dX1_sendOut_38 (kdB hb rfl) rfl (by decide) rfl fl_1_93 ?_
      refine a_iload_n dX1_sendOut_41 rfl ?_
      refine a_iload_n dX1_sendOut_42 rfl ?_
      refine a_iastore dX1_sendOut_43 (kdB hb rfl) (hasI_in c8 ht) ?_
      refine a_aload_n dX1_sendOut_44 rfl ?_
      refine a_getR (ci := 1) (j := 3) dX1_sendOut_45 (kdB hb rfl) rfl (by decide) rfl fl_1_35 ?_
      refine a_getR (ci := 9) (j := 6) dX1_sendOut_48 (kdB hb rfl) rfl (by decide) rfl fl_1_96 ?_
      refine a_iload_n dX1_sendOut_51 rfl ?_
      refine a_aload_n dX1_sendOut_52 rfl ?_
      refine a_getI (ci := 1) (j := 5) dX1_sendOut_53 (kdB hb rfl) rfl (by decide) rfl fl_1_58 ?_
      try simp (disch := first | decide | assumption | omega) only [ui_eq, ui_k, ui_j, ui_b, ui_2, ul_1, ul_eq, ul_k, ul_j, ul_b]
      refine a_iastore dX1_sendOut_56 (kdB hb rfl) (hasI_in c8 ht) ?_
      refine a_aload_n dX1_sendOut_57 rfl ?_
      refine a_getR (ci := 1) (j := 1) dX1_sendOut_58 (kdB hb rfl) rfl (by decide) rfl fl_1_21 ?_
      refine a_getR (ci := 4) (j := 7) dX1_sendOut_61 (kdB hb rfl) rfl (by decide) rfl fl_1_108 ?_
      refine a_iload_n dX1_sendOut_64 rfl ?_
      refine a_dup2 dX1_sendOut_65 rfl rfl ?_
      refine a_iaload dX1_sendOut_66 (kdB hb rfl) (hasI_in c19 hp) ?_
      try simp (disch := first | decide | assumption | omega) only [ui_eq, ui_k, ui_j, ui_b, ui_2, ul_1, ul_eq, ul_k, ul_j, ul_b]
      refine a_iconst (v := 1) dX1_sendOut_67 (by decide) ?_
      refine a_iadd dX1_sendOut_68 ?_
      refine a_iastore dX1_sendOut_69 (kdB hb rfl) (hasI_in c19 hp) ?_
      refine a_iconst (v := 1) dX1_sendOut_70 (by decide) ?_
      refine a_aload_n dX1_sendOut_71 rfl ?_
      refine a_getR (ci := 1) (j := 3) dX1_sendOut_72 (kdB hb rfl) rfl (by decide) rfl fl_1_35 ?_
      refine a_getR (ci := 9) (j := 0) dX1_sendOut_75 (kdB hb rfl) rfl (by decide) rfl fl_1_66 ?_
      refine a_iload_n dX1_sendOut_78 rfl ?_
      refine a_iaload dX1_sendOut_79 (kdB hb rfl) (hasI_in c8 ht) ?_
      try simp (disch := first | decide | assumption | omega) only [ui_eq, ui_k, ui_j, ui_b, ui_2, ul_1, ul_eq, ul_k, ul_j, ul_b]
      refine a_ishl dX1_sendOut_80 ?_
      exact a_iret dX1_sendOut_81 rfl (by simp only [sendF, sendV, c8, c19, if_true, if_false, not_true_eq_false, not_false_eq_true, Classical.not_not] at hQ ⊢; exact hQ)
    · refine a_iconst (v := 0) dX1_sendOut_22 (by decide) ?_
      exact a_iret dX1_sendOut_23 rfl (by simp only [sendF, sendV, c8, c19, if_true, if_false, not_true_eq_false, not_false_eq_true, Classical.not_not] at hQ ⊢; exact hQ)
theorem c1_finish {l : Launch} {G : GG} {h : AH} {Q : Option Value → AH → Prop} {b : Nat} (hb : isB b) {x : Int32} (hp : (h.1 b 3 11).toInt ≤ 6) (ht : (h.1 b 21 9).toInt ≤ 40) (hq : (h.1 b 15 5).toInt ≤ 8) (hQ : Q none (finF h b x)) : Ct l G 2 yX1_finish cX1_finish 4 none [.ref (G.1 b 0), .int x] h Q := by
  refine Ct.of (by decide) (Nat.le_of_ble_eq_true rfl) ?_
  show AW l G 2 RX1 cX1_finish 4 none 0 [some (.ref (G.1 b 0)), some (.int x)] [] h Q
  refine a_aload_n dX1_finish_0 rfl ?_
  refine a_getR (ci := 1) (j := 3) dX1_finish_1 (kdB hb rfl) rfl (by decide) rfl fl_1_35 ?_
  refine a_iload_n dX1_finish_4 rfl ?_
  refine a_cV1i dX1_finish_5 ml_1_65 wv_9_has (kdB hb rfl) rfl (by decide) (Nat.le_of_ble_eq_true rfl) (c9_has hb ⟨rfl, rfl⟩) ?_
  try simp (disch := first | decide | assumption | omega) only [ui_eq, ui_k, ui_j, ui_b, ui_2, ul_1, ul_eq, ul_k, ul_j, ul_b, giveF_k]
  refine a_if_eq dX1_finish_8 (tgt := 30) (by decide) (fun c8 => ?_) (fun c8 => ?_)
  · exact a_vret dX1_finish_30 rfl (by simp only [finF, c8, if_true, if_false, not_true_eq_false, not_false_eq_true, Classical.not_not] at hQ ⊢; exact hQ)
  · refine a_aload_n dX1_finish_11 rfl ?_
    refine a_getR (ci := 1) (j := 2) dX1_finish_12 (kdB hb rfl) rfl (by decide) rfl fl_1_28 ?_
    refine a_aload_n dX1_finish_15 rfl ?_
    refine a_getR (ci := 1) (j := 3) dX1_finish_16 (kdB hb rfl) rfl (by decide) rfl fl_1_35 ?_
    refine a_getR (ci := 9) (j := 0) dX1_finish_19 (kdB hb rfl) rfl (by decide) rfl fl_1_66 ?_
    refine a_iload_n dX1_finish_22 rfl ?_
    refine a_iaload dX1_finish_23 (kdB hb rfl) (hasI_in c8 ht) ?_
    try simp (disch := first | decide | assumption | omega) only [ui_eq, ui_k, ui_j, ui_b, ui_2, ul_1, ul_eq, ul_k, ul_j, ul_b, giveF_k]
    refine a_cV1i dX1_finish_24 ml_1_70 wv_3_has (kdB hb rfl) rfl (by decide) (Nat.le_of_ble_eq_true rfl) (c3_has hb ⟨rfl, rfl⟩) ?_
    try simp (disch := first | decide | assumption | omega) only [ui_eq, ui_k, ui_j, ui_b, ui_2, ul_1, ul_eq, ul_k, ul_j, ul_b, giveF_k]
    refine a_if_ne dX1_finish_27 (tgt := 31) (by decide) (fun c27 => ?_) (fun c27 => ?_)
    · refine a_aload_n dX1_finish_31 rfl ?_
      refine a_getR (ci := 1) (j := 3) dX1_finish_32 (kdB hb rfl) rfl (by decide) rfl fl_1_35 ?_
      refine a_getR (ci := 9) (j := 0) dX1_finish_35 (kdB hb rfl) rfl (by decide) rfl fl_1_66 ?_
      refine a_iload_n dX1_finish_38 rfl ?_
      refine a_iaload dX1_finish_39 (kdB hb rfl) (hasI_in c8 ht) ?_
      try simp (disch := first | decide | assumption | omega) only [ui_eq, ui_k, ui_j, ui_b, ui_2, ul_1, ul_eq, ul_k, ul_j, ul_b, giveF_k]
      refine a_istore_n dX1_finish_40 (by decide) rfl ?_
      dsimp only [lset]
      refine a_aload_n dX1_finish_41 rfl ?_
      refine a_iload_n dX1_finish_42 rfl ?_
      refine a_cV1i dX1_finish_43 ml_1_105 wv_1_isLate (kdB hb rfl) rfl (by decide) (Nat.le_of_ble_eq_true rfl) (c1_isLate hb hp ht ⟨rfl, rfl⟩) ?_
      try simp (disch := first | decide | assumption | omega) only [ui_eq, ui_k, ui_j, ui_b, ui_2, ul_1, ul_eq, ul_k, ul_j, ul_b, giveF_k]
      refine a_if_eq dX1_finish_46 (tgt := 53) (by decide) (fun c46 => ?_) (fun c46 => ?_)
      · refine a_iconst (v := 0) dX1_finish_53 (by decide) ?_
        refine a_istore_n dX1_finish_54 (by decide) rfl ?_
        dsimp only [lset]
        refine a_aload_n dX1_finish_55 rfl ?_
        refine a_getR (ci := 1) (j := 3) dX1_finish_56 (kdB hb rfl) rfl (by decide) rfl fl_1_35 ?_
        refine a_getR (ci := 9) (j := 4) dX1_finish_59 (kdB hb rfl) rfl (by decide) rfl fl_1_90 ?_
        refine a_iload_n dX1_finish_62 rfl ?_
        refine a_iconst (v := 2) dX1_finish_63 (by decide) ?_
        refine a_iastore dX1_finish_64 (kdB hb rfl) (hasI_in c8 ht) ?_
        refine a_aload_n dX1_finish_65 rfl ?_
        refine a_getR (ci := 1) (j := 3) dX1_finish_66 (kdB hb rfl) rfl (by decide) rfl fl_1_35 ?_
        refine a_getR (ci := 9) (j := 7) dX1_finish_69 (kdB hb rfl) rfl (by decide) rfl fl_1_111 ?_
        refine a_iload_n dX1_finish_72 rfl ?_
        refine a_aload_n dX1_finish_73 rfl ?_
        refine a_getI (ci := 1) (j := 5) dX1_finish_74 (kdB hb rfl) rfl (by decide) rfl fl_1_58 ?_
        try simp (disch := first | decide | assumption | omega) only [ui_eq, ui_k, ui_j, ui_b, ui_2, ul_1, ul_eq, ul_k, ul_j, ul_b, giveF_k]
        refine a_iastore dX1_finish_77 (kdB hb rfl) (hasI_in c8 ht) ?_
        refine a_aload_n dX1_finish_78 rfl ?_
        refine a_getR (ci := 1) (j := 3) dX1_finish_79 (kdB hb rfl) rfl (by decide) rfl fl_1_35 ?_
        refine a_getR (ci := 9) (j := 8) dX1_finish_82 (kdB hb rfl) rfl (by decide) rfl fl_1_114 ?_
        refine a_iload_n dX1_finish_85 rfl ?_
        refine a_iload_n dX1_finish_86 rfl ?_
        refine a_iastore dX1_finish_87 (kdB hb rfl) (hasI_in c8 ht) ?_
        refine a_aload_n dX1_finish_88 rfl ?_
        refine a_getR (ci := 1) (j := 1) dX1_finish_89 (kdB hb rfl) rfl (by decide) rfl fl_1_21 ?_
        refine a_aload_n dX1_finish_92 rfl ?_
        refine a_getR (ci := 1) (j := 3) dX1_finish_93 (kdB hb rfl) rfl (by decide) rfl fl_1_35 ?_
        refine a_getR (ci := 9) (j := 5) dX1_finish_96 (kdB hb rfl) rfl (by decide) rfl fl_1_93 ?_
        refine a_iload_n dX1_finish_99 rfl ?_
        refine a_iaload dX1_finish_100 (kdB hb rfl) (hasI_in c8 ht) ?_
        try simp (disch := first | decide | assumption | omega) only [ui_eq, ui_k, ui_j, ui_b, ui_2, ul_1, ul_eq, ul_k, ul_j, ul_b, giveF_k]
        refine a_iload_n dX1_finish_101 rfl ?_
        refine a_iconst (v := 1) dX1_finish_102 (by decide) ?_
        refine a_cV3v dX1_finish_103 ml_1_117 wv_4_giveUp (kdB hb rfl) rfl (by decide) (Nat.le_of_ble_eq_true rfl) (c4_giveUp hb (by simp (disch := first | decide | assumption) only [ui_eq, ui_k, ui_j, ui_b, giveF_k]; exact hp) ⟨rfl, rfl⟩) ?_
        try simp (disch := first | decide | assumption | omega) only [ui_eq, ui_k, ui_j, ui_b, ui_2, ul_1, ul_eq, ul_k, ul_j, ul_b, giveF_k]
        refine a_aload_n dX1_finish_106 rfl ?_
        refine a_getR (ci := 1) (j := 2) dX1_finish_107 (kdB hb rfl) rfl (by decide) rfl fl_1_28 ?_
        refine a_getR (ci := 3) (j := 3) dX1_finish_110 (kdB hb rfl) rfl (by decide) rfl fl_1_121 ?_
        refine a_iload_n dX1_finish_113 rfl ?_
        refine a_dup2 dX1_finish_114 rfl rfl ?_
        refine a_iaload dX1_finish_115 (kdB hb rfl) (hasI_in c27 hq) ?_
        try simp (disch := first | decide | assumption | omega) only [ui_eq, ui_k, ui_j, ui_b, ui_2, ul_1, ul_eq, ul_k, ul_j, ul_b, giveF_k]
        refine a_iload_n dX1_finish_116 rfl ?_
        refine a_iadd dX1_finish_117 ?_
        refine a_iastore dX1_finish_118 (kdB hb rfl) (hasI_in c27 hq) ?_
        refine a_aload_n dX1_finish_119 rfl ?_
        refine a_getR (ci := 1) (j := 2) dX1_finish_120 (kdB hb rfl) rfl (by decide) rfl fl_1_28 ?_
        refine a_getR (ci := 3) (j := 2) dX1_finish_123 (kdB hb rfl) rfl (by decide) rfl fl_1_87 ?_
        refine a_iload_n dX1_finish_126 rfl ?_
        refine a_iconst (v := (-1)) dX1_finish_127 (by decide) ?_
        refine a_iastore dX1_finish_128 (kdB hb rfl) (hasI_in c27 hq) ?_
        refine a_aload_n dX1_finish_129 rfl ?_
        refine a_getR (ci := 1) (j := 2) dX1_finish_130 (kdB hb rfl) rfl (by decide) rfl fl_1_28 ?_
        refine a_getR (ci := 3) (j := 4) dX1_finish_133 (kdB hb rfl) rfl (by decide) rfl fl_1_124 ?_
        refine a_iload_n dX1_finish_136 rfl ?_
        refine a_dup2 dX1_finish_137 rfl rfl ?_
        refine a_iaload dX1_finish_138 (kdB hb rfl) (hasI_in c27 hq) ?_
        try simp (disch := first | decide | assumption | omega) only [ui_eq, ui_k, ui_j, ui_b, ui_2, ul_1, ul_eq, ul_k, ul_j, ul_b, giveF_k]
        refine a_iconst (v := 1) dX1_finish_139 (by decide) ?_
        refine a_iadd dX1_finish_140 ?_
        refine a_iastore dX1_finish_141 (kdB hb rfl) (hasI_in c27 hq) ?_
        exact a_vret dX1_finish_142 rfl (by simp only [finF, c8, c27, c46, if_true, if_false, not_true_eq_false, not_false_eq_true, Classical.not_not] at hQ ⊢; exact hQ)
      · refine a_iconst (v := 1) dX1_finish_49 (by decide) ?_
        refine a_goto dX1_finish_50 (tgt := 54) (by decide) ?_
        refine a_istore_n dX1_finish_54 (by decide) rfl ?_
        dsimp only [lset]
        refine a_aload_n dX1_finish_55 rfl ?_
        refine a_getR (ci := 1) (j := 3) dX1_finish_56 (kdB hb rfl) rfl (by decide) rfl fl_1_35 ?_
        refine a_getR (ci := 9) (j := 4) dX1_finish_59 (kdB hb rfl) rfl (by decide) rfl fl_1_90 ?_
        refine a_iload_n dX1_finish_62 rfl ?_
        refine a_iconst (v := 2) dX1_finish_63 (by decide) ?_
        refine a_iastore dX1_finish_64 (kdB hb rfl) (hasI_in c8 ht) ?_
        refine a_aload_n dX1_finish_65 rfl ?_
        refine a_getR (ci := 1) (j := 3) dX1_finish_66 (kdB hb rfl) rfl (by decide) rfl fl_1_35 ?_
        refine a_getR (ci := 9) (j := 7) dX1_finish_69 (kdB hb rfl) rfl (by decide) rfl fl_1_111 ?_
        refine a_iload_n dX1_finish_72 rfl ?_
        refine a_aload_n dX1_finish_73 rfl ?_
        refine a_getI (ci := 1) (j := 5) dX1_finish_74 (kdB hb rfl) rfl (by decide) rfl fl_1_58 ?_
        try simp (disch := first | decide | assumption | omega) only [ui_eq, ui_k, ui_j, ui_b, ui_2, ul_1, ul_eq, ul_k, ul_j, ul_b, giveF_k]
        refine a_iastore dX1_finish_77 (kdB hb rfl) (hasI_in c8 ht) ?_
        refine a_aload_n dX1_finish_78 rfl ?_
        refine a_getR (ci := 1) (j := 3) dX1_finish_79 (kdB hb rfl) rfl (by decide) rfl fl_1_35 ?_
        refine a_getR (ci := 9) (j := 8) dX1_finish_82 (kdB hb rfl) rfl (by decide) rfl fl_1_114 ?_
        refine a_iload_n dX1_finish_85 rfl ?_
        refine a_iload_n dX1_finish_86 rfl ?_
        refine a_iastore dX1_finish_87 (kdB hb rfl) (hasI_in c8 ht) ?_
        refine a_aload_n dX1_finish_88 rfl ?_
        refine a_getR (ci := 1) (j := 1) dX1_finish_89 (kdB hb rfl) rfl (by decide) rfl fl_1_21 ?_
        refine a_aload_n dX1_finish_92 rfl ?_
        refine a_getR (ci := 1) (j := 3) dX1_finish_93 (kdB hb rfl) rfl (by decide) rfl fl_1_35 ?_
        refine a_getR (ci := 9) (j := 5) dX1_finish_96 (kdB hb rfl) rfl (by decide) rfl fl_1_93 ?_
        refine a_iload_n dX1_finish_99 rfl ?_
        refine a_iaload dX1_finish_100 (kdB hb rfl) (hasI_in c8 ht) ?_
        try simp (disch := first | decide | assumption | omega) only [ui_eq, ui_k, ui_j, ui_b, ui_2, ul_1, ul_eq, ul_k, ul_j, ul_b, giveF_k]
        refine a_iload_n dX1_finish_101 rfl ?_
        refine a_iconst (v := 1) dX1_finish_102 (by decide) ?_
        refine a_cV3v dX1_finish_103 ml_1_117 wv_4_giveUp (kdB hb rfl) rfl (by decide) (Nat.le_of_ble_eq_true rfl) (c4_giveUp hb (by simp (disch := first | decide | assumption) only [ui_eq, ui_k, ui_j, ui_b, giveF_k]; exact hp) ⟨rfl, rfl⟩) ?_
        try simp (disch := first | decide | assumption | omega) only [ui_eq, ui_k, ui_j, ui_b, ui_2, ul_1, ul_eq, ul_k, ul_j, ul_b, giveF_k]
        refine a_aload_n dX1_finish_106 rfl ?_
        refine a_getR (ci := 1) (j := 2) dX1_finish_107 (kdB hb rfl) rfl (by decide) rfl fl_1_28 ?_
        refine a_getR (ci := 3) (j := 3) dX1_finish_110 (kdB hb rfl) rfl (by decide) rfl fl_1_121 ?_
        refine a_iload_n dX1_finish_113 rfl ?_
        refine a_dup2 dX1_finish_114 rfl rfl ?_
        refine a_iaload dX1_finish_115 (kdB hb rfl) (hasI_in c27 hq) ?_
        try simp (disch := first | decide | assumption | omega) only [ui_eq, ui_k, ui_j, ui_b, ui_2, ul_1, ul_eq, ul_k, ul_j, ul_b, giveF_k]
        refine a_iload_n dX1_finish_116 rfl ?_
        refine a_iadd dX1_finish_117 ?_
        refine a_iastore dX1_finish_118 (kdB hb rfl) (hasI_in c27 hq) ?_
        refine a_aload_n dX1_finish_119 rfl ?_
        refine a_getR (ci := 1) (j := 2) dX1_finish_120 (kdB hb rfl) rfl (by decide) rfl fl_1_28 ?_
        refine a_getR (ci := 3) (j := 2) dX1_finish_123 (kdB hb rfl) rfl (by decide) rfl fl_1_87 ?_
        refine a_iload_n dX1_finish_126 rfl ?_
        refine a_iconst (v := (-1)) dX1_finish_127 (by decide) ?_
        refine a_iastore dX1_finish_128 (kdB hb rfl) (hasI_in c27 hq) ?_
        refine a_aload_n dX1_finish_129 rfl ?_
        refine a_getR (ci := 1) (j := 2) dX1_finish_130 (kdB hb rfl) rfl (by decide) rfl fl_1_28 ?_
        refine a_getR (ci := 3) (j := 4) dX1_finish_133 (kdB hb rfl) rfl (by decide) rfl fl_1_124 ?_
        refine a_iload_n dX1_finish_136 rfl ?_
        refine a_dup2 dX1_finish_137 rfl rfl ?_
        refine a_iaload dX1_finish_138 (kdB hb rfl) (hasI_in c27 hq) ?_
        try simp (disch := first | decide | assumption | omega) only [ui_eq, ui_k, ui_j, ui_b, ui_2, ul_1, ul_eq, ul_k, ul_j, ul_b, giveF_k]
        refine a_iconst (v := 1) dX1_finish_139 (by decide) ?_
        refine a_iadd dX1_finish_140 ?_
        refine a_iastore dX1_finish_141 (kdB hb rfl) (hasI_in c27 hq) ?_
        exact a_vret dX1_finish_142 rfl (by simp only [finF, c8, c27, c46, if_true, if_false, not_true_eq_false, not_false_eq_true, Classical.not_not] at hQ ⊢; exact hQ)
    · exact a_vret dX1_finish_30 rfl (by simp only [finF, c8, c27, if_true, if_false, not_true_eq_false, not_false_eq_true, Classical.not_not] at hQ ⊢; exact hQ)
theorem c1_takeBackTrip {l : Launch} {G : GG} {h : AH} {Q : Option Value → AH → Prop} {b : Nat} (hb : isB b) {x : Int32} (hq : (h.1 b 15 5).toInt ≤ 8) (hQ : Q none (tbTripF h b x)) : Ct l G 1 yX1_takeBackTrip cX1_takeBackTrip 2 none [.ref (G.1 b 0), .int x] h Q := by
  refine Ct.of (by decide) (Nat.le_of_ble_eq_true rfl) ?_
  show AW l G 1 RX1 cX1_takeBackTrip 2 none 0 [some (.ref (G.1 b 0)), some (.int x)] [] h Q
  refine a_aload_n dX1_takeBackTrip_0 rfl ?_
  refine a_getR (ci := 1) (j := 2) dX1_takeBackTrip_1 (kdB hb rfl) rfl (by decide) rfl fl_1_28 ?_
  refine a_iload_n dX1_takeBackTrip_4 rfl ?_
  refine a_cV1i dX1_takeBackTrip_5 ml_1_70 wv_3_has (kdB hb rfl) rfl (by decide) (Nat.le_of_ble_eq_true rfl) (c3_has hb ⟨rfl, rfl⟩) ?_
  refine a_if_eq dX1_takeBackTrip_8 (tgt := 44) (by decide) (fun c8 => ?_) (fun c8 => ?_)
  · exact a_vret dX1_takeBackTrip_44 rfl (by simp only [tbTripF, c8, if_true, if_false, not_true_eq_false, not_false_eq_true, Classical.not_not] at hQ ⊢; exact hQ)
  · refine a_aload_n dX1_takeBackTrip_11 rfl ?_
    refine a_getR (ci := 1) (j := 3) dX1_takeBackTrip_12 (kdB hb rfl) rfl (by decide) rfl fl_1_35 ?_
    refine a_getI (ci := 9) (j := 9) dX1_takeBackTrip_15 (kdB hb rfl) rfl (by decide) rfl fl_1_51 ?_
    refine a_if_le dX1_takeBackTrip_18 (tgt := 44) (by decide) (fun c18 => ?_) (fun c18 => ?_)
    · exact a_vret dX1_takeBackTrip_44 rfl (by simp only [tbTripF, c8, c18, if_true, if_false, not_true_eq_false, not_false_eq_true, Classical.not_not] at hQ ⊢; exact hQ)
    · refine a_aload_n dX1_takeBackTrip_21 rfl ?_
      refine a_getR (ci := 1) (j := 2) dX1_takeBackTrip_22 (kdB hb rfl) rfl (by decide) rfl fl_1_28 ?_
      refine a_getR (ci := 3) (j := 2) dX1_takeBackTrip_25 (kdB hb rfl) rfl (by decide) rfl fl_1_87 ?_
      refine a_iload_n dX1_takeBackTrip_28 rfl ?_
      refine a_iconst (v := (-1)) dX1_takeBackTrip_29 (by decide) ?_
      refine a_iastore dX1_takeBackTrip_30 (kdB hb rfl) (hasI_in c8 hq) ?_
      refine a_aload_n dX1_takeBackTrip_31 rfl ?_
      refine a_getR (ci := 1) (j := 3) dX1_takeBackTrip_32 (kdB hb rfl) rfl (by decide) rfl fl_1_35 ?_
      refine a_dup dX1_takeBackTrip_35 rfl ?_
      refine a_getI (ci := 9) (j := 9) dX1_takeBackTrip_36 (kdB hb rfl) rfl (by decide) rfl fl_1_51 ?_
      try simp (disch := first | decide | assumption | omega) only [ui_eq, ui_k, ui_j, ui_b, ui_2, ul_1, ul_eq, ul_k, ul_j, ul_b]
      refine a_iconst (v := 1) dX1_takeBackTrip_39 (by decide) ?_
      refine a_isub dX1_takeBackTrip_40 ?_
      refine a_putI (ci := 9) (j := 9) dX1_takeBackTrip_41 (kdB hb rfl) rfl (by decide) (by decide) rfl fl_1_51 ?_
      exact a_vret dX1_takeBackTrip_44 rfl (by simp only [tbTripF, c8, c18, if_true, if_false, not_true_eq_false, not_false_eq_true, Classical.not_not] at hQ ⊢; exact hQ)
theorem c1_takeBackMisuse {l : Launch} {G : GG} {h : AH} {Q : Option Value → AH → Prop} {b : Nat} (hb : isB b) {x y : Int32} (hq : (h.1 b 15 5).toInt ≤ 8) (hQ : Q none (tbMisF h b x y)) : Ct l G 1 yX1_takeBackMisuse cX1_takeBackMisuse 3 none [.ref (G.1 b 0), .int x, .int y] h Q := by
  refine Ct.of (by decide) (Nat.le_of_ble_eq_true rfl) ?_
  show AW l G 1 RX1 cX1_takeBackMisuse 3 none 0 [some (.ref (G.1 b 0)), some (.int x), some (.int y)] [] h Q
  refine a_aload_n dX1_takeBackMisuse_0 rfl ?_
  refine a_getR (ci := 1) (j := 2) dX1_takeBackMisuse_1 (kdB hb rfl) rfl (by decide) rfl fl_1_28 ?_
  refine a_iload_n dX1_takeBackMisuse_4 rfl ?_
  refine a_cV1i dX1_takeBackMisuse_5 ml_1_70 wv_3_has (kdB hb rfl) rfl (by decide) (Nat.le_of_ble_eq_true rfl) (c3_has hb ⟨rfl, rfl⟩) ?_
  refine a_if_eq dX1_takeBackMisuse_8 (tgt := 24) (by decide) (fun c8 => ?_) (fun c8 => ?_)
  · exact a_vret dX1_takeBackMisuse_24 rfl (by simp only [tbMisF, c8, if_true, if_false, not_true_eq_false, not_false_eq_true, Classical.not_not] at hQ ⊢; exact hQ)
  · refine a_aload_n dX1_takeBackMisuse_11 rfl ?_
    refine a_getR (ci := 1) (j := 2) dX1_takeBackMisuse_12 (kdB hb rfl) rfl (by decide) rfl fl_1_28 ?_
    refine a_getR (ci := 3) (j := 3) dX1_takeBackMisuse_15 (kdB hb rfl) rfl (by decide) rfl fl_1_121 ?_
    refine a_iload_n dX1_takeBackMisuse_18 rfl ?_
    refine a_dup2 dX1_takeBackMisuse_19 rfl rfl ?_
    refine a_iaload dX1_takeBackMisuse_20 (kdB hb rfl) (hasI_in c8 hq) ?_
    refine a_iload_n dX1_takeBackMisuse_21 rfl ?_
    refine a_isub dX1_takeBackMisuse_22 ?_
    refine a_iastore dX1_takeBackMisuse_23 (kdB hb rfl) (hasI_in c8 hq) ?_
    exact a_vret dX1_takeBackMisuse_24 rfl (by simp only [tbMisF, c8, if_true, if_false, not_true_eq_false, not_false_eq_true, Classical.not_not] at hQ ⊢; exact hQ)
theorem c1_waitAgain {l : Launch} {G : GG} {h : AH} {Q : Option Value → AH → Prop} {b : Nat} (hb : isB b) {x : Int32} (hp : (h.1 b 3 11).toInt ≤ 6) (ht : (h.1 b 21 9).toInt ≤ 40) (hQ : Q none (waitF h b x)) : Ct l G 1 yX1_waitAgain cX1_waitAgain 2 none [.ref (G.1 b 0), .int x] h Q := by
  refine Ct.of (by decide) (Nat.le_of_ble_eq_true rfl) ?_
  show AW l G 1 RX1 cX1_waitAgain 2 none 0 [some (.ref (G.1 b 0)), some (.int x)] [] h Q
  refine a_aload_n dX1_waitAgain_0 rfl ?_
  refine a_getR (ci := 1) (j := 3) dX1_waitAgain_1 (kdB hb rfl) rfl (by decide) rfl fl_1_35 ?_
  refine a_iload_n dX1_waitAgain_4 rfl ?_
  refine a_cV1i dX1_waitAgain_5 ml_1_65 wv_9_has (kdB hb rfl) rfl (by decide) (Nat.le_of_ble_eq_true rfl) (c9_has hb ⟨rfl, rfl⟩) ?_
  refine a_if_eq dX1_waitAgain_8 (tgt := 30) (by decide) (fun c8 => ?_) (fun c8 => ?_)
  · exact a_vret dX1_waitAgain_30 rfl (by simp only [waitF, c8, if_true, if_false, not_true_eq_false, not_false_eq_true, Classical.not_not] at hQ ⊢; exact hQ)
  · refine a_aload_n dX1_waitAgain_11 rfl ?_
    refine a_getR (ci := 1) (j := 1) dX1_waitAgain_12 (kdB hb rfl) rfl (by decide) rfl fl_1_21 ?_
    refine a_aload_n dX1_waitAgain_15 rfl ?_
    refine a_getR (ci := 1) (j := 3) dX1_waitAgain_16 (kdB hb rfl) rfl (by decide) rfl fl_1_35 ?_
    refine a_getR (ci := 9) (j := 5) dX1_waitAgain_19 (kdB hb rfl) rfl (by decide) rfl fl_1_93 ?_
    refine a_iload_n dX1_waitAgain_22 rfl ?_
    refine a_iaload dX1_waitAgain_23 (kdB hb rfl) (hasI_in c8 ht) ?_
    refine a_cV1i dX1_waitAgain_24 ml_1_61 wv_4_has (kdB hb rfl) rfl (by decide) (Nat.le_of_ble_eq_true rfl) (c4_has hb ⟨rfl, rfl⟩) ?_
    refine a_if_ne dX1_waitAgain_27 (tgt := 31) (by decide) (fun c27 => ?_) (fun c27 => ?_)
    · refine a_aload_n dX1_waitAgain_31 rfl ?_
      refine a_getR (ci := 1) (j := 1) dX1_waitAgain_32 (kdB hb rfl) rfl (by decide) rfl fl_1_21 ?_
      refine a_getR (ci := 4) (j := 7) dX1_waitAgain_35 (kdB hb rfl) rfl (by decide) rfl fl_1_108 ?_
      refine a_aload_n dX1_waitAgain_38 rfl ?_
      refine a_getR (ci := 1) (j := 3) dX1_waitAgain_39 (kdB hb rfl) rfl (by decide) rfl fl_1_35 ?_
      refine a_getR (ci := 9) (j := 5) dX1_waitAgain_42 (kdB hb rfl) rfl (by decide) rfl fl_1_93 ?_
      refine a_iload_n dX1_waitAgain_45 rfl ?_
      refine a_iaload dX1_waitAgain_46 (kdB hb rfl) (hasI_in c8 ht) ?_
      refine a_dup2 dX1_waitAgain_47 rfl rfl ?_
      refine a_iaload dX1_waitAgain_48 (kdB hb rfl) (hasI_in c27 hp) ?_
      refine a_iconst (v := 1) dX1_waitAgain_49 (by decide) ?_
      refine a_isub dX1_waitAgain_50 ?_
      refine a_iastore dX1_waitAgain_51 (kdB hb rfl) (hasI_in c27 hp) ?_
      refine a_aload_n dX1_waitAgain_52 rfl ?_
      refine a_getR (ci := 1) (j := 3) dX1_waitAgain_53 (kdB hb rfl) rfl (by decide) rfl fl_1_35 ?_
      refine a_getR (ci := 9) (j := 4) dX1_waitAgain_56 (kdB hb rfl) rfl (by decide) rfl fl_1_90 ?_
      refine a_iload_n dX1_waitAgain_59 rfl ?_
      refine a_iconst (v := 0) dX1_waitAgain_60 (by decide) ?_
      refine a_iastore dX1_waitAgain_61 (kdB hb rfl) (hasI_in c8 ht) ?_
      refine a_aload_n dX1_waitAgain_62 rfl ?_
      refine a_getR (ci := 1) (j := 3) dX1_waitAgain_63 (kdB hb rfl) rfl (by decide) rfl fl_1_35 ?_
      refine a_getR (ci := 9) (j := 5) dX1_waitAgain_66 (kdB hb rfl) rfl (by decide) rfl fl_1_93 ?_
      refine a_iload_n dX1_waitAgain_69 rfl ?_
      refine a_iconst (v := (-1)) dX1_waitAgain_70 (by decide) ?_
      refine a_iastore dX1_waitAgain_71 (kdB hb rfl) (hasI_in c8 ht) ?_
      refine a_aload_n dX1_waitAgain_72 rfl ?_
      refine a_getR (ci := 1) (j := 3) dX1_waitAgain_73 (kdB hb rfl) rfl (by decide) rfl fl_1_35 ?_
      refine a_getR (ci := 9) (j := 6) dX1_waitAgain_76 (kdB hb rfl) rfl (by decide) rfl fl_1_96 ?_
      refine a_iload_n dX1_waitAgain_79 rfl ?_
      refine a_iconst (v := (-1)) dX1_waitAgain_80 (by decide) ?_
      refine a_iastore dX1_waitAgain_81 (kdB hb rfl) (hasI_in c8 ht) ?_
      exact a_vret dX1_waitAgain_82 rfl (by simp only [waitF, c8, c27, if_true, if_false, not_true_eq_false, not_false_eq_true, Classical.not_not] at hQ ⊢; exact hQ)
    · exact a_vret dX1_waitAgain_30 rfl (by simp only [waitF, c8, c27, if_true, if_false, not_true_eq_false, not_false_eq_true, Classical.not_not] at hQ ⊢; exact hQ)
theorem c1_reopen {l : Launch} {G : GG} {h : AH} {Q : Option Value → AH → Prop} {b : Nat} (hb : isB b) {x : Int32} (hp : (h.1 b 3 11).toInt ≤ 6) (ht : (h.1 b 21 9).toInt ≤ 40) (hq : (h.1 b 15 5).toInt ≤ 8) (hQ : Q none (reopF h b x)) : Ct l G 2 yX1_reopen cX1_reopen 4 none [.ref (G.1 b 0), .int x] h Q := by
  refine Ct.of (by decide) (Nat.le_of_ble_eq_true rfl) ?_
  show AW l G 2 RX1 cX1_reopen 4 none 0 [some (.ref (G.1 b 0)), some (.int x)] [] h Q
  refine a_aload_n dX1_reopen_0 rfl ?_
  refine a_getR (ci := 1) (j := 3) dX1_reopen_1 (kdB hb rfl) rfl (by decide) rfl fl_1_35 ?_
  refine a_iload_n dX1_reopen_4 rfl ?_
  refine a_cV1i dX1_reopen_5 ml_1_65 wv_9_has (kdB hb rfl) rfl (by decide) (Nat.le_of_ble_eq_true rfl) (c9_has hb ⟨rfl, rfl⟩) ?_
  try simp (disch := first | decide | assumption | omega) only [ui_eq, ui_k, ui_j, ui_b, ui_2, ul_1, ul_eq, ul_k, ul_j, ul_b, giveF_k]
  refine a_if_eq dX1_reopen_8 (tgt := 30) (by decide) (fun c8 => ?_) (fun c8 => ?_)
  · exact a_vret dX1_reopen_30 rfl (by simp only [reopF, c8, if_true, if_false, not_true_eq_false, not_false_eq_true, Classical.not_not] at hQ ⊢; exact hQ)
  · refine a_aload_n dX1_reopen_11 rfl ?_
    refine a_getR (ci := 1) (j := 2) dX1_reopen_12 (kdB hb rfl) rfl (by decide) rfl fl_1_28 ?_
    refine a_aload_n dX1_reopen_15 rfl ?_
    refine a_getR (ci := 1) (j := 3) dX1_reopen_16 (kdB hb rfl) rfl (by decide) rfl fl_1_35 ?_
    refine a_getR (ci := 9) (j := 0) dX1_reopen_19 (kdB hb rfl) rfl (by decide) rfl fl_1_66 ?_
    refine a_iload_n dX1_reopen_22 rfl ?_
    refine a_iaload dX1_reopen_23 (kdB hb rfl) (hasI_in c8 ht) ?_
    try simp (disch := first | decide | assumption | omega) only [ui_eq, ui_k, ui_j, ui_b, ui_2, ul_1, ul_eq, ul_k, ul_j, ul_b, giveF_k]
    refine a_cV1i dX1_reopen_24 ml_1_70 wv_3_has (kdB hb rfl) rfl (by decide) (Nat.le_of_ble_eq_true rfl) (c3_has hb ⟨rfl, rfl⟩) ?_
    try simp (disch := first | decide | assumption | omega) only [ui_eq, ui_k, ui_j, ui_b, ui_2, ul_1, ul_eq, ul_k, ul_j, ul_b, giveF_k]
    refine a_if_ne dX1_reopen_27 (tgt := 31) (by decide) (fun c27 => ?_) (fun c27 => ?_)
    · refine a_aload_n dX1_reopen_31 rfl ?_
      refine a_getR (ci := 1) (j := 3) dX1_reopen_32 (kdB hb rfl) rfl (by decide) rfl fl_1_35 ?_
      refine a_getR (ci := 9) (j := 0) dX1_reopen_35 (kdB hb rfl) rfl (by decide) rfl fl_1_66 ?_
      refine a_iload_n dX1_reopen_38 rfl ?_
      refine a_iaload dX1_reopen_39 (kdB hb rfl) (hasI_in c8 ht) ?_
      try simp (disch := first | decide | assumption | omega) only [ui_eq, ui_k, ui_j, ui_b, ui_2, ul_1, ul_eq, ul_k, ul_j, ul_b, giveF_k]
      refine a_istore_n dX1_reopen_40 (by decide) rfl ?_
      dsimp only [lset]
      refine a_aload_n dX1_reopen_41 rfl ?_
      refine a_getR (ci := 1) (j := 3) dX1_reopen_42 (kdB hb rfl) rfl (by decide) rfl fl_1_35 ?_
      refine a_getR (ci := 9) (j := 8) dX1_reopen_45 (kdB hb rfl) rfl (by decide) rfl fl_1_114 ?_
      refine a_iload_n dX1_reopen_48 rfl ?_
      refine a_iaload dX1_reopen_49 (kdB hb rfl) (hasI_in c8 ht) ?_
      try simp (disch := first | decide | assumption | omega) only [ui_eq, ui_k, ui_j, ui_b, ui_2, ul_1, ul_eq, ul_k, ul_j, ul_b, giveF_k]
      refine a_istore_n dX1_reopen_50 (by decide) rfl ?_
      dsimp only [lset]
      refine a_aload_n dX1_reopen_51 rfl ?_
      refine a_getR (ci := 1) (j := 3) dX1_reopen_52 (kdB hb rfl) rfl (by decide) rfl fl_1_35 ?_
      refine a_getR (ci := 9) (j := 4) dX1_reopen_55 (kdB hb rfl) rfl (by decide) rfl fl_1_90 ?_
      refine a_iload_n dX1_reopen_58 rfl ?_
      refine a_aload_n dX1_reopen_59 rfl ?_
      refine a_getR (ci := 1) (j := 3) dX1_reopen_60 (kdB hb rfl) rfl (by decide) rfl fl_1_35 ?_
      refine a_getR (ci := 9) (j := 5) dX1_reopen_63 (kdB hb rfl) rfl (by decide) rfl fl_1_93 ?_
      refine a_iload_n dX1_reopen_66 rfl ?_
      refine a_iaload dX1_reopen_67 (kdB hb rfl) (hasI_in c8 ht) ?_
      try simp (disch := first | decide | assumption | omega) only [ui_eq, ui_k, ui_j, ui_b, ui_2, ul_1, ul_eq, ul_k, ul_j, ul_b, giveF_k]
      refine a_iconst (v := (-1)) dX1_reopen_68 (by decide) ?_
      refine a_icmp_ne dX1_reopen_69 (tgt := 76) (by decide) (fun c69 => ?_) (fun c69 => ?_)
      · refine a_iconst (v := 1) dX1_reopen_76 (by decide) ?_
        refine a_iastore dX1_reopen_77 (kdB hb rfl) (hasI_in c8 ht) ?_
        refine a_aload_n dX1_reopen_78 rfl ?_
        refine a_getR (ci := 1) (j := 3) dX1_reopen_79 (kdB hb rfl) rfl (by decide) rfl fl_1_35 ?_
        refine a_getR (ci := 9) (j := 7) dX1_reopen_82 (kdB hb rfl) rfl (by decide) rfl fl_1_111 ?_
        refine a_iload_n dX1_reopen_85 rfl ?_
        refine a_iconst (v := (-1)) dX1_reopen_86 (by decide) ?_
        refine a_iastore dX1_reopen_87 (kdB hb rfl) (hasI_in c8 ht) ?_
        refine a_aload_n dX1_reopen_88 rfl ?_
        refine a_getR (ci := 1) (j := 3) dX1_reopen_89 (kdB hb rfl) rfl (by decide) rfl fl_1_35 ?_
        refine a_getR (ci := 9) (j := 8) dX1_reopen_92 (kdB hb rfl) rfl (by decide) rfl fl_1_114 ?_
        refine a_iload_n dX1_reopen_95 rfl ?_
        refine a_iconst (v := 0) dX1_reopen_96 (by decide) ?_
        refine a_iastore dX1_reopen_97 (kdB hb rfl) (hasI_in c8 ht) ?_
        refine a_aload_n dX1_reopen_98 rfl ?_
        refine a_getR (ci := 1) (j := 1) dX1_reopen_99 (kdB hb rfl) rfl (by decide) rfl fl_1_21 ?_
        refine a_aload_n dX1_reopen_102 rfl ?_
        refine a_getR (ci := 1) (j := 3) dX1_reopen_103 (kdB hb rfl) rfl (by decide) rfl fl_1_35 ?_
        refine a_getR (ci := 9) (j := 5) dX1_reopen_106 (kdB hb rfl) rfl (by decide) rfl fl_1_93 ?_
        refine a_iload_n dX1_reopen_109 rfl ?_
        refine a_iaload dX1_reopen_110 (kdB hb rfl) (hasI_in c8 ht) ?_
        try simp (disch := first | decide | assumption | omega) only [ui_eq, ui_k, ui_j, ui_b, ui_2, ul_1, ul_eq, ul_k, ul_j, ul_b, giveF_k]
        refine a_iload_n dX1_reopen_111 rfl ?_
        refine a_iconst (v := (-1)) dX1_reopen_112 (by decide) ?_
        refine a_cV3v dX1_reopen_113 ml_1_117 wv_4_giveUp (kdB hb rfl) rfl (by decide) (Nat.le_of_ble_eq_true rfl) (c4_giveUp hb (by simp (disch := first | decide | assumption) only [ui_eq, ui_k, ui_j, ui_b, giveF_k]; exact hp) ⟨rfl, rfl⟩) ?_
        try simp (disch := first | decide | assumption | omega) only [ui_eq, ui_k, ui_j, ui_b, ui_2, ul_1, ul_eq, ul_k, ul_j, ul_b, giveF_k]
        refine a_aload_n dX1_reopen_116 rfl ?_
        refine a_getR (ci := 1) (j := 2) dX1_reopen_117 (kdB hb rfl) rfl (by decide) rfl fl_1_28 ?_
        refine a_getR (ci := 3) (j := 3) dX1_reopen_120 (kdB hb rfl) rfl (by decide) rfl fl_1_121 ?_
        refine a_iload_n dX1_reopen_123 rfl ?_
        refine a_dup2 dX1_reopen_124 rfl rfl ?_
        refine a_iaload dX1_reopen_125 (kdB hb rfl) (hasI_in c27 hq) ?_
        try simp (disch := first | decide | assumption | omega) only [ui_eq, ui_k, ui_j, ui_b, ui_2, ul_1, ul_eq, ul_k, ul_j, ul_b, giveF_k]
        refine a_iload_n dX1_reopen_126 rfl ?_
        refine a_isub dX1_reopen_127 ?_
        refine a_iastore dX1_reopen_128 (kdB hb rfl) (hasI_in c27 hq) ?_
        refine a_aload_n dX1_reopen_129 rfl ?_
        refine a_getR (ci := 1) (j := 2) dX1_reopen_130 (kdB hb rfl) rfl (by decide) rfl fl_1_28 ?_
        refine a_getR (ci := 3) (j := 2) dX1_reopen_133 (kdB hb rfl) rfl (by decide) rfl fl_1_87 ?_
        refine a_iload_n dX1_reopen_136 rfl ?_
        refine a_iload_n dX1_reopen_137 rfl ?_
        refine a_iastore dX1_reopen_138 (kdB hb rfl) (hasI_in c27 hq) ?_
        refine a_aload_n dX1_reopen_139 rfl ?_
        refine a_getR (ci := 1) (j := 2) dX1_reopen_140 (kdB hb rfl) rfl (by decide) rfl fl_1_28 ?_
        refine a_getR (ci := 3) (j := 4) dX1_reopen_143 (kdB hb rfl) rfl (by decide) rfl fl_1_124 ?_
        refine a_iload_n dX1_reopen_146 rfl ?_
        refine a_dup2 dX1_reopen_147 rfl rfl ?_
        refine a_iaload dX1_reopen_148 (kdB hb rfl) (hasI_in c27 hq) ?_
        try simp (disch := first | decide | assumption | omega) only [ui_eq, ui_k, ui_j, ui_b, ui_2, ul_1, ul_eq, ul_k, ul_j, ul_b, giveF_k]
        refine a_iconst (v := 1) dX1_reopen_149 (by decide) ?_
        refine a_isub dX1_reopen_150 ?_
        refine a_iastore dX1_reopen_151 (kdB hb rfl) (hasI_in c27 hq) ?_
        exact a_vret dX1_reopen_152 rfl (by simp only [reopF, c8, c27, c69, if_true, if_false, not_true_eq_false, not_false_eq_true, Classical.not_not] at hQ ⊢; exact hQ)
      · refine a_iconst (v := 0) dX1_reopen_72 (by decide) ?_
        refine a_goto dX1_reopen_73 (tgt := 77) (by decide) ?_
        refine a_iastore dX1_reopen_77 (kdB hb rfl) (hasI_in c8 ht) ?_
        refine a_aload_n dX1_reopen_78 rfl ?_
        refine a_getR (ci := 1) (j := 3) dX1_reopen_79 (kdB hb rfl) rfl (by decide) rfl fl_1_35 ?_
        refine a_getR (ci := 9) (j := 7) dX1_reopen_82 (kdB hb rfl) rfl (by decide) rfl fl_1_111 ?_
        refine a_iload_n dX1_reopen_85 rfl ?_
        refine a_iconst (v := (-1)) dX1_reopen_86 (by decide) ?_
        refine a_iastore dX1_reopen_87 (kdB hb rfl) (hasI_in c8 ht) ?_
        refine a_aload_n dX1_reopen_88 rfl ?_
        refine a_getR (ci := 1) (j := 3) dX1_reopen_89 (kdB hb rfl) rfl (by decide) rfl fl_1_35 ?_
        refine a_getR (ci := 9) (j := 8) dX1_reopen_92 (kdB hb rfl) rfl (by decide) rfl fl_1_114 ?_
        refine a_iload_n dX1_reopen_95 rfl ?_
        refine a_iconst (v := 0) dX1_reopen_96 (by decide) ?_
        refine a_iastore dX1_reopen_97 (kdB hb rfl) (hasI_in c8 ht) ?_
        refine a_aload_n dX1_reopen_98 rfl ?_
        refine a_getR (ci := 1) (j := 1) dX1_reopen_99 (kdB hb rfl) rfl (by decide) rfl fl_1_21 ?_
        refine a_aload_n dX1_reopen_102 rfl ?_
        refine a_getR (ci := 1) (j := 3) dX1_reopen_103 (kdB hb rfl) rfl (by decide) rfl fl_1_35 ?_
        refine a_getR (ci := 9) (j := 5) dX1_reopen_106 (kdB hb rfl) rfl (by decide) rfl fl_1_93 ?_
        refine a_iload_n dX1_reopen_109 rfl ?_
        refine a_iaload dX1_reopen_110 (kdB hb rfl) (hasI_in c8 ht) ?_
        try simp (disch := first | decide | assumption | omega) only [ui_eq, ui_k, ui_j, ui_b, ui_2, ul_1, ul_eq, ul_k, ul_j, ul_b, giveF_k]
        refine a_iload_n dX1_reopen_111 rfl ?_
        refine a_iconst (v := (-1)) dX1_reopen_112 (by decide) ?_
        refine a_cV3v dX1_reopen_113 ml_1_117 wv_4_giveUp (kdB hb rfl) rfl (by decide) (Nat.le_of_ble_eq_true rfl) (c4_giveUp hb (by simp (disch := first | decide | assumption) only [ui_eq, ui_k, ui_j, ui_b, giveF_k]; exact hp) ⟨rfl, rfl⟩) ?_
        try simp (disch := first | decide | assumption | omega) only [ui_eq, ui_k, ui_j, ui_b, ui_2, ul_1, ul_eq, ul_k, ul_j, ul_b, giveF_k]
        refine a_aload_n dX1_reopen_116 rfl ?_
        refine a_getR (ci := 1) (j := 2) dX1_reopen_117 (kdB hb rfl) rfl (by decide) rfl fl_1_28 ?_
        refine a_getR (ci := 3) (j := 3) dX1_reopen_120 (kdB hb rfl) rfl (by decide) rfl fl_1_121 ?_
        refine a_iload_n dX1_reopen_123 rfl ?_
        refine a_dup2 dX1_reopen_124 rfl rfl ?_
        refine a_iaload dX1_reopen_125 (kdB hb rfl) (hasI_in c27 hq) ?_
        try simp (disch := first | decide | assumption | omega) only [ui_eq, ui_k, ui_j, ui_b, ui_2, ul_1, ul_eq, ul_k, ul_j, ul_b, giveF_k]
        refine a_iload_n dX1_reopen_126 rfl ?_
        refine a_isub dX1_reopen_127 ?_
        refine a_iastore dX1_reopen_128 (kdB hb rfl) (hasI_in c27 hq) ?_
        refine a_aload_n dX1_reopen_129 rfl ?_
        refine a_getR (ci := 1) (j := 2) dX1_reopen_130 (kdB hb rfl) rfl (by decide) rfl fl_1_28 ?_
        refine a_getR (ci := 3) (j := 2) dX1_reopen_133 (kdB hb rfl) rfl (by decide) rfl fl_1_87 ?_
        refine a_iload_n dX1_reopen_136 rfl ?_
        refine a_iload_n dX1_reopen_137 rfl ?_
        refine a_iastore dX1_reopen_138 (kdB hb rfl) (hasI_in c27 hq) ?_
        refine a_aload_n dX1_reopen_139 rfl ?_
        refine a_getR (ci := 1) (j := 2) dX1_reopen_140 (kdB hb rfl) rfl (by decide) rfl fl_1_28 ?_
        refine a_getR (ci := 3) (j := 4) dX1_reopen_143 (kdB hb rfl) rfl (by decide) rfl fl_1_124 ?_
        refine a_iload_n dX1_reopen_146 rfl ?_
        refine a_dup2 dX1_reopen_147 rfl rfl ?_
        refine a_iaload dX1_reopen_148 (kdB hb rfl) (hasI_in c27 hq) ?_
        try simp (disch := first | decide | assumption | omega) only [ui_eq, ui_k, ui_j, ui_b, ui_2, ul_1, ul_eq, ul_k, ul_j, ul_b, giveF_k]
        refine a_iconst (v := 1) dX1_reopen_149 (by decide) ?_
        refine a_isub dX1_reopen_150 ?_
        refine a_iastore dX1_reopen_151 (kdB hb rfl) (hasI_in c27 hq) ?_
        exact a_vret dX1_reopen_152 rfl (by simp only [reopF, c8, c27, c69, if_true, if_false, not_true_eq_false, not_false_eq_true, Classical.not_not] at hQ ⊢; exact hQ)
    · exact a_vret dX1_reopen_30 rfl (by simp only [reopF, c8, c27, if_true, if_false, not_true_eq_false, not_false_eq_true, Classical.not_not] at hQ ⊢; exact hQ)
theorem l1_call {l : Launch} {G : GG} {h : AH} {Q : Option Value → AH → Prop} {b : Nat} (hb : isB b) {x : Int32} (hp : (h.1 b 3 11).toInt ≤ 6) (ht : (h.1 b 21 9).toInt ≤ 40) {n : Nat} (hn : h.1 b 15 5 = nI n) (h8 : n ≤ 8) (i : Nat) (hi : i ≤ n) (hQ : Q none (callF h b x n)) : AW l G 2 RX1 cX1_callBack 3 none 2 [some (.ref (G.1 b 0)), some (.int x), some (.int (nI i))] [] (callF h b x i) Q := by
  have hci : (nI i).toNatClampNeg = i := nI_clamp (by omega)
  have hq : (h.1 b 15 5).toInt ≤ 8 := by rw [hn, nI_toInt (by omega)]; omega
  refine a_iload_n dX1_callBack_2 rfl ?_
  refine a_aload_n dX1_callBack_3 rfl ?_
  refine a_getR (ci := 1) (j := 2) dX1_callBack_4 (kdB hb rfl) rfl (by decide) rfl fl_1_28 ?_
  refine a_getI (ci := 3) (j := 5) dX1_callBack_7 (kdB hb rfl) rfl (by decide) rfl fl_1_144 ?_
  try simp (disch := first | decide | assumption | omega) only [ui_eq, ui_k, ui_j, ui_b, ui_2, ul_1, ul_eq, ul_k, ul_j, ul_b, hci, hn, callF_k]
  refine a_icmp_ge dX1_callBack_10 (tgt := 48) (by decide) (fun c10 => ?_) (fun c10 => ?_)
  · have hge : n ≤ i := le_of_le c10 (by omega) (by omega)
    have hie : i = n := by omega
    subst hie
    exact a_vret dX1_callBack_48 rfl hQ
  · have hlt : i < n := lt_of_nle c10 (by omega) (by omega)
    refine a_iload_n dX1_callBack_13 rfl ?_
    refine a_iload_n dX1_callBack_14 rfl ?_
    refine a_ishr dX1_callBack_15 ?_
    refine a_iconst (v := 1) dX1_callBack_16 (by decide) ?_
    refine a_iand dX1_callBack_17 ?_
    refine a_if_eq dX1_callBack_18 (tgt := 42) (by decide) (fun c18 => ?_) (fun c18 => ?_)
    · refine a_inc (c := 1) dX1_callBack_42 rfl (by decide) (by decide) rfl ?_
      dsimp only [lset]
      refine a_goto dX1_callBack_45 (tgt := 2) (by decide) ?_
      rw [nI_1]
      have e := l1_call (l := l) (G := G) hb hp ht hn h8 (i + 1) (by omega) hQ
      simp only [callF, c10, c18, if_true, if_false] at e
      try simp (disch := decide) only [callF_k] at e
      exact e
    · refine a_aload_n dX1_callBack_21 rfl ?_
      refine a_iload_n dX1_callBack_22 rfl ?_
      refine a_cV1i dX1_callBack_23 ml_1_102 wv_1_isOut (kdB hb rfl) rfl (by decide) (Nat.le_of_ble_eq_true rfl) (c1_isOut hb (by simp (disch := first | decide | assumption) only [ui_eq, ui_k, ui_j, ui_b, giveF_k, callF_k]; exact ht) (by simp (disch := first | decide | assumption) only [ui_eq, ui_k, ui_j, ui_b, giveF_k, callF_k]; exact hq) ⟨rfl, rfl⟩) ?_
      try simp (disch := first | decide | assumption | omega) only [ui_eq, ui_k, ui_j, ui_b, ui_2, ul_1, ul_eq, ul_k, ul_j, ul_b, hci, hn, callF_k]
      refine a_if_eq dX1_callBack_26 (tgt := 42) (by decide) (fun c26 => ?_) (fun c26 => ?_)
      · refine a_inc (c := 1) dX1_callBack_42 rfl (by decide) (by decide) rfl ?_
        dsimp only [lset]
        refine a_goto dX1_callBack_45 (tgt := 2) (by decide) ?_
        rw [nI_1]
        have e := l1_call (l := l) (G := G) hb hp ht hn h8 (i + 1) (by omega) hQ
        simp only [callF, c10, c18, c26, if_true, if_false] at e
        try simp (disch := decide) only [callF_k] at e
        exact e
      · refine a_aload_n dX1_callBack_29 rfl ?_
        refine a_aload_n dX1_callBack_30 rfl ?_
        refine a_getR (ci := 1) (j := 2) dX1_callBack_31 (kdB hb rfl) rfl (by decide) rfl fl_1_28 ?_
        refine a_getR (ci := 3) (j := 2) dX1_callBack_34 (kdB hb rfl) rfl (by decide) rfl fl_1_87 ?_
        refine a_iload_n dX1_callBack_37 rfl ?_
        refine a_iaload dX1_callBack_38 (kdB hb rfl) (vp_in_nI (show i < 8 by omega) (by decide)) ?_
        try simp (disch := first | decide | assumption | omega) only [ui_eq, ui_k, ui_j, ui_b, ui_2, ul_1, ul_eq, ul_k, ul_j, ul_b, hci, hn, callF_k]
        refine a_cV1v dX1_callBack_39 ml_1_145 wv_1_waitAgain (kdB hb rfl) rfl (by decide) (Nat.le_of_ble_eq_true rfl) (c1_waitAgain hb (by simp (disch := first | decide | assumption) only [ui_eq, ui_k, ui_j, ui_b, giveF_k, callF_k]; exact hp) (by simp (disch := first | decide | assumption) only [ui_eq, ui_k, ui_j, ui_b, giveF_k, callF_k]; exact ht) ⟨rfl, rfl⟩) ?_
        try simp (disch := first | decide | assumption | omega) only [ui_eq, ui_k, ui_j, ui_b, ui_2, ul_1, ul_eq, ul_k, ul_j, ul_b, hci, hn, callF_k]
        refine a_inc (c := 1) dX1_callBack_42 rfl (by decide) (by decide) rfl ?_
        dsimp only [lset]
        refine a_goto dX1_callBack_45 (tgt := 2) (by decide) ?_
        rw [nI_1]
        have e := l1_call (l := l) (G := G) hb hp ht hn h8 (i + 1) (by omega) hQ
        simp only [callF, c10, c18, c26, if_true, if_false] at e
        try simp (disch := decide) only [callF_k] at e
        exact e
termination_by n - i
decreasing_by all_goals omega
theorem c1_callBack {l : Launch} {G : GG} {h : AH} {Q : Option Value → AH → Prop} {b : Nat} (hb : isB b) {x : Int32} (hp : (h.1 b 3 11).toInt ≤ 6) (ht : (h.1 b 21 9).toInt ≤ 40) {n : Nat} (hn : h.1 b 15 5 = nI n) (h8 : n ≤ 8) (hQ : Q none (callF h b x n)) : Ct l G 2 yX1_callBack cX1_callBack 3 none [.ref (G.1 b 0), .int x] h Q := by
  refine Ct.of (by decide) (Nat.le_of_ble_eq_true rfl) ?_
  show AW l G 2 RX1 cX1_callBack 3 none 0 [some (.ref (G.1 b 0)), some (.int x)] [] h Q
  refine a_iconst (v := 0) dX1_callBack_0 (by decide) ?_
  refine a_istore_n dX1_callBack_1 (by decide) rfl ?_
  dsimp only [lset]
  exact l1_call hb hp ht hn h8 0 (by omega) hQ
theorem c1_takeBack {l : Launch} {G : GG} {h : AH} {Q : Option Value → AH → Prop} {b : Nat} (hb : isB b) {x y z : Int32} (hp : (h.1 b 3 11).toInt ≤ 6) (ht : (h.1 b 21 9).toInt ≤ 40) (hq : (h.1 b 15 5).toInt ≤ 8) {n : Nat} (hn : h.1 b 15 5 = nI n) (h8 : n ≤ 8) (hQ : Q none (undoF h b x y z n)) : Ct l G 3 yX1_takeBack cX1_takeBack 4 none [.ref (G.1 b 0), .int x, .int y, .int z] h Q := by
  refine Ct.of (by decide) (Nat.le_of_ble_eq_true rfl) ?_
  show AW l G 3 RX1 cX1_takeBack 4 none 0 [some (.ref (G.1 b 0)), some (.int x), some (.int y), some (.int z)] [] h Q
  refine a_iload_n dX1_takeBack_0 rfl ?_
  by_cases s1_0 : x = 0
  · rw [s1_0]
    refine a_tableIn dX1_takeBack_1 (off := 35) (by decide) (by decide) (by decide) (tgt := 36) (by decide) ?_
    refine a_aload_n dX1_takeBack_36 rfl ?_
    refine a_iload_n dX1_takeBack_37 rfl ?_
    refine a_cV1v dX1_takeBack_38 ml_1_127 wv_1_takeBackTrip (kdB hb rfl) rfl (by decide) (Nat.le_of_ble_eq_true rfl) (c1_takeBackTrip hb hq ⟨rfl, rfl⟩) ?_
    try simp (disch := first | decide | assumption | omega) only [ui_eq, ui_k, ui_j, ui_b, ui_2, ul_1, ul_eq, ul_k, ul_j, ul_b]
    refine a_goto dX1_takeBack_41 (tgt := 92) (by decide) ?_
    exact a_vret dX1_takeBack_92 rfl (by simpa [undoF, s1_0] using hQ)
  by_cases s1_1 : x = 1
  · rw [s1_1]
    refine a_tableIn dX1_takeBack_1 (off := 43) (by decide) (by decide) (by decide) (tgt := 44) (by decide) ?_
    refine a_aload_n dX1_takeBack_44 rfl ?_
    refine a_iload_n dX1_takeBack_45 rfl ?_
    refine a_cV1v dX1_takeBack_46 ml_1_131 wv_1_callBack (kdB hb rfl) rfl (by decide) (Nat.le_of_ble_eq_true rfl) (c1_callBack hb hp ht hn h8 ⟨rfl, rfl⟩) ?_
    try simp (disch := first | decide | assumption | omega) only [ui_eq, ui_k, ui_j, ui_b, ui_2, ul_1, ul_eq, ul_k, ul_j, ul_b]
    refine a_goto dX1_takeBack_49 (tgt := 92) (by decide) ?_
    exact a_vret dX1_takeBack_92 rfl (by simpa [undoF, s1_1] using hQ)
  by_cases s1_2 : x = 2
  · rw [s1_2]
    refine a_tableIn dX1_takeBack_1 (off := 51) (by decide) (by decide) (by decide) (tgt := 52) (by decide) ?_
    refine a_aload_n dX1_takeBack_52 rfl ?_
    refine a_iload_n dX1_takeBack_53 rfl ?_
    refine a_cV1v dX1_takeBack_54 ml_1_134 wv_1_reopen (kdB hb rfl) rfl (by decide) (Nat.le_of_ble_eq_true rfl) (c1_reopen hb hp ht hq ⟨rfl, rfl⟩) ?_
    try simp (disch := first | decide | assumption | omega) only [ui_eq, ui_k, ui_j, ui_b, ui_2, ul_1, ul_eq, ul_k, ul_j, ul_b]
    refine a_goto dX1_takeBack_57 (tgt := 92) (by decide) ?_
    exact a_vret dX1_takeBack_92 rfl (by simpa [undoF, s1_2] using hQ)
  by_cases s1_3 : x = 3
  · rw [s1_3]
    refine a_tableIn dX1_takeBack_1 (off := 59) (by decide) (by decide) (by decide) (tgt := 60) (by decide) ?_
    refine a_aload_n dX1_takeBack_60 rfl ?_
    refine a_iload_n dX1_takeBack_61 rfl ?_
    refine a_iload_n dX1_takeBack_62 rfl ?_
    refine a_cV2v dX1_takeBack_63 ml_1_137 wv_1_takeBackMisuse (kdB hb rfl) rfl (by decide) (Nat.le_of_ble_eq_true rfl) (c1_takeBackMisuse hb hq ⟨rfl, rfl⟩) ?_
    try simp (disch := first | decide | assumption | omega) only [ui_eq, ui_k, ui_j, ui_b, ui_2, ul_1, ul_eq, ul_k, ul_j, ul_b]
    refine a_goto dX1_takeBack_66 (tgt := 92) (by decide) ?_
    exact a_vret dX1_takeBack_92 rfl (by simpa [undoF, s1_3] using hQ)
  by_cases s1_4 : x = 4
  · rw [s1_4]
    refine a_tableIn dX1_takeBack_1 (off := 68) (by decide) (by decide) (by decide) (tgt := 69) (by decide) ?_
    refine a_aload_n dX1_takeBack_69 rfl ?_
    refine a_getR (ci := 1) (j := 1) dX1_takeBack_70 (kdB hb rfl) rfl (by decide) rfl fl_1_21 ?_
    refine a_iload_n dX1_takeBack_73 rfl ?_
    refine a_iload_n dX1_takeBack_74 rfl ?_
    refine a_ineg dX1_takeBack_75 ?_
    refine a_cV2v dX1_takeBack_76 ml_1_141 wv_4_moveBack (kdB hb rfl) rfl (by decide) (Nat.le_of_ble_eq_true rfl) (c4_moveBack hb hp ⟨rfl, rfl⟩) ?_
    try simp (disch := first | decide | assumption | omega) only [ui_eq, ui_k, ui_j, ui_b, ui_2, ul_1, ul_eq, ul_k, ul_j, ul_b]
    refine a_goto dX1_takeBack_79 (tgt := 92) (by decide) ?_
    exact a_vret dX1_takeBack_92 rfl (by simpa [undoF, s1_4] using hQ)
  refine a_tableOut dX1_takeBack_1 (by have q0 := lv_neT (a := 0) s1_0 (by decide); have q1 := lv_neT (a := 1) s1_1 (by decide); have q2 := lv_neT (a := 2) s1_2 (by decide); have q3 := lv_neT (a := 3) s1_3 (by decide); have q4 := lv_neT (a := 4) s1_4 (by decide); omega) (tgt := 82) (by decide) ?_
  refine a_aload_n dX1_takeBack_82 rfl ?_
  refine a_dup dX1_takeBack_83 rfl ?_
  refine a_getI (ci := 1) (j := 5) dX1_takeBack_84 (kdB hb rfl) rfl (by decide) rfl fl_1_58 ?_
  try simp (disch := first | decide | assumption | omega) only [ui_eq, ui_k, ui_j, ui_b, ui_2, ul_1, ul_eq, ul_k, ul_j, ul_b]
  refine a_iload_n dX1_takeBack_87 rfl ?_
  refine a_isub dX1_takeBack_88 ?_
  refine a_putI (ci := 1) (j := 5) dX1_takeBack_89 (kdB hb rfl) rfl (by decide) (by decide) rfl fl_1_58 ?_
  exact a_vret dX1_takeBack_92 rfl (by simpa [undoF, s1_0, s1_1, s1_2, s1_3, s1_4] using hQ)
theorem c1_clear {l : Launch} {G : GG} {h : AH} {Q : Option Value → AH → Prop} {b : Nat} (hb : isB b) (hQ : Q none (clearB h b)) : Ct l G 1 yX1_clear cX1_clear 1 none [.ref (G.1 b 0)] h Q := by
  refine Ct.of (by decide) (Nat.le_of_ble_eq_true rfl) ?_
  show AW l G 1 RX1 cX1_clear 1 none 0 [some (.ref (G.1 b 0))] [] h Q
  refine a_aload_n dX1_clear_0 rfl ?_
  refine a_getR (ci := 1) (j := 0) dX1_clear_1 (kdB hb rfl) rfl (by decide) rfl fl_1_12 ?_
  refine a_cV0v dX1_clear_4 ml_1_46 wv_2_clear (kdB hb rfl) rfl (by decide) (Nat.le_of_ble_eq_true rfl) (c2_clear hb ⟨rfl, rfl⟩) ?_
  try simp (disch := first | decide | assumption | omega) only [ui_eq, ui_k, ui_j, ui_b, ui_2, ul_1, ul_eq, ul_k, ul_j, ul_b]
  refine a_aload_n dX1_clear_7 rfl ?_
  refine a_getR (ci := 1) (j := 1) dX1_clear_8 (kdB hb rfl) rfl (by decide) rfl fl_1_21 ?_
  refine a_cV0v dX1_clear_11 ml_1_49 wv_4_clear (kdB hb rfl) rfl (by decide) (Nat.le_of_ble_eq_true rfl) (c4_clear hb ⟨rfl, rfl⟩) ?_
  try simp (disch := first | decide | assumption | omega) only [ui_eq, ui_k, ui_j, ui_b, ui_2, ul_1, ul_eq, ul_k, ul_j, ul_b]
  refine a_aload_n dX1_clear_14 rfl ?_
  refine a_getR (ci := 1) (j := 2) dX1_clear_15 (kdB hb rfl) rfl (by decide) rfl fl_1_28 ?_
  refine a_cV0v dX1_clear_18 ml_1_50 wv_3_clear (kdB hb rfl) rfl (by decide) (Nat.le_of_ble_eq_true rfl) (c3_clear hb ⟨rfl, rfl⟩) ?_
  try simp (disch := first | decide | assumption | omega) only [ui_eq, ui_k, ui_j, ui_b, ui_2, ul_1, ul_eq, ul_k, ul_j, ul_b]
  refine a_aload_n dX1_clear_21 rfl ?_
  refine a_getR (ci := 1) (j := 3) dX1_clear_22 (kdB hb rfl) rfl (by decide) rfl fl_1_35 ?_
  refine a_iconst (v := 0) dX1_clear_25 (by decide) ?_
  refine a_putI (ci := 9) (j := 9) dX1_clear_26 (kdB hb rfl) rfl (by decide) (by decide) rfl fl_1_51 ?_
  refine a_aload_n dX1_clear_29 rfl ?_
  refine a_getR (ci := 1) (j := 4) dX1_clear_30 (kdB hb rfl) rfl (by decide) rfl fl_1_42 ?_
  refine a_iconst (v := 0) dX1_clear_33 (by decide) ?_
  refine a_putI (ci := 0) (j := 4) dX1_clear_34 (kdB hb rfl) rfl (by decide) (by decide) rfl fl_1_55 ?_
  refine a_aload_n dX1_clear_37 rfl ?_
  refine a_iconst (v := 0) dX1_clear_38 (by decide) ?_
  refine a_putI (ci := 1) (j := 5) dX1_clear_39 (kdB hb rfl) rfl (by decide) (by decide) rfl fl_1_58 ?_
  exact a_vret dX1_clear_42 rfl hQ
