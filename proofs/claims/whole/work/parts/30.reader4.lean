def rdG (b L : Nat) : Nat → Int32 × AH → Int32 × AH
  | 0, s => s
  | n + 1, s => if s.1 = 0 then s else if s.2.1 0 3 1 = 0 then s else
      rdG b L n ((tokF s.2 b).1, if (tokF s.2 b).1 = 0 then (tokF s.2 b).2 else advF (tokF s.2 b).2 L ((tokF s.2 b).2.1 0 3 3).toNatClampNeg)
def rd0 (h : AH) (L : Nat) : AH := advF (ui (ui (ui (ui (ui h 0 4 2 0) 0 4 6 0) 0 4 7 0) 0 4 8 0) 0 3 3 0) L 0
def readF (h : AH) (b L : Nat) : Int32 × AH :=
  if (rdG b L 700 (1, rd0 h L)).1 = 0 then (0, (rdG b L 700 (1, rd0 h L)).2) else
  if (rdG b L 700 (1, rd0 h L)).2.1 0 4 2 = 0 ∧ L ≤ 700 then (1, (rdG b L 700 (1, rd0 h L)).2) else (0, refF (rdG b L 700 (1, rd0 h L)).2 1)
theorem readF_01 (h : AH) (b L : Nat) : (readF h b L).1 = 0 ∨ (readF h b L).1 = 1 := by
  unfold readF
  repeat' split
  all_goals first | exact Or.inl rfl | exact Or.inr rfl
theorem rdG_L {b L : Nat} (hb : isB b) (n : Nat) : ∀ s : Int32 × AH, s.2.1 0 1 1 = nI L → (rdG b L n s).2.1 0 1 1 = nI L := by
  induction n with
  | zero => intro s hs; exact hs
  | succ n ih =>
    intro s hs
    unfold rdG
    split
    · exact hs
    · split
      · exact hs
      · refine ih _ ?_
        show (if _ then _ else _ : AH).1 0 1 1 = nI L
        split
        · rw [tokF_0 hb (by decide) (by decide)]; exact hs
        · rw [advF_k (by decide), tokF_0 hb (by decide) (by decide)]; exact hs
theorem l6_rd {l : Launch} {G : GG} {h : AH} {Q : Option Value → AH → Prop} {b : Nat} (hb : isB b) {L : Nat} (s : Int32 × AH) (h01 : s.1 = 0 ∨ s.1 = 1) (hI : ¬ s.1 = 0 → RI s.2 b L) (k : Nat) (hk : k ≤ 700) (hE : ∀ v, AW l G 8 RX6 cX6_readInto 4 (some .boolean) 75 [some (.ref (G.1 0 4)), some (.ref (G.1 b 0)), some (.int (rdG b L (700 - k) s).1), some (.int v)] [] (rdG b L (700 - k) s).2 Q) : AW l G 8 RX6 cX6_readInto 4 (some .boolean) 31 [some (.ref (G.1 0 4)), some (.ref (G.1 b 0)), some (.int s.1), some (.int (nI k))] [] s.2 Q := by
  refine a_iload_n dX6_readInto_31 rfl ?_
  refine a_sipush (v := 700) dX6_readInto_32 (by decide) ?_
  refine a_icmp_ge dX6_readInto_35 (tgt := 75) (by decide) (fun c35 => ?_) (fun c35 => ?_)
  · have hge : 700 ≤ k := le_of_le (b := 700) c35 (by omega) (by decide)
    rw [show 700 - k = 0 by omega, rdG] at hE
    exact hE _
  · have hlt : k < 700 := lt_of_nle (b := 700) c35 (by omega) (by decide)
    refine a_iload_n dX6_readInto_38 rfl ?_
    refine a_if_eq dX6_readInto_39 (tgt := 75) (by decide) (fun c39 => ?_) (fun c39 => ?_)
    · rw [show 700 - k = (700 - (k + 1)) + 1 by omega, rdG, if_pos c39] at hE
      exact hE _
    · obtain ⟨hL, h740, ⟨hs, hp⟩, ⟨q, hq, hq2⟩, hj⟩ := hI c39
      refine a_aload_n dX6_readInto_42 rfl ?_
      refine a_getR (ci := 6) (j := 0) dX6_readInto_43 rfl rfl (by decide) rfl fl_6_15 ?_
      refine a_getI (ci := 8) (j := 1) dX6_readInto_46 rfl rfl (by decide) rfl fl_6_37 ?_
      refine a_if_eq dX6_readInto_49 (tgt := 75) (by decide) (fun c49 => ?_) (fun c49 => ?_)
      · rw [show 700 - k = (700 - (k + 1)) + 1 by omega, rdG, if_neg c39, if_pos c49] at hE
        exact hE _
      · rw [show 700 - k = (700 - (k + 1)) + 1 by omega, rdG, if_neg c39, if_neg c49] at hE
        refine a_aload_n dX6_readInto_52 rfl ?_
        refine a_aload_n dX6_readInto_53 rfl ?_
        refine a_cV1i dX6_readInto_54 ml_6_40 wv_6_takeToken rfl rfl (by decide) (Nat.le_of_ble_eq_true rfl) (c6_takeToken hb hj (by omega) hs ⟨rfl, rfl⟩) ?_
        refine a_istore_n dX6_readInto_57 (by decide) rfl ?_
        dsimp only [lset]
        refine a_iload_n dX6_readInto_58 rfl ?_
        refine a_if_eq dX6_readInto_59 (tgt := 69) (by decide) (fun c59 => ?_) (fun c59 => ?_)
        · refine a_inc (c := 1) dX6_readInto_69 rfl (by decide) (by decide) rfl ?_
          dsimp only [lset]
          refine a_goto dX6_readInto_72 (tgt := 31) (by decide) ?_
          rw [nI_1]
          first
            | (have e := l6_rd (l := l) (G := G) (h := h) (Q := Q) hb ((tokF s.2 b).1, (tokF s.2 b).2) (tokF_01 s.2 b) (fun z => absurd c59 z) (k + 1) (by omega) (by rw [if_pos c59] at hE; exact hE); exact e)
            | (have eq : ((tokF s.2 b).2.1 0 3 3).toNatClampNeg = q := by rw [tokF_0 hb (by decide) (by decide), hq2]; exact nI_clamp (by omega)
               have e := l6_rd (l := l) (G := G) (h := h) (Q := Q) hb ((tokF s.2 b).1, advF (tokF s.2 b).2 L q) (tokF_01 s.2 b) (fun z => adv_RI (by rw [tokF_0 hb (by decide) (by decide)]; exact hL) h740 hq hb (tok_RJ hb hj z)) (k + 1) (by omega) (by rw [if_neg c59, eq] at hE; exact hE)
               exact e)
        · refine a_aload_n dX6_readInto_62 rfl ?_
          refine a_getR (ci := 6) (j := 0) dX6_readInto_63 rfl rfl (by decide) rfl fl_6_15 ?_
          refine a_cV0v dX6_readInto_66 ml_6_44 wv_8_advance rfl rfl (by decide) (Nat.le_of_ble_eq_true rfl) (c8_advance (L := L) (p := q) (by rw [tokF_0 hb (by decide) (by decide)]; exact hL) h740 hq (by rw [tokF_0 hb (by decide) (by decide)]; exact hq2) ⟨rfl, rfl⟩) ?_
          try simp (disch := first | decide | assumption | omega) only [ui_eq, ui_k, ui_j, ui_b, ui_2, ul_1, ul_eq, ul_k, ul_j, ul_b]
          refine a_inc (c := 1) dX6_readInto_69 rfl (by decide) (by decide) rfl ?_
          dsimp only [lset]
          refine a_goto dX6_readInto_72 (tgt := 31) (by decide) ?_
          rw [nI_1]
          first
            | (have e := l6_rd (l := l) (G := G) (h := h) (Q := Q) hb ((tokF s.2 b).1, (tokF s.2 b).2) (tokF_01 s.2 b) (fun z => absurd c59 z) (k + 1) (by omega) (by rw [if_pos c59] at hE; exact hE); exact e)
            | (have eq : ((tokF s.2 b).2.1 0 3 3).toNatClampNeg = q := by rw [tokF_0 hb (by decide) (by decide), hq2]; exact nI_clamp (by omega)
               have e := l6_rd (l := l) (G := G) (h := h) (Q := Q) hb ((tokF s.2 b).1, advF (tokF s.2 b).2 L q) (tokF_01 s.2 b) (fun z => adv_RI (by rw [tokF_0 hb (by decide) (by decide)]; exact hL) h740 hq hb (tok_RJ hb hj z)) (k + 1) (by omega) (by rw [if_neg c59, eq] at hE; exact hE)
               exact e)
termination_by 700 - k
decreasing_by all_goals omega
theorem c6_readInto {l : Launch} {G : GG} {h : AH} {Q : Option Value → AH → Prop} {b : Nat} (hb : isB b) {L : Nat} (hL : h.1 0 1 1 = nI L) (h740 : L ≤ 740) (hl0 : (h.1 b 1 1).toInt ≤ 8) (hp0 : h.1 b 3 11 = 0) (hq0 : h.1 b 15 5 = 0) (hQ : Q (some (.int (readF h b L).1)) (readF h b L).2) : Ct l G 8 yX6_readInto cX6_readInto 4 (some .boolean) [.ref (G.1 0 4), .ref (G.1 b 0)] h Q := by
  refine Ct.of (by decide) (Nat.le_of_ble_eq_true rfl) ?_
  show AW l G 8 RX6 cX6_readInto 4 (some .boolean) 0 [some (.ref (G.1 0 4)), some (.ref (G.1 b 0))] [] h Q
  have hb1 := isB0 hb
  have hb0 := isB0' hb
  refine a_aload_n dX6_readInto_0 rfl ?_
  refine a_iconst (v := 0) dX6_readInto_1 (by decide) ?_
  refine a_putI (ci := 6) (j := 2) dX6_readInto_2 rfl rfl (by decide) (by decide) rfl fl_6_19 ?_
  refine a_aload_n dX6_readInto_5 rfl ?_
  refine a_iconst (v := 0) dX6_readInto_6 (by decide) ?_
  refine a_putI (ci := 6) (j := 6) dX6_readInto_7 rfl rfl (by decide) (by decide) rfl fl_6_23 ?_
  refine a_aload_n dX6_readInto_10 rfl ?_
  refine a_iconst (v := 0) dX6_readInto_11 (by decide) ?_
  refine a_putI (ci := 6) (j := 7) dX6_readInto_12 rfl rfl (by decide) (by decide) rfl fl_6_26 ?_
  refine a_aload_n dX6_readInto_15 rfl ?_
  refine a_iconst (v := 0) dX6_readInto_16 (by decide) ?_
  refine a_putI (ci := 6) (j := 8) dX6_readInto_17 rfl rfl (by decide) (by decide) rfl fl_6_29 ?_
  refine a_aload_n dX6_readInto_20 rfl ?_
  refine a_getR (ci := 6) (j := 0) dX6_readInto_21 rfl rfl (by decide) rfl fl_6_15 ?_
  refine a_cV0v dX6_readInto_24 ml_6_32 wv_8_restart rfl rfl (by decide) (Nat.le_of_ble_eq_true rfl) (c8_restart (L := L) (by simp (disch := decide) only [ui_k]; exact hL) h740 ⟨rfl, rfl⟩) ?_
  try simp (disch := first | decide | assumption | omega) only [ui_eq, ui_k, ui_j, ui_b, ui_2, ul_1, ul_eq, ul_k, ul_j, ul_b]
  refine a_iconst (v := 1) dX6_readInto_27 (by decide) ?_
  refine a_istore_n dX6_readInto_28 (by decide) rfl ?_
  dsimp only [lset]
  refine a_iconst (v := 0) dX6_readInto_29 (by decide) ?_
  refine a_istore_n dX6_readInto_30 (by decide) rfl ?_
  dsimp only [lset]
  refine l6_rd (h := h) (L := L) hb (1, rd0 h L) (Or.inr rfl) (fun _ => ?_) 0 (by omega) (fun v31 => ?_)
  · refine adv_RI (by simp (disch := decide) only [ui_k]; exact hL) h740 (by omega) hb ?_
    unfold RJ
    simp (disch := first | decide | assumption) only [ui_eq, ui_k, ui_j, ui_b, hp0, hq0]
    refine ⟨hl0, ⟨by decide, by decide, fun z => absurd z (by decide)⟩, ⟨by decide, by decide, fun z => absurd z (by decide)⟩, by simp, fun z => absurd z (by decide)⟩
  have hL2 := rdG_L (L := L) hb 700 (1, rd0 h L) (by show (advF _ L 0).1 0 1 1 = nI L; rw [advF_k (by decide)]; simp (disch := decide) only [ui_k]; exact hL)
  have hLc : (rdG b L (700 - 0) (1, rd0 h L)).2.1 0 1 1 ≤ 700 ↔ L ≤ 700 := by
    rw [Nat.sub_zero, hL2]
    exact nI_leI (b := 700) (by omega) (by decide)
  refine a_iload_n dX6_readInto_75 rfl ?_
  refine a_if_eq dX6_readInto_76 (tgt := 108) (by decide) (fun c76 => ?_) (fun c76 => ?_)
  · refine a_iconst (v := 0) dX6_readInto_108 (by decide) ?_
    exact a_zret dX6_readInto_109 rfl rfl (by
  rw [Nat.sub_zero] at *
  first
    | (simp only [readF, c76, if_true, if_false, true_and, false_and] at hQ ⊢; exact hQ)
    | (simp only [readF, c76, c83, h7, if_true, if_false, and_self, and_false] at hQ ⊢; exact hQ))
  · refine a_aload_n dX6_readInto_79 rfl ?_
    refine a_getI (ci := 6) (j := 2) dX6_readInto_80 rfl rfl (by decide) rfl fl_6_19 ?_
    try simp (disch := first | decide | assumption | omega) only [ui_eq, ui_k, ui_j, ui_b, ui_2, ul_1, ul_eq, ul_k, ul_j, ul_b]
    refine a_if_ne dX6_readInto_83 (tgt := 96) (by decide) (fun c83 => ?_) (fun c83 => ?_)
    · refine a_aload_n dX6_readInto_96 rfl ?_
      refine a_iconst (v := 1) dX6_readInto_97 (by decide) ?_
      refine a_cV1i dX6_readInto_98 ml_6_51 wv_6_refuse rfl rfl (by decide) (Nat.le_of_ble_eq_true rfl) (c6_refuse ⟨rfl, rfl⟩) ?_
      try simp (disch := first | decide | assumption | omega) only [ui_eq, ui_k, ui_j, ui_b, ui_2, ul_1, ul_eq, ul_k, ul_j, ul_b]
      refine a_if_eq dX6_readInto_101 (tgt := 108) (by decide) (fun c101 => ?_) (fun c101 => ?_)
      · refine a_iconst (v := 0) dX6_readInto_108 (by decide) ?_
        exact a_zret dX6_readInto_109 rfl rfl (by
  rw [Nat.sub_zero] at *
  first
    | (simp only [readF, c76, c83, c101, if_true, if_false, true_and, false_and] at hQ ⊢; exact hQ)
    | (simp only [readF, c76, c83, h7, if_true, if_false, and_self, and_false] at hQ ⊢; exact hQ))
      · exact absurd rfl c101
    · refine a_aload_n dX6_readInto_86 rfl ?_
      refine a_getR (ci := 6) (j := 0) dX6_readInto_87 rfl rfl (by decide) rfl fl_6_15 ?_
      refine a_cV0i dX6_readInto_90 ml_6_47 wv_8_isTooLong rfl rfl (by decide) (Nat.le_of_ble_eq_true rfl) (c8_isTooLong ⟨rfl, rfl⟩) ?_
      try simp (disch := first | decide | assumption | omega) only [ui_eq, ui_k, ui_j, ui_b, ui_2, ul_1, ul_eq, ul_k, ul_j, ul_b]
      refine a_if_eq dX6_readInto_93 (tgt := 104) (by decide) (fun c93 => ?_) (fun c93 => ?_)
      · have h7 : L ≤ 700 := by
          rw [← hLc]
          exact Decidable.byContradiction fun z => absurd c93 (by rw [if_neg z]; decide)
        refine a_iconst (v := 1) dX6_readInto_104 (by decide) ?_
        refine a_goto dX6_readInto_105 (tgt := 109) (by decide) ?_
        exact a_zret dX6_readInto_109 rfl rfl (by
  rw [Nat.sub_zero] at *
  first
    | (simp only [readF, c76, c83, c93, if_true, if_false, true_and, false_and] at hQ ⊢; exact hQ)
    | (simp only [readF, c76, c83, h7, if_true, if_false, and_self, and_false] at hQ ⊢; exact hQ))
      · have h7 : ¬ L ≤ 700 := fun z => c93 (by rw [if_pos (hLc.mpr z)])
        refine a_aload_n dX6_readInto_96 rfl ?_
        refine a_iconst (v := 1) dX6_readInto_97 (by decide) ?_
        refine a_cV1i dX6_readInto_98 ml_6_51 wv_6_refuse rfl rfl (by decide) (Nat.le_of_ble_eq_true rfl) (c6_refuse ⟨rfl, rfl⟩) ?_
        try simp (disch := first | decide | assumption | omega) only [ui_eq, ui_k, ui_j, ui_b, ui_2, ul_1, ul_eq, ul_k, ul_j, ul_b]
        refine a_if_eq dX6_readInto_101 (tgt := 108) (by decide) (fun c101v2 => ?_) (fun c101v2 => ?_)
        · refine a_iconst (v := 0) dX6_readInto_108 (by decide) ?_
          exact a_zret dX6_readInto_109 rfl rfl (by
  rw [Nat.sub_zero] at *
  first
    | (simp only [readF, c76, c83, c93, c101v2, if_true, if_false, true_and, false_and] at hQ ⊢; exact hQ)
    | (simp only [readF, c76, c83, h7, if_true, if_false, and_self, and_false] at hQ ⊢; exact hQ))
        · exact absurd rfl c101v2
