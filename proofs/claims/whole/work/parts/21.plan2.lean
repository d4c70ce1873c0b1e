def initG (P : Nat → Int64) (nc : Nat) (d : Nat → Int64) (m : Nat → Int32) : Nat → (Nat → Int64) × (Nat → Int32)
  | 0 => (d, m)
  | c + 1 => (vp_updL (initG P nc d m c).1 c (P (nc * 7 + c)), upd (initG P nc d m c).2 c (nI nc))
def innG (P : Nat → Int64) (g : Nat → Int32) (s : T3) : Nat → T3
  | 0 => s
  | k + 1 => ((pushF P k (g k) (innG P g s k).1 (innG P g s k).2.1).1, (pushF P k (g k) (innG P g s k).1 (innG P g s k).2.1).2.1, if (pushF P k (g k) (innG P g s k).1 (innG P g s k).2.1).2.2 = 0 then (innG P g s k).2.2 else 1)
def rndG (P : Nat → Int64) (g : Nat → Int32) (nc : Nat) : Nat → T3 → T3
  | 0, s => s
  | f + 1, s => if s.2.2 = 0 then s else rndG P g nc f (innG P g (s.1, s.2.1, 0) nc)
def chainF (P : Nat → Int64) (g : Nat → Int32) (nc : Nat) (d : Nat → Int64) (m : Nat → Int32) : T3 := rndG P g nc 7 ((initG P nc d m 7).1, (initG P nc d m 7).2, 1)
def chG (L : Nat → Int32) (d : Nat → Int64) : Nat → Nat
  | 0 => 6
  | c + 1 => if L c ≤ 0 then chG L d c else if ¬ d c < d (chG L d c) then chG L d c else c
theorem chG_le (L : Nat → Int32) (d : Nat → Int64) (c : Nat) (hc : c ≤ 6) : chG L d c ≤ 6 := by
  induction c with
  | zero => exact Nat.le_refl 6
  | succ c ih =>
    unfold chG
    split
    · exact ih (by omega)
    · split
      · exact ih (by omega)
      · omega
def moveG (mv : Nat → Int32) (nc : Nat) : Nat → (Nat → Int32) → Int32 → (Nat → Int32)
  | 0, g, _ => g
  | f + 1, g, t => if t < 0 then g else moveG mv nc f (upd g (mv t.toNatClampNeg).toNatClampNeg t) (if mv t.toNatClampNeg = nI nc then -1 else g (mv t.toNatClampNeg).toNatClampNeg)
theorem l5_init {l : Launch} {G : GG} {h : AH} {Q : Option Value → AH → Prop} {d : Nat → Int64} {m : Nat → Int32} {nc : Nat} (hk : nc < 8) (c : Nat) (hc : c ≤ 7) (hE : AW l G 1 RX5 cX5_findChains 5 none 38 [some (.ref (G.1 0 6)), some (.int (nI nc)), some (.int (nI 7))] [] (DM h (initG (h.2 0 8) nc d m 7).1 (initG (h.2 0 8) nc d m 7).2) Q) : AW l G 1 RX5 cX5_findChains 5 none 2 [some (.ref (G.1 0 6)), some (.int (nI nc)), some (.int (nI c))] [] (DM h (initG (h.2 0 8) nc d m c).1 (initG (h.2 0 8) nc d m c).2) Q := by
  have hci : (nI c).toNatClampNeg = c := nI_clamp (by omega)
  have hx1 := ix7 nc c
  have hy1 : (nI (nc * 7 + c)).toNatClampNeg = nc * 7 + c := nI_clamp (by omega)
  refine a_iload_n dX5_findChains_2 rfl ?_
  refine a_bipush (v := 7) dX5_findChains_3 (by decide) ?_
  refine a_icmp_ge dX5_findChains_5 (tgt := 38) (by decide) (fun c5 => ?_) (fun c5 => ?_)
  · have hge : 7 ≤ c := le_of_le (b := 7) c5 (by omega) (by decide)
    have hie : c = 7 := by omega
    subst hie
    exact hE
  · have hlt : c < 7 := lt_of_nle (b := 7) c5 (by omega) (by decide)
    refine a_aload_n dX5_findChains_8 rfl ?_
    refine a_getR (ci := 5) (j := 5) dX5_findChains_9 rfl rfl (by decide) rfl fl_5_28 ?_
    refine a_iload_n dX5_findChains_12 rfl ?_
    refine a_aload_n dX5_findChains_13 rfl ?_
    refine a_getR (ci := 5) (j := 1) dX5_findChains_14 rfl rfl (by decide) rfl fl_5_15 ?_
    refine a_iload_n dX5_findChains_17 rfl ?_
    refine a_bipush (v := 7) dX5_findChains_18 (by decide) ?_
    refine a_imul dX5_findChains_20 ?_
    refine a_iload_n dX5_findChains_21 rfl ?_
    refine a_iadd dX5_findChains_22 ?_
    refine a_laload dX5_findChains_23 rfl (by rw [hx1]; exact vp_in_nI (by omega) (by decide)) ?_
    try simp (disch := first | decide | assumption | omega) only [ui_eq, ui_k, ui_j, ui_b, ui_2, ul_1, ul_eq, ul_k, ul_j, ul_b, hci, hx1, hy1, DM_d, DM_m, DM_1, DM_2]
    refine a_lastore dX5_findChains_24 rfl (vp_in_nI hlt (by decide)) ?_
    refine a_aload_n dX5_findChains_25 rfl ?_
    refine a_getR (ci := 5) (j := 6) dX5_findChains_26 rfl rfl (by decide) rfl fl_5_31 ?_
    refine a_iload_n dX5_findChains_29 rfl ?_
    refine a_iload_n dX5_findChains_30 rfl ?_
    refine a_iastore dX5_findChains_31 rfl (vp_in_nI hlt (by decide)) ?_
    refine a_inc (c := 1) dX5_findChains_32 rfl (by decide) (by decide) rfl ?_
    dsimp only [lset]
    refine a_goto dX5_findChains_35 (tgt := 2) (by decide) ?_
    rw [hci, DM_upd, nI_1]
    exact l5_init hk (c + 1) (by omega) hE
termination_by 7 - c
decreasing_by all_goals omega
theorem l5_inn {l : Launch} {G : GG} {h : AH} {Q : Option Value → AH → Prop} {s : T3} {nc r : Nat} (hk : nc < 8) (hg : ∀ k, k < 8 → (h.1 0 11 k).toInt < 7) (k : Nat) (hkk : k ≤ nc) (hE : AW l G 1 RX5 cX5_findChains 5 none 80 [some (.ref (G.1 0 6)), some (.int (nI nc)), some (.int (innG (h.2 0 8) (h.1 0 11) (s.1, s.2.1, 0) nc).2.2), some (.int (nI r)), some (.int (nI nc))] [] (DM h (innG (h.2 0 8) (h.1 0 11) (s.1, s.2.1, 0) nc).1 (innG (h.2 0 8) (h.1 0 11) (s.1, s.2.1, 0) nc).2.1) Q) : AW l G 1 RX5 cX5_findChains 5 none 57 [some (.ref (G.1 0 6)), some (.int (nI nc)), some (.int (innG (h.2 0 8) (h.1 0 11) (s.1, s.2.1, 0) k).2.2), some (.int (nI r)), some (.int (nI k))] [] (DM h (innG (h.2 0 8) (h.1 0 11) (s.1, s.2.1, 0) k).1 (innG (h.2 0 8) (h.1 0 11) (s.1, s.2.1, 0) k).2.1) Q := by
  refine a_iload dX5_findChains_57 rfl ?_
  refine a_iload_n dX5_findChains_59 rfl ?_
  refine a_icmp_ge dX5_findChains_60 (tgt := 80) (by decide) (fun c60 => ?_) (fun c60 => ?_)
  · have hge : nc ≤ k := le_of_le c60 (by omega) (by omega)
    have hie : k = nc := by omega
    subst hie
    exact hE
  · have hlt : k < nc := lt_of_nle c60 (by omega) (by omega)
    refine a_aload_n dX5_findChains_63 rfl ?_
    refine a_iload dX5_findChains_64 rfl ?_
    refine a_cV1i dX5_findChains_66 ml_5_107 wv_5_pushOn rfl rfl (by decide) (Nat.le_of_ble_eq_true rfl) (c5_pushOn (by omega) (hg k (by omega)) ⟨rfl, rfl⟩) ?_
    refine a_if_eq dX5_findChains_69 (tgt := 74) (by decide) (fun c69 => ?_) (fun c69 => ?_)
    · refine a_inc (c := 1) dX5_findChains_74 rfl (by decide) (by decide) rfl ?_
      dsimp only [lset]
      refine a_goto dX5_findChains_77 (tgt := 57) (by decide) ?_
      rw [nI_1]
      have e := l5_inn (l := l) (G := G) hk hg (k + 1) (by omega) hE
      simp only [innG, c69, if_true, if_false] at e
      exact e
    · refine a_iconst (v := 1) dX5_findChains_72 (by decide) ?_
      refine a_istore_n dX5_findChains_73 (by decide) rfl ?_
      dsimp only [lset]
      refine a_inc (c := 1) dX5_findChains_74 rfl (by decide) (by decide) rfl ?_
      dsimp only [lset]
      refine a_goto dX5_findChains_77 (tgt := 57) (by decide) ?_
      rw [nI_1]
      have e := l5_inn (l := l) (G := G) hk hg (k + 1) (by omega) hE
      simp only [innG, c69, if_true, if_false] at e
      exact e
termination_by nc - k
decreasing_by all_goals omega
theorem l5_rnd {l : Launch} {G : GG} {h : AH} {Q : Option Value → AH → Prop} {nc : Nat} (hk : nc < 8) (hg : ∀ k, k < 8 → (h.1 0 11 k).toInt < 7) (s : T3) (r : Nat) (hr : r ≤ 7) (hQ : Q none (DM h (rndG (h.2 0 8) (h.1 0 11) nc (7 - r) s).1 (rndG (h.2 0 8) (h.1 0 11) nc (7 - r) s).2.1)) : AW l G 1 RX5 cX5_findChains 5 none 42 [some (.ref (G.1 0 6)), some (.int (nI nc)), some (.int s.2.2), some (.int (nI r))] [] (DM h s.1 s.2.1) Q := by
  refine a_iload_n dX5_findChains_42 rfl ?_
  refine a_bipush (v := 7) dX5_findChains_43 (by decide) ?_
  refine a_icmp_ge dX5_findChains_45 (tgt := 86) (by decide) (fun c45 => ?_) (fun c45 => ?_)
  · have hge : r = 7 := by have := le_of_le (b := 7) c45 (by omega) (by decide); omega
    subst hge
    rw [Nat.sub_self, rndG] at hQ
    exact a_vret dX5_findChains_86 rfl hQ
  · have hlt : r < 7 := lt_of_nle (b := 7) c45 (by omega) (by decide)
    refine a_iload_n dX5_findChains_48 rfl ?_
    refine a_if_eq dX5_findChains_49 (tgt := 86) (by decide) (fun c49 => ?_) (fun c49 => ?_)
    · rw [show 7 - r = (7 - (r + 1)) + 1 by omega, rndG, if_pos c49] at hQ
      exact a_vret dX5_findChains_86 rfl hQ
    · rw [show 7 - r = (7 - (r + 1)) + 1 by omega, rndG, if_neg c49] at hQ
      refine a_iconst (v := 0) dX5_findChains_52 (by decide) ?_
      refine a_istore_n dX5_findChains_53 (by decide) rfl ?_
      dsimp only [lset]
      refine a_iconst (v := 0) dX5_findChains_54 (by decide) ?_
      refine a_istore dX5_findChains_55 (by decide) rfl ?_
      dsimp only [lset]
      refine l5_inn (s := s) hk hg 0 (by omega) ?_
      refine a_inc (c := 1) dX5_findChains_80 rfl (by decide) (by decide) rfl ?_
      dsimp only [lset]
      refine a_goto dX5_findChains_83 (tgt := 42) (by decide) ?_
      refine a_take 4 ?_
      dsimp only [List.take]
      rw [nI_1]
      exact l5_rnd hk hg _ (r + 1) (by omega) hQ
termination_by 7 - r
decreasing_by all_goals omega
theorem c5_findChains {l : Launch} {G : GG} {h : AH} {Q : Option Value → AH → Prop} {d : Nat → Int64} {m : Nat → Int32} {nc : Nat} (hk : nc < 8) (hg : ∀ k, k < 8 → (h.1 0 11 k).toInt < 7) (hQ : Q none (DM h (chainF (h.2 0 8) (h.1 0 11) nc d m).1 (chainF (h.2 0 8) (h.1 0 11) nc d m).2.1)) : Ct l G 1 yX5_findChains cX5_findChains 5 none [.ref (G.1 0 6), .int (nI nc)] (DM h d m) Q := by
  refine Ct.of (by decide) (Nat.le_of_ble_eq_true rfl) ?_
  show AW l G 1 RX5 cX5_findChains 5 none 0 [some (.ref (G.1 0 6)), some (.int (nI nc))] [] (DM h d m) Q
  refine a_iconst (v := 0) dX5_findChains_0 (by decide) ?_
  refine a_istore_n dX5_findChains_1 (by decide) rfl ?_
  dsimp only [lset]
  refine l5_init (c := 0) hk (by omega) ?_
  refine a_iconst (v := 1) dX5_findChains_38 (by decide) ?_
  refine a_istore_n dX5_findChains_39 (by decide) rfl ?_
  dsimp only [lset]
  refine a_iconst (v := 0) dX5_findChains_40 (by decide) ?_
  refine a_istore_n dX5_findChains_41 (by decide) rfl ?_
  dsimp only [lset]
  exact l5_rnd hk hg ((initG (h.2 0 8) nc d m 7).1, (initG (h.2 0 8) nc d m 7).2, 1) 0 (by omega) hQ
theorem l5_ch {l : Launch} {G : GG} {h : AH} {Q : Option Value → AH → Prop} (c : Nat) (hc : c ≤ 6) (hQ : Q (some (.int (nI (chG (h.1 0 10) (h.2 0 12) 6)))) h) : AW l G 0 RX5 cX5_cheapestOpen 3 (some .int) 5 [some (.ref (G.1 0 6)), some (.int (nI (chG (h.1 0 10) (h.2 0 12) c))), some (.int (nI c))] [] h Q := by
  have hci : (nI c).toNatClampNeg = c := nI_clamp (by omega)
  have hle := chG_le (h.1 0 10) (h.2 0 12) c hc
  have hbi : (nI (chG (h.1 0 10) (h.2 0 12) c)).toNatClampNeg = chG (h.1 0 10) (h.2 0 12) c := nI_clamp (by omega)
  refine a_iload_n dX5_cheapestOpen_5 rfl ?_
  refine a_bipush (v := 6) dX5_cheapestOpen_6 (by decide) ?_
  refine a_icmp_ge dX5_cheapestOpen_8 (tgt := 44) (by decide) (fun c8 => ?_) (fun c8 => ?_)
  · have hge : 6 ≤ c := le_of_le (b := 6) c8 (by omega) (by decide)
    have hie : c = 6 := by omega
    subst hie
    refine a_iload_n dX5_cheapestOpen_44 rfl ?_
    exact a_iret dX5_cheapestOpen_45 rfl hQ
  · have hlt : c < 6 := lt_of_nle (b := 6) c8 (by omega) (by decide)
    refine a_aload_n dX5_cheapestOpen_11 rfl ?_
    refine a_getR (ci := 5) (j := 3) dX5_cheapestOpen_12 rfl rfl (by decide) rfl fl_5_22 ?_
    refine a_iload_n dX5_cheapestOpen_15 rfl ?_
    refine a_iaload dX5_cheapestOpen_16 rfl (vp_in_nI (show c < 7 by omega) (by decide)) ?_
    try simp (disch := first | decide | assumption | omega) only [ui_eq, ui_k, ui_j, ui_b, ui_2, ul_1, ul_eq, ul_k, ul_j, ul_b, hci, hbi]
    refine a_if_le dX5_cheapestOpen_17 (tgt := 38) (by decide) (fun c17 => ?_) (fun c17 => ?_)
    · refine a_inc (c := 1) dX5_cheapestOpen_38 rfl (by decide) (by decide) rfl ?_
      dsimp only [lset]
      refine a_goto dX5_cheapestOpen_41 (tgt := 5) (by decide) ?_
      rw [nI_1]
      have e := l5_ch (l := l) (G := G) (h := h) (c + 1) (by omega) hQ
      simp only [chG] at e
      first
        | (rw [if_pos c17] at e; exact e)
        | (rw [if_neg c17, if_pos c33] at e; exact e)
        | (rw [if_neg c17, if_neg (fun q => q c33)] at e; exact e)
    · refine a_aload_n dX5_cheapestOpen_20 rfl ?_
      refine a_getR (ci := 5) (j := 5) dX5_cheapestOpen_21 rfl rfl (by decide) rfl fl_5_28 ?_
      refine a_iload_n dX5_cheapestOpen_24 rfl ?_
      refine a_laload dX5_cheapestOpen_25 rfl (vp_in_nI (show c < 7 by omega) (by decide)) ?_
      try simp (disch := first | decide | assumption | omega) only [ui_eq, ui_k, ui_j, ui_b, ui_2, ul_1, ul_eq, ul_k, ul_j, ul_b, hci, hbi]
      refine a_aload_n dX5_cheapestOpen_26 rfl ?_
      refine a_getR (ci := 5) (j := 5) dX5_cheapestOpen_27 rfl rfl (by decide) rfl fl_5_28 ?_
      refine a_iload_n dX5_cheapestOpen_30 rfl ?_
      refine a_laload dX5_cheapestOpen_31 rfl (vp_in_nI (show _ < 7 by omega) (by decide)) ?_
      try simp (disch := first | decide | assumption | omega) only [ui_eq, ui_k, ui_j, ui_b, ui_2, ul_1, ul_eq, ul_k, ul_j, ul_b, hci, hbi]
      refine a_lcmp dX5_cheapestOpen_32 ?_
      refine a_if_ge dX5_cheapestOpen_33 (tgt := 38) (by decide) (fun c33 => ?_) (fun c33 => ?_)
      · rw [lg_ge] at c33
        refine a_inc (c := 1) dX5_cheapestOpen_38 rfl (by decide) (by decide) rfl ?_
        dsimp only [lset]
        refine a_goto dX5_cheapestOpen_41 (tgt := 5) (by decide) ?_
        rw [nI_1]
        have e := l5_ch (l := l) (G := G) (h := h) (c + 1) (by omega) hQ
        simp only [chG] at e
        first
          | (rw [if_pos c17] at e; exact e)
          | (rw [if_neg c17, if_pos c33] at e; exact e)
          | (rw [if_neg c17, if_neg (fun q => q c33)] at e; exact e)
      · rw [lg_ge, Classical.not_not] at c33
        refine a_iload_n dX5_cheapestOpen_36 rfl ?_
        refine a_istore_n dX5_cheapestOpen_37 (by decide) rfl ?_
        dsimp only [lset]
        refine a_inc (c := 1) dX5_cheapestOpen_38 rfl (by decide) (by decide) rfl ?_
        dsimp only [lset]
        refine a_goto dX5_cheapestOpen_41 (tgt := 5) (by decide) ?_
        rw [nI_1]
        have e := l5_ch (l := l) (G := G) (h := h) (c + 1) (by omega) hQ
        simp only [chG] at e
        first
          | (rw [if_pos c17] at e; exact e)
          | (rw [if_neg c17, if_pos c33] at e; exact e)
          | (rw [if_neg c17, if_neg (fun q => q c33)] at e; exact e)
termination_by 6 - c
decreasing_by all_goals omega
theorem c5_cheapestOpen {l : Launch} {G : GG} {h : AH} {Q : Option Value → AH → Prop}  (hQ : Q (some (.int (nI (chG (h.1 0 10) (h.2 0 12) 6)))) h) : Ct l G 0 yX5_cheapestOpen cX5_cheapestOpen 3 (some .int) [.ref (G.1 0 6)] h Q := by
  refine Ct.of (by decide) (Nat.le_of_ble_eq_true rfl) ?_
  show AW l G 0 RX5 cX5_cheapestOpen 3 (some .int) 0 [some (.ref (G.1 0 6))] [] h Q
  refine a_bipush (v := 6) dX5_cheapestOpen_0 (by decide) ?_
  refine a_istore_n dX5_cheapestOpen_2 (by decide) rfl ?_
  dsimp only [lset]
  refine a_iconst (v := 0) dX5_cheapestOpen_3 (by decide) ?_
  refine a_istore_n dX5_cheapestOpen_4 (by decide) rfl ?_
  dsimp only [lset]
  exact l5_ch 0 (by omega) hQ
theorem uis {h : AH} {b k j : Nat} {f : Nat → Int32} {v : Int32} : ui (setI h b k f) b k j v = setI h b k (upd f j v) := by
  rw [ui_set, setI_f, setI_setI]
theorem l5_mv {l : Launch} {G : GG} {h : AH} {Q : Option Value → AH → Prop} {nc : Nat} {x : Int32} (hm : ∀ c, c < 7 → vp_in (h.1 0 13 c) 8) (g : Nat → Int32) (t : Int32) (hg : ∀ k, k < 8 → (g k).toInt < 7) (ht : t.toInt < 7) (r : Nat) (hr : r ≤ 7) (hQ : Q none (setI h 0 11 (moveG (h.1 0 13) nc (7 - r) g t))) : AW l G 0 RX5 cX5_moveAlong 7 none 15 [some (.ref (G.1 0 6)), some (.int (nI nc)), some (.int x), some (.int t), some (.int (nI r))] [] (setI h 0 11 g) Q := by
  refine a_iload dX5_moveAlong_15 rfl ?_
  refine a_bipush (v := 7) dX5_moveAlong_17 (by decide) ?_
  refine a_icmp_ge dX5_moveAlong_19 (tgt := 70) (by decide) (fun c19 => ?_) (fun c19 => ?_)
  · have hge : r = 7 := by have := le_of_le (b := 7) c19 (by omega) (by decide); omega
    subst hge
    rw [Nat.sub_self, moveG] at hQ
    exact a_vret dX5_moveAlong_70 rfl hQ
  · have hlt : r < 7 := lt_of_nle (b := 7) c19 (by omega) (by decide)
    refine a_iload_n dX5_moveAlong_22 rfl ?_
    refine a_if_lt dX5_moveAlong_23 (tgt := 70) (by decide) (fun c23 => ?_) (fun c23 => ?_)
    · rw [show 7 - r = (7 - (r + 1)) + 1 by omega, moveG, if_pos c23] at hQ
      exact a_vret dX5_moveAlong_70 rfl hQ
    · rw [show 7 - r = (7 - (r + 1)) + 1 by omega, moveG, if_neg c23] at hQ
      have htl : t.toNatClampNeg < 7 := Nat.not_le.mp fun q => (g_in (n := 7) c23 ht) (Or.inr q)
      have hmk := hm _ htl
      have hml : (h.1 0 13 t.toNatClampNeg).toNatClampNeg < 8 := Nat.not_le.mp fun q => hmk (Or.inr q)
      refine a_aload_n dX5_moveAlong_26 rfl ?_
      refine a_getR (ci := 5) (j := 6) dX5_moveAlong_27 rfl rfl (by decide) rfl fl_5_31 ?_
      refine a_iload_n dX5_moveAlong_30 rfl ?_
      refine a_iaload dX5_moveAlong_31 rfl (g_in (n := 7) c23 ht) ?_
      try simp (disch := first | decide | assumption | omega) only [ui_eq, ui_k, ui_j, ui_b, ui_2, ul_1, ul_eq, ul_k, ul_j, ul_b, setI_eq, setI_k, setI_b, setI_2, setL_1, setL_eq, setL_k, setL_b, setI_f]
      refine a_istore dX5_moveAlong_32 (by decide) rfl ?_
      dsimp only [lset]
      refine a_aload_n dX5_moveAlong_34 rfl ?_
      refine a_getR (ci := 5) (j := 4) dX5_moveAlong_35 rfl rfl (by decide) rfl fl_5_25 ?_
      refine a_iload dX5_moveAlong_38 rfl ?_
      refine a_iaload dX5_moveAlong_40 rfl hmk ?_
      try simp (disch := first | decide | assumption | omega) only [ui_eq, ui_k, ui_j, ui_b, ui_2, ul_1, ul_eq, ul_k, ul_j, ul_b, setI_eq, setI_k, setI_b, setI_2, setL_1, setL_eq, setL_k, setL_b, setI_f]
      refine a_istore dX5_moveAlong_41 (by decide) rfl ?_
      dsimp only [lset]
      refine a_aload_n dX5_moveAlong_43 rfl ?_
      refine a_getR (ci := 5) (j := 4) dX5_moveAlong_44 rfl rfl (by decide) rfl fl_5_25 ?_
      refine a_iload dX5_moveAlong_47 rfl ?_
      refine a_iload_n dX5_moveAlong_49 rfl ?_
      refine a_iastore dX5_moveAlong_50 rfl hmk ?_
      refine a_iload dX5_moveAlong_51 rfl ?_
      refine a_iload_n dX5_moveAlong_53 rfl ?_
      refine a_icmp_ne dX5_moveAlong_54 (tgt := 61) (by decide) (fun c54 => ?_) (fun c54 => ?_)
      · refine a_iload dX5_moveAlong_61 rfl ?_
        refine a_istore_n dX5_moveAlong_63 (by decide) rfl ?_
        dsimp only [lset]
        refine a_inc (c := 1) dX5_moveAlong_64 rfl (by decide) (by decide) rfl ?_
        dsimp only [lset]
        refine a_goto dX5_moveAlong_67 (tgt := 15) (by decide) ?_
        refine a_take 5 ?_
        dsimp only [List.take]
        rw [nI_1, uis]
        first
          | (rw [if_neg c54] at hQ; exact l5_mv hm _ _ (fun k hk => by by_cases e : k = (h.1 0 13 t.toNatClampNeg).toNatClampNeg <;> simp [upd, e, ht, hg k hk]) (hg _ hml) (r + 1) (by omega) hQ)
          | (rw [if_pos c54] at hQ; exact l5_mv hm _ _ (fun k hk => by by_cases e : k = (h.1 0 13 t.toNatClampNeg).toNatClampNeg <;> simp [upd, e, ht, hg k hk]) (by decide) (r + 1) (by omega) hQ)
      · refine a_iconst (v := (-1)) dX5_moveAlong_57 (by decide) ?_
        refine a_goto dX5_moveAlong_58 (tgt := 63) (by decide) ?_
        refine a_istore_n dX5_moveAlong_63 (by decide) rfl ?_
        dsimp only [lset]
        refine a_inc (c := 1) dX5_moveAlong_64 rfl (by decide) (by decide) rfl ?_
        dsimp only [lset]
        refine a_goto dX5_moveAlong_67 (tgt := 15) (by decide) ?_
        refine a_take 5 ?_
        dsimp only [List.take]
        rw [nI_1, uis]
        first
          | (rw [if_neg c54] at hQ; exact l5_mv hm _ _ (fun k hk => by by_cases e : k = (h.1 0 13 t.toNatClampNeg).toNatClampNeg <;> simp [upd, e, ht, hg k hk]) (hg _ hml) (r + 1) (by omega) hQ)
          | (rw [if_pos c54] at hQ; exact l5_mv hm _ _ (fun k hk => by by_cases e : k = (h.1 0 13 t.toNatClampNeg).toNatClampNeg <;> simp [upd, e, ht, hg k hk]) (by decide) (r + 1) (by omega) hQ)
termination_by 7 - r
decreasing_by all_goals omega
theorem c5_moveAlong {l : Launch} {G : GG} {h : AH} {Q : Option Value → AH → Prop} {nc t : Nat} (hm : ∀ c, c < 7 → vp_in (h.1 0 13 c) 8) (hg : ∀ k, k < 8 → (h.1 0 11 k).toInt < 7) (ht : t < 7) (hQ : Q none (setI (ui h 0 10 t (h.1 0 10 t - 1)) 0 11 (moveG (h.1 0 13) nc 7 (h.1 0 11) (nI t)))) : Ct l G 0 yX5_moveAlong cX5_moveAlong 7 none [.ref (G.1 0 6), .int (nI nc), .int (nI t)] h Q := by
  refine Ct.of (by decide) (Nat.le_of_ble_eq_true rfl) ?_
  show AW l G 0 RX5 cX5_moveAlong 7 none 0 [some (.ref (G.1 0 6)), some (.int (nI nc)), some (.int (nI t))] [] h Q
  have hti : (nI t).toNatClampNeg = t := nI_clamp (by omega)
  refine a_aload_n dX5_moveAlong_0 rfl ?_
  refine a_getR (ci := 5) (j := 3) dX5_moveAlong_1 rfl rfl (by decide) rfl fl_5_22 ?_
  refine a_iload_n dX5_moveAlong_4 rfl ?_
  refine a_dup2 dX5_moveAlong_5 rfl rfl ?_
  refine a_iaload dX5_moveAlong_6 rfl (vp_in_nI ht (by decide)) ?_
  try simp (disch := first | decide | assumption | omega) only [ui_eq, ui_k, ui_j, ui_b, ui_2, ul_1, ul_eq, ul_k, ul_j, ul_b, hti]
  refine a_iconst (v := 1) dX5_moveAlong_7 (by decide) ?_
  refine a_isub dX5_moveAlong_8 ?_
  refine a_iastore dX5_moveAlong_9 rfl (vp_in_nI ht (by decide)) ?_
  refine a_iload_n dX5_moveAlong_10 rfl ?_
  refine a_istore_n dX5_moveAlong_11 (by decide) rfl ?_
  dsimp only [lset]
  refine a_iconst (v := 0) dX5_moveAlong_12 (by decide) ?_
  refine a_istore dX5_moveAlong_13 (by decide) rfl ?_
  dsimp only [lset]
  rw [hti]
  have e := l5_mv (l := l) (G := G) (h := ui h 0 10 t (h.1 0 10 t - 1)) (x := nI t) (nc := nc) (Q := Q) (by intro c hc; rw [ui_k (by decide)]; exact hm c hc) (h.1 0 11) (nI t) hg (by rw [nI_toInt (by omega)]; omega) 0 (by omega)
  have e1 : (ui h 0 10 t (h.1 0 10 t - 1)).1 0 13 = h.1 0 13 := funext fun c => ui_k (by decide)
  have e2 : setI (ui h 0 10 t (h.1 0 10 t - 1)) 0 11 (h.1 0 11) = ui h 0 10 t (h.1 0 10 t - 1) := by
    have := setI_self (h := ui h 0 10 t (h.1 0 10 t - 1)) (b := 0) (k := 11)
    rwa [show (ui h 0 10 t (h.1 0 10 t - 1)).1 0 11 = h.1 0 11 from funext fun c => ui_k (by decide)] at this
  rw [e1, e2] at e
  exact e hQ
theorem c5_addFree {l : Launch} {G : GG} {h : AH} {Q : Option Value → AH → Prop} {x y : Int32} (hx : vp_in x 7) (hQ : Q none (ui h 0 9 x.toNatClampNeg (if 0 < h.1 0 9 x.toNatClampNeg + y then h.1 0 9 x.toNatClampNeg + y else 0))) : Ct l G 1 yX5_addFree cX5_addFree 3 none [.ref (G.1 0 6), .int x, .int y] h Q := by
  refine Ct.of (by decide) (Nat.le_of_ble_eq_true rfl) ?_
  show AW l G 1 RX5 cX5_addFree 3 none 0 [some (.ref (G.1 0 6)), some (.int x), some (.int y)] [] h Q
  refine a_aload_n dX5_addFree_0 rfl ?_
  refine a_getR (ci := 5) (j := 2) dX5_addFree_1 rfl rfl (by decide) rfl fl_5_19 ?_
  refine a_iload_n dX5_addFree_4 rfl ?_
  refine a_iconst (v := 0) dX5_addFree_5 (by decide) ?_
  refine a_aload_n dX5_addFree_6 rfl ?_
  refine a_getR (ci := 5) (j := 2) dX5_addFree_7 rfl rfl (by decide) rfl fl_5_19 ?_
  refine a_iload_n dX5_addFree_10 rfl ?_
  refine a_iaload dX5_addFree_11 rfl (by assumption) ?_
  refine a_iload_n dX5_addFree_12 rfl ?_
  refine a_iadd dX5_addFree_13 ?_
  refine a_mmax dX5_addFree_14 ml_5_86 (by decide) (Nat.le_of_ble_eq_true rfl) ?_
  refine a_iastore dX5_addFree_17 rfl (by assumption) ?_
  exact a_vret dX5_addFree_18 rfl hQ
