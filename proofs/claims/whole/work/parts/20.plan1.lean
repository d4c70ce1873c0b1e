/-! the planner: its rows as functions -/
def FARc : Int64 := 5764801000000
abbrev T3 : Type := (Nat → Int64) × (Nat → Int32) × Int32
/-- the heap with other rows dear (cell 12) and mover (cell 13) -/
def DM (h : AH) (d : Nat → Int64) (m : Nat → Int32) : AH := setL (setI h 0 13 m) 0 12 d
theorem DM_self (h : AH) : DM h (h.2 0 12) (h.1 0 13) = h := by
  unfold DM
  rw [setI_self, setL_self]
theorem DM_DM (h : AH) (d d2 : Nat → Int64) (m m2 : Nat → Int32) : DM (DM h d m) d2 m2 = DM h d2 m2 := by
  unfold DM
  rw [setLI, setI_setI, setL_setL]
theorem DM_d {h : AH} {d : Nat → Int64} {m : Nat → Int32} : (DM h d m).2 0 12 = d := by simp only [DM, setL_f]
theorem DM_m {h : AH} {d : Nat → Int64} {m : Nat → Int32} : (DM h d m).1 0 13 = m := by simp only [DM, setL_1, setI_f]
theorem DM_1 {h : AH} {d : Nat → Int64} {m : Nat → Int32} {b k : Nat} (hn : k ≠ 13) : (DM h d m).1 b k = h.1 b k := by simp only [DM, setL_1]; exact setI_k hn
theorem DM_2 {h : AH} {d : Nat → Int64} {m : Nat → Int32} {b k : Nat} (hn : k ≠ 12) : (DM h d m).2 b k = h.2 b k := by simp only [DM]; rw [setL_k hn]; rfl
theorem DM_b {h : AH} {d : Nat → Int64} {m : Nat → Int32} {b k : Nat} (hn : b ≠ 0) : (DM h d m).1 b k = h.1 b k := by simp only [DM, setL_1]; exact setI_b hn
theorem DM_upd {h : AH} {d : Nat → Int64} {m : Nat → Int32} {c : Nat} {x : Int64} {y : Int32} : ui (ul (DM h d m) 0 12 c x) 0 13 c y = DM h (vp_updL d c x) (upd m c y) := by
  rw [ul_set, ui_set, DM_d]
  have e : (setL (DM h d m) 0 12 (vp_updL d c x)).1 0 13 = m := by rw [setL_1]; exact DM_m (h := h) (d := d)
  rw [e]
  unfold DM
  rw [setL_setL, setLI, setI_setI]
def pushG (P : Nat → Int64) (k fr : Nat) (s : T3) : Nat → T3
  | 0 => s
  | c + 1 => if ¬ P (k * 7 + c) < FARc then pushG P k fr s c else
      if ¬ (pushG P k fr s c).1 fr - P (k * 7 + fr) + P (k * 7 + c) < (pushG P k fr s c).1 c then pushG P k fr s c else
      (vp_updL (pushG P k fr s c).1 c ((pushG P k fr s c).1 fr - P (k * 7 + fr) + P (k * 7 + c)), upd (pushG P k fr s c).2.1 c (nI k), 1)
def pushF (P : Nat → Int64) (k : Nat) (x : Int32) (d : Nat → Int64) (m : Nat → Int32) : T3 :=
  if x < 0 then (d, m, 0) else if ¬ d x.toNatClampNeg < FARc then (d, m, 0) else pushG P k x.toNatClampNeg (d, m, 0) 7
theorem pushG_01 {P : Nat → Int64} {k fr : Nat} {s : T3} (hs : s.2.2 = 0 ∨ s.2.2 = 1) (c : Nat) : (pushG P k fr s c).2.2 = 0 ∨ (pushG P k fr s c).2.2 = 1 := by
  induction c with
  | zero => exact hs
  | succ c ih =>
    unfold pushG
    split
    · exact ih
    · split
      · exact ih
      · exact Or.inr rfl
theorem nar_01 {v : Int32} (h : v = 0 ∨ v = 1) : narrow .boolean (.int v) = .int v := by
  rcases h with rfl | rfl <;> rfl
theorem ix7 (k c : Nat) : nI k * 7 + nI c = nI (k * 7 + c) := by
  rw [show (7 : Int32) = nI 7 from rfl, pk_mul, nI_add]
theorem fb_rng0 (x : Int32) : -2147483648 ≤ x.toInt ∧ x.toInt < 2147483648 := ⟨Int32.le_toInt x, Int32.toInt_lt x⟩
theorem g_of {x : Int32} {n : Nat} (h1 : ¬ x < 0) (h2 : x.toInt < n) : ∃ f, f < n ∧ x = nI f := by
  rw [Int32.lt_iff_toInt_lt] at h1
  have e0 : (0 : Int32).toInt = 0 := by decide
  refine ⟨x.toInt.toNat, by omega, ?_⟩
  apply Int32.toInt_inj.mp
  have := (fb_rng0 x)
  rw [nI_toInt (by omega)]
  omega
theorem g_in {x : Int32} {n : Nat} (h1 : ¬ x < 0) (h2 : x.toInt < n) : vp_in x n := by
  rw [Int32.lt_iff_toInt_lt] at h1
  have e0 : (0 : Int32).toInt = 0 := by decide
  rw [vp_in_iff]
  omega
theorem l5_push {l : Launch} {G : GG} {h : AH} {Q : Option Value → AH → Prop} {d : Nat → Int64} {m : Nat → Int32} {k fr : Nat} (hk : k < 8) (hf : fr < 7) (c : Nat) (hc : c ≤ 7) (hQ : Q (some (.int (pushG (h.2 0 8) k fr (d, m, 0) 7).2.2)) (DM h (pushG (h.2 0 8) k fr (d, m, 0) 7).1 (pushG (h.2 0 8) k fr (d, m, 0) 7).2.1)) : AW l G 0 RX5 cX5_pushOn 9 (some .boolean) 31 [some (.ref (G.1 0 6)), some (.int (nI k)), some (.int (nI fr)), some (.int (pushG (h.2 0 8) k fr (d, m, 0) c).2.2), some (.int (nI c))] [] (DM h (pushG (h.2 0 8) k fr (d, m, 0) c).1 (pushG (h.2 0 8) k fr (d, m, 0) c).2.1) Q := by
  have hci : (nI c).toNatClampNeg = c := nI_clamp (by omega)
  have hfi : (nI fr).toNatClampNeg = fr := nI_clamp (by omega)
  have hx1 := ix7 k c
  have hx2 := ix7 k fr
  have hy1 : (nI (k * 7 + c)).toNatClampNeg = k * 7 + c := nI_clamp (by omega)
  have hy2 : (nI (k * 7 + fr)).toNatClampNeg = k * 7 + fr := nI_clamp (by omega)
  refine a_iload dX5_pushOn_31 rfl ?_
  refine a_bipush (v := 7) dX5_pushOn_33 (by decide) ?_
  refine a_icmp_ge dX5_pushOn_35 (tgt := 122) (by decide) (fun c35 => ?_) (fun c35 => ?_)
  · have hge : 7 ≤ c := le_of_le (b := 7) c35 (by omega) (by decide)
    have hie : c = 7 := by omega
    subst hie
    refine a_iload_n dX5_pushOn_122 rfl ?_
    exact a_zret dX5_pushOn_123 rfl (nar_01 (pushG_01 (Or.inl rfl) 7)) hQ
  · have hlt : c < 7 := lt_of_nle (b := 7) c35 (by omega) (by decide)
    refine a_aload_n dX5_pushOn_38 rfl ?_
    refine a_getR (ci := 5) (j := 1) dX5_pushOn_39 rfl rfl (by decide) rfl fl_5_15 ?_
    refine a_iload_n dX5_pushOn_42 rfl ?_
    refine a_bipush (v := 7) dX5_pushOn_43 (by decide) ?_
    refine a_imul dX5_pushOn_45 ?_
    refine a_iload dX5_pushOn_46 rfl ?_
    refine a_iadd dX5_pushOn_48 ?_
    refine a_laload dX5_pushOn_49 rfl (by rw [hx1]; exact vp_in_nI (by omega) (by decide)) ?_
    try simp (disch := first | decide | assumption | omega) only [ui_eq, ui_k, ui_j, ui_b, ui_2, ul_1, ul_eq, ul_k, ul_j, ul_b, hci, hfi, hx1, hx2, hy1, hy2, DM_d, DM_m, DM_1, DM_2]
    refine a_lstore dX5_pushOn_50 (by decide) rfl ?_
    dsimp only [lset]
    refine a_aload_n dX5_pushOn_52 rfl ?_
    refine a_getR (ci := 5) (j := 5) dX5_pushOn_53 rfl rfl (by decide) rfl fl_5_28 ?_
    refine a_iload_n dX5_pushOn_56 rfl ?_
    refine a_laload dX5_pushOn_57 rfl (vp_in_nI hf (by decide)) ?_
    try simp (disch := first | decide | assumption | omega) only [ui_eq, ui_k, ui_j, ui_b, ui_2, ul_1, ul_eq, ul_k, ul_j, ul_b, hci, hfi, hx1, hx2, hy1, hy2, DM_d, DM_m, DM_1, DM_2]
    refine a_aload_n dX5_pushOn_58 rfl ?_
    refine a_getR (ci := 5) (j := 1) dX5_pushOn_59 rfl rfl (by decide) rfl fl_5_15 ?_
    refine a_iload_n dX5_pushOn_62 rfl ?_
    refine a_bipush (v := 7) dX5_pushOn_63 (by decide) ?_
    refine a_imul dX5_pushOn_65 ?_
    refine a_iload_n dX5_pushOn_66 rfl ?_
    refine a_iadd dX5_pushOn_67 ?_
    refine a_laload dX5_pushOn_68 rfl (by rw [hx2]; exact vp_in_nI (by omega) (by decide)) ?_
    try simp (disch := first | decide | assumption | omega) only [ui_eq, ui_k, ui_j, ui_b, ui_2, ul_1, ul_eq, ul_k, ul_j, ul_b, hci, hfi, hx1, hx2, hy1, hy2, DM_d, DM_m, DM_1, DM_2]
    refine a_lsub dX5_pushOn_69 ?_
    refine a_lload dX5_pushOn_70 rfl ?_
    refine a_ladd dX5_pushOn_72 ?_
    refine a_lstore dX5_pushOn_73 (by decide) rfl ?_
    dsimp only [lset]
    refine a_lload dX5_pushOn_75 rfl ?_
    refine a_ldc2 (v := 5764801000000) kl_5_80 dX5_pushOn_77 ?_
    refine a_lcmp dX5_pushOn_80 ?_
    refine a_if_ge dX5_pushOn_81 (tgt := 116) (by decide) (fun c81 => ?_) (fun c81 => ?_)
    · rw [lg_ge] at c81
      refine a_inc (c := 1) dX5_pushOn_116 rfl (by decide) (by decide) rfl ?_
      dsimp only [lset]
      refine a_goto dX5_pushOn_119 (tgt := 31) (by decide) ?_
      refine a_take 5 ?_
      dsimp only [List.take]
      rw [nI_1]
      try rw [hci, DM_upd]
      have e := l5_push (l := l) (G := G) (h := h) (d := d) (m := m) hk hf (c + 1) (by omega) hQ
      simp only [pushG] at e
      first
        | (rw [if_pos (show ¬ h.2 0 8 (k * 7 + c) < FARc from c81)] at e; exact e)
        | (rw [if_neg (show ¬ ¬ h.2 0 8 (k * 7 + c) < FARc from fun q => q c81), if_pos c94] at e; exact e)
        | (rw [if_neg (show ¬ ¬ h.2 0 8 (k * 7 + c) < FARc from fun q => q c81), if_neg (fun q => q c94)] at e; exact e)
    · rw [lg_ge, Classical.not_not] at c81
      refine a_lload dX5_pushOn_84 rfl ?_
      refine a_aload_n dX5_pushOn_86 rfl ?_
      refine a_getR (ci := 5) (j := 5) dX5_pushOn_87 rfl rfl (by decide) rfl fl_5_28 ?_
      refine a_iload dX5_pushOn_90 rfl ?_
      refine a_laload dX5_pushOn_92 rfl (vp_in_nI hlt (by decide)) ?_
      try simp (disch := first | decide | assumption | omega) only [ui_eq, ui_k, ui_j, ui_b, ui_2, ul_1, ul_eq, ul_k, ul_j, ul_b, hci, hfi, hx1, hx2, hy1, hy2, DM_d, DM_m, DM_1, DM_2]
      refine a_lcmp dX5_pushOn_93 ?_
      refine a_if_ge dX5_pushOn_94 (tgt := 116) (by decide) (fun c94 => ?_) (fun c94 => ?_)
      · rw [lg_ge] at c94
        refine a_inc (c := 1) dX5_pushOn_116 rfl (by decide) (by decide) rfl ?_
        dsimp only [lset]
        refine a_goto dX5_pushOn_119 (tgt := 31) (by decide) ?_
        refine a_take 5 ?_
        dsimp only [List.take]
        rw [nI_1]
        try rw [hci, DM_upd]
        have e := l5_push (l := l) (G := G) (h := h) (d := d) (m := m) hk hf (c + 1) (by omega) hQ
        simp only [pushG] at e
        first
          | (rw [if_pos (show ¬ h.2 0 8 (k * 7 + c) < FARc from c81)] at e; exact e)
          | (rw [if_neg (show ¬ ¬ h.2 0 8 (k * 7 + c) < FARc from fun q => q c81), if_pos c94] at e; exact e)
          | (rw [if_neg (show ¬ ¬ h.2 0 8 (k * 7 + c) < FARc from fun q => q c81), if_neg (fun q => q c94)] at e; exact e)
      · rw [lg_ge, Classical.not_not] at c94
        refine a_aload_n dX5_pushOn_97 rfl ?_
        refine a_getR (ci := 5) (j := 5) dX5_pushOn_98 rfl rfl (by decide) rfl fl_5_28 ?_
        refine a_iload dX5_pushOn_101 rfl ?_
        refine a_lload dX5_pushOn_103 rfl ?_
        refine a_lastore dX5_pushOn_105 rfl (vp_in_nI hlt (by decide)) ?_
        refine a_aload_n dX5_pushOn_106 rfl ?_
        refine a_getR (ci := 5) (j := 6) dX5_pushOn_107 rfl rfl (by decide) rfl fl_5_31 ?_
        refine a_iload dX5_pushOn_110 rfl ?_
        refine a_iload_n dX5_pushOn_112 rfl ?_
        refine a_iastore dX5_pushOn_113 rfl (vp_in_nI hlt (by decide)) ?_
        refine a_iconst (v := 1) dX5_pushOn_114 (by decide) ?_
        refine a_istore_n dX5_pushOn_115 (by decide) rfl ?_
        dsimp only [lset]
        refine a_inc (c := 1) dX5_pushOn_116 rfl (by decide) (by decide) rfl ?_
        dsimp only [lset]
        refine a_goto dX5_pushOn_119 (tgt := 31) (by decide) ?_
        refine a_take 5 ?_
        dsimp only [List.take]
        rw [nI_1]
        try rw [hci, DM_upd]
        have e := l5_push (l := l) (G := G) (h := h) (d := d) (m := m) hk hf (c + 1) (by omega) hQ
        simp only [pushG] at e
        first
          | (rw [if_pos (show ¬ h.2 0 8 (k * 7 + c) < FARc from c81)] at e; exact e)
          | (rw [if_neg (show ¬ ¬ h.2 0 8 (k * 7 + c) < FARc from fun q => q c81), if_pos c94] at e; exact e)
          | (rw [if_neg (show ¬ ¬ h.2 0 8 (k * 7 + c) < FARc from fun q => q c81), if_neg (fun q => q c94)] at e; exact e)
termination_by 7 - c
decreasing_by all_goals omega
theorem c5_pushOn {l : Launch} {G : GG} {h : AH} {Q : Option Value → AH → Prop} {d : Nat → Int64} {m : Nat → Int32} {k : Nat} (hk : k < 8) (hg : (h.1 0 11 k).toInt < 7) (hQ : Q (some (.int (pushF (h.2 0 8) k (h.1 0 11 k) d m).2.2)) (DM h (pushF (h.2 0 8) k (h.1 0 11 k) d m).1 (pushF (h.2 0 8) k (h.1 0 11 k) d m).2.1)) : Ct l G 0 yX5_pushOn cX5_pushOn 9 (some .boolean) [.ref (G.1 0 6), .int (nI k)] (DM h d m) Q := by
  refine Ct.of (by decide) (Nat.le_of_ble_eq_true rfl) ?_
  show AW l G 0 RX5 cX5_pushOn 9 (some .boolean) 0 [some (.ref (G.1 0 6)), some (.int (nI k))] [] (DM h d m) Q
  have hki : (nI k).toNatClampNeg = k := nI_clamp (by omega)
  refine a_aload_n dX5_pushOn_0 rfl ?_
  refine a_getR (ci := 5) (j := 4) dX5_pushOn_1 rfl rfl (by decide) rfl fl_5_25 ?_
  refine a_iload_n dX5_pushOn_4 rfl ?_
  refine a_iaload dX5_pushOn_5 rfl (vp_in_nI hk (by decide)) ?_
  try simp (disch := first | decide | assumption | omega) only [ui_eq, ui_k, ui_j, ui_b, ui_2, ul_1, ul_eq, ul_k, ul_j, ul_b, hki, DM_d, DM_m, DM_1, DM_2]
  refine a_istore_n dX5_pushOn_6 (by decide) rfl ?_
  dsimp only [lset]
  refine a_iload_n dX5_pushOn_7 rfl ?_
  refine a_if_lt dX5_pushOn_8 (tgt := 24) (by decide) (fun c8 => ?_) (fun c8 => ?_)
  · refine a_iconst (v := 0) dX5_pushOn_24 (by decide) ?_
    exact a_zret dX5_pushOn_25 rfl rfl (by
      first
        | (simp only [pushF, c8, if_true] at hQ; exact hQ)
        | (rw [pushF, if_neg c8, if_pos (show ¬ d (h.1 0 11 k).toNatClampNeg < FARc from c21)] at hQ; exact hQ))
  · refine a_aload_n dX5_pushOn_11 rfl ?_
    refine a_getR (ci := 5) (j := 5) dX5_pushOn_12 rfl rfl (by decide) rfl fl_5_28 ?_
    refine a_iload_n dX5_pushOn_15 rfl ?_
    refine a_laload dX5_pushOn_16 rfl (g_in c8 hg) ?_
    try simp (disch := first | decide | assumption | omega) only [ui_eq, ui_k, ui_j, ui_b, ui_2, ul_1, ul_eq, ul_k, ul_j, ul_b, hki, DM_d, DM_m, DM_1, DM_2]
    refine a_ldc2 (v := 5764801000000) kl_5_80 dX5_pushOn_17 ?_
    refine a_lcmp dX5_pushOn_20 ?_
    refine a_if_lt dX5_pushOn_21 (tgt := 26) (by decide) (fun c21 => ?_) (fun c21 => ?_)
    · rw [lg_lt] at c21
      refine a_iconst (v := 0) dX5_pushOn_26 (by decide) ?_
      refine a_istore_n dX5_pushOn_27 (by decide) rfl ?_
      dsimp only [lset]
      refine a_iconst (v := 0) dX5_pushOn_28 (by decide) ?_
      refine a_istore dX5_pushOn_29 (by decide) rfl ?_
      dsimp only [lset]
      obtain ⟨fr, hfr, hfe⟩ := g_of (n := 7) c8 hg
      have hfi : (nI fr).toNatClampNeg = fr := nI_clamp (by omega)
      rw [pushF, if_neg c8, if_neg (show ¬ ¬ d (h.1 0 11 k).toNatClampNeg < FARc from fun q => q c21), hfe, hfi] at hQ
      rw [hfe]
      exact l5_push hk hfr 0 (by omega) hQ
    · rw [lg_lt] at c21
      refine a_iconst (v := 0) dX5_pushOn_24 (by decide) ?_
      exact a_zret dX5_pushOn_25 rfl rfl (by
      first
        | (simp only [pushF, c8, if_true] at hQ; exact hQ)
        | (rw [pushF, if_neg c8, if_pos (show ¬ d (h.1 0 11 k).toNatClampNeg < FARc from c21)] at hQ; exact hQ))
