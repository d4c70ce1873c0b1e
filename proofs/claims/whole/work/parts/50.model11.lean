def txG (T : Nat → Int32) (L : Nat) : Nat → Nat → PSt → Int32 × Nat × PSt
  | 0, n, s => (0, n, s)
  | f + 1, n, s => if s.1 6 = 0 then (1, n, s) else if (linP T L (decide (n = 0)) s).1 = 0 then (0, n, (linP T L (decide (n = 0)) s).2) else
      if (endP T L (linP T L (decide (n = 0)) s).2).1 = 0 then (0, n, (endP T L (linP T L (decide (n = 0)) s).2).2) else txG T L f (n + 1) (endP T L (linP T L (decide (n = 0)) s).2).2
def zr (k : Nat) (r : Nat → Int32) : Nat → Int32 := fun j => if j < k then 0 else r j
def cpR (k : Nat) (r q : Nat → Int32) : Nat → Int32 := fun j => if j < k then r j else q j
theorem zr_s (k : Nat) (r : Nat → Int32) : upd (zr k r) k 0 = zr (k + 1) r := by
  funext j
  simp only [upd, zr]
  by_cases e : j = k
  · subst e; simp
  · by_cases e2 : j < k
    · simp [e, e2, show j < k + 1 by omega]
    · simp [e, e2, show ¬ j < k + 1 by omega]
theorem cpR_s (k : Nat) (r q : Nat → Int32) : upd (cpR k r q) k (r k) = cpR (k + 1) r q := by
  funext j
  simp only [upd, cpR]
  by_cases e : j = k
  · subst e; simp
  · by_cases e2 : j < k
    · simp [e, e2, show j < k + 1 by omega]
    · simp [e, e2, show ¬ j < k + 1 by omega]
theorem zr_0 (r : Nat → Int32) : zr 0 r = r := by funext j; simp [zr]
theorem cpR_0 (r q : Nat → Int32) : cpR 0 r q = q := by funext j; simp [cpR]
/-- what stands as reading begins -/
def tx0 (L : Nat) (o : Nat → Int32) (w : Int64) (r : Nat → Int32) : PSt := (upd (upd (upd (upd (upd o 0 0) 2 0) 3 (nI L)) 4 0) 8 0, w, upd (zr 631 r) 1 1)
def txR (T : Nat → Int32) (L : Nat) (o : Nat → Int32) (w : Int64) (r : Nat → Int32) : Int32 × Nat × PSt := txG T L 742 0 (goP T L (tx0 L o w r))
def mTextX (h : AH) (R : Int32 × Nat × PSt) : Int32 × AH :=
  if R.1 = 0 then (-1 - R.2.2.1 9, pH h R.2.2.1 R.2.2.2.1 R.2.2.2.2) else (nI R.2.1, pH (setI h 3 2 (cpR 631 R.2.2.2.2 (h.1 3 2))) (upd R.2.2.1 14 0) R.2.2.2.1 R.2.2.2.2)
def mText (h : AH) (L : Nat) : Int32 × AH := mTextX h (txR (h.1 3 1) L (h.1 3 0) (h.2 3 0 10) (h.1 3 3))
theorem up3 {f : Nat → Int32} {a b c d : Int32} : upd (upd (upd (upd f 6 d) 4 a) 5 b) 6 c = upd (upd (upd f 4 a) 5 b) 6 c := by
  rw [up_c (show 4 < 6 by decide), up_c (show 5 < 6 by decide), up_2]
theorem goP_6 (T : Nat → Int32) (L : Nat) (s : PSt) : goP T L (upd s.1 6 0, s.2) = goP T L s := by
  unfold goP goS goT
  simp (disch := decide) only [up_ne]
  simp only [up3]
theorem tx0_PI {L : Nat} (h : L ≤ 740) (o : Nat → Int32) (w : Int64) (r : Nat → Int32) : PI L (upd (tx0 L o w r).1 6 0, (tx0 L o w r).2) := by
  unfold tx0
  refine ⟨?_, h, ⟨0, by omega, ?_⟩, ?_, ⟨⟨0, by decide, ?_⟩, ⟨0, by decide, ?_⟩, ⟨0, by decide, ?_⟩, ⟨0, by decide, ?_⟩⟩⟩
  all_goals simp (disch := decide) only [up_ne, up_eq]
  · rfl
  · intro z; exact absurd z (by decide)
  all_goals rfl
theorem tx0_go {L : Nat} (h : L ≤ 740) (T o : Nat → Int32) (w : Int64) (r : Nat → Int32) : PI L (goP T L (tx0 L o w r)) := by
  rw [← goP_6]
  exact (tx0_PI h o w r).go T
theorem setI_pH {h : AH} {o r f : Nat → Int32} {w : Int64} : setI (pH h o w r) 3 2 f = pH (setI h 3 2 f) o w r := by
  refine Prod.ext (funext fun b' => funext fun k' => funext fun j' => ?_) rfl
  simp only [setI, pH]
  by_cases e : b' = 3 ∧ k' = 2
  · obtain ⟨rfl, rfl⟩ := e
    simp
  · by_cases e1 : b' = 3 ∧ k' = 0
    · obtain ⟨rfl, rfl⟩ := e1
      simp
    · by_cases e2 : b' = 3 ∧ k' = 3
      · obtain ⟨rfl, rfl⟩ := e2
        simp
      · simp [e, e1, e2]
theorem l11_txE {l : Launch} {G : GG} {h : AH} {Q : Option Value → AH → Prop} {s : PSt} {n : Nat} (k : Nat) (hk : k ≤ 631) (hQ : Q (some (.int (nI n))) (pH (setI h 3 2 (cpR 631 s.2.2 (h.1 3 2))) (upd s.1 14 0) s.2.1 s.2.2)) : AW l G 6 RX11 cX11_text 3 (some .int) 108 [some (.ref (G.1 3 0)), some (.int (nI n)), some (.int (nI k))] [] (pH (setI h 3 2 (cpR k s.2.2 (h.1 3 2))) s.1 s.2.1 s.2.2) Q := by
  have hkc : (nI k).toNatClampNeg = k := nI_clamp (by omega)
  refine a_iload_n dX11_text_108 rfl ?_
  refine a_sipush (v := 631) dX11_text_109 (by decide) ?_
  refine a_icmp_ge dX11_text_112 (tgt := 133) (by decide) (fun c112 => ?_) (fun c112 => ?_)
  · have hge : 631 ≤ k := le_of_le (b := 631) c112 (by omega) (by decide)
    have hie : k = 631 := by omega
    subst hie
    refine a_aload_n dX11_text_133 rfl ?_
    refine a_iconst (v := 0) dX11_text_134 (by decide) ?_
    refine a_putI (ci := 11) (j := 14) dX11_text_135 rfl rfl (by decide) (by decide) rfl fl_11_157 ?_
    refine a_iload_n dX11_text_138 rfl ?_
    exact a_iret dX11_text_139 rfl (by rw [pH_o]; exact hQ)
  · have hlt : k < 631 := lt_of_nle (b := 631) c112 (by omega) (by decide)
    refine a_aload_n dX11_text_115 rfl ?_
    refine a_getR (ci := 11) (j := 11) dX11_text_116 rfl rfl (by decide) rfl fl_11_72 ?_
    refine a_iload_n dX11_text_119 rfl ?_
    refine a_aload_n dX11_text_120 rfl ?_
    refine a_getR (ci := 11) (j := 12) dX11_text_121 rfl rfl (by decide) rfl fl_11_75 ?_
    refine a_iload_n dX11_text_124 rfl ?_
    refine a_iaload dX11_text_125 rfl (vp_in_nI (by omega) (by decide)) ?_
    try simp (disch := first | decide | assumption | omega) only [ui_eq, ui_k, ui_j, ui_b, ui_2, ul_1, ul_eq, ul_k, ul_j, ul_b, pH_g, pH_gr, hkc]
    refine a_iastore dX11_text_126 rfl (vp_in_nI (by omega) (by decide)) ?_
    refine a_inc (c := 1) dX11_text_127 rfl (by decide) (by decide) rfl ?_
    dsimp only [lset]
    refine a_goto dX11_text_130 (tgt := 108) (by decide) ?_
    try rw [hkc]
    rw [nI_1, ← setI_pH, uis, setI_pH, cpR_s]
    exact l11_txE (k + 1) (by omega) hQ
termination_by 631 - k
decreasing_by all_goals omega
theorem endP_ok (T : Nat → Int32) {L : Nat} {s : PSt} (h : PI L s) (h1 : ¬ (endP T L s).1 = 0) : PI L (endP T L s).2 ∧ pTo s ≤ pTo (endP T L s).2 ∧ s.1 6 = 4 := by
  unfold endP at h1 ⊢
  split at h1
  · rename_i c
    rw [if_pos c]
    exact ⟨h.go T, (goP_all T h).2.1.1, c⟩
  · exact absurd rfl h1
theorem l11_tx {l : Launch} {G : GG} {h : AH} {Q : Option Value → AH → Prop} {s : PSt} {L n x : Nat} (f : Nat) (hI : PI L s) (hf : L + 1 < f + pTo s) (hn : n + f ≤ 742) (hQ : Q (some (.int (mTextX h (txG (h.1 3 1) L f n s)).1)) (mTextX h (txG (h.1 3 1) L f n s)).2) : AW l G 6 RX11 cX11_text 3 (some .int) 63 [some (.ref (G.1 3 0)), some (.int (nI n)), some (.int (nI x))] [] (pH h s.1 s.2.1 s.2.2) Q := by
  have hto := hI.to_le.1
  obtain ⟨g, rfl⟩ : ∃ g, f = g + 1 := ⟨f - 1, by omega⟩
  rw [txG] at hQ
  refine a_aload_n dX11_text_63 rfl ?_
  refine a_getI (ci := 11) (j := 6) dX11_text_64 rfl rfl (by decide) rfl fl_11_27 ?_
  try simp (disch := first | decide | assumption | omega) only [ui_eq, ui_k, ui_j, ui_b, ui_2, ul_1, ul_eq, ul_k, ul_j, ul_b, pH_g]
  refine a_if_eq dX11_text_67 (tgt := 106) (by decide) (fun c67 => ?_) (fun c67 => ?_)
  · rw [if_pos c67, mTextX, if_neg (show ¬ (1 : Int32) = 0 by decide)] at hQ
    refine a_iconst (v := 0) dX11_text_106 (by decide) ?_
    refine a_istore_n dX11_text_107 (by decide) rfl ?_
    dsimp only [lset]
    refine a_take 3 ?_
    dsimp only [List.take]
    rw [show pH h s.1 s.2.1 s.2.2 = pH (setI h 3 2 (cpR 0 s.2.2 (h.1 3 2))) s.1 s.2.1 s.2.2 by rw [cpR_0, setI_self]]
    exact l11_txE 0 (by omega) hQ
  · rw [if_neg c67] at hQ
    refine a_aload_n dX11_text_70 rfl ?_
    refine a_iload_n dX11_text_71 rfl ?_
    refine a_if_ne dX11_text_72 (tgt := 79) (by decide) (fun c72 => ?_) (fun c72 => ?_)
    · have hn0 : n ≠ 0 := fun z => c72 (by rw [z]; rfl)
      have hdb : decide (n = 0) = decide (¬ (0 : Int32) = 0) := by simp [hn0]
      refine a_iconst (v := 0) dX11_text_79 (by decide) ?_
      refine a_cV1i dX11_text_80 ml_11_150 wv_11_readLine rfl rfl (by decide) (Nat.le_of_ble_eq_true rfl) (c11_readLine (b := decide (n = 0)) hI hdb ⟨rfl, rfl⟩) ?_
      try simp (disch := first | decide | assumption | omega) only [ui_eq, ui_k, ui_j, ui_b, ui_2, ul_1, ul_eq, ul_k, ul_j, ul_b, pH_g]
      refine a_if_eq dX11_text_83 (tgt := 93) (by decide) (fun c83 => ?_) (fun c83 => ?_)
      · rw [if_pos c83, mTextX, if_pos rfl] at hQ
        refine a_iconst (v := (-1)) dX11_text_93 (by decide) ?_
        refine a_aload_n dX11_text_94 rfl ?_
        refine a_getI (ci := 11) (j := 9) dX11_text_95 rfl rfl (by decide) rfl fl_11_63 ?_
        try simp (disch := first | decide | assumption | omega) only [ui_eq, ui_k, ui_j, ui_b, ui_2, ul_1, ul_eq, ul_k, ul_j, ul_b, pH_g]
        refine a_isub dX11_text_98 ?_
        exact a_iret dX11_text_99 rfl hQ
      · rw [if_neg c83] at hQ
        have hL1 := linP_ok (h.1 3 1) hI c83
        refine a_aload_n dX11_text_86 rfl ?_
        refine a_cV0i dX11_text_87 ml_11_154 wv_11_readEnd rfl rfl (by decide) (Nat.le_of_ble_eq_true rfl) (c11_readEnd hL1.1 ⟨rfl, rfl⟩) ?_
        try simp (disch := first | decide | assumption | omega) only [ui_eq, ui_k, ui_j, ui_b, ui_2, ul_1, ul_eq, ul_k, ul_j, ul_b, pH_g]
        refine a_if_ne dX11_text_90 (tgt := 100) (by decide) (fun c90 => ?_) (fun c90 => ?_)
        · rw [if_neg c90] at hQ
          refine a_inc (c := 1) dX11_text_100 rfl (by decide) (by decide) rfl ?_
          dsimp only [lset]
          refine a_goto dX11_text_103 (tgt := 63) (by decide) ?_
          rw [nI_1]
          have hE1 := endP_ok (h.1 3 1) hL1.1 (by assumption)
          have hm := hL1.2.2.1 hE1.2.2
          exact l11_tx (x := x) g hE1.1 (by have := hE1.2.1; omega) (by omega) hQ
        · rw [if_pos c90, mTextX, if_pos rfl] at hQ
          refine a_iconst (v := (-1)) dX11_text_93 (by decide) ?_
          refine a_aload_n dX11_text_94 rfl ?_
          refine a_getI (ci := 11) (j := 9) dX11_text_95 rfl rfl (by decide) rfl fl_11_63 ?_
          try simp (disch := first | decide | assumption | omega) only [ui_eq, ui_k, ui_j, ui_b, ui_2, ul_1, ul_eq, ul_k, ul_j, ul_b, pH_g]
          refine a_isub dX11_text_98 ?_
          exact a_iret dX11_text_99 rfl hQ
    · have hn0 : n = 0 := nI_inj (a := n) (b := 0) (by omega) (by omega) c72
      have hdb : decide (n = 0) = decide (¬ (1 : Int32) = 0) := by simp [hn0]
      refine a_iconst (v := 1) dX11_text_75 (by decide) ?_
      refine a_goto dX11_text_76 (tgt := 80) (by decide) ?_
      refine a_cV1i dX11_text_80 ml_11_150 wv_11_readLine rfl rfl (by decide) (Nat.le_of_ble_eq_true rfl) (c11_readLine (b := decide (n = 0)) hI hdb ⟨rfl, rfl⟩) ?_
      try simp (disch := first | decide | assumption | omega) only [ui_eq, ui_k, ui_j, ui_b, ui_2, ul_1, ul_eq, ul_k, ul_j, ul_b, pH_g]
      refine a_if_eq dX11_text_83 (tgt := 93) (by decide) (fun c83v2 => ?_) (fun c83v2 => ?_)
      · rw [if_pos c83v2, mTextX, if_pos rfl] at hQ
        refine a_iconst (v := (-1)) dX11_text_93 (by decide) ?_
        refine a_aload_n dX11_text_94 rfl ?_
        refine a_getI (ci := 11) (j := 9) dX11_text_95 rfl rfl (by decide) rfl fl_11_63 ?_
        try simp (disch := first | decide | assumption | omega) only [ui_eq, ui_k, ui_j, ui_b, ui_2, ul_1, ul_eq, ul_k, ul_j, ul_b, pH_g]
        refine a_isub dX11_text_98 ?_
        exact a_iret dX11_text_99 rfl hQ
      · rw [if_neg c83v2] at hQ
        have hL1 := linP_ok (h.1 3 1) hI c83v2
        refine a_aload_n dX11_text_86 rfl ?_
        refine a_cV0i dX11_text_87 ml_11_154 wv_11_readEnd rfl rfl (by decide) (Nat.le_of_ble_eq_true rfl) (c11_readEnd hL1.1 ⟨rfl, rfl⟩) ?_
        try simp (disch := first | decide | assumption | omega) only [ui_eq, ui_k, ui_j, ui_b, ui_2, ul_1, ul_eq, ul_k, ul_j, ul_b, pH_g]
        refine a_if_ne dX11_text_90 (tgt := 100) (by decide) (fun c90v2 => ?_) (fun c90v2 => ?_)
        · rw [if_neg c90v2] at hQ
          refine a_inc (c := 1) dX11_text_100 rfl (by decide) (by decide) rfl ?_
          dsimp only [lset]
          refine a_goto dX11_text_103 (tgt := 63) (by decide) ?_
          rw [nI_1]
          have hE1 := endP_ok (h.1 3 1) hL1.1 (by assumption)
          have hm := hL1.2.2.1 hE1.2.2
          exact l11_tx (x := x) g hE1.1 (by have := hE1.2.1; omega) (by omega) hQ
        · rw [if_pos c90v2, mTextX, if_pos rfl] at hQ
          refine a_iconst (v := (-1)) dX11_text_93 (by decide) ?_
          refine a_aload_n dX11_text_94 rfl ?_
          refine a_getI (ci := 11) (j := 9) dX11_text_95 rfl rfl (by decide) rfl fl_11_63 ?_
          try simp (disch := first | decide | assumption | omega) only [ui_eq, ui_k, ui_j, ui_b, ui_2, ul_1, ul_eq, ul_k, ul_j, ul_b, pH_g]
          refine a_isub dX11_text_98 ?_
          exact a_iret dX11_text_99 rfl hQ
termination_by f
decreasing_by all_goals omega
theorem l11_tx32 {l : Launch} {G : GG} {h : AH} {Q : Option Value → AH → Prop} {o : Nat → Int32} {w : Int64} {r : Nat → Int32} (k : Nat) (hk : k ≤ 631) (hE : AW l G 6 RX11 cX11_text 3 (some .int) 52 [some (.ref (G.1 3 0)), some (.int 0), some (.int (nI 631))] [] (pH h o w (zr 631 r)) Q) : AW l G 6 RX11 cX11_text 3 (some .int) 32 [some (.ref (G.1 3 0)), some (.int 0), some (.int (nI k))] [] (pH h o w (zr k r)) Q := by
  have hkc : (nI k).toNatClampNeg = k := nI_clamp (by omega)
  refine a_iload_n dX11_text_32 rfl ?_
  refine a_sipush (v := 631) dX11_text_33 (by decide) ?_
  refine a_icmp_ge dX11_text_36 (tgt := 52) (by decide) (fun c36 => ?_) (fun c36 => ?_)
  · have hge : 631 ≤ k := le_of_le (b := 631) c36 (by omega) (by decide)
    have hie : k = 631 := by omega
    subst hie
    exact hE
  · have hlt : k < 631 := lt_of_nle (b := 631) c36 (by omega) (by decide)
    refine a_aload_n dX11_text_39 rfl ?_
    refine a_getR (ci := 11) (j := 12) dX11_text_40 rfl rfl (by decide) rfl fl_11_75 ?_
    refine a_iload_n dX11_text_43 rfl ?_
    refine a_iconst (v := 0) dX11_text_44 (by decide) ?_
    refine a_iastore dX11_text_45 rfl (vp_in_nI (by omega) (by decide)) ?_
    refine a_inc (c := 1) dX11_text_46 rfl (by decide) (by decide) rfl ?_
    dsimp only [lset]
    refine a_goto dX11_text_49 (tgt := 32) (by decide) ?_
    try rw [hkc]
    rw [nI_1, pH_r, zr_s]
    exact l11_tx32 (k + 1) (by omega) hE
termination_by 631 - k
decreasing_by all_goals omega
theorem c11_textP {l : Launch} {G : GG} {h : AH} {Q : Option Value → AH → Prop} {o : Nat → Int32} {w : Int64} {r : Nat → Int32} {L : Nat} (hL : o 2 = nI L) (h740 : L ≤ 740) (hQ : Q (some (.int (mTextX h (txR (h.1 3 1) L o w r)).1)) (mTextX h (txR (h.1 3 1) L o w r)).2)  : Ct l G 6 yX11_text cX11_text 3 (some .int) [.ref (G.1 3 0)] (pH h o w r) Q := by
  refine Ct.of (by decide) (Nat.le_of_ble_eq_true rfl) ?_
  show AW l G 6 RX11 cX11_text 3 (some .int) 0 [some (.ref (G.1 3 0))] [] (pH h o w r) Q
  refine a_aload_n dX11_text_0 rfl ?_
  refine a_iconst (v := 0) dX11_text_1 (by decide) ?_
  refine a_putI (ci := 11) (j := 0) dX11_text_2 rfl rfl (by decide) (by decide) rfl fl_11_1 ?_
  refine a_aload_n dX11_text_5 rfl ?_
  refine a_aload_n dX11_text_6 rfl ?_
  refine a_getI (ci := 11) (j := 2) dX11_text_7 rfl rfl (by decide) rfl fl_11_11 ?_
  try simp (disch := first | decide | assumption | omega) only [ui_eq, ui_k, ui_j, ui_b, ui_2, ul_1, ul_eq, ul_k, ul_j, ul_b, pH_g, pH_gr, pH_gw, pH_gt, pH_o, pH_r, pH_w, up_eq, up_ne, up_2, up_c, hL, cl1]
  refine a_putI (ci := 11) (j := 3) dX11_text_10 rfl rfl (by decide) (by decide) rfl fl_11_18 ?_
  refine a_aload_n dX11_text_13 rfl ?_
  refine a_iconst (v := 0) dX11_text_14 (by decide) ?_
  refine a_putI (ci := 11) (j := 2) dX11_text_15 rfl rfl (by decide) (by decide) rfl fl_11_11 ?_
  refine a_aload_n dX11_text_18 rfl ?_
  refine a_iconst (v := 0) dX11_text_19 (by decide) ?_
  refine a_putI (ci := 11) (j := 8) dX11_text_20 rfl rfl (by decide) (by decide) rfl fl_11_60 ?_
  refine a_aload_n dX11_text_23 rfl ?_
  refine a_iconst (v := 0) dX11_text_24 (by decide) ?_
  refine a_putI (ci := 11) (j := 4) dX11_text_25 rfl rfl (by decide) (by decide) rfl fl_11_21 ?_
  refine a_iconst (v := 0) dX11_text_28 (by decide) ?_
  refine a_istore_n dX11_text_29 (by decide) rfl ?_
  dsimp only [lset]
  refine a_iconst (v := 0) dX11_text_30 (by decide) ?_
  refine a_istore_n dX11_text_31 (by decide) rfl ?_
  dsimp only [lset]
  simp (disch := decide) only [pH_o, up_2, up_c]
  rw [show pH h (upd (upd (upd (upd (upd o 0 0) 2 0) 3 (nI L)) 4 0) 8 0) w r = pH h (upd (upd (upd (upd (upd o 0 0) 2 0) 3 (nI L)) 4 0) 8 0) w (zr 0 r) by rw [zr_0]]
  refine l11_tx32 0 (by omega) ?_
  refine a_aload_n dX11_text_52 rfl ?_
  refine a_getR (ci := 11) (j := 12) dX11_text_53 rfl rfl (by decide) rfl fl_11_75 ?_
  refine a_iconst (v := 1) dX11_text_56 (by decide) ?_
  refine a_iconst (v := 1) dX11_text_57 (by decide) ?_
  refine a_iastore dX11_text_58 rfl (by rw [vp_in_iff]; decide) ?_
  refine a_aload_n dX11_text_59 rfl ?_
  simp only [cl1, pH_r]
  refine a_cV0v dX11_text_60 ml_11_110 wv_11_go rfl rfl (by decide) (Nat.le_of_ble_eq_true rfl) (c11_go (L := L) (p := 0) (by simp (disch := decide) only [up_ne, up_eq]) h740 (by omega) (by simp (disch := decide) only [up_ne, up_eq]; rfl) ⟨rfl, rfl⟩) ?_
  try simp (disch := first | decide | assumption | omega) only [ui_eq, ui_k, ui_j, ui_b, ui_2, ul_1, ul_eq, ul_k, ul_j, ul_b, pH_g, pH_gr, pH_gw, pH_gt, pH_o, pH_r, pH_w, up_eq, up_ne, up_2, up_c, hL, cl1]
  exact l11_tx (x := 631) (n := 0) (s := goP (h.1 3 1) L (tx0 L o w r)) 742 (tx0_go h740 _ o w r) (by omega) (by omega) hQ
theorem c11_text {l : Launch} {G : GG} {h : AH} {Q : Option Value → AH → Prop} {L : Nat} (hL : h.1 3 0 2 = nI L) (h740 : L ≤ 740) (hQ : Q (some (.int (mText h L).1)) (mText h L).2) : Ct l G 6 yX11_text cX11_text 3 (some .int) [.ref (G.1 3 0)] h Q := by
  have e := c11_textP (l := l) (G := G) (h := h) (Q := Q) (o := h.1 3 0) (w := h.2 3 0 10) (r := h.1 3 3) hL h740 hQ
  rw [pH_self] at e
  exact e
