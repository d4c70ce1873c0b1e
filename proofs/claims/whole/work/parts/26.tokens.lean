/-! Tokens -/
def letF (x : Int32) : Int32 := if x < 97 then 0 else if 122 < x then 0 else 1
def digF (x : Int32) : Int32 := if x < 48 then 0 else if 57 < x then 0 else 1
def tpF (h : AH) : Nat → Int32 := fun p => atF h (nI p)
theorem atF_k {h : AH} {k j : Nat} {v : Int32} (h1 : k ≠ 1) (h2 : k ≠ 2) : atF (ui h 0 k j v) = atF h := by
  funext x
  simp only [atF]
  rw [ui_k (Ne.symm h1), ui_k (Ne.symm h2)]
theorem tpF_k {h : AH} {k j : Nat} {v : Int32} (h1 : k ≠ 1) (h2 : k ≠ 2) : tpF (ui h 0 k j v) = tpF h := by
  funext p
  simp only [tpF, atF_k h1 h2]
def skG (t : Nat → Int32) : Nat → Nat → Nat
  | 0, p => p
  | f + 1, p => if t p = 32 then skG t f (p + 1) else if t p = 10 then skG t f (p + 1) else p
theorem skG_le (t : Nat → Int32) (f : Nat) : ∀ p, skG t f p ≤ p + f := by
  induction f with
  | zero => intro p; exact Nat.le_refl _
  | succ f ih =>
    intro p
    unfold skG
    split
    · have := ih (p + 1); omega
    · split
      · have := ih (p + 1); omega
      · omega
abbrev R4 : Type := Int32 × Int32 × Int32 × Nat
/-- letters, digits, their sum, and the place behind -/
def runG (t : Nat → Int32) : Nat → R4 → R4
  | 0, s => s
  | f + 1, s => if letF (t s.2.2.2) = 0 then (if digF (t s.2.2.2) = 0 then s else runG t f (s.1, s.2.1 + 1, s.2.2.1 * 10 + t s.2.2.2 - 48, s.2.2.2 + 1)) else runG t f (s.1 + 1, s.2.1, s.2.2.1, s.2.2.2 + 1)
theorem runG_le (t : Nat → Int32) (f : Nat) : ∀ s : R4, (runG t f s).2.2.2 ≤ s.2.2.2 + f := by
  induction f with
  | zero => intro s; exact Nat.le_refl _
  | succ f ih =>
    intro s
    unfold runG
    split
    · split
      · omega
      · refine Nat.le_trans (ih _) ?_
        show s.2.2.2 + 1 + f ≤ _
        omega
    · refine Nat.le_trans (ih _) ?_
      show s.2.2.2 + 1 + f ≤ _
      omega
def runK (s : R4) : Int32 := if s.2.1 = 0 then 1 else if s.1 = 0 then (if 2 < s.2.1 then 4 else 2) else 4
def runF (h : AH) (L p : Nat) : AH := ui (ui (ui h 0 3 3 (nI (runG (tpF h) (L - p) (0, 0, 0, p)).2.2.2)) 0 3 4 (runG (tpF h) (L - p) (0, 0, 0, p)).2.2.1) 0 3 1 (runK (runG (tpF h) (L - p) (0, 0, 0, p)))
def limF (L : Nat) : Nat := if 700 < L then 700 else L
/-- advance(), with the tape's length L and the place p behind the last token -/
def advF (h : AH) (L p : Nat) : AH :=
  let q := skG (tpF h) (L - p) p
  let h1 := ui h 0 3 2 (nI q)
  if q < limF L then
    (if letF (tpF h q) = 0 then (if digF (tpF h q) = 0 then ui (ui h1 0 3 3 (nI (q + 1))) 0 3 1 (if tpF h q = 59 then 3 else 4) else runF h1 L q) else runF h1 L q)
  else ui (ui (ui h1 0 3 2 (nI (limF L))) 0 3 3 (nI (limF L))) 0 3 1 0
def wordG (t : Nat → Int32) (i p : Nat) : Nat → Nat → Int32
  | 0, _ => 1
  | f + 1, k => if t (p + k) = chI i k then wordG t i p f (k + 1) else 0
def wordF (h : AH) (p : Nat) (i : Nat) : Int32 := if h.1 0 3 1 = 1 then (if h.1 0 3 3 - nI p = nI (lenS.getD i 0) then wordG (tpF h) i p (lenS.getD i 0) 0 else 0) else 0
theorem wordG_01 (t : Nat → Int32) (i p : Nat) (f : Nat) : ∀ k, wordG t i p f k = 0 ∨ wordG t i p f k = 1 := by
  induction f with
  | zero => intro k; exact Or.inr rfl
  | succ f ih =>
    intro k
    unfold wordG
    split
    · exact ih _
    · exact Or.inl rfl
theorem c8_isLetter {l : Launch} {G : GG} {h : AH} {Q : Option Value → AH → Prop} {x : Int32} (hQ : Q (some (.int (letF x))) h) : Ct l G 0 yX8_isLetter cX8_isLetter 1 (some .boolean) [.int x] h Q := by
  refine Ct.of (by decide) (Nat.le_of_ble_eq_true rfl) ?_
  show AW l G 0 RX8 cX8_isLetter 1 (some .boolean) 0 [some (.int x)] [] h Q
  refine a_iload_n dX8_isLetter_0 rfl ?_
  refine a_bipush (v := 97) dX8_isLetter_1 (by decide) ?_
  refine a_icmp_lt dX8_isLetter_3 (tgt := 16) (by decide) (fun c3 => ?_) (fun c3 => ?_)
  · refine a_iconst (v := 0) dX8_isLetter_16 (by decide) ?_
    exact a_zret dX8_isLetter_17 rfl rfl (by simp only [letF, c3, if_true, if_false, not_true_eq_false, not_false_eq_true, Classical.not_not] at hQ ⊢; exact hQ)
  · refine a_iload_n dX8_isLetter_6 rfl ?_
    refine a_bipush (v := 122) dX8_isLetter_7 (by decide) ?_
    refine a_icmp_gt dX8_isLetter_9 (tgt := 16) (by decide) (fun c9 => ?_) (fun c9 => ?_)
    · refine a_iconst (v := 0) dX8_isLetter_16 (by decide) ?_
      exact a_zret dX8_isLetter_17 rfl rfl (by simp only [letF, c3, c9, if_true, if_false, not_true_eq_false, not_false_eq_true, Classical.not_not] at hQ ⊢; exact hQ)
    · refine a_iconst (v := 1) dX8_isLetter_12 (by decide) ?_
      refine a_goto dX8_isLetter_13 (tgt := 17) (by decide) ?_
      exact a_zret dX8_isLetter_17 rfl rfl (by simp only [letF, c3, c9, if_true, if_false, not_true_eq_false, not_false_eq_true, Classical.not_not] at hQ ⊢; exact hQ)
theorem c8_isDigit {l : Launch} {G : GG} {h : AH} {Q : Option Value → AH → Prop} {x : Int32} (hQ : Q (some (.int (digF x))) h) : Ct l G 0 yX8_isDigit cX8_isDigit 1 (some .boolean) [.int x] h Q := by
  refine Ct.of (by decide) (Nat.le_of_ble_eq_true rfl) ?_
  show AW l G 0 RX8 cX8_isDigit 1 (some .boolean) 0 [some (.int x)] [] h Q
  refine a_iload_n dX8_isDigit_0 rfl ?_
  refine a_bipush (v := 48) dX8_isDigit_1 (by decide) ?_
  refine a_icmp_lt dX8_isDigit_3 (tgt := 16) (by decide) (fun c3 => ?_) (fun c3 => ?_)
  · refine a_iconst (v := 0) dX8_isDigit_16 (by decide) ?_
    exact a_zret dX8_isDigit_17 rfl rfl (by simp only [digF, c3, if_true, if_false, not_true_eq_false, not_false_eq_true, Classical.not_not] at hQ ⊢; exact hQ)
  · refine a_iload_n dX8_isDigit_6 rfl ?_
    refine a_bipush (v := 57) dX8_isDigit_7 (by decide) ?_
    refine a_icmp_gt dX8_isDigit_9 (tgt := 16) (by decide) (fun c9 => ?_) (fun c9 => ?_)
    · refine a_iconst (v := 0) dX8_isDigit_16 (by decide) ?_
      exact a_zret dX8_isDigit_17 rfl rfl (by simp only [digF, c3, c9, if_true, if_false, not_true_eq_false, not_false_eq_true, Classical.not_not] at hQ ⊢; exact hQ)
    · refine a_iconst (v := 1) dX8_isDigit_12 (by decide) ?_
      refine a_goto dX8_isDigit_13 (tgt := 17) (by decide) ?_
      exact a_zret dX8_isDigit_17 rfl rfl (by simp only [digF, c3, c9, if_true, if_false, not_true_eq_false, not_false_eq_true, Classical.not_not] at hQ ⊢; exact hQ)
theorem l8_sk {l : Launch} {G : GG} {h : AH} {Q : Option Value → AH → Prop} {L : Nat} (hL : h.1 0 1 1 = nI L) (h740 : L ≤ 740) {x : Int32} (p : Nat) (hp : p ≤ 1000) (hQ : Q (some (.int (nI (skG (tpF h) (L - p) p)))) h) : AW l G 1 RX8 cX8_skipBlanks 3 (some .int) 2 [some (.ref (G.1 0 3)), some (.int x), some (.int (nI p))] [] h Q := by
  refine a_iload_n dX8_skipBlanks_2 rfl ?_
  refine a_aload_n dX8_skipBlanks_3 rfl ?_
  refine a_getR (ci := 8) (j := 0) dX8_skipBlanks_4 rfl rfl (by decide) rfl fl_8_9 ?_
  refine a_getI (ci := 7) (j := 1) dX8_skipBlanks_7 rfl rfl (by decide) rfl fl_8_22 ?_
  try simp (disch := first | decide | assumption | omega) only [ui_eq, ui_k, ui_j, ui_b, ui_2, ul_1, ul_eq, ul_k, ul_j, ul_b, hL]
  refine a_icmp_ge dX8_skipBlanks_10 (tgt := 45) (by decide) (fun c10 => ?_) (fun c10 => ?_)
  · have hge : L ≤ p := le_of_le c10 (by omega) (by omega)
    rw [show L - p = 0 by omega, skG] at hQ
    refine a_iload_n dX8_skipBlanks_45 rfl ?_
    exact a_iret dX8_skipBlanks_46 rfl (by
  first
    | exact hQ
    | (rw [if_neg (show ¬ tpF h p = 32 from c23), if_neg (show ¬ tpF h p = 10 from c36)] at hQ; exact hQ))
  · have hlt : p < L := lt_of_nle c10 (by omega) (by omega)
    rw [show L - p = (L - (p + 1)) + 1 by omega, skG] at hQ
    refine a_aload_n dX8_skipBlanks_13 rfl ?_
    refine a_getR (ci := 8) (j := 0) dX8_skipBlanks_14 rfl rfl (by decide) rfl fl_8_9 ?_
    refine a_iload_n dX8_skipBlanks_17 rfl ?_
    refine a_cV1i dX8_skipBlanks_18 ml_8_43 wv_7_at rfl rfl (by decide) (Nat.le_of_ble_eq_true rfl) (c7_at ⟨rfl, rfl⟩) ?_
    try simp (disch := first | decide | assumption | omega) only [ui_eq, ui_k, ui_j, ui_b, ui_2, ul_1, ul_eq, ul_k, ul_j, ul_b, hL]
    refine a_bipush (v := 32) dX8_skipBlanks_21 (by decide) ?_
    refine a_icmp_eq dX8_skipBlanks_23 (tgt := 39) (by decide) (fun c23 => ?_) (fun c23 => ?_)
    · refine a_inc (c := 1) dX8_skipBlanks_39 rfl (by decide) (by decide) rfl ?_
      dsimp only [lset]
      refine a_goto dX8_skipBlanks_42 (tgt := 2) (by decide) ?_
      rw [nI_1]
      first
        | (rw [if_pos (show tpF h p = 32 from c23)] at hQ; exact l8_sk hL h740 (p + 1) (by omega) hQ)
        | (rw [if_neg (show ¬ tpF h p = 32 from c23), if_pos (show tpF h p = 10 from c36)] at hQ; exact l8_sk hL h740 (p + 1) (by omega) hQ)
    · refine a_aload_n dX8_skipBlanks_26 rfl ?_
      refine a_getR (ci := 8) (j := 0) dX8_skipBlanks_27 rfl rfl (by decide) rfl fl_8_9 ?_
      refine a_iload_n dX8_skipBlanks_30 rfl ?_
      refine a_cV1i dX8_skipBlanks_31 ml_8_43 wv_7_at rfl rfl (by decide) (Nat.le_of_ble_eq_true rfl) (c7_at ⟨rfl, rfl⟩) ?_
      try simp (disch := first | decide | assumption | omega) only [ui_eq, ui_k, ui_j, ui_b, ui_2, ul_1, ul_eq, ul_k, ul_j, ul_b, hL]
      refine a_bipush (v := 10) dX8_skipBlanks_34 (by decide) ?_
      refine a_icmp_ne dX8_skipBlanks_36 (tgt := 45) (by decide) (fun c36 => ?_) (fun c36 => ?_)
      · refine a_iload_n dX8_skipBlanks_45 rfl ?_
        exact a_iret dX8_skipBlanks_46 rfl (by
  first
    | exact hQ
    | (rw [if_neg (show ¬ tpF h p = 32 from c23), if_neg (show ¬ tpF h p = 10 from c36)] at hQ; exact hQ))
      · refine a_inc (c := 1) dX8_skipBlanks_39 rfl (by decide) (by decide) rfl ?_
        dsimp only [lset]
        refine a_goto dX8_skipBlanks_42 (tgt := 2) (by decide) ?_
        rw [nI_1]
        first
          | (rw [if_pos (show tpF h p = 32 from c23)] at hQ; exact l8_sk hL h740 (p + 1) (by omega) hQ)
          | (rw [if_neg (show ¬ tpF h p = 32 from c23), if_pos (show tpF h p = 10 from c36)] at hQ; exact l8_sk hL h740 (p + 1) (by omega) hQ)
termination_by L - p
decreasing_by all_goals omega
theorem c8_skipBlanks {l : Launch} {G : GG} {h : AH} {Q : Option Value → AH → Prop} {L : Nat} (hL : h.1 0 1 1 = nI L) (h740 : L ≤ 740) {p : Nat} (hp : p ≤ 1000) (hQ : Q (some (.int (nI (skG (tpF h) (L - p) p)))) h) : Ct l G 1 yX8_skipBlanks cX8_skipBlanks 3 (some .int) [.ref (G.1 0 3), .int (nI p)] h Q := by
  refine Ct.of (by decide) (Nat.le_of_ble_eq_true rfl) ?_
  show AW l G 1 RX8 cX8_skipBlanks 3 (some .int) 0 [some (.ref (G.1 0 3)), some (.int (nI p))] [] h Q
  refine a_iload_n dX8_skipBlanks_0 rfl ?_
  refine a_istore_n dX8_skipBlanks_1 (by decide) rfl ?_
  dsimp only [lset]
  exact l8_sk hL h740 p hp hQ
theorem l8_run {l : Launch} {G : GG} {h : AH} {Q : Option Value → AH → Prop} {L : Nat} (hL : h.1 0 1 1 = nI L) (h740 : L ≤ 740) (s : R4) (hp : s.2.2.2 ≤ 1000) (hQ : Q none (ui (ui (ui h 0 3 3 (nI (runG (tpF h) (L - s.2.2.2) s).2.2.2)) 0 3 4 (runG (tpF h) (L - s.2.2.2) s).2.2.1) 0 3 1 (runK (runG (tpF h) (L - s.2.2.2) s)))) : AW l G 1 RX8 cX8_readRun 6 none 12 [some (.ref (G.1 0 3)), some (.int s.1), some (.int s.2.1), some (.int s.2.2.1), some (.int (nI s.2.2.2))] [] h Q := by
  refine a_iload dX8_readRun_12 rfl ?_
  refine a_aload_n dX8_readRun_14 rfl ?_
  refine a_getR (ci := 8) (j := 0) dX8_readRun_15 rfl rfl (by decide) rfl fl_8_9 ?_
  refine a_getI (ci := 7) (j := 1) dX8_readRun_18 rfl rfl (by decide) rfl fl_8_22 ?_
  try simp (disch := first | decide | assumption | omega) only [ui_eq, ui_k, ui_j, ui_b, ui_2, ul_1, ul_eq, ul_k, ul_j, ul_b, hL]
  refine a_icmp_ge dX8_readRun_21 (tgt := 77) (by decide) (fun c21 => ?_) (fun c21 => ?_)
  · have hge : L ≤ s.2.2.2 := le_of_le c21 (by omega) (by omega)
    rw [show L - s.2.2.2 = 0 by omega, runG] at hQ
    refine a_aload_n dX8_readRun_77 rfl ?_
    refine a_iload dX8_readRun_78 rfl ?_
    refine a_putI (ci := 8) (j := 3) dX8_readRun_80 rfl rfl (by decide) (by decide) rfl fl_8_15 ?_
    refine a_aload_n dX8_readRun_83 rfl ?_
    refine a_iload_n dX8_readRun_84 rfl ?_
    refine a_putI (ci := 8) (j := 4) dX8_readRun_85 rfl rfl (by decide) (by decide) rfl fl_8_65 ?_
    refine a_iload_n dX8_readRun_88 rfl ?_
    refine a_if_ne dX8_readRun_89 (tgt := 100) (by decide) (fun c89 => ?_) (fun c89 => ?_)
    · refine a_aload_n dX8_readRun_100 rfl ?_
      refine a_iload_n dX8_readRun_101 rfl ?_
      refine a_if_ne dX8_readRun_102 (tgt := 114) (by decide) (fun c102 => ?_) (fun c102 => ?_)
      · refine a_iconst (v := 4) dX8_readRun_114 (by decide) ?_
        refine a_putI (ci := 8) (j := 1) dX8_readRun_115 rfl rfl (by decide) (by decide) rfl fl_8_40 ?_
        exact a_vret dX8_readRun_118 rfl (by simp only [runK, c21, c89, c102, if_true, if_false] at hQ; exact hQ)
      · refine a_iload_n dX8_readRun_105 rfl ?_
        refine a_iconst (v := 2) dX8_readRun_106 (by decide) ?_
        refine a_icmp_gt dX8_readRun_107 (tgt := 114) (by decide) (fun c107 => ?_) (fun c107 => ?_)
        · refine a_iconst (v := 4) dX8_readRun_114 (by decide) ?_
          refine a_putI (ci := 8) (j := 1) dX8_readRun_115 rfl rfl (by decide) (by decide) rfl fl_8_40 ?_
          exact a_vret dX8_readRun_118 rfl (by simp only [runK, c21, c89, c102, c107, if_true, if_false] at hQ; exact hQ)
        · refine a_iconst (v := 2) dX8_readRun_110 (by decide) ?_
          refine a_goto dX8_readRun_111 (tgt := 115) (by decide) ?_
          refine a_putI (ci := 8) (j := 1) dX8_readRun_115 rfl rfl (by decide) (by decide) rfl fl_8_40 ?_
          exact a_vret dX8_readRun_118 rfl (by simp only [runK, c21, c89, c102, c107, if_true, if_false] at hQ; exact hQ)
    · refine a_aload_n dX8_readRun_92 rfl ?_
      refine a_iconst (v := 1) dX8_readRun_93 (by decide) ?_
      refine a_putI (ci := 8) (j := 1) dX8_readRun_94 rfl rfl (by decide) (by decide) rfl fl_8_40 ?_
      refine a_goto dX8_readRun_97 (tgt := 118) (by decide) ?_
      exact a_vret dX8_readRun_118 rfl (by simp only [runK, c21, c89, if_true, if_false] at hQ; exact hQ)
  · have hlt : s.2.2.2 < L := lt_of_nle c21 (by omega) (by omega)
    rw [show L - s.2.2.2 = (L - (s.2.2.2 + 1)) + 1 by omega, runG] at hQ
    refine a_aload_n dX8_readRun_24 rfl ?_
    refine a_getR (ci := 8) (j := 0) dX8_readRun_25 rfl rfl (by decide) rfl fl_8_9 ?_
    refine a_iload dX8_readRun_28 rfl ?_
    refine a_cV1i dX8_readRun_30 ml_8_43 wv_7_at rfl rfl (by decide) (Nat.le_of_ble_eq_true rfl) (c7_at ⟨rfl, rfl⟩) ?_
    try simp (disch := first | decide | assumption | omega) only [ui_eq, ui_k, ui_j, ui_b, ui_2, ul_1, ul_eq, ul_k, ul_j, ul_b, hL]
    refine a_istore dX8_readRun_33 (by decide) rfl ?_
    dsimp only [lset]
    refine a_iload dX8_readRun_35 rfl ?_
    refine a_cS1i dX8_readRun_37 ml_8_46 ws_8_isLetter (by decide) (Nat.le_of_ble_eq_true rfl) (c8_isLetter ⟨rfl, rfl⟩) ?_
    try simp (disch := first | decide | assumption | omega) only [ui_eq, ui_k, ui_j, ui_b, ui_2, ul_1, ul_eq, ul_k, ul_j, ul_b, hL]
    refine a_if_eq dX8_readRun_40 (tgt := 49) (by decide) (fun c40 => ?_) (fun c40 => ?_)
    · refine a_iload dX8_readRun_49 rfl ?_
      refine a_cS1i dX8_readRun_51 ml_8_50 ws_8_isDigit (by decide) (Nat.le_of_ble_eq_true rfl) (c8_isDigit ⟨rfl, rfl⟩) ?_
      try simp (disch := first | decide | assumption | omega) only [ui_eq, ui_k, ui_j, ui_b, ui_2, ul_1, ul_eq, ul_k, ul_j, ul_b, hL]
      refine a_if_eq dX8_readRun_54 (tgt := 77) (by decide) (fun c54 => ?_) (fun c54 => ?_)
      · rw [if_pos (show letF (tpF h s.2.2.2) = 0 from c40), if_pos (show digF (tpF h s.2.2.2) = 0 from c54)] at hQ
        refine a_aload_n dX8_readRun_77 rfl ?_
        refine a_iload dX8_readRun_78 rfl ?_
        refine a_putI (ci := 8) (j := 3) dX8_readRun_80 rfl rfl (by decide) (by decide) rfl fl_8_15 ?_
        refine a_aload_n dX8_readRun_83 rfl ?_
        refine a_iload_n dX8_readRun_84 rfl ?_
        refine a_putI (ci := 8) (j := 4) dX8_readRun_85 rfl rfl (by decide) (by decide) rfl fl_8_65 ?_
        refine a_iload_n dX8_readRun_88 rfl ?_
        refine a_if_ne dX8_readRun_89 (tgt := 100) (by decide) (fun c89v2 => ?_) (fun c89v2 => ?_)
        · refine a_aload_n dX8_readRun_100 rfl ?_
          refine a_iload_n dX8_readRun_101 rfl ?_
          refine a_if_ne dX8_readRun_102 (tgt := 114) (by decide) (fun c102v2 => ?_) (fun c102v2 => ?_)
          · refine a_iconst (v := 4) dX8_readRun_114 (by decide) ?_
            refine a_putI (ci := 8) (j := 1) dX8_readRun_115 rfl rfl (by decide) (by decide) rfl fl_8_40 ?_
            exact a_vret dX8_readRun_118 rfl (by simp only [runK, c21, c40, c54, c89v2, c102v2, if_true, if_false] at hQ; exact hQ)
          · refine a_iload_n dX8_readRun_105 rfl ?_
            refine a_iconst (v := 2) dX8_readRun_106 (by decide) ?_
            refine a_icmp_gt dX8_readRun_107 (tgt := 114) (by decide) (fun c107v2 => ?_) (fun c107v2 => ?_)
            · refine a_iconst (v := 4) dX8_readRun_114 (by decide) ?_
              refine a_putI (ci := 8) (j := 1) dX8_readRun_115 rfl rfl (by decide) (by decide) rfl fl_8_40 ?_
              exact a_vret dX8_readRun_118 rfl (by simp only [runK, c21, c40, c54, c89v2, c102v2, c107v2, if_true, if_false] at hQ; exact hQ)
            · refine a_iconst (v := 2) dX8_readRun_110 (by decide) ?_
              refine a_goto dX8_readRun_111 (tgt := 115) (by decide) ?_
              refine a_putI (ci := 8) (j := 1) dX8_readRun_115 rfl rfl (by decide) (by decide) rfl fl_8_40 ?_
              exact a_vret dX8_readRun_118 rfl (by simp only [runK, c21, c40, c54, c89v2, c102v2, c107v2, if_true, if_false] at hQ; exact hQ)
        · refine a_aload_n dX8_readRun_92 rfl ?_
          refine a_iconst (v := 1) dX8_readRun_93 (by decide) ?_
          refine a_putI (ci := 8) (j := 1) dX8_readRun_94 rfl rfl (by decide) (by decide) rfl fl_8_40 ?_
          refine a_goto dX8_readRun_97 (tgt := 118) (by decide) ?_
          exact a_vret dX8_readRun_118 rfl (by simp only [runK, c21, c40, c54, c89v2, if_true, if_false] at hQ; exact hQ)
      · rw [if_pos (show letF (tpF h s.2.2.2) = 0 from c40), if_neg (show ¬ digF (tpF h s.2.2.2) = 0 from c54)] at hQ
        refine a_inc (c := 1) dX8_readRun_57 rfl (by decide) (by decide) rfl ?_
        dsimp only [lset]
        refine a_iload_n dX8_readRun_60 rfl ?_
        refine a_bipush (v := 10) dX8_readRun_61 (by decide) ?_
        refine a_imul dX8_readRun_63 ?_
        refine a_iload dX8_readRun_64 rfl ?_
        refine a_iadd dX8_readRun_66 ?_
        refine a_bipush (v := 48) dX8_readRun_67 (by decide) ?_
        refine a_isub dX8_readRun_69 ?_
        refine a_istore_n dX8_readRun_70 (by decide) rfl ?_
        dsimp only [lset]
        refine a_inc (c := 1) dX8_readRun_71 rfl (by decide) (by decide) rfl ?_
        dsimp only [lset]
        refine a_goto dX8_readRun_74 (tgt := 12) (by decide) ?_
        refine a_take 5 ?_
        dsimp only [List.take]
        rw [nI_1]
        first
          | exact l8_run hL h740 (s.1 + 1, s.2.1, s.2.2.1, s.2.2.2 + 1) (by show s.2.2.2 + 1 ≤ 1000; omega) hQ
          | exact l8_run hL h740 (s.1, s.2.1 + 1, s.2.2.1 * 10 + tpF h s.2.2.2 - 48, s.2.2.2 + 1) (by show s.2.2.2 + 1 ≤ 1000; omega) hQ
    · rw [if_neg (show ¬ letF (tpF h s.2.2.2) = 0 from c40)] at hQ
      refine a_inc (c := 1) dX8_readRun_43 rfl (by decide) (by decide) rfl ?_
      dsimp only [lset]
      refine a_goto dX8_readRun_46 (tgt := 71) (by decide) ?_
      refine a_inc (c := 1) dX8_readRun_71 rfl (by decide) (by decide) rfl ?_
      dsimp only [lset]
      refine a_goto dX8_readRun_74 (tgt := 12) (by decide) ?_
      refine a_take 5 ?_
      dsimp only [List.take]
      rw [nI_1]
      first
        | exact l8_run hL h740 (s.1 + 1, s.2.1, s.2.2.1, s.2.2.2 + 1) (by show s.2.2.2 + 1 ≤ 1000; omega) hQ
        | exact l8_run hL h740 (s.1, s.2.1 + 1, s.2.2.1 * 10 + tpF h s.2.2.2 - 48, s.2.2.2 + 1) (by show s.2.2.2 + 1 ≤ 1000; omega) hQ
termination_by L - s.2.2.2
decreasing_by all_goals omega
theorem c8_readRun {l : Launch} {G : GG} {h : AH} {Q : Option Value → AH → Prop} {L : Nat} (hL : h.1 0 1 1 = nI L) (h740 : L ≤ 740) {p : Nat} (hp : p ≤ 1000) (hs : h.1 0 3 2 = nI p) (hQ : Q none (runF h L p)) : Ct l G 1 yX8_readRun cX8_readRun 6 none [.ref (G.1 0 3)] h Q := by
  refine Ct.of (by decide) (Nat.le_of_ble_eq_true rfl) ?_
  show AW l G 1 RX8 cX8_readRun 6 none 0 [some (.ref (G.1 0 3))] [] h Q
  refine a_iconst (v := 0) dX8_readRun_0 (by decide) ?_
  refine a_istore_n dX8_readRun_1 (by decide) rfl ?_
  dsimp only [lset]
  refine a_iconst (v := 0) dX8_readRun_2 (by decide) ?_
  refine a_istore_n dX8_readRun_3 (by decide) rfl ?_
  dsimp only [lset]
  refine a_iconst (v := 0) dX8_readRun_4 (by decide) ?_
  refine a_istore_n dX8_readRun_5 (by decide) rfl ?_
  dsimp only [lset]
  refine a_aload_n dX8_readRun_6 rfl ?_
  refine a_getI (ci := 8) (j := 2) dX8_readRun_7 rfl rfl (by decide) rfl fl_8_31 ?_
  try simp (disch := first | decide | assumption | omega) only [ui_eq, ui_k, ui_j, ui_b, ui_2, ul_1, ul_eq, ul_k, ul_j, ul_b, hs]
  refine a_istore dX8_readRun_10 (by decide) rfl ?_
  dsimp only [lset]
  exact l8_run hL h740 (0, 0, 0, p) hp hQ
theorem lim_eq (L : Nat) (h : L ≤ 740) : (if (700 : Int32) < nI L then (700 : Int32) else nI L) = nI (limF L) := by
  unfold limF
  show (if nI 700 < nI L then nI 700 else nI L) = _
  by_cases q : 700 < L
  · rw [if_pos ((nI_ltI (a := 700) (by decide) (by omega)).mpr q), if_pos q]
  · rw [if_neg (fun z => q ((nI_ltI (a := 700) (by decide) (by omega)).mp z)), if_neg q]
theorem limF_le (L : Nat) : limF L ≤ L ∧ limF L ≤ 700 := by
  unfold limF
  split <;> omega
theorem c8_advance {l : Launch} {G : GG} {h : AH} {Q : Option Value → AH → Prop} {L : Nat} (hL : h.1 0 1 1 = nI L) (h740 : L ≤ 740) {p : Nat} (hp : p ≤ 740) (hs : h.1 0 3 3 = nI p) (hQ : Q none (advF h L p)) : Ct l G 2 yX8_advance cX8_advance 3 none [.ref (G.1 0 3)] h Q := by
  refine Ct.of (by decide) (Nat.le_of_ble_eq_true rfl) ?_
  show AW l G 2 RX8 cX8_advance 3 none 0 [some (.ref (G.1 0 3))] [] h Q
  have hqle := skG_le (tpF h) (L - p) p
  have hll := limF_le L
  have et : ∀ v, tpF (ui h 0 3 2 v) = tpF h := fun v => tpF_k (by decide) (by decide)
  refine a_aload_n dX8_advance_0 rfl ?_
  refine a_aload_n dX8_advance_1 rfl ?_
  refine a_aload_n dX8_advance_2 rfl ?_
  refine a_getI (ci := 8) (j := 3) dX8_advance_3 rfl rfl (by decide) rfl fl_8_15 ?_
  try simp (disch := first | decide | assumption | omega) only [ui_eq, ui_k, ui_j, ui_b, ui_2, ul_1, ul_eq, ul_k, ul_j, ul_b, hs, hL, lim_eq L h740, nI_1]
  refine a_cV1i dX8_advance_6 ml_8_27 wv_8_skipBlanks rfl rfl (by decide) (Nat.le_of_ble_eq_true rfl) (c8_skipBlanks hL h740 (by omega) ⟨rfl, rfl⟩) ?_
  try simp (disch := first | decide | assumption | omega) only [ui_eq, ui_k, ui_j, ui_b, ui_2, ul_1, ul_eq, ul_k, ul_j, ul_b, hs, hL, lim_eq L h740, nI_1]
  refine a_putI (ci := 8) (j := 2) dX8_advance_9 rfl rfl (by decide) (by decide) rfl fl_8_31 ?_
  refine a_aload_n dX8_advance_12 rfl ?_
  refine a_getR (ci := 8) (j := 0) dX8_advance_13 rfl rfl (by decide) rfl fl_8_9 ?_
  refine a_getI (ci := 7) (j := 1) dX8_advance_16 rfl rfl (by decide) rfl fl_8_22 ?_
  try simp (disch := first | decide | assumption | omega) only [ui_eq, ui_k, ui_j, ui_b, ui_2, ul_1, ul_eq, ul_k, ul_j, ul_b, hs, hL, lim_eq L h740, nI_1]
  refine a_sipush (v := 700) dX8_advance_19 (by decide) ?_
  refine a_mmin dX8_advance_22 ml_8_34 (by decide) (Nat.le_of_ble_eq_true rfl) ?_
  refine a_istore_n dX8_advance_25 (by decide) rfl ?_
  dsimp only [lset]
  refine a_aload_n dX8_advance_26 rfl ?_
  refine a_getI (ci := 8) (j := 2) dX8_advance_27 rfl rfl (by decide) rfl fl_8_31 ?_
  try simp (disch := first | decide | assumption | omega) only [ui_eq, ui_k, ui_j, ui_b, ui_2, ul_1, ul_eq, ul_k, ul_j, ul_b, hs, hL, lim_eq L h740, nI_1]
  refine a_iload_n dX8_advance_30 rfl ?_
  refine a_icmp_lt dX8_advance_31 (tgt := 50) (by decide) (fun c31 => ?_) (fun c31 => ?_)
  · have hq : skG (tpF h) (L - p) p < limF L := (nI_ltI (by omega) (by omega)).mp c31
    refine a_aload_n dX8_advance_50 rfl ?_
    refine a_getR (ci := 8) (j := 0) dX8_advance_51 rfl rfl (by decide) rfl fl_8_9 ?_
    refine a_aload_n dX8_advance_54 rfl ?_
    refine a_getI (ci := 8) (j := 2) dX8_advance_55 rfl rfl (by decide) rfl fl_8_31 ?_
    try simp (disch := first | decide | assumption | omega) only [ui_eq, ui_k, ui_j, ui_b, ui_2, ul_1, ul_eq, ul_k, ul_j, ul_b, hs, hL, lim_eq L h740, nI_1]
    refine a_cV1i dX8_advance_58 ml_8_43 wv_7_at rfl rfl (by decide) (Nat.le_of_ble_eq_true rfl) (c7_at ⟨rfl, rfl⟩) ?_
    try simp (disch := first | decide | assumption | omega) only [ui_eq, ui_k, ui_j, ui_b, ui_2, ul_1, ul_eq, ul_k, ul_j, ul_b, hs, hL, lim_eq L h740, nI_1]
    refine a_istore_n dX8_advance_61 (by decide) rfl ?_
    dsimp only [lset]
    refine a_iload_n dX8_advance_62 rfl ?_
    refine a_cS1i dX8_advance_63 ml_8_46 ws_8_isLetter (by decide) (Nat.le_of_ble_eq_true rfl) (c8_isLetter ⟨rfl, rfl⟩) ?_
    try simp (disch := first | decide | assumption | omega) only [ui_eq, ui_k, ui_j, ui_b, ui_2, ul_1, ul_eq, ul_k, ul_j, ul_b, hs, hL, lim_eq L h740, nI_1]
    refine a_if_ne dX8_advance_66 (tgt := 76) (by decide) (fun c66 => ?_) (fun c66 => ?_)
    · refine a_aload_n dX8_advance_76 rfl ?_
      refine a_cV0v dX8_advance_77 ml_8_53 wv_8_readRun rfl rfl (by decide) (Nat.le_of_ble_eq_true rfl) (c8_readRun (L := L) (p := skG (tpF h) (L - p) p) (by rw [ui_k (by decide)]; exact hL) h740 (by omega) ui_eq ⟨rfl, rfl⟩) ?_
      try simp (disch := first | decide | assumption | omega) only [ui_eq, ui_k, ui_j, ui_b, ui_2, ul_1, ul_eq, ul_k, ul_j, ul_b, hs, hL, lim_eq L h740, nI_1]
      refine a_goto dX8_advance_80 (tgt := 108) (by decide) ?_
      exact a_vret dX8_advance_108 rfl (by
    have ea : ∀ v x, atF (ui h 0 3 2 v) x = atF h x := fun v x => by rw [atF_k (by decide) (by decide)]
    first
      | (simp only [advF, hq, if_true, if_false, nI_1] at hQ ⊢; exact hQ)
      | (simp only [ea] at *; simp only [advF, hq, if_true, if_false, nI_1, tpF, c31, c66] at hQ ⊢; exact hQ))
    · refine a_iload_n dX8_advance_69 rfl ?_
      refine a_cS1i dX8_advance_70 ml_8_50 ws_8_isDigit (by decide) (Nat.le_of_ble_eq_true rfl) (c8_isDigit ⟨rfl, rfl⟩) ?_
      try simp (disch := first | decide | assumption | omega) only [ui_eq, ui_k, ui_j, ui_b, ui_2, ul_1, ul_eq, ul_k, ul_j, ul_b, hs, hL, lim_eq L h740, nI_1]
      refine a_if_eq dX8_advance_73 (tgt := 83) (by decide) (fun c73 => ?_) (fun c73 => ?_)
      · refine a_aload_n dX8_advance_83 rfl ?_
        refine a_aload_n dX8_advance_84 rfl ?_
        refine a_getI (ci := 8) (j := 2) dX8_advance_85 rfl rfl (by decide) rfl fl_8_31 ?_
        try simp (disch := first | decide | assumption | omega) only [ui_eq, ui_k, ui_j, ui_b, ui_2, ul_1, ul_eq, ul_k, ul_j, ul_b, hs, hL, lim_eq L h740, nI_1]
        refine a_iconst (v := 1) dX8_advance_88 (by decide) ?_
        refine a_iadd dX8_advance_89 ?_
        refine a_putI (ci := 8) (j := 3) dX8_advance_90 rfl rfl (by decide) (by decide) rfl fl_8_15 ?_
        refine a_aload_n dX8_advance_93 rfl ?_
        refine a_iload_n dX8_advance_94 rfl ?_
        refine a_bipush (v := 59) dX8_advance_95 (by decide) ?_
        refine a_icmp_ne dX8_advance_97 (tgt := 104) (by decide) (fun c97 => ?_) (fun c97 => ?_)
        · refine a_iconst (v := 4) dX8_advance_104 (by decide) ?_
          refine a_putI (ci := 8) (j := 1) dX8_advance_105 rfl rfl (by decide) (by decide) rfl fl_8_40 ?_
          exact a_vret dX8_advance_108 rfl (by
    have ea : ∀ v x, atF (ui h 0 3 2 v) x = atF h x := fun v x => by rw [atF_k (by decide) (by decide)]
    first
      | (simp only [advF, hq, if_true, if_false, nI_1] at hQ ⊢; exact hQ)
      | (simp only [ea] at *; simp only [advF, hq, if_true, if_false, nI_1, tpF, c31, c66, c73, c97] at hQ ⊢; exact hQ))
        · refine a_iconst (v := 3) dX8_advance_100 (by decide) ?_
          refine a_goto dX8_advance_101 (tgt := 105) (by decide) ?_
          refine a_putI (ci := 8) (j := 1) dX8_advance_105 rfl rfl (by decide) (by decide) rfl fl_8_40 ?_
          exact a_vret dX8_advance_108 rfl (by
    have ea : ∀ v x, atF (ui h 0 3 2 v) x = atF h x := fun v x => by rw [atF_k (by decide) (by decide)]
    first
      | (simp only [advF, hq, if_true, if_false, nI_1] at hQ ⊢; exact hQ)
      | (simp only [ea] at *; simp only [advF, hq, if_true, if_false, nI_1, tpF, c31, c66, c73, c97] at hQ ⊢; exact hQ))
      · refine a_aload_n dX8_advance_76 rfl ?_
        refine a_cV0v dX8_advance_77 ml_8_53 wv_8_readRun rfl rfl (by decide) (Nat.le_of_ble_eq_true rfl) (c8_readRun (L := L) (p := skG (tpF h) (L - p) p) (by rw [ui_k (by decide)]; exact hL) h740 (by omega) ui_eq ⟨rfl, rfl⟩) ?_
        try simp (disch := first | decide | assumption | omega) only [ui_eq, ui_k, ui_j, ui_b, ui_2, ul_1, ul_eq, ul_k, ul_j, ul_b, hs, hL, lim_eq L h740, nI_1]
        refine a_goto dX8_advance_80 (tgt := 108) (by decide) ?_
        exact a_vret dX8_advance_108 rfl (by
    have ea : ∀ v x, atF (ui h 0 3 2 v) x = atF h x := fun v x => by rw [atF_k (by decide) (by decide)]
    first
      | (simp only [advF, hq, if_true, if_false, nI_1] at hQ ⊢; exact hQ)
      | (simp only [ea] at *; simp only [advF, hq, if_true, if_false, nI_1, tpF, c31, c66, c73] at hQ ⊢; exact hQ))
  · have hq : ¬ skG (tpF h) (L - p) p < limF L := fun z => c31 ((nI_ltI (by omega) (by omega)).mpr z)
    refine a_aload_n dX8_advance_34 rfl ?_
    refine a_iload_n dX8_advance_35 rfl ?_
    refine a_putI (ci := 8) (j := 2) dX8_advance_36 rfl rfl (by decide) (by decide) rfl fl_8_31 ?_
    refine a_aload_n dX8_advance_39 rfl ?_
    refine a_iload_n dX8_advance_40 rfl ?_
    refine a_putI (ci := 8) (j := 3) dX8_advance_41 rfl rfl (by decide) (by decide) rfl fl_8_15 ?_
    refine a_aload_n dX8_advance_44 rfl ?_
    refine a_iconst (v := 0) dX8_advance_45 (by decide) ?_
    refine a_putI (ci := 8) (j := 1) dX8_advance_46 rfl rfl (by decide) (by decide) rfl fl_8_40 ?_
    exact a_vret dX8_advance_49 rfl (by
    have ea : ∀ v x, atF (ui h 0 3 2 v) x = atF h x := fun v x => by rw [atF_k (by decide) (by decide)]
    first
      | (simp only [advF, hq, if_true, if_false, nI_1] at hQ ⊢; exact hQ)
      | (simp only [ea] at *; simp only [advF, hq, if_true, if_false, nI_1, tpF, c31] at hQ ⊢; exact hQ))
theorem c8_restart {l : Launch} {G : GG} {h : AH} {Q : Option Value → AH → Prop} {L : Nat} (hL : h.1 0 1 1 = nI L) (h740 : L ≤ 740) (hQ : Q none (advF (ui h 0 3 3 0) L 0)) : Ct l G 3 yX8_restart cX8_restart 1 none [.ref (G.1 0 3)] h Q := by
  refine Ct.of (by decide) (Nat.le_of_ble_eq_true rfl) ?_
  show AW l G 3 RX8 cX8_restart 1 none 0 [some (.ref (G.1 0 3))] [] h Q
  refine a_aload_n dX8_restart_0 rfl ?_
  refine a_iconst (v := 0) dX8_restart_1 (by decide) ?_
  refine a_putI (ci := 8) (j := 3) dX8_restart_2 rfl rfl (by decide) (by decide) rfl fl_8_15 ?_
  refine a_aload_n dX8_restart_5 rfl ?_
  refine a_cV0v dX8_restart_6 ml_8_19 wv_8_advance rfl rfl (by decide) (Nat.le_of_ble_eq_true rfl) (c8_advance (p := 0) (by rw [ui_k (by decide)]; exact hL) h740 (by omega) ui_eq ⟨rfl, rfl⟩) ?_
  try simp (disch := first | decide | assumption | omega) only [ui_eq, ui_k, ui_j, ui_b, ui_2, ul_1, ul_eq, ul_k, ul_j, ul_b]
  exact a_vret dX8_restart_9 rfl hQ
theorem c8_isTooLong {l : Launch} {G : GG} {h : AH} {Q : Option Value → AH → Prop}  (hQ : Q (some (.int (if h.1 0 1 1 ≤ 700 then 0 else 1))) h) : Ct l G 0 yX8_isTooLong cX8_isTooLong 1 (some .boolean) [.ref (G.1 0 3)] h Q := by
  refine Ct.of (by decide) (Nat.le_of_ble_eq_true rfl) ?_
  show AW l G 0 RX8 cX8_isTooLong 1 (some .boolean) 0 [some (.ref (G.1 0 3))] [] h Q
  refine a_aload_n dX8_isTooLong_0 rfl ?_
  refine a_getR (ci := 8) (j := 0) dX8_isTooLong_1 rfl rfl (by decide) rfl fl_8_9 ?_
  refine a_getI (ci := 7) (j := 1) dX8_isTooLong_4 rfl rfl (by decide) rfl fl_8_22 ?_
  refine a_sipush (v := 700) dX8_isTooLong_7 (by decide) ?_
  refine a_icmp_le dX8_isTooLong_10 (tgt := 17) (by decide) (fun c10 => ?_) (fun c10 => ?_)
  · refine a_iconst (v := 0) dX8_isTooLong_17 (by decide) ?_
    exact a_zret dX8_isTooLong_18 rfl rfl (by simpa [c10] using hQ)
  · refine a_iconst (v := 1) dX8_isTooLong_13 (by decide) ?_
    refine a_goto dX8_isTooLong_14 (tgt := 18) (by decide) ?_
    exact a_zret dX8_isTooLong_18 rfl rfl (by simpa [c10] using hQ)
theorem l8_word {l : Launch} {G : GG} {h : AH} {Q : Option Value → AH → Prop} {i p : Nat} (hi : i < 10) (hp : p ≤ 1000) (hs : h.1 0 3 2 = nI p) (k : Nat) (hk : k ≤ lenS.getD i 0) (hQ : Q (some (.int (wordG (tpF h) i p (lenS.getD i 0 - k) k))) h) : AW l G 4 RX8 cX8_isWord 3 (some .boolean) 28 [some (.ref (G.1 0 3)), some (.ref (sK G i)), some (.int (nI k))] [] h Q := by
  have hl := lenS_ok i hi
  refine a_iload_n dX8_isWord_28 rfl ?_
  refine a_aload_n dX8_isWord_29 rfl ?_
  refine a_cT0i hi rfl dX8_isWord_30 mj_8_56 wj_length (by decide) (Nat.le_of_ble_eq_true rfl) (cj_length hi ⟨rfl, rfl⟩) ?_
  refine a_icmp_ge dX8_isWord_33 (tgt := 65) (by decide) (fun c33 => ?_) (fun c33 => ?_)
  · have hge : lenS.getD i 0 ≤ k := le_of_le c33 (by omega) (by omega)
    rw [show lenS.getD i 0 - k = 0 by omega, wordG] at hQ
    refine a_iconst (v := 1) dX8_isWord_65 (by decide) ?_
    exact a_zret dX8_isWord_66 rfl rfl hQ
  · have hlt : k < lenS.getD i 0 := lt_of_nle c33 (by omega) (by omega)
    rw [show lenS.getD i 0 - k = (lenS.getD i 0 - (k + 1)) + 1 by omega, wordG] at hQ
    refine a_aload_n dX8_isWord_36 rfl ?_
    refine a_getR (ci := 8) (j := 0) dX8_isWord_37 rfl rfl (by decide) rfl fl_8_9 ?_
    refine a_aload_n dX8_isWord_40 rfl ?_
    refine a_getI (ci := 8) (j := 2) dX8_isWord_41 rfl rfl (by decide) rfl fl_8_31 ?_
    try simp (disch := first | decide | assumption | omega) only [ui_eq, ui_k, ui_j, ui_b, ui_2, ul_1, ul_eq, ul_k, ul_j, ul_b, hs, nI_add]
    refine a_iload_n dX8_isWord_44 rfl ?_
    refine a_iadd dX8_isWord_45 ?_
    refine a_cV1i dX8_isWord_46 ml_8_43 wv_7_at rfl rfl (by decide) (Nat.le_of_ble_eq_true rfl) (c7_at ⟨rfl, rfl⟩) ?_
    try simp (disch := first | decide | assumption | omega) only [ui_eq, ui_k, ui_j, ui_b, ui_2, ul_1, ul_eq, ul_k, ul_j, ul_b, hs, nI_add]
    refine a_aload_n dX8_isWord_49 rfl ?_
    refine a_iload_n dX8_isWord_50 rfl ?_
    refine a_cT1i hi rfl dX8_isWord_51 mj_8_61 wj_charAt (by decide) (Nat.le_of_ble_eq_true rfl) (cj_charAt hi hlt ⟨rfl, rfl⟩) ?_
    refine a_icmp_eq dX8_isWord_54 (tgt := 59) (by decide) (fun c54 => ?_) (fun c54 => ?_)
    · refine a_inc (c := 1) dX8_isWord_59 rfl (by decide) (by decide) rfl ?_
      dsimp only [lset]
      refine a_goto dX8_isWord_62 (tgt := 28) (by decide) ?_
      rw [nI_1]
      rw [if_pos (show tpF h (p + k) = chI i k from c54)] at hQ
      exact l8_word hi hp hs (k + 1) (by omega) hQ
    · refine a_iconst (v := 0) dX8_isWord_57 (by decide) ?_
      exact a_zret dX8_isWord_58 rfl rfl (by rw [if_neg (show ¬ tpF h (p + k) = chI i k from c54)] at hQ; exact hQ)
termination_by lenS.getD i 0 - k
decreasing_by all_goals omega
theorem c8_isWord {l : Launch} {G : GG} {h : AH} {Q : Option Value → AH → Prop} {i p : Nat} (hi : i < 10) (hp : p ≤ 1000) (hs : h.1 0 3 2 = nI p) (hQ : Q (some (.int (wordF h p i))) h) : Ct l G 4 yX8_isWord cX8_isWord 3 (some .boolean) [.ref (G.1 0 3), .ref (sK G i)] h Q := by
  refine Ct.of (by decide) (Nat.le_of_ble_eq_true rfl) ?_
  show AW l G 4 RX8 cX8_isWord 3 (some .boolean) 0 [some (.ref (G.1 0 3)), some (.ref (sK G i))] [] h Q
  refine a_aload_n dX8_isWord_0 rfl ?_
  refine a_getI (ci := 8) (j := 1) dX8_isWord_1 rfl rfl (by decide) rfl fl_8_40 ?_
  try simp (disch := first | decide | assumption | omega) only [ui_eq, ui_k, ui_j, ui_b, ui_2, ul_1, ul_eq, ul_k, ul_j, ul_b, hs]
  refine a_iconst (v := 1) dX8_isWord_4 (by decide) ?_
  refine a_icmp_ne dX8_isWord_5 (tgt := 24) (by decide) (fun c5 => ?_) (fun c5 => ?_)
  · refine a_iconst (v := 0) dX8_isWord_24 (by decide) ?_
    exact a_zret dX8_isWord_25 rfl rfl (by simp only [wordF, c5, if_true, if_false, not_true_eq_false, not_false_eq_true, Classical.not_not] at hQ ⊢; exact hQ)
  · refine a_aload_n dX8_isWord_8 rfl ?_
    refine a_getI (ci := 8) (j := 3) dX8_isWord_9 rfl rfl (by decide) rfl fl_8_15 ?_
    try simp (disch := first | decide | assumption | omega) only [ui_eq, ui_k, ui_j, ui_b, ui_2, ul_1, ul_eq, ul_k, ul_j, ul_b, hs]
    refine a_aload_n dX8_isWord_12 rfl ?_
    refine a_getI (ci := 8) (j := 2) dX8_isWord_13 rfl rfl (by decide) rfl fl_8_31 ?_
    try simp (disch := first | decide | assumption | omega) only [ui_eq, ui_k, ui_j, ui_b, ui_2, ul_1, ul_eq, ul_k, ul_j, ul_b, hs]
    refine a_isub dX8_isWord_16 ?_
    refine a_aload_n dX8_isWord_17 rfl ?_
    refine a_cT0i hi rfl dX8_isWord_18 mj_8_56 wj_length (by decide) (Nat.le_of_ble_eq_true rfl) (cj_length hi ⟨rfl, rfl⟩) ?_
    refine a_icmp_eq dX8_isWord_21 (tgt := 26) (by decide) (fun c21 => ?_) (fun c21 => ?_)
    · refine a_iconst (v := 0) dX8_isWord_26 (by decide) ?_
      refine a_istore_n dX8_isWord_27 (by decide) rfl ?_
      dsimp only [lset]
      exact l8_word hi hp hs 0 (by omega) (by simp only [wordF, c5, c21, if_true, Nat.sub_zero] at hQ ⊢; exact hQ)
    · refine a_iconst (v := 0) dX8_isWord_24 (by decide) ?_
      exact a_zret dX8_isWord_25 rfl rfl (by simp only [wordF, c5, c21, if_true, if_false, not_true_eq_false, not_false_eq_true, Classical.not_not] at hQ ⊢; exact hQ)
