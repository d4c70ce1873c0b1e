/-! Reader -/
def pS (h : AH) : Nat := (h.1 0 3 2).toNatClampNeg
def refF (h : AH) (k : Int32) : AH := ui (ui h 0 4 8 k) 0 4 9 (h.1 0 3 2)
def putNF (h : AH) (x : Int32) : AH := ui (if h.1 0 4 3 < 0 then h else if 5 ≤ h.1 0 4 3 then h else ui h 0 5 (h.1 0 4 3).toNatClampNeg x) 0 4 3 (h.1 0 4 3 + 1)
def meanF (h : AH) : Int32 :=
  if h.1 0 4 2 = 1 then (if h.1 0 4 3 = 0 then 0 else if h.1 0 4 3 = 1 then 1 else -1) else
  if h.1 0 4 2 = 2 then (if 2 ≤ h.1 0 4 3 then -1 else 7) else
  if h.1 0 4 2 = 4 then (if h.1 0 4 3 = 0 then 7 else if h.1 0 4 3 = 1 then 3 else -1) else (if 7 < 2 + h.1 0 4 3 then 7 else 2 + h.1 0 4 3)
def wholF (h : AH) : Int32 := if h.1 0 4 2 = 3 then (if h.1 0 4 5 = 0 then 0 else 1) else if meanF h = -1 then 1 else 0
def rangF (m n : Int32) : Int32 := if m < 0 then 0 else if 7 ≤ m then 0 else if n < lstV.getD m.toNatClampNeg 0 then 0 else if mstV.getD m.toNatClampNeg 0 < n then 0 else 1
def numF (h : AH) (b : Nat) : Int32 × AH :=
  if h.1 0 3 1 = 2 then (if meanF h = -1 then (0, refF h 1) else
    if meanF h = 7 then (if hasI (h.1 b 1 1) (h.1 0 3 4) = 0 then (0, refF h 2) else
      if (h.1 0 4 5 >>> (h.1 0 3 4 &&& 31)) &&& 1 = 0 then (1, putNF (ui h 0 4 5 (h.1 0 4 5 ||| 1 <<< (h.1 0 3 4 &&& 31))) (h.1 0 3 4)) else (0, refF h 2))
    else if rangF (meanF h) (h.1 0 3 4) = 0 then (0, refF h 2) else (1, putNF h (h.1 0 3 4)))
  else (0, refF h 1)
def kindW (h : AH) : Int32 := if wordF h (pS h) 4 = 0 then (if wordF h (pS h) 5 = 0 then (if wordF h (pS h) 6 = 0 then -1 else 2) else 1) else 0
def kindF (h : AH) : Int32 × AH := if kindW h = -1 then (0, refF (ui h 0 4 4 (kindW h)) 1) else if kindW h = 2 then (1, ui h 0 4 4 (kindW h)) else (1, putNF (ui h 0 4 4 (kindW h)) 1)
def sortW (h : AH) : Int32 := if wordF h (pS h) 0 = 0 then (if wordF h (pS h) 1 = 0 then (if wordF h (pS h) 2 = 0 then (if wordF h (pS h) 3 = 0 then 0 else 4) else 3) else 2) else 1
def begF (h : AH) (b : Nat) : Int32 × AH :=
  if sortW h = 0 then (0, refF h 1) else
  if (sortW h = 1 ↔ h.1 0 4 6 = 0) then
    (if (sortW h = 2 ∧ 28 ≤ h.1 0 4 7) ∨ (sortW h = 3 ∧ 6 ≤ h.1 b 3 11) ∨ (sortW h = 4 ∧ ¬ h.1 b 15 5 < 8) then (0, refF h 3)
     else (1, ui (ui (ui (ui h 0 4 2 (sortW h)) 0 4 3 0) 0 4 4 (-1)) 0 4 5 0))
  else (0, refF h 1)
def endF (h : AH) (b : Nat) : AH :=
  ui (ui (if h.1 0 4 2 = 1 then ui (ui h b 1 1 (h.1 0 5 0)) b 3 12 (h.1 0 5 1) else
    if h.1 0 4 2 = 2 then ui (addBF h b (h.1 0 5 0) (h.1 0 5 1)) 0 4 7 (h.1 0 4 7 + 1) else
    if h.1 0 4 2 = 4 then addQ h b (h.1 0 5 0) (h.1 0 5 1) else addP h b (h.1 0 4 4) (h.1 0 4 5)) 0 4 6 (h.1 0 4 6 + 1)) 0 4 2 0
def tokF (h : AH) (b : Nat) : Int32 × AH :=
  if h.1 0 4 2 = 0 then begF h b else if h.1 0 4 2 = 3 ∧ h.1 0 4 4 = -1 then kindF h else
  if h.1 0 3 1 = 3 ∧ ¬ wholF h = 0 then (1, endF h b) else numF h b
theorem addBF_0 {h : AH} {b : Nat} {x y : Int32} {k j : Nat} (hb : 0 ≠ b) : (addBF h b x y).1 0 k j = h.1 0 k j := by
  unfold addBF
  split
  · rfl
  · split
    · rfl
    · split
      · rfl
      · simp only []
        rw [ui_b hb, ui_b hb, ui_b hb]
theorem addQ_0 {h : AH} {b : Nat} {x y : Int32} {k j : Nat} (hb : 0 ≠ b) : (addQ h b x y).1 0 k j = h.1 0 k j := by
  unfold addQ
  rw [ui_b hb, ui_b hb, ui_b hb]
theorem addP_0 {h : AH} {b : Nat} {x y : Int32} {k j : Nat} (hb : 0 ≠ b) : (addP h b x y).1 0 k j = h.1 0 k j := by
  unfold addP
  rw [ui_b hb, ui_b hb, ui_b hb, ui_b hb, ui_b hb, ui_b hb, ui_b hb, ui_b hb]
theorem wordF_01 (h : AH) (p i : Nat) : wordF h p i = 0 ∨ wordF h p i = 1 := by
  unfold wordF
  split
  · split
    · exact wordG_01 _ _ _ _ _
    · exact Or.inl rfl
  · exact Or.inl rfl
theorem numF_01 (h : AH) (b : Nat) : (numF h b).1 = 0 ∨ (numF h b).1 = 1 := by
  unfold numF
  repeat' split
  all_goals first | exact Or.inl rfl | exact Or.inr rfl
theorem kindF_01 (h : AH) : (kindF h).1 = 0 ∨ (kindF h).1 = 1 := by
  unfold kindF
  repeat' split
  all_goals first | exact Or.inl rfl | exact Or.inr rfl
theorem begF_01 (h : AH) (b : Nat) : (begF h b).1 = 0 ∨ (begF h b).1 = 1 := by
  unfold begF
  repeat' split
  all_goals first | exact Or.inl rfl | exact Or.inr rfl
theorem tokF_01 (h : AH) (b : Nat) : (tokF h b).1 = 0 ∨ (tokF h b).1 = 1 := by
  unfold tokF
  split
  · exact begF_01 h b
  · split
    · exact kindF_01 h
    · split
      · exact Or.inr rfl
      · exact numF_01 h b
theorem c6_refuse {l : Launch} {G : GG} {h : AH} {Q : Option Value → AH → Prop} {x : Int32} (hQ : Q (some (.int (0))) (refF h x)) : Ct l G 0 yX6_refuse cX6_refuse 2 (some .boolean) [.ref (G.1 0 4), .int x] h Q := by
  refine Ct.of (by decide) (Nat.le_of_ble_eq_true rfl) ?_
  show AW l G 0 RX6 cX6_refuse 2 (some .boolean) 0 [some (.ref (G.1 0 4)), some (.int x)] [] h Q
  refine a_aload_n dX6_refuse_0 rfl ?_
  refine a_iload_n dX6_refuse_1 rfl ?_
  refine a_putI (ci := 6) (j := 8) dX6_refuse_2 rfl rfl (by decide) (by decide) rfl fl_6_29 ?_
  refine a_aload_n dX6_refuse_5 rfl ?_
  refine a_aload_n dX6_refuse_6 rfl ?_
  refine a_getR (ci := 6) (j := 0) dX6_refuse_7 rfl rfl (by decide) rfl fl_6_15 ?_
  refine a_getI (ci := 8) (j := 2) dX6_refuse_10 rfl rfl (by decide) rfl fl_6_168 ?_
  try simp (disch := first | decide | assumption | omega) only [ui_eq, ui_k, ui_j, ui_b, ui_2, ul_1, ul_eq, ul_k, ul_j, ul_b]
  refine a_putI (ci := 6) (j := 9) dX6_refuse_13 rfl rfl (by decide) (by decide) rfl fl_6_171 ?_
  refine a_iconst (v := 0) dX6_refuse_16 (by decide) ?_
  exact a_zret dX6_refuse_17 rfl rfl hQ
theorem c6_putNumber {l : Launch} {G : GG} {h : AH} {Q : Option Value → AH → Prop} {x : Int32} (hQ : Q none (putNF h x)) : Ct l G 0 yX6_putNumber cX6_putNumber 2 none [.ref (G.1 0 4), .int x] h Q := by
  refine Ct.of (by decide) (Nat.le_of_ble_eq_true rfl) ?_
  show AW l G 0 RX6 cX6_putNumber 2 none 0 [some (.ref (G.1 0 4)), some (.int x)] [] h Q
  refine a_aload_n dX6_putNumber_0 rfl ?_
  refine a_getI (ci := 6) (j := 3) dX6_putNumber_1 rfl rfl (by decide) rfl fl_6_100 ?_
  refine a_if_lt dX6_putNumber_4 (tgt := 29) (by decide) (fun c4 => ?_) (fun c4 => ?_)
  · refine a_aload_n dX6_putNumber_29 rfl ?_
    refine a_dup dX6_putNumber_30 rfl ?_
    refine a_getI (ci := 6) (j := 3) dX6_putNumber_31 rfl rfl (by decide) rfl fl_6_100 ?_
    refine a_iconst (v := 1) dX6_putNumber_34 (by decide) ?_
    refine a_iadd dX6_putNumber_35 ?_
    refine a_putI (ci := 6) (j := 3) dX6_putNumber_36 rfl rfl (by decide) (by decide) rfl fl_6_100 ?_
    exact a_vret dX6_putNumber_39 rfl (by simp only [putNF, c4, if_true, if_false, not_true_eq_false, not_false_eq_true, Classical.not_not] at hQ ⊢; exact hQ)
  · refine a_aload_n dX6_putNumber_7 rfl ?_
    refine a_getI (ci := 6) (j := 3) dX6_putNumber_8 rfl rfl (by decide) rfl fl_6_100 ?_
    refine a_aload_n dX6_putNumber_11 rfl ?_
    refine a_getR (ci := 6) (j := 1) dX6_putNumber_12 rfl rfl (by decide) rfl fl_6_9 ?_
    refine a_alen (v := 5) dX6_putNumber_15 rfl (Or.inl rfl) (by decide) ?_
    refine a_icmp_ge dX6_putNumber_16 (tgt := 29) (by decide) (fun c16 => ?_) (fun c16 => ?_)
    · refine a_aload_n dX6_putNumber_29 rfl ?_
      refine a_dup dX6_putNumber_30 rfl ?_
      refine a_getI (ci := 6) (j := 3) dX6_putNumber_31 rfl rfl (by decide) rfl fl_6_100 ?_
      refine a_iconst (v := 1) dX6_putNumber_34 (by decide) ?_
      refine a_iadd dX6_putNumber_35 ?_
      refine a_putI (ci := 6) (j := 3) dX6_putNumber_36 rfl rfl (by decide) (by decide) rfl fl_6_100 ?_
      exact a_vret dX6_putNumber_39 rfl (by simp only [putNF, c4, c16, if_true, if_false, not_true_eq_false, not_false_eq_true, Classical.not_not] at hQ ⊢; exact hQ)
    · refine a_aload_n dX6_putNumber_19 rfl ?_
      refine a_getR (ci := 6) (j := 1) dX6_putNumber_20 rfl rfl (by decide) rfl fl_6_9 ?_
      refine a_aload_n dX6_putNumber_23 rfl ?_
      refine a_getI (ci := 6) (j := 3) dX6_putNumber_24 rfl rfl (by decide) rfl fl_6_100 ?_
      refine a_iload_n dX6_putNumber_27 rfl ?_
      refine a_iastore dX6_putNumber_28 rfl (in_of c4 c16) ?_
      refine a_aload_n dX6_putNumber_29 rfl ?_
      refine a_dup dX6_putNumber_30 rfl ?_
      refine a_getI (ci := 6) (j := 3) dX6_putNumber_31 rfl rfl (by decide) rfl fl_6_100 ?_
      try simp (disch := first | decide | assumption | omega) only [ui_eq, ui_k, ui_j, ui_b, ui_2, ul_1, ul_eq, ul_k, ul_j, ul_b]
      refine a_iconst (v := 1) dX6_putNumber_34 (by decide) ?_
      refine a_iadd dX6_putNumber_35 ?_
      refine a_putI (ci := 6) (j := 3) dX6_putNumber_36 rfl rfl (by decide) (by decide) rfl fl_6_100 ?_
      exact a_vret dX6_putNumber_39 rfl (by simp only [putNF, c4, c16, if_true, if_false, not_true_eq_false, not_false_eq_true, Classical.not_not] at hQ ⊢; exact hQ)
theorem c6_meaningNow {l : Launch} {G : GG} {h : AH} {Q : Option Value → AH → Prop}  (hQ : Q (some (.int (meanF h))) h) : Ct l G 1 yX6_meaningNow cX6_meaningNow 1 (some .int) [.ref (G.1 0 4)] h Q := by
  refine Ct.of (by decide) (Nat.le_of_ble_eq_true rfl) ?_
  show AW l G 1 RX6 cX6_meaningNow 1 (some .int) 0 [some (.ref (G.1 0 4))] [] h Q
  refine a_aload_n dX6_meaningNow_0 rfl ?_
  refine a_getI (ci := 6) (j := 2) dX6_meaningNow_1 rfl rfl (by decide) rfl fl_6_19 ?_
  by_cases s4_1 : h.1 0 4 2 = 1
  · rw [s4_1]
    refine a_tableIn dX6_meaningNow_4 (off := 32) (by decide) (by decide) (by decide) (tgt := 36) (by decide) ?_
    refine a_aload_n dX6_meaningNow_36 rfl ?_
    refine a_getI (ci := 6) (j := 3) dX6_meaningNow_37 rfl rfl (by decide) rfl fl_6_100 ?_
    refine a_if_ne dX6_meaningNow_40 (tgt := 47) (by decide) (fun c40 => ?_) (fun c40 => ?_)
    · refine a_aload_n dX6_meaningNow_47 rfl ?_
      refine a_getI (ci := 6) (j := 3) dX6_meaningNow_48 rfl rfl (by decide) rfl fl_6_100 ?_
      refine a_iconst (v := 1) dX6_meaningNow_51 (by decide) ?_
      refine a_icmp_ne dX6_meaningNow_52 (tgt := 59) (by decide) (fun c52 => ?_) (fun c52 => ?_)
      · refine a_iconst (v := (-1)) dX6_meaningNow_59 (by decide) ?_
        exact a_iret dX6_meaningNow_60 rfl (by
  first
    | (simp only [meanF, s4_1, c40, c52, if_true, if_false, not_true_eq_false, not_false_eq_true, true_and, and_true, false_and, and_false, or_false, false_or] at hQ ⊢; exact hQ)
    | (simp [meanF, s4_1, c40, c52] at hQ ⊢; exact hQ)
    | (exfalso; simp_all))
      · refine a_iconst (v := 1) dX6_meaningNow_55 (by decide) ?_
        refine a_goto dX6_meaningNow_56 (tgt := 60) (by decide) ?_
        exact a_iret dX6_meaningNow_60 rfl (by
  first
    | (simp only [meanF, s4_1, c40, c52, if_true, if_false, not_true_eq_false, not_false_eq_true, true_and, and_true, false_and, and_false, or_false, false_or] at hQ ⊢; exact hQ)
    | (simp [meanF, s4_1, c40, c52] at hQ ⊢; exact hQ)
    | (exfalso; simp_all))
    · refine a_iconst (v := 0) dX6_meaningNow_43 (by decide) ?_
      refine a_goto dX6_meaningNow_44 (tgt := 60) (by decide) ?_
      exact a_iret dX6_meaningNow_60 rfl (by
  first
    | (simp only [meanF, s4_1, c40, if_true, if_false, not_true_eq_false, not_false_eq_true, true_and, and_true, false_and, and_false, or_false, false_or] at hQ ⊢; exact hQ)
    | (simp [meanF, s4_1, c40] at hQ ⊢; exact hQ)
    | (exfalso; simp_all))
  by_cases s4_2 : h.1 0 4 2 = 2
  · rw [s4_2]
    refine a_tableIn dX6_meaningNow_4 (off := 57) (by decide) (by decide) (by decide) (tgt := 61) (by decide) ?_
    refine a_aload_n dX6_meaningNow_61 rfl ?_
    refine a_getI (ci := 6) (j := 3) dX6_meaningNow_62 rfl rfl (by decide) rfl fl_6_100 ?_
    refine a_iconst (v := 2) dX6_meaningNow_65 (by decide) ?_
    refine a_icmp_ge dX6_meaningNow_66 (tgt := 74) (by decide) (fun c66 => ?_) (fun c66 => ?_)
    · refine a_iconst (v := (-1)) dX6_meaningNow_74 (by decide) ?_
      exact a_iret dX6_meaningNow_75 rfl (by
  first
    | (simp only [meanF, s4_2, c66, if_true, if_false, not_true_eq_false, not_false_eq_true, true_and, and_true, false_and, and_false, or_false, false_or] at hQ ⊢; exact hQ)
    | (simp [meanF, s4_2, c66] at hQ ⊢; exact hQ)
    | (exfalso; simp_all))
    · refine a_bipush (v := 7) dX6_meaningNow_69 (by decide) ?_
      refine a_goto dX6_meaningNow_71 (tgt := 75) (by decide) ?_
      exact a_iret dX6_meaningNow_75 rfl (by
  first
    | (simp only [meanF, s4_2, c66, if_true, if_false, not_true_eq_false, not_false_eq_true, true_and, and_true, false_and, and_false, or_false, false_or] at hQ ⊢; exact hQ)
    | (simp [meanF, s4_2, c66] at hQ ⊢; exact hQ)
    | (exfalso; simp_all))
  by_cases s4_3 : h.1 0 4 2 = 3
  · rw [s4_3]
    refine a_tableIn dX6_meaningNow_4 (off := 98) (by decide) (by decide) (by decide) (tgt := 102) (by decide) ?_
    refine a_iconst (v := 2) dX6_meaningNow_102 (by decide) ?_
    refine a_aload_n dX6_meaningNow_103 rfl ?_
    refine a_getI (ci := 6) (j := 3) dX6_meaningNow_104 rfl rfl (by decide) rfl fl_6_100 ?_
    refine a_iadd dX6_meaningNow_107 ?_
    refine a_bipush (v := 7) dX6_meaningNow_108 (by decide) ?_
    refine a_mmin dX6_meaningNow_110 ml_6_130 (by decide) (Nat.le_of_ble_eq_true rfl) ?_
    exact a_iret dX6_meaningNow_113 rfl (by
  first
    | (simp only [meanF, s4_3, if_true, if_false, not_true_eq_false, not_false_eq_true, true_and, and_true, false_and, and_false, or_false, false_or] at hQ ⊢; exact hQ)
    | (simp [meanF, s4_3] at hQ ⊢; exact hQ)
    | (exfalso; simp_all))
  by_cases s4_4 : h.1 0 4 2 = 4
  · rw [s4_4]
    refine a_tableIn dX6_meaningNow_4 (off := 72) (by decide) (by decide) (by decide) (tgt := 76) (by decide) ?_
    refine a_aload_n dX6_meaningNow_76 rfl ?_
    refine a_getI (ci := 6) (j := 3) dX6_meaningNow_77 rfl rfl (by decide) rfl fl_6_100 ?_
    refine a_if_ne dX6_meaningNow_80 (tgt := 88) (by decide) (fun c80 => ?_) (fun c80 => ?_)
    · refine a_aload_n dX6_meaningNow_88 rfl ?_
      refine a_getI (ci := 6) (j := 3) dX6_meaningNow_89 rfl rfl (by decide) rfl fl_6_100 ?_
      refine a_iconst (v := 1) dX6_meaningNow_92 (by decide) ?_
      refine a_icmp_ne dX6_meaningNow_93 (tgt := 100) (by decide) (fun c93 => ?_) (fun c93 => ?_)
      · refine a_iconst (v := (-1)) dX6_meaningNow_100 (by decide) ?_
        exact a_iret dX6_meaningNow_101 rfl (by
  first
    | (simp only [meanF, s4_4, c80, c93, if_true, if_false, not_true_eq_false, not_false_eq_true, true_and, and_true, false_and, and_false, or_false, false_or] at hQ ⊢; exact hQ)
    | (simp [meanF, s4_4, c80, c93] at hQ ⊢; exact hQ)
    | (exfalso; simp_all))
      · refine a_iconst (v := 3) dX6_meaningNow_96 (by decide) ?_
        refine a_goto dX6_meaningNow_97 (tgt := 101) (by decide) ?_
        exact a_iret dX6_meaningNow_101 rfl (by
  first
    | (simp only [meanF, s4_4, c80, c93, if_true, if_false, not_true_eq_false, not_false_eq_true, true_and, and_true, false_and, and_false, or_false, false_or] at hQ ⊢; exact hQ)
    | (simp [meanF, s4_4, c80, c93] at hQ ⊢; exact hQ)
    | (exfalso; simp_all))
    · refine a_bipush (v := 7) dX6_meaningNow_83 (by decide) ?_
      refine a_goto dX6_meaningNow_85 (tgt := 101) (by decide) ?_
      exact a_iret dX6_meaningNow_101 rfl (by
  first
    | (simp only [meanF, s4_4, c80, if_true, if_false, not_true_eq_false, not_false_eq_true, true_and, and_true, false_and, and_false, or_false, false_or] at hQ ⊢; exact hQ)
    | (simp [meanF, s4_4, c80] at hQ ⊢; exact hQ)
    | (exfalso; simp_all))
  refine a_tableOut dX6_meaningNow_4 (by have q0 := lv_neT (a := 1) s4_1 (by decide); have q1 := lv_neT (a := 2) s4_2 (by decide); have q2 := lv_neT (a := 3) s4_3 (by decide); have q3 := lv_neT (a := 4) s4_4 (by decide); omega) (tgt := 102) (by decide) ?_
  refine a_iconst (v := 2) dX6_meaningNow_102 (by decide) ?_
  refine a_aload_n dX6_meaningNow_103 rfl ?_
  refine a_getI (ci := 6) (j := 3) dX6_meaningNow_104 rfl rfl (by decide) rfl fl_6_100 ?_
  refine a_iadd dX6_meaningNow_107 ?_
  refine a_bipush (v := 7) dX6_meaningNow_108 (by decide) ?_
  refine a_mmin dX6_meaningNow_110 ml_6_130 (by decide) (Nat.le_of_ble_eq_true rfl) ?_
  exact a_iret dX6_meaningNow_113 rfl (by
  first
    | (simp only [meanF, s4_1, s4_2, s4_3, s4_4, if_true, if_false, not_true_eq_false, not_false_eq_true, true_and, and_true, false_and, and_false, or_false, false_or] at hQ ⊢; exact hQ)
    | (simp [meanF, s4_1, s4_2, s4_3, s4_4] at hQ ⊢; exact hQ)
    | (exfalso; simp_all))
theorem c6_isWhole {l : Launch} {G : GG} {h : AH} {Q : Option Value → AH → Prop}  (hQ : Q (some (.int (wholF h))) h) : Ct l G 2 yX6_isWhole cX6_isWhole 1 (some .boolean) [.ref (G.1 0 4)] h Q := by
  refine Ct.of (by decide) (Nat.le_of_ble_eq_true rfl) ?_
  show AW l G 2 RX6 cX6_isWhole 1 (some .boolean) 0 [some (.ref (G.1 0 4))] [] h Q
  refine a_aload_n dX6_isWhole_0 rfl ?_
  refine a_getI (ci := 6) (j := 2) dX6_isWhole_1 rfl rfl (by decide) rfl fl_6_19 ?_
  refine a_iconst (v := 3) dX6_isWhole_4 (by decide) ?_
  refine a_icmp_ne dX6_isWhole_5 (tgt := 23) (by decide) (fun c5 => ?_) (fun c5 => ?_)
  · refine a_aload_n dX6_isWhole_23 rfl ?_
    refine a_cV0i dX6_isWhole_24 ml_6_127 wv_6_meaningNow rfl rfl (by decide) (Nat.le_of_ble_eq_true rfl) (c6_meaningNow ⟨rfl, rfl⟩) ?_
    refine a_iconst (v := (-1)) dX6_isWhole_27 (by decide) ?_
    refine a_icmp_ne dX6_isWhole_28 (tgt := 35) (by decide) (fun c28 => ?_) (fun c28 => ?_)
    · refine a_iconst (v := 0) dX6_isWhole_35 (by decide) ?_
      exact a_zret dX6_isWhole_36 rfl rfl (by
  first
    | (simp only [wholF, c5, c28, if_true, if_false, not_true_eq_false, not_false_eq_true, true_and, and_true, false_and, and_false, or_false, false_or] at hQ ⊢; exact hQ)
    | (simp [wholF, c5, c28] at hQ ⊢; exact hQ)
    | (exfalso; simp_all))
    · refine a_iconst (v := 1) dX6_isWhole_31 (by decide) ?_
      refine a_goto dX6_isWhole_32 (tgt := 36) (by decide) ?_
      exact a_zret dX6_isWhole_36 rfl rfl (by
  first
    | (simp only [wholF, c5, c28, if_true, if_false, not_true_eq_false, not_false_eq_true, true_and, and_true, false_and, and_false, or_false, false_or] at hQ ⊢; exact hQ)
    | (simp [wholF, c5, c28] at hQ ⊢; exact hQ)
    | (exfalso; simp_all))
  · refine a_aload_n dX6_isWhole_8 rfl ?_
    refine a_getI (ci := 6) (j := 5) dX6_isWhole_9 rfl rfl (by decide) rfl fl_6_103 ?_
    refine a_if_eq dX6_isWhole_12 (tgt := 19) (by decide) (fun c12 => ?_) (fun c12 => ?_)
    · refine a_iconst (v := 0) dX6_isWhole_19 (by decide) ?_
      refine a_goto dX6_isWhole_20 (tgt := 36) (by decide) ?_
      exact a_zret dX6_isWhole_36 rfl rfl (by
  first
    | (simp only [wholF, c5, c12, if_true, if_false, not_true_eq_false, not_false_eq_true, true_and, and_true, false_and, and_false, or_false, false_or] at hQ ⊢; exact hQ)
    | (simp [wholF, c5, c12] at hQ ⊢; exact hQ)
    | (exfalso; simp_all))
    · refine a_iconst (v := 1) dX6_isWhole_15 (by decide) ?_
      refine a_goto dX6_isWhole_16 (tgt := 36) (by decide) ?_
      exact a_zret dX6_isWhole_36 rfl rfl (by
  first
    | (simp only [wholF, c5, c12, if_true, if_false, not_true_eq_false, not_false_eq_true, true_and, and_true, false_and, and_false, or_false, false_or] at hQ ⊢; exact hQ)
    | (simp [wholF, c5, c12] at hQ ⊢; exact hQ)
    | (exfalso; simp_all))
theorem c6_isInRange {l : Launch} {G : GG} {h : AH} {Q : Option Value → AH → Prop} {x y : Int32} (hQ : Q (some (.int (rangF x y))) h) : Ct l G 0 yX6_isInRange cX6_isInRange 2 (some .boolean) [.int x, .int y] h Q := by
  refine Ct.of (by decide) (Nat.le_of_ble_eq_true rfl) ?_
  show AW l G 0 RX6 cX6_isInRange 2 (some .boolean) 0 [some (.int x), some (.int y)] [] h Q
  refine a_iload_n dX6_isInRange_0 rfl ?_
  refine a_if_lt dX6_isInRange_1 (tgt := 42) (by decide) (fun c1 => ?_) (fun c1 => ?_)
  · refine a_iconst (v := 0) dX6_isInRange_42 (by decide) ?_
    exact a_zret dX6_isInRange_43 rfl rfl (by
  first
    | (simp only [rangF, c1, if_true, if_false, not_true_eq_false, not_false_eq_true, true_and, and_true, false_and, and_false, or_false, false_or] at hQ ⊢; exact hQ)
    | (simp [rangF, c1] at hQ ⊢; exact hQ)
    | (exfalso; simp_all))
  · refine a_iload_n dX6_isInRange_4 rfl ?_
    refine a_slst fj_6_148 dX6_isInRange_5 ?_
    refine a_llen dX6_isInRange_8 ?_
    refine a_icmp_ge dX6_isInRange_9 (tgt := 42) (by decide) (fun c9 => ?_) (fun c9 => ?_)
    · refine a_iconst (v := 0) dX6_isInRange_42 (by decide) ?_
      exact a_zret dX6_isInRange_43 rfl rfl (by
  first
    | (simp only [rangF, c1, c9, if_true, if_false, not_true_eq_false, not_false_eq_true, true_and, and_true, false_and, and_false, or_false, false_or] at hQ ⊢; exact hQ)
    | (simp [rangF, c1, c9] at hQ ⊢; exact hQ)
    | (exfalso; simp_all))
    · refine a_iload_n dX6_isInRange_12 rfl ?_
      refine a_smst fj_6_151 dX6_isInRange_13 ?_
      refine a_mlen dX6_isInRange_16 ?_
      refine a_icmp_ge dX6_isInRange_17 (tgt := 42) (by decide) (fun c17 => ?_) (fun c17 => ?_)
      · refine a_iconst (v := 0) dX6_isInRange_42 (by decide) ?_
        exact a_zret dX6_isInRange_43 rfl rfl (by
  first
    | (simp only [rangF, c1, c9, c17, if_true, if_false, not_true_eq_false, not_false_eq_true, true_and, and_true, false_and, and_false, or_false, false_or] at hQ ⊢; exact hQ)
    | (simp [rangF, c1, c9, c17] at hQ ⊢; exact hQ)
    | (exfalso; simp_all))
      · refine a_iload_n dX6_isInRange_20 rfl ?_
        refine a_slst fj_6_148 dX6_isInRange_21 ?_
        refine a_iload_n dX6_isInRange_24 rfl ?_
        refine a_lld (in_of c1 c9) dX6_isInRange_25 ?_
        refine a_icmp_lt dX6_isInRange_26 (tgt := 42) (by decide) (fun c26 => ?_) (fun c26 => ?_)
        · refine a_iconst (v := 0) dX6_isInRange_42 (by decide) ?_
          exact a_zret dX6_isInRange_43 rfl rfl (by
  first
    | (simp only [rangF, c1, c9, c17, c26, if_true, if_false, not_true_eq_false, not_false_eq_true, true_and, and_true, false_and, and_false, or_false, false_or] at hQ ⊢; exact hQ)
    | (simp [rangF, c1, c9, c17, c26] at hQ ⊢; exact hQ)
    | (exfalso; simp_all))
        · refine a_iload_n dX6_isInRange_29 rfl ?_
          refine a_smst fj_6_151 dX6_isInRange_30 ?_
          refine a_iload_n dX6_isInRange_33 rfl ?_
          refine a_mld (in_of c1 c9) dX6_isInRange_34 ?_
          refine a_icmp_gt dX6_isInRange_35 (tgt := 42) (by decide) (fun c35 => ?_) (fun c35 => ?_)
          · refine a_iconst (v := 0) dX6_isInRange_42 (by decide) ?_
            exact a_zret dX6_isInRange_43 rfl rfl (by
  first
    | (simp only [rangF, c1, c9, c17, c26, c35, if_true, if_false, not_true_eq_false, not_false_eq_true, true_and, and_true, false_and, and_false, or_false, false_or] at hQ ⊢; exact hQ)
    | (simp [rangF, c1, c9, c17, c26, c35] at hQ ⊢; exact hQ)
    | (exfalso; simp_all))
          · refine a_iconst (v := 1) dX6_isInRange_38 (by decide) ?_
            refine a_goto dX6_isInRange_39 (tgt := 43) (by decide) ?_
            exact a_zret dX6_isInRange_43 rfl rfl (by
  first
    | (simp only [rangF, c1, c9, c17, c26, c35, if_true, if_false, not_true_eq_false, not_false_eq_true, true_and, and_true, false_and, and_false, or_false, false_or] at hQ ⊢; exact hQ)
    | (simp [rangF, c1, c9, c17, c26, c35] at hQ ⊢; exact hQ)
    | (exfalso; simp_all))
theorem c6_takeNumber {l : Launch} {G : GG} {h : AH} {Q : Option Value → AH → Prop} {b : Nat} (hb : isB b) (hQ : Q (some (.int (numF h b).1)) (numF h b).2) : Ct l G 2 yX6_takeNumber cX6_takeNumber 4 (some .boolean) [.ref (G.1 0 4), .ref (G.1 b 1)] h Q := by
  refine Ct.of (by decide) (Nat.le_of_ble_eq_true rfl) ?_
  show AW l G 2 RX6 cX6_takeNumber 4 (some .boolean) 0 [some (.ref (G.1 0 4)), some (.ref (G.1 b 1))] [] h Q
  refine a_aload_n dX6_takeNumber_0 rfl ?_
  refine a_cV0i dX6_takeNumber_1 ml_6_127 wv_6_meaningNow rfl rfl (by decide) (Nat.le_of_ble_eq_true rfl) (c6_meaningNow ⟨rfl, rfl⟩) ?_
  refine a_istore_n dX6_takeNumber_4 (by decide) rfl ?_
  dsimp only [lset]
  refine a_aload_n dX6_takeNumber_5 rfl ?_
  refine a_getR (ci := 6) (j := 0) dX6_takeNumber_6 rfl rfl (by decide) rfl fl_6_15 ?_
  refine a_getI (ci := 8) (j := 1) dX6_takeNumber_9 rfl rfl (by decide) rfl fl_6_37 ?_
  refine a_iconst (v := 2) dX6_takeNumber_12 (by decide) ?_
  refine a_icmp_ne dX6_takeNumber_13 (tgt := 21) (by decide) (fun c13 => ?_) (fun c13 => ?_)
  · refine a_aload_n dX6_takeNumber_21 rfl ?_
    refine a_iconst (v := 1) dX6_takeNumber_22 (by decide) ?_
    refine a_cV1i dX6_takeNumber_23 ml_6_51 wv_6_refuse rfl rfl (by decide) (Nat.le_of_ble_eq_true rfl) (c6_refuse ⟨rfl, rfl⟩) ?_
    try simp (disch := first | decide | assumption | omega) only [ui_eq, ui_k, ui_j, ui_b, ui_2, ul_1, ul_eq, ul_k, ul_j, ul_b]
    exact a_zret dX6_takeNumber_26 rfl rfl (by
  first
    | (simp only [numF, c13, if_true, if_false, not_true_eq_false, not_false_eq_true, true_and, and_true, false_and, and_false, or_false, false_or] at hQ ⊢; exact hQ)
    | (simp [numF, c13] at hQ ⊢; exact hQ)
    | (exfalso; simp_all))
  · refine a_iload_n dX6_takeNumber_16 rfl ?_
    refine a_iconst (v := (-1)) dX6_takeNumber_17 (by decide) ?_
    refine a_icmp_ne dX6_takeNumber_18 (tgt := 27) (by decide) (fun c18 => ?_) (fun c18 => ?_)
    · refine a_aload_n dX6_takeNumber_27 rfl ?_
      refine a_getR (ci := 6) (j := 0) dX6_takeNumber_28 rfl rfl (by decide) rfl fl_6_15 ?_
      refine a_getI (ci := 8) (j := 4) dX6_takeNumber_31 rfl rfl (by decide) rfl fl_6_136 ?_
      refine a_istore_n dX6_takeNumber_34 (by decide) rfl ?_
      dsimp only [lset]
      refine a_iload_n dX6_takeNumber_35 rfl ?_
      refine a_bipush (v := 7) dX6_takeNumber_36 (by decide) ?_
      refine a_icmp_ne dX6_takeNumber_38 (tgt := 81) (by decide) (fun c38 => ?_) (fun c38 => ?_)
      · refine a_iload_n dX6_takeNumber_81 rfl ?_
        refine a_iload_n dX6_takeNumber_82 rfl ?_
        refine a_cS2i dX6_takeNumber_83 ml_6_144 ws_6_isInRange (by decide) (Nat.le_of_ble_eq_true rfl) (c6_isInRange ⟨rfl, rfl⟩) ?_
        refine a_if_ne dX6_takeNumber_86 (tgt := 95) (by decide) (fun c86 => ?_) (fun c86 => ?_)
        · refine a_aload_n dX6_takeNumber_95 rfl ?_
          refine a_iload_n dX6_takeNumber_96 rfl ?_
          refine a_cV1v dX6_takeNumber_97 ml_6_123 wv_6_putNumber rfl rfl (by decide) (Nat.le_of_ble_eq_true rfl) (c6_putNumber ⟨rfl, rfl⟩) ?_
          try simp (disch := first | decide | assumption | omega) only [ui_eq, ui_k, ui_j, ui_b, ui_2, ul_1, ul_eq, ul_k, ul_j, ul_b]
          refine a_iconst (v := 1) dX6_takeNumber_100 (by decide) ?_
          exact a_zret dX6_takeNumber_101 rfl rfl (by
  first
    | (simp only [numF, c13, c18, c38, c86, if_true, if_false, not_true_eq_false, not_false_eq_true, true_and, and_true, false_and, and_false, or_false, false_or] at hQ ⊢; exact hQ)
    | (simp [numF, c13, c18, c38, c86] at hQ ⊢; exact hQ)
    | (exfalso; simp_all))
        · refine a_aload_n dX6_takeNumber_89 rfl ?_
          refine a_iconst (v := 2) dX6_takeNumber_90 (by decide) ?_
          refine a_cV1i dX6_takeNumber_91 ml_6_51 wv_6_refuse rfl rfl (by decide) (Nat.le_of_ble_eq_true rfl) (c6_refuse ⟨rfl, rfl⟩) ?_
          try simp (disch := first | decide | assumption | omega) only [ui_eq, ui_k, ui_j, ui_b, ui_2, ul_1, ul_eq, ul_k, ul_j, ul_b]
          exact a_zret dX6_takeNumber_94 rfl rfl (by
  first
    | (simp only [numF, c13, c18, c38, c86, if_true, if_false, not_true_eq_false, not_false_eq_true, true_and, and_true, false_and, and_false, or_false, false_or] at hQ ⊢; exact hQ)
    | (simp [numF, c13, c18, c38, c86] at hQ ⊢; exact hQ)
    | (exfalso; simp_all))
      · refine a_aload_n dX6_takeNumber_41 rfl ?_
        refine a_iload_n dX6_takeNumber_42 rfl ?_
        refine a_cV1i dX6_takeNumber_43 ml_6_139 wv_2_has (kdB hb rfl) rfl (by decide) (Nat.le_of_ble_eq_true rfl) (c2_has hb ⟨rfl, rfl⟩) ?_
        refine a_if_eq dX6_takeNumber_46 (tgt := 60) (by decide) (fun c46 => ?_) (fun c46 => ?_)
        · refine a_aload_n dX6_takeNumber_60 rfl ?_
          refine a_iconst (v := 2) dX6_takeNumber_61 (by decide) ?_
          refine a_cV1i dX6_takeNumber_62 ml_6_51 wv_6_refuse rfl rfl (by decide) (Nat.le_of_ble_eq_true rfl) (c6_refuse ⟨rfl, rfl⟩) ?_
          try simp (disch := first | decide | assumption | omega) only [ui_eq, ui_k, ui_j, ui_b, ui_2, ul_1, ul_eq, ul_k, ul_j, ul_b]
          exact a_zret dX6_takeNumber_65 rfl rfl (by
  first
    | (simp only [numF, c13, c18, c38, c46, if_true, if_false, not_true_eq_false, not_false_eq_true, true_and, and_true, false_and, and_false, or_false, false_or] at hQ ⊢; exact hQ)
    | (simp [numF, c13, c18, c38, c46] at hQ ⊢; exact hQ)
    | (exfalso; simp_all))
        · refine a_aload_n dX6_takeNumber_49 rfl ?_
          refine a_getI (ci := 6) (j := 5) dX6_takeNumber_50 rfl rfl (by decide) rfl fl_6_103 ?_
          refine a_iload_n dX6_takeNumber_53 rfl ?_
          refine a_ishr dX6_takeNumber_54 ?_
          refine a_iconst (v := 1) dX6_takeNumber_55 (by decide) ?_
          refine a_iand dX6_takeNumber_56 ?_
          refine a_if_eq dX6_takeNumber_57 (tgt := 66) (by decide) (fun c57 => ?_) (fun c57 => ?_)
          · refine a_aload_n dX6_takeNumber_66 rfl ?_
            refine a_dup dX6_takeNumber_67 rfl ?_
            refine a_getI (ci := 6) (j := 5) dX6_takeNumber_68 rfl rfl (by decide) rfl fl_6_103 ?_
            refine a_iconst (v := 1) dX6_takeNumber_71 (by decide) ?_
            refine a_iload_n dX6_takeNumber_72 rfl ?_
            refine a_ishl dX6_takeNumber_73 ?_
            refine a_ior dX6_takeNumber_74 ?_
            refine a_putI (ci := 6) (j := 5) dX6_takeNumber_75 rfl rfl (by decide) (by decide) rfl fl_6_103 ?_
            refine a_goto dX6_takeNumber_78 (tgt := 95) (by decide) ?_
            refine a_aload_n dX6_takeNumber_95 rfl ?_
            refine a_iload_n dX6_takeNumber_96 rfl ?_
            refine a_cV1v dX6_takeNumber_97 ml_6_123 wv_6_putNumber rfl rfl (by decide) (Nat.le_of_ble_eq_true rfl) (c6_putNumber ⟨rfl, rfl⟩) ?_
            try simp (disch := first | decide | assumption | omega) only [ui_eq, ui_k, ui_j, ui_b, ui_2, ul_1, ul_eq, ul_k, ul_j, ul_b]
            refine a_iconst (v := 1) dX6_takeNumber_100 (by decide) ?_
            exact a_zret dX6_takeNumber_101 rfl rfl (by
  first
    | (simp only [numF, c13, c18, c38, c46, c57, if_true, if_false, not_true_eq_false, not_false_eq_true, true_and, and_true, false_and, and_false, or_false, false_or] at hQ ⊢; exact hQ)
    | (simp [numF, c13, c18, c38, c46, c57] at hQ ⊢; exact hQ)
    | (exfalso; simp_all))
          · refine a_aload_n dX6_takeNumber_60 rfl ?_
            refine a_iconst (v := 2) dX6_takeNumber_61 (by decide) ?_
            refine a_cV1i dX6_takeNumber_62 ml_6_51 wv_6_refuse rfl rfl (by decide) (Nat.le_of_ble_eq_true rfl) (c6_refuse ⟨rfl, rfl⟩) ?_
            try simp (disch := first | decide | assumption | omega) only [ui_eq, ui_k, ui_j, ui_b, ui_2, ul_1, ul_eq, ul_k, ul_j, ul_b]
            exact a_zret dX6_takeNumber_65 rfl rfl (by
  first
    | (simp only [numF, c13, c18, c38, c46, c57, if_true, if_false, not_true_eq_false, not_false_eq_true, true_and, and_true, false_and, and_false, or_false, false_or] at hQ ⊢; exact hQ)
    | (simp [numF, c13, c18, c38, c46, c57] at hQ ⊢; exact hQ)
    | (exfalso; simp_all))
    · refine a_aload_n dX6_takeNumber_21 rfl ?_
      refine a_iconst (v := 1) dX6_takeNumber_22 (by decide) ?_
      refine a_cV1i dX6_takeNumber_23 ml_6_51 wv_6_refuse rfl rfl (by decide) (Nat.le_of_ble_eq_true rfl) (c6_refuse ⟨rfl, rfl⟩) ?_
      try simp (disch := first | decide | assumption | omega) only [ui_eq, ui_k, ui_j, ui_b, ui_2, ul_1, ul_eq, ul_k, ul_j, ul_b]
      exact a_zret dX6_takeNumber_26 rfl rfl (by
  first
    | (simp only [numF, c13, c18, if_true, if_false, not_true_eq_false, not_false_eq_true, true_and, and_true, false_and, and_false, or_false, false_or] at hQ ⊢; exact hQ)
    | (simp [numF, c13, c18] at hQ ⊢; exact hQ)
    | (exfalso; simp_all))
theorem c6_sortOfWord {l : Launch} {G : GG} {h : AH} {Q : Option Value → AH → Prop} (hp : pS h ≤ 1000) (hs : h.1 0 3 2 = nI (pS h)) (hQ : Q (some (.int (sortW h))) h) : Ct l G 5 yX6_sortOfWord cX6_sortOfWord 1 (some .int) [.ref (G.1 0 4)] h Q := by
  refine Ct.of (by decide) (Nat.le_of_ble_eq_true rfl) ?_
  show AW l G 5 RX6 cX6_sortOfWord 1 (some .int) 0 [some (.ref (G.1 0 4))] [] h Q
  refine a_aload_n dX6_sortOfWord_0 rfl ?_
  refine a_getR (ci := 6) (j := 0) dX6_sortOfWord_1 rfl rfl (by decide) rfl fl_6_15 ?_
  refine a_ldcS (i := 0) (by decide) rfl rfl dX6_sortOfWord_4 ?_
  refine a_cV1i dX6_sortOfWord_6 ml_6_107 wv_8_isWord rfl rfl (by decide) (Nat.le_of_ble_eq_true rfl) (c8_isWord (i := 0) (by decide) hp hs ⟨rfl, rfl⟩) ?_
  refine a_if_eq dX6_sortOfWord_9 (tgt := 16) (by decide) (fun c9 => ?_) (fun c9 => ?_)
  · refine a_aload_n dX6_sortOfWord_16 rfl ?_
    refine a_getR (ci := 6) (j := 0) dX6_sortOfWord_17 rfl rfl (by decide) rfl fl_6_15 ?_
    refine a_ldcS (i := 1) (by decide) rfl rfl dX6_sortOfWord_20 ?_
    refine a_cV1i dX6_sortOfWord_22 ml_6_107 wv_8_isWord rfl rfl (by decide) (Nat.le_of_ble_eq_true rfl) (c8_isWord (i := 1) (by decide) hp hs ⟨rfl, rfl⟩) ?_
    refine a_if_eq dX6_sortOfWord_25 (tgt := 32) (by decide) (fun c25 => ?_) (fun c25 => ?_)
    · refine a_aload_n dX6_sortOfWord_32 rfl ?_
      refine a_getR (ci := 6) (j := 0) dX6_sortOfWord_33 rfl rfl (by decide) rfl fl_6_15 ?_
      refine a_ldcS (i := 2) (by decide) rfl rfl dX6_sortOfWord_36 ?_
      refine a_cV1i dX6_sortOfWord_38 ml_6_107 wv_8_isWord rfl rfl (by decide) (Nat.le_of_ble_eq_true rfl) (c8_isWord (i := 2) (by decide) hp hs ⟨rfl, rfl⟩) ?_
      refine a_if_eq dX6_sortOfWord_41 (tgt := 48) (by decide) (fun c41 => ?_) (fun c41 => ?_)
      · refine a_aload_n dX6_sortOfWord_48 rfl ?_
        refine a_getR (ci := 6) (j := 0) dX6_sortOfWord_49 rfl rfl (by decide) rfl fl_6_15 ?_
        refine a_ldcS (i := 3) (by decide) rfl rfl dX6_sortOfWord_52 ?_
        refine a_cV1i dX6_sortOfWord_54 ml_6_107 wv_8_isWord rfl rfl (by decide) (Nat.le_of_ble_eq_true rfl) (c8_isWord (i := 3) (by decide) hp hs ⟨rfl, rfl⟩) ?_
        refine a_if_eq dX6_sortOfWord_57 (tgt := 64) (by decide) (fun c57 => ?_) (fun c57 => ?_)
        · refine a_iconst (v := 0) dX6_sortOfWord_64 (by decide) ?_
          exact a_iret dX6_sortOfWord_65 rfl (by
  first
    | (simp only [sortW, c9, c25, c41, c57, if_true, if_false, not_true_eq_false, not_false_eq_true, true_and, and_true, false_and, and_false, or_false, false_or] at hQ ⊢; exact hQ)
    | (simp [sortW, c9, c25, c41, c57] at hQ ⊢; exact hQ)
    | (exfalso; simp_all))
        · refine a_iconst (v := 4) dX6_sortOfWord_60 (by decide) ?_
          refine a_goto dX6_sortOfWord_61 (tgt := 65) (by decide) ?_
          exact a_iret dX6_sortOfWord_65 rfl (by
  first
    | (simp only [sortW, c9, c25, c41, c57, if_true, if_false, not_true_eq_false, not_false_eq_true, true_and, and_true, false_and, and_false, or_false, false_or] at hQ ⊢; exact hQ)
    | (simp [sortW, c9, c25, c41, c57] at hQ ⊢; exact hQ)
    | (exfalso; simp_all))
      · refine a_iconst (v := 3) dX6_sortOfWord_44 (by decide) ?_
        refine a_goto dX6_sortOfWord_45 (tgt := 65) (by decide) ?_
        exact a_iret dX6_sortOfWord_65 rfl (by
  first
    | (simp only [sortW, c9, c25, c41, if_true, if_false, not_true_eq_false, not_false_eq_true, true_and, and_true, false_and, and_false, or_false, false_or] at hQ ⊢; exact hQ)
    | (simp [sortW, c9, c25, c41] at hQ ⊢; exact hQ)
    | (exfalso; simp_all))
    · refine a_iconst (v := 2) dX6_sortOfWord_28 (by decide) ?_
      refine a_goto dX6_sortOfWord_29 (tgt := 65) (by decide) ?_
      exact a_iret dX6_sortOfWord_65 rfl (by
  first
    | (simp only [sortW, c9, c25, if_true, if_false, not_true_eq_false, not_false_eq_true, true_and, and_true, false_and, and_false, or_false, false_or] at hQ ⊢; exact hQ)
    | (simp [sortW, c9, c25] at hQ ⊢; exact hQ)
    | (exfalso; simp_all))
  · refine a_iconst (v := 1) dX6_sortOfWord_12 (by decide) ?_
    refine a_goto dX6_sortOfWord_13 (tgt := 65) (by decide) ?_
    exact a_iret dX6_sortOfWord_65 rfl (by
  first
    | (simp only [sortW, c9, if_true, if_false, not_true_eq_false, not_false_eq_true, true_and, and_true, false_and, and_false, or_false, false_or] at hQ ⊢; exact hQ)
    | (simp [sortW, c9] at hQ ⊢; exact hQ)
    | (exfalso; simp_all))
theorem c6_takeKind {l : Launch} {G : GG} {h : AH} {Q : Option Value → AH → Prop} (hp : pS h ≤ 1000) (hs : h.1 0 3 2 = nI (pS h)) (hQ : Q (some (.int (kindF h).1)) (kindF h).2) : Ct l G 5 yX6_takeKind cX6_takeKind 1 (some .boolean) [.ref (G.1 0 4)] h Q := by
  refine Ct.of (by decide) (Nat.le_of_ble_eq_true rfl) ?_
  show AW l G 5 RX6 cX6_takeKind 1 (some .boolean) 0 [some (.ref (G.1 0 4))] [] h Q
  refine a_aload_n dX6_takeKind_0 rfl ?_
  refine a_aload_n dX6_takeKind_1 rfl ?_
  refine a_getR (ci := 6) (j := 0) dX6_takeKind_2 rfl rfl (by decide) rfl fl_6_15 ?_
  refine a_ldcS (i := 4) (by decide) rfl rfl dX6_takeKind_5 ?_
  refine a_cV1i dX6_takeKind_7 ml_6_107 wv_8_isWord rfl rfl (by decide) (Nat.le_of_ble_eq_true rfl) (c8_isWord (i := 4) (by decide) hp hs ⟨rfl, rfl⟩) ?_
  refine a_if_eq dX6_takeKind_10 (tgt := 17) (by decide) (fun c10 => ?_) (fun c10 => ?_)
  · refine a_aload_n dX6_takeKind_17 rfl ?_
    refine a_getR (ci := 6) (j := 0) dX6_takeKind_18 rfl rfl (by decide) rfl fl_6_15 ?_
    refine a_ldcS (i := 5) (by decide) rfl rfl dX6_takeKind_21 ?_
    refine a_cV1i dX6_takeKind_23 ml_6_107 wv_8_isWord rfl rfl (by decide) (Nat.le_of_ble_eq_true rfl) (c8_isWord (i := 5) (by decide) hp hs ⟨rfl, rfl⟩) ?_
    refine a_if_eq dX6_takeKind_26 (tgt := 33) (by decide) (fun c26 => ?_) (fun c26 => ?_)
    · refine a_aload_n dX6_takeKind_33 rfl ?_
      refine a_getR (ci := 6) (j := 0) dX6_takeKind_34 rfl rfl (by decide) rfl fl_6_15 ?_
      refine a_ldcS (i := 6) (by decide) rfl rfl dX6_takeKind_37 ?_
      refine a_cV1i dX6_takeKind_39 ml_6_107 wv_8_isWord rfl rfl (by decide) (Nat.le_of_ble_eq_true rfl) (c8_isWord (i := 6) (by decide) hp hs ⟨rfl, rfl⟩) ?_
      refine a_if_eq dX6_takeKind_42 (tgt := 49) (by decide) (fun c42 => ?_) (fun c42 => ?_)
      · refine a_iconst (v := (-1)) dX6_takeKind_49 (by decide) ?_
        refine a_putI (ci := 6) (j := 4) dX6_takeKind_50 rfl rfl (by decide) (by decide) rfl fl_6_58 ?_
        refine a_aload_n dX6_takeKind_53 rfl ?_
        refine a_getI (ci := 6) (j := 4) dX6_takeKind_54 rfl rfl (by decide) rfl fl_6_58 ?_
        try simp (disch := first | decide | assumption | omega) only [ui_eq, ui_k, ui_j, ui_b, ui_2, ul_1, ul_eq, ul_k, ul_j, ul_b]
        refine a_iconst (v := (-1)) dX6_takeKind_57 (by decide) ?_
        refine a_icmp_ne dX6_takeKind_58 (tgt := 67) (by decide) (fun c58 => ?_) (fun c58 => ?_)
        · exact absurd rfl c58
        · refine a_aload_n dX6_takeKind_61 rfl ?_
          refine a_iconst (v := 1) dX6_takeKind_62 (by decide) ?_
          refine a_cV1i dX6_takeKind_63 ml_6_51 wv_6_refuse rfl rfl (by decide) (Nat.le_of_ble_eq_true rfl) (c6_refuse ⟨rfl, rfl⟩) ?_
          try simp (disch := first | decide | assumption | omega) only [ui_eq, ui_k, ui_j, ui_b, ui_2, ul_1, ul_eq, ul_k, ul_j, ul_b]
          exact a_zret dX6_takeKind_66 rfl rfl (by
  first
    | (simp only [kindF, kindW, c10, c26, c42, c58, if_true, if_false, not_true_eq_false, not_false_eq_true, true_and, and_true, false_and, and_false, or_false, false_or] at hQ ⊢; exact hQ)
    | (simp [kindF, kindW, c10, c26, c42, c58] at hQ ⊢; exact hQ)
    | (exfalso; simp_all))
      · refine a_iconst (v := 2) dX6_takeKind_45 (by decide) ?_
        refine a_goto dX6_takeKind_46 (tgt := 50) (by decide) ?_
        refine a_putI (ci := 6) (j := 4) dX6_takeKind_50 rfl rfl (by decide) (by decide) rfl fl_6_58 ?_
        refine a_aload_n dX6_takeKind_53 rfl ?_
        refine a_getI (ci := 6) (j := 4) dX6_takeKind_54 rfl rfl (by decide) rfl fl_6_58 ?_
        try simp (disch := first | decide | assumption | omega) only [ui_eq, ui_k, ui_j, ui_b, ui_2, ul_1, ul_eq, ul_k, ul_j, ul_b]
        refine a_iconst (v := (-1)) dX6_takeKind_57 (by decide) ?_
        refine a_icmp_ne dX6_takeKind_58 (tgt := 67) (by decide) (fun c58v2 => ?_) (fun c58v2 => ?_)
        · refine a_aload_n dX6_takeKind_67 rfl ?_
          refine a_getI (ci := 6) (j := 4) dX6_takeKind_68 rfl rfl (by decide) rfl fl_6_58 ?_
          try simp (disch := first | decide | assumption | omega) only [ui_eq, ui_k, ui_j, ui_b, ui_2, ul_1, ul_eq, ul_k, ul_j, ul_b]
          refine a_iconst (v := 2) dX6_takeKind_71 (by decide) ?_
          refine a_icmp_eq dX6_takeKind_72 (tgt := 80) (by decide) (fun c72 => ?_) (fun c72 => ?_)
          · refine a_iconst (v := 1) dX6_takeKind_80 (by decide) ?_
            exact a_zret dX6_takeKind_81 rfl rfl (by
  first
    | (simp only [kindF, kindW, c10, c26, c42, c58v2, c72, if_true, if_false, not_true_eq_false, not_false_eq_true, true_and, and_true, false_and, and_false, or_false, false_or] at hQ ⊢; exact hQ)
    | (simp [kindF, kindW, c10, c26, c42, c58v2, c72] at hQ ⊢; exact hQ)
    | (exfalso; simp_all))
          · exact absurd rfl c72
        · exact absurd c58v2 (by decide)
    · refine a_iconst (v := 1) dX6_takeKind_29 (by decide) ?_
      refine a_goto dX6_takeKind_30 (tgt := 50) (by decide) ?_
      refine a_putI (ci := 6) (j := 4) dX6_takeKind_50 rfl rfl (by decide) (by decide) rfl fl_6_58 ?_
      refine a_aload_n dX6_takeKind_53 rfl ?_
      refine a_getI (ci := 6) (j := 4) dX6_takeKind_54 rfl rfl (by decide) rfl fl_6_58 ?_
      try simp (disch := first | decide | assumption | omega) only [ui_eq, ui_k, ui_j, ui_b, ui_2, ul_1, ul_eq, ul_k, ul_j, ul_b]
      refine a_iconst (v := (-1)) dX6_takeKind_57 (by decide) ?_
      refine a_icmp_ne dX6_takeKind_58 (tgt := 67) (by decide) (fun c58v3 => ?_) (fun c58v3 => ?_)
      · refine a_aload_n dX6_takeKind_67 rfl ?_
        refine a_getI (ci := 6) (j := 4) dX6_takeKind_68 rfl rfl (by decide) rfl fl_6_58 ?_
        try simp (disch := first | decide | assumption | omega) only [ui_eq, ui_k, ui_j, ui_b, ui_2, ul_1, ul_eq, ul_k, ul_j, ul_b]
        refine a_iconst (v := 2) dX6_takeKind_71 (by decide) ?_
        refine a_icmp_eq dX6_takeKind_72 (tgt := 80) (by decide) (fun c72v2 => ?_) (fun c72v2 => ?_)
        · exact absurd c72v2 (by decide)
        · refine a_aload_n dX6_takeKind_75 rfl ?_
          refine a_iconst (v := 1) dX6_takeKind_76 (by decide) ?_
          refine a_cV1v dX6_takeKind_77 ml_6_123 wv_6_putNumber rfl rfl (by decide) (Nat.le_of_ble_eq_true rfl) (c6_putNumber ⟨rfl, rfl⟩) ?_
          try simp (disch := first | decide | assumption | omega) only [ui_eq, ui_k, ui_j, ui_b, ui_2, ul_1, ul_eq, ul_k, ul_j, ul_b]
          refine a_iconst (v := 1) dX6_takeKind_80 (by decide) ?_
          exact a_zret dX6_takeKind_81 rfl rfl (by
  first
    | (simp only [kindF, kindW, c10, c26, c58v3, c72v2, if_true, if_false, not_true_eq_false, not_false_eq_true, true_and, and_true, false_and, and_false, or_false, false_or] at hQ ⊢; exact hQ)
    | (simp [kindF, kindW, c10, c26, c58v3, c72v2] at hQ ⊢; exact hQ)
    | (exfalso; simp_all))
      · exact absurd c58v3 (by decide)
  · refine a_iconst (v := 0) dX6_takeKind_13 (by decide) ?_
    refine a_goto dX6_takeKind_14 (tgt := 50) (by decide) ?_
    refine a_putI (ci := 6) (j := 4) dX6_takeKind_50 rfl rfl (by decide) (by decide) rfl fl_6_58 ?_
    refine a_aload_n dX6_takeKind_53 rfl ?_
    refine a_getI (ci := 6) (j := 4) dX6_takeKind_54 rfl rfl (by decide) rfl fl_6_58 ?_
    try simp (disch := first | decide | assumption | omega) only [ui_eq, ui_k, ui_j, ui_b, ui_2, ul_1, ul_eq, ul_k, ul_j, ul_b]
    refine a_iconst (v := (-1)) dX6_takeKind_57 (by decide) ?_
    refine a_icmp_ne dX6_takeKind_58 (tgt := 67) (by decide) (fun c58v4 => ?_) (fun c58v4 => ?_)
    · refine a_aload_n dX6_takeKind_67 rfl ?_
      refine a_getI (ci := 6) (j := 4) dX6_takeKind_68 rfl rfl (by decide) rfl fl_6_58 ?_
      try simp (disch := first | decide | assumption | omega) only [ui_eq, ui_k, ui_j, ui_b, ui_2, ul_1, ul_eq, ul_k, ul_j, ul_b]
      refine a_iconst (v := 2) dX6_takeKind_71 (by decide) ?_
      refine a_icmp_eq dX6_takeKind_72 (tgt := 80) (by decide) (fun c72v3 => ?_) (fun c72v3 => ?_)
      · exact absurd c72v3 (by decide)
      · refine a_aload_n dX6_takeKind_75 rfl ?_
        refine a_iconst (v := 1) dX6_takeKind_76 (by decide) ?_
        refine a_cV1v dX6_takeKind_77 ml_6_123 wv_6_putNumber rfl rfl (by decide) (Nat.le_of_ble_eq_true rfl) (c6_putNumber ⟨rfl, rfl⟩) ?_
        try simp (disch := first | decide | assumption | omega) only [ui_eq, ui_k, ui_j, ui_b, ui_2, ul_1, ul_eq, ul_k, ul_j, ul_b]
        refine a_iconst (v := 1) dX6_takeKind_80 (by decide) ?_
        exact a_zret dX6_takeKind_81 rfl rfl (by
  first
    | (simp only [kindF, kindW, c10, c58v4, c72v3, if_true, if_false, not_true_eq_false, not_false_eq_true, true_and, and_true, false_and, and_false, or_false, false_or] at hQ ⊢; exact hQ)
    | (simp [kindF, kindW, c10, c58v4, c72v3] at hQ ⊢; exact hQ)
    | (exfalso; simp_all))
    · exact absurd c58v4 (by decide)
theorem c6_beginLine {l : Launch} {G : GG} {h : AH} {Q : Option Value → AH → Prop} {b : Nat} (hb : isB b) (hp : pS h ≤ 1000) (hs : h.1 0 3 2 = nI (pS h)) (hQ : Q (some (.int (begF h b).1)) (begF h b).2) : Ct l G 6 yX6_beginLine cX6_beginLine 3 (some .boolean) [.ref (G.1 0 4), .ref (G.1 b 0)] h Q := by
  refine Ct.of (by decide) (Nat.le_of_ble_eq_true rfl) ?_
  show AW l G 6 RX6 cX6_beginLine 3 (some .boolean) 0 [some (.ref (G.1 0 4)), some (.ref (G.1 b 0))] [] h Q
  refine a_aload_n dX6_beginLine_0 rfl ?_
  refine a_cV0i dX6_beginLine_1 ml_6_80 wv_6_sortOfWord rfl rfl (by decide) (Nat.le_of_ble_eq_true rfl) (c6_sortOfWord hp hs ⟨rfl, rfl⟩) ?_
  refine a_istore_n dX6_beginLine_4 (by decide) rfl ?_
  dsimp only [lset]
  refine a_iload_n dX6_beginLine_5 rfl ?_
  refine a_if_eq dX6_beginLine_6 (tgt := 34) (by decide) (fun c6 => ?_) (fun c6 => ?_)
  · refine a_aload_n dX6_beginLine_34 rfl ?_
    refine a_iconst (v := 1) dX6_beginLine_35 (by decide) ?_
    refine a_cV1i dX6_beginLine_36 ml_6_51 wv_6_refuse rfl rfl (by decide) (Nat.le_of_ble_eq_true rfl) (c6_refuse ⟨rfl, rfl⟩) ?_
    try simp (disch := first | decide | assumption | omega) only [ui_eq, ui_k, ui_j, ui_b, ui_2, ul_1, ul_eq, ul_k, ul_j, ul_b]
    exact a_zret dX6_beginLine_39 rfl rfl (by
  first
    | (simp only [begF, c6, if_true, if_false, not_true_eq_false, not_false_eq_true, true_and, and_true, false_and, and_false, or_false, false_or] at hQ ⊢; exact hQ)
    | (simp [begF, c6] at hQ ⊢; exact hQ)
    | (exfalso; simp_all))
  · refine a_iload_n dX6_beginLine_9 rfl ?_
    refine a_iconst (v := 1) dX6_beginLine_10 (by decide) ?_
    refine a_icmp_ne dX6_beginLine_11 (tgt := 18) (by decide) (fun c11 => ?_) (fun c11 => ?_)
    · refine a_iconst (v := 0) dX6_beginLine_18 (by decide) ?_
      refine a_aload_n dX6_beginLine_19 rfl ?_
      refine a_getI (ci := 6) (j := 6) dX6_beginLine_20 rfl rfl (by decide) rfl fl_6_23 ?_
      refine a_if_ne dX6_beginLine_23 (tgt := 30) (by decide) (fun c23 => ?_) (fun c23 => ?_)
      · refine a_iconst (v := 0) dX6_beginLine_30 (by decide) ?_
        refine a_icmp_eq dX6_beginLine_31 (tgt := 40) (by decide) (fun c31 => ?_) (fun c31 => ?_)
        · refine a_iload_n dX6_beginLine_40 rfl ?_
          refine a_iconst (v := 2) dX6_beginLine_41 (by decide) ?_
          refine a_icmp_ne dX6_beginLine_42 (tgt := 54) (by decide) (fun c42 => ?_) (fun c42 => ?_)
          · refine a_iload_n dX6_beginLine_54 rfl ?_
            refine a_iconst (v := 3) dX6_beginLine_55 (by decide) ?_
            refine a_icmp_ne dX6_beginLine_56 (tgt := 71) (by decide) (fun c56 => ?_) (fun c56 => ?_)
            · refine a_iload_n dX6_beginLine_71 rfl ?_
              refine a_iconst (v := 4) dX6_beginLine_72 (by decide) ?_
              refine a_icmp_ne dX6_beginLine_73 (tgt := 94) (by decide) (fun c73 => ?_) (fun c73 => ?_)
              · refine a_aload_n dX6_beginLine_94 rfl ?_
                refine a_iload_n dX6_beginLine_95 rfl ?_
                refine a_putI (ci := 6) (j := 2) dX6_beginLine_96 rfl rfl (by decide) (by decide) rfl fl_6_19 ?_
                refine a_aload_n dX6_beginLine_99 rfl ?_
                refine a_iconst (v := 0) dX6_beginLine_100 (by decide) ?_
                refine a_putI (ci := 6) (j := 3) dX6_beginLine_101 rfl rfl (by decide) (by decide) rfl fl_6_100 ?_
                refine a_aload_n dX6_beginLine_104 rfl ?_
                refine a_iconst (v := (-1)) dX6_beginLine_105 (by decide) ?_
                refine a_putI (ci := 6) (j := 4) dX6_beginLine_106 rfl rfl (by decide) (by decide) rfl fl_6_58 ?_
                refine a_aload_n dX6_beginLine_109 rfl ?_
                refine a_iconst (v := 0) dX6_beginLine_110 (by decide) ?_
                refine a_putI (ci := 6) (j := 5) dX6_beginLine_111 rfl rfl (by decide) (by decide) rfl fl_6_103 ?_
                refine a_iconst (v := 1) dX6_beginLine_114 (by decide) ?_
                exact a_zret dX6_beginLine_115 rfl rfl (by
  first
    | (simp only [begF, c6, c11, c23, c31, c42, c56, c73, if_true, if_false, not_true_eq_false, not_false_eq_true, true_and, and_true, false_and, and_false, or_false, false_or] at hQ ⊢; exact hQ)
    | (simp [begF, c6, c11, c23, c31, c42, c56, c73] at hQ ⊢; exact hQ)
    | (exfalso; simp_all))
              · refine a_aload_n dX6_beginLine_76 rfl ?_
                refine a_getR (ci := 1) (j := 2) dX6_beginLine_77 (kdB hb rfl) rfl (by decide) rfl fl_6_93 ?_
                refine a_getI (ci := 3) (j := 5) dX6_beginLine_80 (kdB hb rfl) rfl (by decide) rfl fl_6_97 ?_
                refine a_bipush (v := 8) dX6_beginLine_83 (by decide) ?_
                refine a_icmp_lt dX6_beginLine_85 (tgt := 94) (by decide) (fun c85 => ?_) (fun c85 => ?_)
                · refine a_aload_n dX6_beginLine_94 rfl ?_
                  refine a_iload_n dX6_beginLine_95 rfl ?_
                  refine a_putI (ci := 6) (j := 2) dX6_beginLine_96 rfl rfl (by decide) (by decide) rfl fl_6_19 ?_
                  refine a_aload_n dX6_beginLine_99 rfl ?_
                  refine a_iconst (v := 0) dX6_beginLine_100 (by decide) ?_
                  refine a_putI (ci := 6) (j := 3) dX6_beginLine_101 rfl rfl (by decide) (by decide) rfl fl_6_100 ?_
                  refine a_aload_n dX6_beginLine_104 rfl ?_
                  refine a_iconst (v := (-1)) dX6_beginLine_105 (by decide) ?_
                  refine a_putI (ci := 6) (j := 4) dX6_beginLine_106 rfl rfl (by decide) (by decide) rfl fl_6_58 ?_
                  refine a_aload_n dX6_beginLine_109 rfl ?_
                  refine a_iconst (v := 0) dX6_beginLine_110 (by decide) ?_
                  refine a_putI (ci := 6) (j := 5) dX6_beginLine_111 rfl rfl (by decide) (by decide) rfl fl_6_103 ?_
                  refine a_iconst (v := 1) dX6_beginLine_114 (by decide) ?_
                  exact a_zret dX6_beginLine_115 rfl rfl (by
  first
    | (simp only [begF, c6, c11, c23, c31, c42, c56, c73, c85, if_true, if_false, not_true_eq_false, not_false_eq_true, true_and, and_true, false_and, and_false, or_false, false_or] at hQ ⊢; exact hQ)
    | (simp [begF, c6, c11, c23, c31, c42, c56, c73, c85] at hQ ⊢; exact hQ)
    | (exfalso; simp_all))
                · refine a_aload_n dX6_beginLine_88 rfl ?_
                  refine a_iconst (v := 3) dX6_beginLine_89 (by decide) ?_
                  refine a_cV1i dX6_beginLine_90 ml_6_51 wv_6_refuse rfl rfl (by decide) (Nat.le_of_ble_eq_true rfl) (c6_refuse ⟨rfl, rfl⟩) ?_
                  try simp (disch := first | decide | assumption | omega) only [ui_eq, ui_k, ui_j, ui_b, ui_2, ul_1, ul_eq, ul_k, ul_j, ul_b]
                  exact a_zret dX6_beginLine_93 rfl rfl (by
  first
    | (simp only [begF, c6, c11, c23, c31, c42, c56, c73, c85, if_true, if_false, not_true_eq_false, not_false_eq_true, true_and, and_true, false_and, and_false, or_false, false_or] at hQ ⊢; exact hQ)
    | (simp [begF, c6, c11, c23, c31, c42, c56, c73, c85] at hQ ⊢; exact hQ)
    | (exfalso; simp_all))
            · refine a_aload_n dX6_beginLine_59 rfl ?_
              refine a_getR (ci := 1) (j := 1) dX6_beginLine_60 (kdB hb rfl) rfl (by decide) rfl fl_6_84 ?_
              refine a_getI (ci := 4) (j := 11) dX6_beginLine_63 (kdB hb rfl) rfl (by decide) rfl fl_6_88 ?_
              refine a_bipush (v := 6) dX6_beginLine_66 (by decide) ?_
              refine a_icmp_ge dX6_beginLine_68 (tgt := 88) (by decide) (fun c68 => ?_) (fun c68 => ?_)
              · refine a_aload_n dX6_beginLine_88 rfl ?_
                refine a_iconst (v := 3) dX6_beginLine_89 (by decide) ?_
                refine a_cV1i dX6_beginLine_90 ml_6_51 wv_6_refuse rfl rfl (by decide) (Nat.le_of_ble_eq_true rfl) (c6_refuse ⟨rfl, rfl⟩) ?_
                try simp (disch := first | decide | assumption | omega) only [ui_eq, ui_k, ui_j, ui_b, ui_2, ul_1, ul_eq, ul_k, ul_j, ul_b]
                exact a_zret dX6_beginLine_93 rfl rfl (by
  first
    | (simp only [begF, c6, c11, c23, c31, c42, c56, c68, if_true, if_false, not_true_eq_false, not_false_eq_true, true_and, and_true, false_and, and_false, or_false, false_or] at hQ ⊢; exact hQ)
    | (simp [begF, c6, c11, c23, c31, c42, c56, c68] at hQ ⊢; exact hQ)
    | (exfalso; simp_all))
              · refine a_iload_n dX6_beginLine_71 rfl ?_
                refine a_iconst (v := 4) dX6_beginLine_72 (by decide) ?_
                refine a_icmp_ne dX6_beginLine_73 (tgt := 94) (by decide) (fun c73v2 => ?_) (fun c73v2 => ?_)
                · refine a_aload_n dX6_beginLine_94 rfl ?_
                  refine a_iload_n dX6_beginLine_95 rfl ?_
                  refine a_putI (ci := 6) (j := 2) dX6_beginLine_96 rfl rfl (by decide) (by decide) rfl fl_6_19 ?_
                  refine a_aload_n dX6_beginLine_99 rfl ?_
                  refine a_iconst (v := 0) dX6_beginLine_100 (by decide) ?_
                  refine a_putI (ci := 6) (j := 3) dX6_beginLine_101 rfl rfl (by decide) (by decide) rfl fl_6_100 ?_
                  refine a_aload_n dX6_beginLine_104 rfl ?_
                  refine a_iconst (v := (-1)) dX6_beginLine_105 (by decide) ?_
                  refine a_putI (ci := 6) (j := 4) dX6_beginLine_106 rfl rfl (by decide) (by decide) rfl fl_6_58 ?_
                  refine a_aload_n dX6_beginLine_109 rfl ?_
                  refine a_iconst (v := 0) dX6_beginLine_110 (by decide) ?_
                  refine a_putI (ci := 6) (j := 5) dX6_beginLine_111 rfl rfl (by decide) (by decide) rfl fl_6_103 ?_
                  refine a_iconst (v := 1) dX6_beginLine_114 (by decide) ?_
                  exact a_zret dX6_beginLine_115 rfl rfl (by
  first
    | (simp only [begF, c6, c11, c23, c31, c42, c56, c68, c73v2, if_true, if_false, not_true_eq_false, not_false_eq_true, true_and, and_true, false_and, and_false, or_false, false_or] at hQ ⊢; exact hQ)
    | (simp [begF, c6, c11, c23, c31, c42, c56, c68, c73v2] at hQ ⊢; exact hQ)
    | (exfalso; simp_all))
                · refine a_aload_n dX6_beginLine_76 rfl ?_
                  refine a_getR (ci := 1) (j := 2) dX6_beginLine_77 (kdB hb rfl) rfl (by decide) rfl fl_6_93 ?_
                  refine a_getI (ci := 3) (j := 5) dX6_beginLine_80 (kdB hb rfl) rfl (by decide) rfl fl_6_97 ?_
                  refine a_bipush (v := 8) dX6_beginLine_83 (by decide) ?_
                  refine a_icmp_lt dX6_beginLine_85 (tgt := 94) (by decide) (fun c85v2 => ?_) (fun c85v2 => ?_)
                  · refine a_aload_n dX6_beginLine_94 rfl ?_
                    refine a_iload_n dX6_beginLine_95 rfl ?_
                    refine a_putI (ci := 6) (j := 2) dX6_beginLine_96 rfl rfl (by decide) (by decide) rfl fl_6_19 ?_
                    refine a_aload_n dX6_beginLine_99 rfl ?_
                    refine a_iconst (v := 0) dX6_beginLine_100 (by decide) ?_
                    refine a_putI (ci := 6) (j := 3) dX6_beginLine_101 rfl rfl (by decide) (by decide) rfl fl_6_100 ?_
                    refine a_aload_n dX6_beginLine_104 rfl ?_
                    refine a_iconst (v := (-1)) dX6_beginLine_105 (by decide) ?_
                    refine a_putI (ci := 6) (j := 4) dX6_beginLine_106 rfl rfl (by decide) (by decide) rfl fl_6_58 ?_
                    refine a_aload_n dX6_beginLine_109 rfl ?_
                    refine a_iconst (v := 0) dX6_beginLine_110 (by decide) ?_
                    refine a_putI (ci := 6) (j := 5) dX6_beginLine_111 rfl rfl (by decide) (by decide) rfl fl_6_103 ?_
                    refine a_iconst (v := 1) dX6_beginLine_114 (by decide) ?_
                    exact a_zret dX6_beginLine_115 rfl rfl (by
  first
    | (simp only [begF, c6, c11, c23, c31, c42, c56, c68, c73v2, c85v2, if_true, if_false, not_true_eq_false, not_false_eq_true, true_and, and_true, false_and, and_false, or_false, false_or] at hQ ⊢; exact hQ)
    | (simp [begF, c6, c11, c23, c31, c42, c56, c68, c73v2, c85v2] at hQ ⊢; exact hQ)
    | (exfalso; simp_all))
                  · refine a_aload_n dX6_beginLine_88 rfl ?_
                    refine a_iconst (v := 3) dX6_beginLine_89 (by decide) ?_
                    refine a_cV1i dX6_beginLine_90 ml_6_51 wv_6_refuse rfl rfl (by decide) (Nat.le_of_ble_eq_true rfl) (c6_refuse ⟨rfl, rfl⟩) ?_
                    try simp (disch := first | decide | assumption | omega) only [ui_eq, ui_k, ui_j, ui_b, ui_2, ul_1, ul_eq, ul_k, ul_j, ul_b]
                    exact a_zret dX6_beginLine_93 rfl rfl (by
  first
    | (simp only [begF, c6, c11, c23, c31, c42, c56, c68, c73v2, c85v2, if_true, if_false, not_true_eq_false, not_false_eq_true, true_and, and_true, false_and, and_false, or_false, false_or] at hQ ⊢; exact hQ)
    | (simp [begF, c6, c11, c23, c31, c42, c56, c68, c73v2, c85v2] at hQ ⊢; exact hQ)
    | (exfalso; simp_all))
          · refine a_aload_n dX6_beginLine_45 rfl ?_
            refine a_getI (ci := 6) (j := 7) dX6_beginLine_46 rfl rfl (by decide) rfl fl_6_26 ?_
            refine a_bipush (v := 28) dX6_beginLine_49 (by decide) ?_
            refine a_icmp_ge dX6_beginLine_51 (tgt := 88) (by decide) (fun c51 => ?_) (fun c51 => ?_)
            · refine a_aload_n dX6_beginLine_88 rfl ?_
              refine a_iconst (v := 3) dX6_beginLine_89 (by decide) ?_
              refine a_cV1i dX6_beginLine_90 ml_6_51 wv_6_refuse rfl rfl (by decide) (Nat.le_of_ble_eq_true rfl) (c6_refuse ⟨rfl, rfl⟩) ?_
              try simp (disch := first | decide | assumption | omega) only [ui_eq, ui_k, ui_j, ui_b, ui_2, ul_1, ul_eq, ul_k, ul_j, ul_b]
              exact a_zret dX6_beginLine_93 rfl rfl (by
  first
    | (simp only [begF, c6, c11, c23, c31, c42, c51, if_true, if_false, not_true_eq_false, not_false_eq_true, true_and, and_true, false_and, and_false, or_false, false_or] at hQ ⊢; exact hQ)
    | (simp [begF, c6, c11, c23, c31, c42, c51] at hQ ⊢; exact hQ)
    | (exfalso; simp_all))
            · refine a_iload_n dX6_beginLine_54 rfl ?_
              refine a_iconst (v := 3) dX6_beginLine_55 (by decide) ?_
              refine a_icmp_ne dX6_beginLine_56 (tgt := 71) (by decide) (fun c56v2 => ?_) (fun c56v2 => ?_)
              · refine a_iload_n dX6_beginLine_71 rfl ?_
                refine a_iconst (v := 4) dX6_beginLine_72 (by decide) ?_
                refine a_icmp_ne dX6_beginLine_73 (tgt := 94) (by decide) (fun c73v3 => ?_) (fun c73v3 => ?_)
                · refine a_aload_n dX6_beginLine_94 rfl ?_
                  refine a_iload_n dX6_beginLine_95 rfl ?_
                  refine a_putI (ci := 6) (j := 2) dX6_beginLine_96 rfl rfl (by decide) (by decide) rfl fl_6_19 ?_
                  refine a_aload_n dX6_beginLine_99 rfl ?_
                  refine a_iconst (v := 0) dX6_beginLine_100 (by decide) ?_
                  refine a_putI (ci := 6) (j := 3) dX6_beginLine_101 rfl rfl (by decide) (by decide) rfl fl_6_100 ?_
                  refine a_aload_n dX6_beginLine_104 rfl ?_
                  refine a_iconst (v := (-1)) dX6_beginLine_105 (by decide) ?_
                  refine a_putI (ci := 6) (j := 4) dX6_beginLine_106 rfl rfl (by decide) (by decide) rfl fl_6_58 ?_
                  refine a_aload_n dX6_beginLine_109 rfl ?_
                  refine a_iconst (v := 0) dX6_beginLine_110 (by decide) ?_
                  refine a_putI (ci := 6) (j := 5) dX6_beginLine_111 rfl rfl (by decide) (by decide) rfl fl_6_103 ?_
                  refine a_iconst (v := 1) dX6_beginLine_114 (by decide) ?_
                  exact a_zret dX6_beginLine_115 rfl rfl (by
  first
    | (simp only [begF, c6, c11, c23, c31, c42, c51, c56v2, c73v3, if_true, if_false, not_true_eq_false, not_false_eq_true, true_and, and_true, false_and, and_false, or_false, false_or] at hQ ⊢; exact hQ)
    | (simp [begF, c6, c11, c23, c31, c42, c51, c56v2, c73v3] at hQ ⊢; exact hQ)
    | (exfalso; simp_all))
                · refine a_aload_n dX6_beginLine_76 rfl ?_
                  refine a_getR (ci := 1) (j := 2) dX6_beginLine_77 (kdB hb rfl) rfl (by decide) rfl fl_6_93 ?_
                  refine a_getI (ci := 3) (j := 5) dX6_beginLine_80 (kdB hb rfl) rfl (by decide) rfl fl_6_97 ?_
                  refine a_bipush (v := 8) dX6_beginLine_83 (by decide) ?_
                  refine a_icmp_lt dX6_beginLine_85 (tgt := 94) (by decide) (fun c85v3 => ?_) (fun c85v3 => ?_)
                  · refine a_aload_n dX6_beginLine_94 rfl ?_
                    refine a_iload_n dX6_beginLine_95 rfl ?_
                    refine a_putI (ci := 6) (j := 2) dX6_beginLine_96 rfl rfl (by decide) (by decide) rfl fl_6_19 ?_
                    refine a_aload_n dX6_beginLine_99 rfl ?_
                    refine a_iconst (v := 0) dX6_beginLine_100 (by decide) ?_
                    refine a_putI (ci := 6) (j := 3) dX6_beginLine_101 rfl rfl (by decide) (by decide) rfl fl_6_100 ?_
                    refine a_aload_n dX6_beginLine_104 rfl ?_
                    refine a_iconst (v := (-1)) dX6_beginLine_105 (by decide) ?_
                    refine a_putI (ci := 6) (j := 4) dX6_beginLine_106 rfl rfl (by decide) (by decide) rfl fl_6_58 ?_
                    refine a_aload_n dX6_beginLine_109 rfl ?_
                    refine a_iconst (v := 0) dX6_beginLine_110 (by decide) ?_
                    refine a_putI (ci := 6) (j := 5) dX6_beginLine_111 rfl rfl (by decide) (by decide) rfl fl_6_103 ?_
                    refine a_iconst (v := 1) dX6_beginLine_114 (by decide) ?_
                    exact a_zret dX6_beginLine_115 rfl rfl (by
  first
    | (simp only [begF, c6, c11, c23, c31, c42, c51, c56v2, c73v3, c85v3, if_true, if_false, not_true_eq_false, not_false_eq_true, true_and, and_true, false_and, and_false, or_false, false_or] at hQ ⊢; exact hQ)
    | (simp [begF, c6, c11, c23, c31, c42, c51, c56v2, c73v3, c85v3] at hQ ⊢; exact hQ)
    | (exfalso; simp_all))
                  · refine a_aload_n dX6_beginLine_88 rfl ?_
                    refine a_iconst (v := 3) dX6_beginLine_89 (by decide) ?_
                    refine a_cV1i dX6_beginLine_90 ml_6_51 wv_6_refuse rfl rfl (by decide) (Nat.le_of_ble_eq_true rfl) (c6_refuse ⟨rfl, rfl⟩) ?_
                    try simp (disch := first | decide | assumption | omega) only [ui_eq, ui_k, ui_j, ui_b, ui_2, ul_1, ul_eq, ul_k, ul_j, ul_b]
                    exact a_zret dX6_beginLine_93 rfl rfl (by
  first
    | (simp only [begF, c6, c11, c23, c31, c42, c51, c56v2, c73v3, c85v3, if_true, if_false, not_true_eq_false, not_false_eq_true, true_and, and_true, false_and, and_false, or_false, false_or] at hQ ⊢; exact hQ)
    | (simp [begF, c6, c11, c23, c31, c42, c51, c56v2, c73v3, c85v3] at hQ ⊢; exact hQ)
    | (exfalso; simp_all))
              · refine a_aload_n dX6_beginLine_59 rfl ?_
                refine a_getR (ci := 1) (j := 1) dX6_beginLine_60 (kdB hb rfl) rfl (by decide) rfl fl_6_84 ?_
                refine a_getI (ci := 4) (j := 11) dX6_beginLine_63 (kdB hb rfl) rfl (by decide) rfl fl_6_88 ?_
                refine a_bipush (v := 6) dX6_beginLine_66 (by decide) ?_
                refine a_icmp_ge dX6_beginLine_68 (tgt := 88) (by decide) (fun c68v2 => ?_) (fun c68v2 => ?_)
                · refine a_aload_n dX6_beginLine_88 rfl ?_
                  refine a_iconst (v := 3) dX6_beginLine_89 (by decide) ?_
                  refine a_cV1i dX6_beginLine_90 ml_6_51 wv_6_refuse rfl rfl (by decide) (Nat.le_of_ble_eq_true rfl) (c6_refuse ⟨rfl, rfl⟩) ?_
                  try simp (disch := first | decide | assumption | omega) only [ui_eq, ui_k, ui_j, ui_b, ui_2, ul_1, ul_eq, ul_k, ul_j, ul_b]
                  exact a_zret dX6_beginLine_93 rfl rfl (by
  first
    | (simp only [begF, c6, c11, c23, c31, c42, c51, c56v2, c68v2, if_true, if_false, not_true_eq_false, not_false_eq_true, true_and, and_true, false_and, and_false, or_false, false_or] at hQ ⊢; exact hQ)
    | (simp [begF, c6, c11, c23, c31, c42, c51, c56v2, c68v2] at hQ ⊢; exact hQ)
    | (exfalso; simp_all))
                · refine a_iload_n dX6_beginLine_71 rfl ?_
                  refine a_iconst (v := 4) dX6_beginLine_72 (by decide) ?_
                  refine a_icmp_ne dX6_beginLine_73 (tgt := 94) (by decide) (fun c73v4 => ?_) (fun c73v4 => ?_)
                  · refine a_aload_n dX6_beginLine_94 rfl ?_
                    refine a_iload_n dX6_beginLine_95 rfl ?_
                    refine a_putI (ci := 6) (j := 2) dX6_beginLine_96 rfl rfl (by decide) (by decide) rfl fl_6_19 ?_
                    refine a_aload_n dX6_beginLine_99 rfl ?_
                    refine a_iconst (v := 0) dX6_beginLine_100 (by decide) ?_
                    refine a_putI (ci := 6) (j := 3) dX6_beginLine_101 rfl rfl (by decide) (by decide) rfl fl_6_100 ?_
                    refine a_aload_n dX6_beginLine_104 rfl ?_
                    refine a_iconst (v := (-1)) dX6_beginLine_105 (by decide) ?_
                    refine a_putI (ci := 6) (j := 4) dX6_beginLine_106 rfl rfl (by decide) (by decide) rfl fl_6_58 ?_
                    refine a_aload_n dX6_beginLine_109 rfl ?_
                    refine a_iconst (v := 0) dX6_beginLine_110 (by decide) ?_
                    refine a_putI (ci := 6) (j := 5) dX6_beginLine_111 rfl rfl (by decide) (by decide) rfl fl_6_103 ?_
                    refine a_iconst (v := 1) dX6_beginLine_114 (by decide) ?_
                    exact a_zret dX6_beginLine_115 rfl rfl (by
  first
    | (simp only [begF, c6, c11, c23, c31, c42, c51, c56v2, c68v2, c73v4, if_true, if_false, not_true_eq_false, not_false_eq_true, true_and, and_true, false_and, and_false, or_false, false_or] at hQ ⊢; exact hQ)
    | (simp [begF, c6, c11, c23, c31, c42, c51, c56v2, c68v2, c73v4] at hQ ⊢; exact hQ)
    | (exfalso; simp_all))
                  · refine a_aload_n dX6_beginLine_76 rfl ?_
                    refine a_getR (ci := 1) (j := 2) dX6_beginLine_77 (kdB hb rfl) rfl (by decide) rfl fl_6_93 ?_
                    refine a_getI (ci := 3) (j := 5) dX6_beginLine_80 (kdB hb rfl) rfl (by decide) rfl fl_6_97 ?_
                    refine a_bipush (v := 8) dX6_beginLine_83 (by decide) ?_
                    refine a_icmp_lt dX6_beginLine_85 (tgt := 94) (by decide) (fun c85v4 => ?_) (fun c85v4 => ?_)
                    · refine a_aload_n dX6_beginLine_94 rfl ?_
                      refine a_iload_n dX6_beginLine_95 rfl ?_
                      refine a_putI (ci := 6) (j := 2) dX6_beginLine_96 rfl rfl (by decide) (by decide) rfl fl_6_19 ?_
                      refine a_aload_n dX6_beginLine_99 rfl ?_
                      refine a_iconst (v := 0) dX6_beginLine_100 (by decide) ?_
                      refine a_putI (ci := 6) (j := 3) dX6_beginLine_101 rfl rfl (by decide) (by decide) rfl fl_6_100 ?_
                      refine a_aload_n dX6_beginLine_104 rfl ?_
                      refine a_iconst (v := (-1)) dX6_beginLine_105 (by decide) ?_
                      refine a_putI (ci := 6) (j := 4) dX6_beginLine_106 rfl rfl (by decide) (by decide) rfl fl_6_58 ?_
                      refine a_aload_n dX6_beginLine_109 rfl ?_
                      refine a_iconst (v := 0) dX6_beginLine_110 (by decide) ?_
                      refine a_putI (ci := 6) (j := 5) dX6_beginLine_111 rfl rfl (by decide) (by decide) rfl fl_6_103 ?_
                      refine a_iconst (v := 1) dX6_beginLine_114 (by decide) ?_
                      exact a_zret dX6_beginLine_115 rfl rfl (by
  first
    | (simp only [begF, c6, c11, c23, c31, c42, c51, c56v2, c68v2, c73v4, c85v4, if_true, if_false, not_true_eq_false, not_false_eq_true, true_and, and_true, false_and, and_false, or_false, false_or] at hQ ⊢; exact hQ)
    | (simp [begF, c6, c11, c23, c31, c42, c51, c56v2, c68v2, c73v4, c85v4] at hQ ⊢; exact hQ)
    | (exfalso; simp_all))
                    · refine a_aload_n dX6_beginLine_88 rfl ?_
                      refine a_iconst (v := 3) dX6_beginLine_89 (by decide) ?_
                      refine a_cV1i dX6_beginLine_90 ml_6_51 wv_6_refuse rfl rfl (by decide) (Nat.le_of_ble_eq_true rfl) (c6_refuse ⟨rfl, rfl⟩) ?_
                      try simp (disch := first | decide | assumption | omega) only [ui_eq, ui_k, ui_j, ui_b, ui_2, ul_1, ul_eq, ul_k, ul_j, ul_b]
                      exact a_zret dX6_beginLine_93 rfl rfl (by
  first
    | (simp only [begF, c6, c11, c23, c31, c42, c51, c56v2, c68v2, c73v4, c85v4, if_true, if_false, not_true_eq_false, not_false_eq_true, true_and, and_true, false_and, and_false, or_false, false_or] at hQ ⊢; exact hQ)
    | (simp [begF, c6, c11, c23, c31, c42, c51, c56v2, c68v2, c73v4, c85v4] at hQ ⊢; exact hQ)
    | (exfalso; simp_all))
        · refine a_aload_n dX6_beginLine_34 rfl ?_
          refine a_iconst (v := 1) dX6_beginLine_35 (by decide) ?_
          refine a_cV1i dX6_beginLine_36 ml_6_51 wv_6_refuse rfl rfl (by decide) (Nat.le_of_ble_eq_true rfl) (c6_refuse ⟨rfl, rfl⟩) ?_
          try simp (disch := first | decide | assumption | omega) only [ui_eq, ui_k, ui_j, ui_b, ui_2, ul_1, ul_eq, ul_k, ul_j, ul_b]
          exact a_zret dX6_beginLine_39 rfl rfl (by
  first
    | (simp only [begF, c6, c11, c23, c31, if_true, if_false, not_true_eq_false, not_false_eq_true, true_and, and_true, false_and, and_false, or_false, false_or] at hQ ⊢; exact hQ)
    | (simp [begF, c6, c11, c23, c31] at hQ ⊢; exact hQ)
    | (exfalso; simp_all))
      · refine a_iconst (v := 1) dX6_beginLine_26 (by decide) ?_
        refine a_goto dX6_beginLine_27 (tgt := 31) (by decide) ?_
        refine a_icmp_eq dX6_beginLine_31 (tgt := 40) (by decide) (fun c31v2 => ?_) (fun c31v2 => ?_)
        · refine a_iload_n dX6_beginLine_40 rfl ?_
          refine a_iconst (v := 2) dX6_beginLine_41 (by decide) ?_
          refine a_icmp_ne dX6_beginLine_42 (tgt := 54) (by decide) (fun c42v2 => ?_) (fun c42v2 => ?_)
          · refine a_iload_n dX6_beginLine_54 rfl ?_
            refine a_iconst (v := 3) dX6_beginLine_55 (by decide) ?_
            refine a_icmp_ne dX6_beginLine_56 (tgt := 71) (by decide) (fun c56v3 => ?_) (fun c56v3 => ?_)
            · refine a_iload_n dX6_beginLine_71 rfl ?_
              refine a_iconst (v := 4) dX6_beginLine_72 (by decide) ?_
              refine a_icmp_ne dX6_beginLine_73 (tgt := 94) (by decide) (fun c73v5 => ?_) (fun c73v5 => ?_)
              · refine a_aload_n dX6_beginLine_94 rfl ?_
                refine a_iload_n dX6_beginLine_95 rfl ?_
                refine a_putI (ci := 6) (j := 2) dX6_beginLine_96 rfl rfl (by decide) (by decide) rfl fl_6_19 ?_
                refine a_aload_n dX6_beginLine_99 rfl ?_
                refine a_iconst (v := 0) dX6_beginLine_100 (by decide) ?_
                refine a_putI (ci := 6) (j := 3) dX6_beginLine_101 rfl rfl (by decide) (by decide) rfl fl_6_100 ?_
                refine a_aload_n dX6_beginLine_104 rfl ?_
                refine a_iconst (v := (-1)) dX6_beginLine_105 (by decide) ?_
                refine a_putI (ci := 6) (j := 4) dX6_beginLine_106 rfl rfl (by decide) (by decide) rfl fl_6_58 ?_
                refine a_aload_n dX6_beginLine_109 rfl ?_
                refine a_iconst (v := 0) dX6_beginLine_110 (by decide) ?_
                refine a_putI (ci := 6) (j := 5) dX6_beginLine_111 rfl rfl (by decide) (by decide) rfl fl_6_103 ?_
                refine a_iconst (v := 1) dX6_beginLine_114 (by decide) ?_
                exact a_zret dX6_beginLine_115 rfl rfl (by
  first
    | (simp only [begF, c6, c11, c23, c31v2, c42v2, c56v3, c73v5, if_true, if_false, not_true_eq_false, not_false_eq_true, true_and, and_true, false_and, and_false, or_false, false_or] at hQ ⊢; exact hQ)
    | (simp [begF, c6, c11, c23, c31v2, c42v2, c56v3, c73v5] at hQ ⊢; exact hQ)
    | (exfalso; simp_all))
              · refine a_aload_n dX6_beginLine_76 rfl ?_
                refine a_getR (ci := 1) (j := 2) dX6_beginLine_77 (kdB hb rfl) rfl (by decide) rfl fl_6_93 ?_
                refine a_getI (ci := 3) (j := 5) dX6_beginLine_80 (kdB hb rfl) rfl (by decide) rfl fl_6_97 ?_
                refine a_bipush (v := 8) dX6_beginLine_83 (by decide) ?_
                refine a_icmp_lt dX6_beginLine_85 (tgt := 94) (by decide) (fun c85v5 => ?_) (fun c85v5 => ?_)
                · refine a_aload_n dX6_beginLine_94 rfl ?_
                  refine a_iload_n dX6_beginLine_95 rfl ?_
                  refine a_putI (ci := 6) (j := 2) dX6_beginLine_96 rfl rfl (by decide) (by decide) rfl fl_6_19 ?_
                  refine a_aload_n dX6_beginLine_99 rfl ?_
                  refine a_iconst (v := 0) dX6_beginLine_100 (by decide) ?_
                  refine a_putI (ci := 6) (j := 3) dX6_beginLine_101 rfl rfl (by decide) (by decide) rfl fl_6_100 ?_
                  refine a_aload_n dX6_beginLine_104 rfl ?_
                  refine a_iconst (v := (-1)) dX6_beginLine_105 (by decide) ?_
                  refine a_putI (ci := 6) (j := 4) dX6_beginLine_106 rfl rfl (by decide) (by decide) rfl fl_6_58 ?_
                  refine a_aload_n dX6_beginLine_109 rfl ?_
                  refine a_iconst (v := 0) dX6_beginLine_110 (by decide) ?_
                  refine a_putI (ci := 6) (j := 5) dX6_beginLine_111 rfl rfl (by decide) (by decide) rfl fl_6_103 ?_
                  refine a_iconst (v := 1) dX6_beginLine_114 (by decide) ?_
                  exact a_zret dX6_beginLine_115 rfl rfl (by
  first
    | (simp only [begF, c6, c11, c23, c31v2, c42v2, c56v3, c73v5, c85v5, if_true, if_false, not_true_eq_false, not_false_eq_true, true_and, and_true, false_and, and_false, or_false, false_or] at hQ ⊢; exact hQ)
    | (simp [begF, c6, c11, c23, c31v2, c42v2, c56v3, c73v5, c85v5] at hQ ⊢; exact hQ)
    | (exfalso; simp_all))
                · refine a_aload_n dX6_beginLine_88 rfl ?_
                  refine a_iconst (v := 3) dX6_beginLine_89 (by decide) ?_
                  refine a_cV1i dX6_beginLine_90 ml_6_51 wv_6_refuse rfl rfl (by decide) (Nat.le_of_ble_eq_true rfl) (c6_refuse ⟨rfl, rfl⟩) ?_
                  try simp (disch := first | decide | assumption | omega) only [ui_eq, ui_k, ui_j, ui_b, ui_2, ul_1, ul_eq, ul_k, ul_j, ul_b]
                  exact a_zret dX6_beginLine_93 rfl rfl (by
  first
    | (simp only [begF, c6, c11, c23, c31v2, c42v2, c56v3, c73v5, c85v5, if_true, if_false, not_true_eq_false, not_false_eq_true, true_and, and_true, false_and, and_false, or_false, false_or] at hQ ⊢; exact hQ)
    | (simp [begF, c6, c11, c23, c31v2, c42v2, c56v3, c73v5, c85v5] at hQ ⊢; exact hQ)
    | (exfalso; simp_all))
            · refine a_aload_n dX6_beginLine_59 rfl ?_
              refine a_getR (ci := 1) (j := 1) dX6_beginLine_60 (kdB hb rfl) rfl (by decide) rfl fl_6_84 ?_
              refine a_getI (ci := 4) (j := 11) dX6_beginLine_63 (kdB hb rfl) rfl (by decide) rfl fl_6_88 ?_
              refine a_bipush (v := 6) dX6_beginLine_66 (by decide) ?_
              refine a_icmp_ge dX6_beginLine_68 (tgt := 88) (by decide) (fun c68v3 => ?_) (fun c68v3 => ?_)
              · refine a_aload_n dX6_beginLine_88 rfl ?_
                refine a_iconst (v := 3) dX6_beginLine_89 (by decide) ?_
                refine a_cV1i dX6_beginLine_90 ml_6_51 wv_6_refuse rfl rfl (by decide) (Nat.le_of_ble_eq_true rfl) (c6_refuse ⟨rfl, rfl⟩) ?_
                try simp (disch := first | decide | assumption | omega) only [ui_eq, ui_k, ui_j, ui_b, ui_2, ul_1, ul_eq, ul_k, ul_j, ul_b]
                exact a_zret dX6_beginLine_93 rfl rfl (by
  first
    | (simp only [begF, c6, c11, c23, c31v2, c42v2, c56v3, c68v3, if_true, if_false, not_true_eq_false, not_false_eq_true, true_and, and_true, false_and, and_false, or_false, false_or] at hQ ⊢; exact hQ)
    | (simp [begF, c6, c11, c23, c31v2, c42v2, c56v3, c68v3] at hQ ⊢; exact hQ)
    | (exfalso; simp_all))
              · refine a_iload_n dX6_beginLine_71 rfl ?_
                refine a_iconst (v := 4) dX6_beginLine_72 (by decide) ?_
                refine a_icmp_ne dX6_beginLine_73 (tgt := 94) (by decide) (fun c73v6 => ?_) (fun c73v6 => ?_)
                · refine a_aload_n dX6_beginLine_94 rfl ?_
                  refine a_iload_n dX6_beginLine_95 rfl ?_
                  refine a_putI (ci := 6) (j := 2) dX6_beginLine_96 rfl rfl (by decide) (by decide) rfl fl_6_19 ?_
                  refine a_aload_n dX6_beginLine_99 rfl ?_
                  refine a_iconst (v := 0) dX6_beginLine_100 (by decide) ?_
                  refine a_putI (ci := 6) (j := 3) dX6_beginLine_101 rfl rfl (by decide) (by decide) rfl fl_6_100 ?_
                  refine a_aload_n dX6_beginLine_104 rfl ?_
                  refine a_iconst (v := (-1)) dX6_beginLine_105 (by decide) ?_
                  refine a_putI (ci := 6) (j := 4) dX6_beginLine_106 rfl rfl (by decide) (by decide) rfl fl_6_58 ?_
                  refine a_aload_n dX6_beginLine_109 rfl ?_
                  refine a_iconst (v := 0) dX6_beginLine_110 (by decide) ?_
                  refine a_putI (ci := 6) (j := 5) dX6_beginLine_111 rfl rfl (by decide) (by decide) rfl fl_6_103 ?_
                  refine a_iconst (v := 1) dX6_beginLine_114 (by decide) ?_
                  exact a_zret dX6_beginLine_115 rfl rfl (by
  first
    | (simp only [begF, c6, c11, c23, c31v2, c42v2, c56v3, c68v3, c73v6, if_true, if_false, not_true_eq_false, not_false_eq_true, true_and, and_true, false_and, and_false, or_false, false_or] at hQ ⊢; exact hQ)
    | (simp [begF, c6, c11, c23, c31v2, c42v2, c56v3, c68v3, c73v6] at hQ ⊢; exact hQ)
    | (exfalso; simp_all))
                · refine a_aload_n dX6_beginLine_76 rfl ?_
                  refine a_getR (ci := 1) (j := 2) dX6_beginLine_77 (kdB hb rfl) rfl (by decide) rfl fl_6_93 ?_
                  refine a_getI (ci := 3) (j := 5) dX6_beginLine_80 (kdB hb rfl) rfl (by decide) rfl fl_6_97 ?_
                  refine a_bipush (v := 8) dX6_beginLine_83 (by decide) ?_
                  refine a_icmp_lt dX6_beginLine_85 (tgt := 94) (by decide) (fun c85v6 => ?_) (fun c85v6 => ?_)
                  · refine a_aload_n dX6_beginLine_94 rfl ?_
                    refine a_iload_n dX6_beginLine_95 rfl ?_
                    refine a_putI (ci := 6) (j := 2) dX6_beginLine_96 rfl rfl (by decide) (by decide) rfl fl_6_19 ?_
                    refine a_aload_n dX6_beginLine_99 rfl ?_
                    refine a_iconst (v := 0) dX6_beginLine_100 (by decide) ?_
                    refine a_putI (ci := 6) (j := 3) dX6_beginLine_101 rfl rfl (by decide) (by decide) rfl fl_6_100 ?_
                    refine a_aload_n dX6_beginLine_104 rfl ?_
                    refine a_iconst (v := (-1)) dX6_beginLine_105 (by decide) ?_
                    refine a_putI (ci := 6) (j := 4) dX6_beginLine_106 rfl rfl (by decide) (by decide) rfl fl_6_58 ?_
                    refine a_aload_n dX6_beginLine_109 rfl ?_
                    refine a_iconst (v := 0) dX6_beginLine_110 (by decide) ?_
                    refine a_putI (ci := 6) (j := 5) dX6_beginLine_111 rfl rfl (by decide) (by decide) rfl fl_6_103 ?_
                    refine a_iconst (v := 1) dX6_beginLine_114 (by decide) ?_
                    exact a_zret dX6_beginLine_115 rfl rfl (by
  first
    | (simp only [begF, c6, c11, c23, c31v2, c42v2, c56v3, c68v3, c73v6, c85v6, if_true, if_false, not_true_eq_false, not_false_eq_true, true_and, and_true, false_and, and_false, or_false, false_or] at hQ ⊢; exact hQ)
    | (simp [begF, c6, c11, c23, c31v2, c42v2, c56v3, c68v3, c73v6, c85v6] at hQ ⊢; exact hQ)
    | (exfalso; simp_all))
                  · refine a_aload_n dX6_beginLine_88 rfl ?_
                    refine a_iconst (v := 3) dX6_beginLine_89 (by decide) ?_
                    refine a_cV1i dX6_beginLine_90 ml_6_51 wv_6_refuse rfl rfl (by decide) (Nat.le_of_ble_eq_true rfl) (c6_refuse ⟨rfl, rfl⟩) ?_
                    try simp (disch := first | decide | assumption | omega) only [ui_eq, ui_k, ui_j, ui_b, ui_2, ul_1, ul_eq, ul_k, ul_j, ul_b]
                    exact a_zret dX6_beginLine_93 rfl rfl (by
  first
    | (simp only [begF, c6, c11, c23, c31v2, c42v2, c56v3, c68v3, c73v6, c85v6, if_true, if_false, not_true_eq_false, not_false_eq_true, true_and, and_true, false_and, and_false, or_false, false_or] at hQ ⊢; exact hQ)
    | (simp [begF, c6, c11, c23, c31v2, c42v2, c56v3, c68v3, c73v6, c85v6] at hQ ⊢; exact hQ)
    | (exfalso; simp_all))
          · refine a_aload_n dX6_beginLine_45 rfl ?_
            refine a_getI (ci := 6) (j := 7) dX6_beginLine_46 rfl rfl (by decide) rfl fl_6_26 ?_
            refine a_bipush (v := 28) dX6_beginLine_49 (by decide) ?_
            refine a_icmp_ge dX6_beginLine_51 (tgt := 88) (by decide) (fun c51v2 => ?_) (fun c51v2 => ?_)
            · refine a_aload_n dX6_beginLine_88 rfl ?_
              refine a_iconst (v := 3) dX6_beginLine_89 (by decide) ?_
              refine a_cV1i dX6_beginLine_90 ml_6_51 wv_6_refuse rfl rfl (by decide) (Nat.le_of_ble_eq_true rfl) (c6_refuse ⟨rfl, rfl⟩) ?_
              try simp (disch := first | decide | assumption | omega) only [ui_eq, ui_k, ui_j, ui_b, ui_2, ul_1, ul_eq, ul_k, ul_j, ul_b]
              exact a_zret dX6_beginLine_93 rfl rfl (by
  first
    | (simp only [begF, c6, c11, c23, c31v2, c42v2, c51v2, if_true, if_false, not_true_eq_false, not_false_eq_true, true_and, and_true, false_and, and_false, or_false, false_or] at hQ ⊢; exact hQ)
    | (simp [begF, c6, c11, c23, c31v2, c42v2, c51v2] at hQ ⊢; exact hQ)
    | (exfalso; simp_all))
            · refine a_iload_n dX6_beginLine_54 rfl ?_
              refine a_iconst (v := 3) dX6_beginLine_55 (by decide) ?_
              refine a_icmp_ne dX6_beginLine_56 (tgt := 71) (by decide) (fun c56v4 => ?_) (fun c56v4 => ?_)
              · refine a_iload_n dX6_beginLine_71 rfl ?_
                refine a_iconst (v := 4) dX6_beginLine_72 (by decide) ?_
                refine a_icmp_ne dX6_beginLine_73 (tgt := 94) (by decide) (fun c73v7 => ?_) (fun c73v7 => ?_)
                · refine a_aload_n dX6_beginLine_94 rfl ?_
                  refine a_iload_n dX6_beginLine_95 rfl ?_
                  refine a_putI (ci := 6) (j := 2) dX6_beginLine_96 rfl rfl (by decide) (by decide) rfl fl_6_19 ?_
                  refine a_aload_n dX6_beginLine_99 rfl ?_
                  refine a_iconst (v := 0) dX6_beginLine_100 (by decide) ?_
                  refine a_putI (ci := 6) (j := 3) dX6_beginLine_101 rfl rfl (by decide) (by decide) rfl fl_6_100 ?_
                  refine a_aload_n dX6_beginLine_104 rfl ?_
                  refine a_iconst (v := (-1)) dX6_beginLine_105 (by decide) ?_
                  refine a_putI (ci := 6) (j := 4) dX6_beginLine_106 rfl rfl (by decide) (by decide) rfl fl_6_58 ?_
                  refine a_aload_n dX6_beginLine_109 rfl ?_
                  refine a_iconst (v := 0) dX6_beginLine_110 (by decide) ?_
                  refine a_putI (ci := 6) (j := 5) dX6_beginLine_111 rfl rfl (by decide) (by decide) rfl fl_6_103 ?_
                  refine a_iconst (v := 1) dX6_beginLine_114 (by decide) ?_
                  exact a_zret dX6_beginLine_115 rfl rfl (by
  first
    | (simp only [begF, c6, c11, c23, c31v2, c42v2, c51v2, c56v4, c73v7, if_true, if_false, not_true_eq_false, not_false_eq_true, true_and, and_true, false_and, and_false, or_false, false_or] at hQ ⊢; exact hQ)
    | (simp [begF, c6, c11, c23, c31v2, c42v2, c51v2, c56v4, c73v7] at hQ ⊢; exact hQ)
    | (exfalso; simp_all))
                · refine a_aload_n dX6_beginLine_76 rfl ?_
                  refine a_getR (ci := 1) (j := 2) dX6_beginLine_77 (kdB hb rfl) rfl (by decide) rfl fl_6_93 ?_
                  refine a_getI (ci := 3) (j := 5) dX6_beginLine_80 (kdB hb rfl) rfl (by decide) rfl fl_6_97 ?_
                  refine a_bipush (v := 8) dX6_beginLine_83 (by decide) ?_
                  refine a_icmp_lt dX6_beginLine_85 (tgt := 94) (by decide) (fun c85v7 => ?_) (fun c85v7 => ?_)
                  · refine a_aload_n dX6_beginLine_94 rfl ?_
                    refine a_iload_n dX6_beginLine_95 rfl ?_
                    refine a_putI (ci := 6) (j := 2) dX6_beginLine_96 rfl rfl (by decide) (by decide) rfl fl_6_19 ?_
                    refine a_aload_n dX6_beginLine_99 rfl ?_
                    refine a_iconst (v := 0) dX6_beginLine_100 (by decide) ?_
                    refine a_putI (ci := 6) (j := 3) dX6_beginLine_101 rfl rfl (by decide) (by decide) rfl fl_6_100 ?_
                    refine a_aload_n dX6_beginLine_104 rfl ?_
                    refine a_iconst (v := (-1)) dX6_beginLine_105 (by decide) ?_
                    refine a_putI (ci := 6) (j := 4) dX6_beginLine_106 rfl rfl (by decide) (by decide) rfl fl_6_58 ?_
                    refine a_aload_n dX6_beginLine_109 rfl ?_
                    refine a_iconst (v := 0) dX6_beginLine_110 (by decide) ?_
                    refine a_putI (ci := 6) (j := 5) dX6_beginLine_111 rfl rfl (by decide) (by decide) rfl fl_6_103 ?_
                    refine a_iconst (v := 1) dX6_beginLine_114 (by decide) ?_
                    exact a_zret dX6_beginLine_115 rfl rfl (by
  first
    | (simp only [begF, c6, c11, c23, c31v2, c42v2, c51v2, c56v4, c73v7, c85v7, if_true, if_false, not_true_eq_false, not_false_eq_true, true_and, and_true, false_and, and_false, or_false, false_or] at hQ ⊢; exact hQ)
    | (simp [begF, c6, c11, c23, c31v2, c42v2, c51v2, c56v4, c73v7, c85v7] at hQ ⊢; exact hQ)
    | (exfalso; simp_all))
                  · refine a_aload_n dX6_beginLine_88 rfl ?_
                    refine a_iconst (v := 3) dX6_beginLine_89 (by decide) ?_
                    refine a_cV1i dX6_beginLine_90 ml_6_51 wv_6_refuse rfl rfl (by decide) (Nat.le_of_ble_eq_true rfl) (c6_refuse ⟨rfl, rfl⟩) ?_
                    try simp (disch := first | decide | assumption | omega) only [ui_eq, ui_k, ui_j, ui_b, ui_2, ul_1, ul_eq, ul_k, ul_j, ul_b]
                    exact a_zret dX6_beginLine_93 rfl rfl (by
  first
    | (simp only [begF, c6, c11, c23, c31v2, c42v2, c51v2, c56v4, c73v7, c85v7, if_true, if_false, not_true_eq_false, not_false_eq_true, true_and, and_true, false_and, and_false, or_false, false_or] at hQ ⊢; exact hQ)
    | (simp [begF, c6, c11, c23, c31v2, c42v2, c51v2, c56v4, c73v7, c85v7] at hQ ⊢; exact hQ)
    | (exfalso; simp_all))
              · refine a_aload_n dX6_beginLine_59 rfl ?_
                refine a_getR (ci := 1) (j := 1) dX6_beginLine_60 (kdB hb rfl) rfl (by decide) rfl fl_6_84 ?_
                refine a_getI (ci := 4) (j := 11) dX6_beginLine_63 (kdB hb rfl) rfl (by decide) rfl fl_6_88 ?_
                refine a_bipush (v := 6) dX6_beginLine_66 (by decide) ?_
                refine a_icmp_ge dX6_beginLine_68 (tgt := 88) (by decide) (fun c68v4 => ?_) (fun c68v4 => ?_)
                · refine a_aload_n dX6_beginLine_88 rfl ?_
                  refine a_iconst (v := 3) dX6_beginLine_89 (by decide) ?_
                  refine a_cV1i dX6_beginLine_90 ml_6_51 wv_6_refuse rfl rfl (by decide) (Nat.le_of_ble_eq_true rfl) (c6_refuse ⟨rfl, rfl⟩) ?_
                  try simp (disch := first | decide | assumption | omega) only [ui_eq, ui_k, ui_j, ui_b, ui_2, ul_1, ul_eq, ul_k, ul_j, ul_b]
                  exact a_zret dX6_beginLine_93 rfl rfl (by
  first
    | (simp only [begF, c6, c11, c23, c31v2, c42v2, c51v2, c56v4, c68v4, if_true, if_false, not_true_eq_false, not_false_eq_true, true_and, and_true, false_and, and_false, or_false, false_or] at hQ ⊢; exact hQ)
    | (simp [begF, c6, c11, c23, c31v2, c42v2, c51v2, c56v4, c68v4] at hQ ⊢; exact hQ)
    | (exfalso; simp_all))
                · refine a_iload_n dX6_beginLine_71 rfl ?_
                  refine a_iconst (v := 4) dX6_beginLine_72 (by decide) ?_
                  refine a_icmp_ne dX6_beginLine_73 (tgt := 94) (by decide) (fun c73v8 => ?_) (fun c73v8 => ?_)
                  · refine a_aload_n dX6_beginLine_94 rfl ?_
                    refine a_iload_n dX6_beginLine_95 rfl ?_
                    refine a_putI (ci := 6) (j := 2) dX6_beginLine_96 rfl rfl (by decide) (by decide) rfl fl_6_19 ?_
                    refine a_aload_n dX6_beginLine_99 rfl ?_
                    refine a_iconst (v := 0) dX6_beginLine_100 (by decide) ?_
                    refine a_putI (ci := 6) (j := 3) dX6_beginLine_101 rfl rfl (by decide) (by decide) rfl fl_6_100 ?_
                    refine a_aload_n dX6_beginLine_104 rfl ?_
                    refine a_iconst (v := (-1)) dX6_beginLine_105 (by decide) ?_
                    refine a_putI (ci := 6) (j := 4) dX6_beginLine_106 rfl rfl (by decide) (by decide) rfl fl_6_58 ?_
                    refine a_aload_n dX6_beginLine_109 rfl ?_
                    refine a_iconst (v := 0) dX6_beginLine_110 (by decide) ?_
                    refine a_putI (ci := 6) (j := 5) dX6_beginLine_111 rfl rfl (by decide) (by decide) rfl fl_6_103 ?_
                    refine a_iconst (v := 1) dX6_beginLine_114 (by decide) ?_
                    exact a_zret dX6_beginLine_115 rfl rfl (by
  first
    | (simp only [begF, c6, c11, c23, c31v2, c42v2, c51v2, c56v4, c68v4, c73v8, if_true, if_false, not_true_eq_false, not_false_eq_true, true_and, and_true, false_and, and_false, or_false, false_or] at hQ ⊢; exact hQ)
    | (simp [begF, c6, c11, c23, c31v2, c42v2, c51v2, c56v4, c68v4, c73v8] at hQ ⊢; exact hQ)
    | (exfalso; simp_all))
                  · refine a_aload_n dX6_beginLine_76 rfl ?_
                    refine a_getR (ci := 1) (j := 2) dX6_beginLine_77 (kdB hb rfl) rfl (by decide) rfl fl_6_93 ?_
                    refine a_getI (ci := 3) (j := 5) dX6_beginLine_80 (kdB hb rfl) rfl (by decide) rfl fl_6_97 ?_
                    refine a_bipush (v := 8) dX6_beginLine_83 (by decide) ?_
                    refine a_icmp_lt dX6_beginLine_85 (tgt := 94) (by decide) (fun c85v8 => ?_) (fun c85v8 => ?_)
                    · refine a_aload_n dX6_beginLine_94 rfl ?_
                      refine a_iload_n dX6_beginLine_95 rfl ?_
                      refine a_putI (ci := 6) (j := 2) dX6_beginLine_96 rfl rfl (by decide) (by decide) rfl fl_6_19 ?_
                      refine a_aload_n dX6_beginLine_99 rfl ?_
                      refine a_iconst (v := 0) dX6_beginLine_100 (by decide) ?_
                      refine a_putI (ci := 6) (j := 3) dX6_beginLine_101 rfl rfl (by decide) (by decide) rfl fl_6_100 ?_
                      refine a_aload_n dX6_beginLine_104 rfl ?_
                      refine a_iconst (v := (-1)) dX6_beginLine_105 (by decide) ?_
                      refine a_putI (ci := 6) (j := 4) dX6_beginLine_106 rfl rfl (by decide) (by decide) rfl fl_6_58 ?_
                      refine a_aload_n dX6_beginLine_109 rfl ?_
                      refine a_iconst (v := 0) dX6_beginLine_110 (by decide) ?_
                      refine a_putI (ci := 6) (j := 5) dX6_beginLine_111 rfl rfl (by decide) (by decide) rfl fl_6_103 ?_
                      refine a_iconst (v := 1) dX6_beginLine_114 (by decide) ?_
                      exact a_zret dX6_beginLine_115 rfl rfl (by
  first
    | (simp only [begF, c6, c11, c23, c31v2, c42v2, c51v2, c56v4, c68v4, c73v8, c85v8, if_true, if_false, not_true_eq_false, not_false_eq_true, true_and, and_true, false_and, and_false, or_false, false_or] at hQ ⊢; exact hQ)
    | (simp [begF, c6, c11, c23, c31v2, c42v2, c51v2, c56v4, c68v4, c73v8, c85v8] at hQ ⊢; exact hQ)
    | (exfalso; simp_all))
                    · refine a_aload_n dX6_beginLine_88 rfl ?_
                      refine a_iconst (v := 3) dX6_beginLine_89 (by decide) ?_
                      refine a_cV1i dX6_beginLine_90 ml_6_51 wv_6_refuse rfl rfl (by decide) (Nat.le_of_ble_eq_true rfl) (c6_refuse ⟨rfl, rfl⟩) ?_
                      try simp (disch := first | decide | assumption | omega) only [ui_eq, ui_k, ui_j, ui_b, ui_2, ul_1, ul_eq, ul_k, ul_j, ul_b]
                      exact a_zret dX6_beginLine_93 rfl rfl (by
  first
    | (simp only [begF, c6, c11, c23, c31v2, c42v2, c51v2, c56v4, c68v4, c73v8, c85v8, if_true, if_false, not_true_eq_false, not_false_eq_true, true_and, and_true, false_and, and_false, or_false, false_or] at hQ ⊢; exact hQ)
    | (simp [begF, c6, c11, c23, c31v2, c42v2, c51v2, c56v4, c68v4, c73v8, c85v8] at hQ ⊢; exact hQ)
    | (exfalso; simp_all))
        · refine a_aload_n dX6_beginLine_34 rfl ?_
          refine a_iconst (v := 1) dX6_beginLine_35 (by decide) ?_
          refine a_cV1i dX6_beginLine_36 ml_6_51 wv_6_refuse rfl rfl (by decide) (Nat.le_of_ble_eq_true rfl) (c6_refuse ⟨rfl, rfl⟩) ?_
          try simp (disch := first | decide | assumption | omega) only [ui_eq, ui_k, ui_j, ui_b, ui_2, ul_1, ul_eq, ul_k, ul_j, ul_b]
          exact a_zret dX6_beginLine_39 rfl rfl (by
  first
    | (simp only [begF, c6, c11, c23, c31v2, if_true, if_false, not_true_eq_false, not_false_eq_true, true_and, and_true, false_and, and_false, or_false, false_or] at hQ ⊢; exact hQ)
    | (simp [begF, c6, c11, c23, c31v2] at hQ ⊢; exact hQ)
    | (exfalso; simp_all))
    · refine a_iconst (v := 1) dX6_beginLine_14 (by decide) ?_
      refine a_goto dX6_beginLine_15 (tgt := 19) (by decide) ?_
      refine a_aload_n dX6_beginLine_19 rfl ?_
      refine a_getI (ci := 6) (j := 6) dX6_beginLine_20 rfl rfl (by decide) rfl fl_6_23 ?_
      refine a_if_ne dX6_beginLine_23 (tgt := 30) (by decide) (fun c23v2 => ?_) (fun c23v2 => ?_)
      · refine a_iconst (v := 0) dX6_beginLine_30 (by decide) ?_
        refine a_icmp_eq dX6_beginLine_31 (tgt := 40) (by decide) (fun c31v3 => ?_) (fun c31v3 => ?_)
        · refine a_iload_n dX6_beginLine_40 rfl ?_
          refine a_iconst (v := 2) dX6_beginLine_41 (by decide) ?_
          refine a_icmp_ne dX6_beginLine_42 (tgt := 54) (by decide) (fun c42v3 => ?_) (fun c42v3 => ?_)
          · refine a_iload_n dX6_beginLine_54 rfl ?_
            refine a_iconst (v := 3) dX6_beginLine_55 (by decide) ?_
            refine a_icmp_ne dX6_beginLine_56 (tgt := 71) (by decide) (fun c56v5 => ?_) (fun c56v5 => ?_)
            · refine a_iload_n dX6_beginLine_71 rfl ?_
              refine a_iconst (v := 4) dX6_beginLine_72 (by decide) ?_
              refine a_icmp_ne dX6_beginLine_73 (tgt := 94) (by decide) (fun c73v9 => ?_) (fun c73v9 => ?_)
              · refine a_aload_n dX6_beginLine_94 rfl ?_
                refine a_iload_n dX6_beginLine_95 rfl ?_
                refine a_putI (ci := 6) (j := 2) dX6_beginLine_96 rfl rfl (by decide) (by decide) rfl fl_6_19 ?_
                refine a_aload_n dX6_beginLine_99 rfl ?_
                refine a_iconst (v := 0) dX6_beginLine_100 (by decide) ?_
                refine a_putI (ci := 6) (j := 3) dX6_beginLine_101 rfl rfl (by decide) (by decide) rfl fl_6_100 ?_
                refine a_aload_n dX6_beginLine_104 rfl ?_
                refine a_iconst (v := (-1)) dX6_beginLine_105 (by decide) ?_
                refine a_putI (ci := 6) (j := 4) dX6_beginLine_106 rfl rfl (by decide) (by decide) rfl fl_6_58 ?_
                refine a_aload_n dX6_beginLine_109 rfl ?_
                refine a_iconst (v := 0) dX6_beginLine_110 (by decide) ?_
                refine a_putI (ci := 6) (j := 5) dX6_beginLine_111 rfl rfl (by decide) (by decide) rfl fl_6_103 ?_
                refine a_iconst (v := 1) dX6_beginLine_114 (by decide) ?_
                exact a_zret dX6_beginLine_115 rfl rfl (by
  first
    | (simp only [begF, c6, c11, c23v2, c31v3, c42v3, c56v5, c73v9, if_true, if_false, not_true_eq_false, not_false_eq_true, true_and, and_true, false_and, and_false, or_false, false_or] at hQ ⊢; exact hQ)
    | (simp [begF, c6, c11, c23v2, c31v3, c42v3, c56v5, c73v9] at hQ ⊢; exact hQ)
    | (exfalso; simp_all))
              · refine a_aload_n dX6_beginLine_76 rfl ?_
                refine a_getR (ci := 1) (j := 2) dX6_beginLine_77 (kdB hb rfl) rfl (by decide) rfl fl_6_93 ?_
                refine a_getI (ci := 3) (j := 5) dX6_beginLine_80 (kdB hb rfl) rfl (by decide) rfl fl_6_97 ?_
                refine a_bipush (v := 8) dX6_beginLine_83 (by decide) ?_
                refine a_icmp_lt dX6_beginLine_85 (tgt := 94) (by decide) (fun c85v9 => ?_) (fun c85v9 => ?_)
                · refine a_aload_n dX6_beginLine_94 rfl ?_
                  refine a_iload_n dX6_beginLine_95 rfl ?_
                  refine a_putI (ci := 6) (j := 2) dX6_beginLine_96 rfl rfl (by decide) (by decide) rfl fl_6_19 ?_
                  refine a_aload_n dX6_beginLine_99 rfl ?_
                  refine a_iconst (v := 0) dX6_beginLine_100 (by decide) ?_
                  refine a_putI (ci := 6) (j := 3) dX6_beginLine_101 rfl rfl (by decide) (by decide) rfl fl_6_100 ?_
                  refine a_aload_n dX6_beginLine_104 rfl ?_
                  refine a_iconst (v := (-1)) dX6_beginLine_105 (by decide) ?_
                  refine a_putI (ci := 6) (j := 4) dX6_beginLine_106 rfl rfl (by decide) (by decide) rfl fl_6_58 ?_
                  refine a_aload_n dX6_beginLine_109 rfl ?_
                  refine a_iconst (v := 0) dX6_beginLine_110 (by decide) ?_
                  refine a_putI (ci := 6) (j := 5) dX6_beginLine_111 rfl rfl (by decide) (by decide) rfl fl_6_103 ?_
                  refine a_iconst (v := 1) dX6_beginLine_114 (by decide) ?_
                  exact a_zret dX6_beginLine_115 rfl rfl (by
  first
    | (simp only [begF, c6, c11, c23v2, c31v3, c42v3, c56v5, c73v9, c85v9, if_true, if_false, not_true_eq_false, not_false_eq_true, true_and, and_true, false_and, and_false, or_false, false_or] at hQ ⊢; exact hQ)
    | (simp [begF, c6, c11, c23v2, c31v3, c42v3, c56v5, c73v9, c85v9] at hQ ⊢; exact hQ)
    | (exfalso; simp_all))
                · refine a_aload_n dX6_beginLine_88 rfl ?_
                  refine a_iconst (v := 3) dX6_beginLine_89 (by decide) ?_
                  refine a_cV1i dX6_beginLine_90 ml_6_51 wv_6_refuse rfl rfl (by decide) (Nat.le_of_ble_eq_true rfl) (c6_refuse ⟨rfl, rfl⟩) ?_
                  try simp (disch := first | decide | assumption | omega) only [ui_eq, ui_k, ui_j, ui_b, ui_2, ul_1, ul_eq, ul_k, ul_j, ul_b]
                  exact a_zret dX6_beginLine_93 rfl rfl (by
  first
    | (simp only [begF, c6, c11, c23v2, c31v3, c42v3, c56v5, c73v9, c85v9, if_true, if_false, not_true_eq_false, not_false_eq_true, true_and, and_true, false_and, and_false, or_false, false_or] at hQ ⊢; exact hQ)
    | (simp [begF, c6, c11, c23v2, c31v3, c42v3, c56v5, c73v9, c85v9] at hQ ⊢; exact hQ)
    | (exfalso; simp_all))
            · refine a_aload_n dX6_beginLine_59 rfl ?_
              refine a_getR (ci := 1) (j := 1) dX6_beginLine_60 (kdB hb rfl) rfl (by decide) rfl fl_6_84 ?_
              refine a_getI (ci := 4) (j := 11) dX6_beginLine_63 (kdB hb rfl) rfl (by decide) rfl fl_6_88 ?_
              refine a_bipush (v := 6) dX6_beginLine_66 (by decide) ?_
              refine a_icmp_ge dX6_beginLine_68 (tgt := 88) (by decide) (fun c68v5 => ?_) (fun c68v5 => ?_)
              · refine a_aload_n dX6_beginLine_88 rfl ?_
                refine a_iconst (v := 3) dX6_beginLine_89 (by decide) ?_
                refine a_cV1i dX6_beginLine_90 ml_6_51 wv_6_refuse rfl rfl (by decide) (Nat.le_of_ble_eq_true rfl) (c6_refuse ⟨rfl, rfl⟩) ?_
                try simp (disch := first | decide | assumption | omega) only [ui_eq, ui_k, ui_j, ui_b, ui_2, ul_1, ul_eq, ul_k, ul_j, ul_b]
                exact a_zret dX6_beginLine_93 rfl rfl (by
  first
    | (simp only [begF, c6, c11, c23v2, c31v3, c42v3, c56v5, c68v5, if_true, if_false, not_true_eq_false, not_false_eq_true, true_and, and_true, false_and, and_false, or_false, false_or] at hQ ⊢; exact hQ)
    | (simp [begF, c6, c11, c23v2, c31v3, c42v3, c56v5, c68v5] at hQ ⊢; exact hQ)
    | (exfalso; simp_all))
              · refine a_iload_n dX6_beginLine_71 rfl ?_
                refine a_iconst (v := 4) dX6_beginLine_72 (by decide) ?_
                refine a_icmp_ne dX6_beginLine_73 (tgt := 94) (by decide) (fun c73v10 => ?_) (fun c73v10 => ?_)
                · refine a_aload_n dX6_beginLine_94 rfl ?_
                  refine a_iload_n dX6_beginLine_95 rfl ?_
                  refine a_putI (ci := 6) (j := 2) dX6_beginLine_96 rfl rfl (by decide) (by decide) rfl fl_6_19 ?_
                  refine a_aload_n dX6_beginLine_99 rfl ?_
                  refine a_iconst (v := 0) dX6_beginLine_100 (by decide) ?_
                  refine a_putI (ci := 6) (j := 3) dX6_beginLine_101 rfl rfl (by decide) (by decide) rfl fl_6_100 ?_
                  refine a_aload_n dX6_beginLine_104 rfl ?_
                  refine a_iconst (v := (-1)) dX6_beginLine_105 (by decide) ?_
                  refine a_putI (ci := 6) (j := 4) dX6_beginLine_106 rfl rfl (by decide) (by decide) rfl fl_6_58 ?_
                  refine a_aload_n dX6_beginLine_109 rfl ?_
                  refine a_iconst (v := 0) dX6_beginLine_110 (by decide) ?_
                  refine a_putI (ci := 6) (j := 5) dX6_beginLine_111 rfl rfl (by decide) (by decide) rfl fl_6_103 ?_
                  refine a_iconst (v := 1) dX6_beginLine_114 (by decide) ?_
                  exact a_zret dX6_beginLine_115 rfl rfl (by
  first
    | (simp only [begF, c6, c11, c23v2, c31v3, c42v3, c56v5, c68v5, c73v10, if_true, if_false, not_true_eq_false, not_false_eq_true, true_and, and_true, false_and, and_false, or_false, false_or] at hQ ⊢; exact hQ)
    | (simp [begF, c6, c11, c23v2, c31v3, c42v3, c56v5, c68v5, c73v10] at hQ ⊢; exact hQ)
    | (exfalso; simp_all))
                · refine a_aload_n dX6_beginLine_76 rfl ?_
                  refine a_getR (ci := 1) (j := 2) dX6_beginLine_77 (kdB hb rfl) rfl (by decide) rfl fl_6_93 ?_
                  refine a_getI (ci := 3) (j := 5) dX6_beginLine_80 (kdB hb rfl) rfl (by decide) rfl fl_6_97 ?_
                  refine a_bipush (v := 8) dX6_beginLine_83 (by decide) ?_
                  refine a_icmp_lt dX6_beginLine_85 (tgt := 94) (by decide) (fun c85v10 => ?_) (fun c85v10 => ?_)
                  · refine a_aload_n dX6_beginLine_94 rfl ?_
                    refine a_iload_n dX6_beginLine_95 rfl ?_
                    refine a_putI (ci := 6) (j := 2) dX6_beginLine_96 rfl rfl (by decide) (by decide) rfl fl_6_19 ?_
                    refine a_aload_n dX6_beginLine_99 rfl ?_
                    refine a_iconst (v := 0) dX6_beginLine_100 (by decide) ?_
                    refine a_putI (ci := 6) (j := 3) dX6_beginLine_101 rfl rfl (by decide) (by decide) rfl fl_6_100 ?_
                    refine a_aload_n dX6_beginLine_104 rfl ?_
                    refine a_iconst (v := (-1)) dX6_beginLine_105 (by decide) ?_
                    refine a_putI (ci := 6) (j := 4) dX6_beginLine_106 rfl rfl (by decide) (by decide) rfl fl_6_58 ?_
                    refine a_aload_n dX6_beginLine_109 rfl ?_
                    refine a_iconst (v := 0) dX6_beginLine_110 (by decide) ?_
                    refine a_putI (ci := 6) (j := 5) dX6_beginLine_111 rfl rfl (by decide) (by decide) rfl fl_6_103 ?_
                    refine a_iconst (v := 1) dX6_beginLine_114 (by decide) ?_
                    exact a_zret dX6_beginLine_115 rfl rfl (by
  first
    | (simp only [begF, c6, c11, c23v2, c31v3, c42v3, c56v5, c68v5, c73v10, c85v10, if_true, if_false, not_true_eq_false, not_false_eq_true, true_and, and_true, false_and, and_false, or_false, false_or] at hQ ⊢; exact hQ)
    | (simp [begF, c6, c11, c23v2, c31v3, c42v3, c56v5, c68v5, c73v10, c85v10] at hQ ⊢; exact hQ)
    | (exfalso; simp_all))
                  · refine a_aload_n dX6_beginLine_88 rfl ?_
                    refine a_iconst (v := 3) dX6_beginLine_89 (by decide) ?_
                    refine a_cV1i dX6_beginLine_90 ml_6_51 wv_6_refuse rfl rfl (by decide) (Nat.le_of_ble_eq_true rfl) (c6_refuse ⟨rfl, rfl⟩) ?_
                    try simp (disch := first | decide | assumption | omega) only [ui_eq, ui_k, ui_j, ui_b, ui_2, ul_1, ul_eq, ul_k, ul_j, ul_b]
                    exact a_zret dX6_beginLine_93 rfl rfl (by
  first
    | (simp only [begF, c6, c11, c23v2, c31v3, c42v3, c56v5, c68v5, c73v10, c85v10, if_true, if_false, not_true_eq_false, not_false_eq_true, true_and, and_true, false_and, and_false, or_false, false_or] at hQ ⊢; exact hQ)
    | (simp [begF, c6, c11, c23v2, c31v3, c42v3, c56v5, c68v5, c73v10, c85v10] at hQ ⊢; exact hQ)
    | (exfalso; simp_all))
          · refine a_aload_n dX6_beginLine_45 rfl ?_
            refine a_getI (ci := 6) (j := 7) dX6_beginLine_46 rfl rfl (by decide) rfl fl_6_26 ?_
            refine a_bipush (v := 28) dX6_beginLine_49 (by decide) ?_
            refine a_icmp_ge dX6_beginLine_51 (tgt := 88) (by decide) (fun c51v3 => ?_) (fun c51v3 => ?_)
            · refine a_aload_n dX6_beginLine_88 rfl ?_
              refine a_iconst (v := 3) dX6_beginLine_89 (by decide) ?_
              refine a_cV1i dX6_beginLine_90 ml_6_51 wv_6_refuse rfl rfl (by decide) (Nat.le_of_ble_eq_true rfl) (c6_refuse ⟨rfl, rfl⟩) ?_
              try simp (disch := first | decide | assumption | omega) only [ui_eq, ui_k, ui_j, ui_b, ui_2, ul_1, ul_eq, ul_k, ul_j, ul_b]
              exact a_zret dX6_beginLine_93 rfl rfl (by
  first
    | (simp only [begF, c6, c11, c23v2, c31v3, c42v3, c51v3, if_true, if_false, not_true_eq_false, not_false_eq_true, true_and, and_true, false_and, and_false, or_false, false_or] at hQ ⊢; exact hQ)
    | (simp [begF, c6, c11, c23v2, c31v3, c42v3, c51v3] at hQ ⊢; exact hQ)
    | (exfalso; simp_all))
            · refine a_iload_n dX6_beginLine_54 rfl ?_
              refine a_iconst (v := 3) dX6_beginLine_55 (by decide) ?_
              refine a_icmp_ne dX6_beginLine_56 (tgt := 71) (by decide) (fun c56v6 => ?_) (fun c56v6 => ?_)
              · refine a_iload_n dX6_beginLine_71 rfl ?_
                refine a_iconst (v := 4) dX6_beginLine_72 (by decide) ?_
                refine a_icmp_ne dX6_beginLine_73 (tgt := 94) (by decide) (fun c73v11 => ?_) (fun c73v11 => ?_)
                · refine a_aload_n dX6_beginLine_94 rfl ?_
                  refine a_iload_n dX6_beginLine_95 rfl ?_
                  refine a_putI (ci := 6) (j := 2) dX6_beginLine_96 rfl rfl (by decide) (by decide) rfl fl_6_19 ?_
                  refine a_aload_n dX6_beginLine_99 rfl ?_
                  refine a_iconst (v := 0) dX6_beginLine_100 (by decide) ?_
                  refine a_putI (ci := 6) (j := 3) dX6_beginLine_101 rfl rfl (by decide) (by decide) rfl fl_6_100 ?_
                  refine a_aload_n dX6_beginLine_104 rfl ?_
                  refine a_iconst (v := (-1)) dX6_beginLine_105 (by decide) ?_
                  refine a_putI (ci := 6) (j := 4) dX6_beginLine_106 rfl rfl (by decide) (by decide) rfl fl_6_58 ?_
                  refine a_aload_n dX6_beginLine_109 rfl ?_
                  refine a_iconst (v := 0) dX6_beginLine_110 (by decide) ?_
                  refine a_putI (ci := 6) (j := 5) dX6_beginLine_111 rfl rfl (by decide) (by decide) rfl fl_6_103 ?_
                  refine a_iconst (v := 1) dX6_beginLine_114 (by decide) ?_
                  exact a_zret dX6_beginLine_115 rfl rfl (by
  first
    | (simp only [begF, c6, c11, c23v2, c31v3, c42v3, c51v3, c56v6, c73v11, if_true, if_false, not_true_eq_false, not_false_eq_true, true_and, and_true, false_and, and_false, or_false, false_or] at hQ ⊢; exact hQ)
    | (simp [begF, c6, c11, c23v2, c31v3, c42v3, c51v3, c56v6, c73v11] at hQ ⊢; exact hQ)
    | (exfalso; simp_all))
                · refine a_aload_n dX6_beginLine_76 rfl ?_
                  refine a_getR (ci := 1) (j := 2) dX6_beginLine_77 (kdB hb rfl) rfl (by decide) rfl fl_6_93 ?_
                  refine a_getI (ci := 3) (j := 5) dX6_beginLine_80 (kdB hb rfl) rfl (by decide) rfl fl_6_97 ?_
                  refine a_bipush (v := 8) dX6_beginLine_83 (by decide) ?_
                  refine a_icmp_lt dX6_beginLine_85 (tgt := 94) (by decide) (fun c85v11 => ?_) (fun c85v11 => ?_)
                  · refine a_aload_n dX6_beginLine_94 rfl ?_
                    refine a_iload_n dX6_beginLine_95 rfl ?_
                    refine a_putI (ci := 6) (j := 2) dX6_beginLine_96 rfl rfl (by decide) (by decide) rfl fl_6_19 ?_
                    refine a_aload_n dX6_beginLine_99 rfl ?_
                    refine a_iconst (v := 0) dX6_beginLine_100 (by decide) ?_
                    refine a_putI (ci := 6) (j := 3) dX6_beginLine_101 rfl rfl (by decide) (by decide) rfl fl_6_100 ?_
                    refine a_aload_n dX6_beginLine_104 rfl ?_
                    refine a_iconst (v := (-1)) dX6_beginLine_105 (by decide) ?_
                    refine a_putI (ci := 6) (j := 4) dX6_beginLine_106 rfl rfl (by decide) (by decide) rfl fl_6_58 ?_
                    refine a_aload_n dX6_beginLine_109 rfl ?_
                    refine a_iconst (v := 0) dX6_beginLine_110 (by decide) ?_
                    refine a_putI (ci := 6) (j := 5) dX6_beginLine_111 rfl rfl (by decide) (by decide) rfl fl_6_103 ?_
                    refine a_iconst (v := 1) dX6_beginLine_114 (by decide) ?_
                    exact a_zret dX6_beginLine_115 rfl rfl (by
  first
    | (simp only [begF, c6, c11, c23v2, c31v3, c42v3, c51v3, c56v6, c73v11, c85v11, if_true, if_false, not_true_eq_false, not_false_eq_true, true_and, and_true, false_and, and_false, or_false, false_or] at hQ ⊢; exact hQ)
    | (simp [begF, c6, c11, c23v2, c31v3, c42v3, c51v3, c56v6, c73v11, c85v11] at hQ ⊢; exact hQ)
    | (exfalso; simp_all))
                  · refine a_aload_n dX6_beginLine_88 rfl ?_
                    refine a_iconst (v := 3) dX6_beginLine_89 (by decide) ?_
                    refine a_cV1i dX6_beginLine_90 ml_6_51 wv_6_refuse rfl rfl (by decide) (Nat.le_of_ble_eq_true rfl) (c6_refuse ⟨rfl, rfl⟩) ?_
                    try simp (disch := first | decide | assumption | omega) only [ui_eq, ui_k, ui_j, ui_b, ui_2, ul_1, ul_eq, ul_k, ul_j, ul_b]
                    exact a_zret dX6_beginLine_93 rfl rfl (by
  first
    | (simp only [begF, c6, c11, c23v2, c31v3, c42v3, c51v3, c56v6, c73v11, c85v11, if_true, if_false, not_true_eq_false, not_false_eq_true, true_and, and_true, false_and, and_false, or_false, false_or] at hQ ⊢; exact hQ)
    | (simp [begF, c6, c11, c23v2, c31v3, c42v3, c51v3, c56v6, c73v11, c85v11] at hQ ⊢; exact hQ)
    | (exfalso; simp_all))
              · refine a_aload_n dX6_beginLine_59 rfl ?_
                refine a_getR (ci := 1) (j := 1) dX6_beginLine_60 (kdB hb rfl) rfl (by decide) rfl fl_6_84 ?_
                refine a_getI (ci := 4) (j := 11) dX6_beginLine_63 (kdB hb rfl) rfl (by decide) rfl fl_6_88 ?_
                refine a_bipush (v := 6) dX6_beginLine_66 (by decide) ?_
                refine a_icmp_ge dX6_beginLine_68 (tgt := 88) (by decide) (fun c68v6 => ?_) (fun c68v6 => ?_)
                · refine a_aload_n dX6_beginLine_88 rfl ?_
                  refine a_iconst (v := 3) dX6_beginLine_89 (by decide) ?_
                  refine a_cV1i dX6_beginLine_90 ml_6_51 wv_6_refuse rfl rfl (by decide) (Nat.le_of_ble_eq_true rfl) (c6_refuse ⟨rfl, rfl⟩) ?_
                  try simp (disch := first | decide | assumption | omega) only [ui_eq, ui_k, ui_j, ui_b, ui_2, ul_1, ul_eq, ul_k, ul_j, ul_b]
                  exact a_zret dX6_beginLine_93 rfl rfl (by
  first
    | (simp only [begF, c6, c11, c23v2, c31v3, c42v3, c51v3, c56v6, c68v6, if_true, if_false, not_true_eq_false, not_false_eq_true, true_and, and_true, false_and, and_false, or_false, false_or] at hQ ⊢; exact hQ)
    | (simp [begF, c6, c11, c23v2, c31v3, c42v3, c51v3, c56v6, c68v6] at hQ ⊢; exact hQ)
    | (exfalso; simp_all))
                · refine a_iload_n dX6_beginLine_71 rfl ?_
                  refine a_iconst (v := 4) dX6_beginLine_72 (by decide) ?_
                  refine a_icmp_ne dX6_beginLine_73 (tgt := 94) (by decide) (fun c73v12 => ?_) (fun c73v12 => ?_)
                  · refine a_aload_n dX6_beginLine_94 rfl ?_
                    refine a_iload_n dX6_beginLine_95 rfl ?_
                    refine a_putI (ci := 6) (j := 2) dX6_beginLine_96 rfl rfl (by decide) (by decide) rfl fl_6_19 ?_
                    refine a_aload_n dX6_beginLine_99 rfl ?_
                    refine a_iconst (v := 0) dX6_beginLine_100 (by decide) ?_
                    refine a_putI (ci := 6) (j := 3) dX6_beginLine_101 rfl rfl (by decide) (by decide) rfl fl_6_100 ?_
                    refine a_aload_n dX6_beginLine_104 rfl ?_
                    refine a_iconst (v := (-1)) dX6_beginLine_105 (by decide) ?_
                    refine a_putI (ci := 6) (j := 4) dX6_beginLine_106 rfl rfl (by decide) (by decide) rfl fl_6_58 ?_
                    refine a_aload_n dX6_beginLine_109 rfl ?_
                    refine a_iconst (v := 0) dX6_beginLine_110 (by decide) ?_
                    refine a_putI (ci := 6) (j := 5) dX6_beginLine_111 rfl rfl (by decide) (by decide) rfl fl_6_103 ?_
                    refine a_iconst (v := 1) dX6_beginLine_114 (by decide) ?_
                    exact a_zret dX6_beginLine_115 rfl rfl (by
  first
    | (simp only [begF, c6, c11, c23v2, c31v3, c42v3, c51v3, c56v6, c68v6, c73v12, if_true, if_false, not_true_eq_false, not_false_eq_true, true_and, and_true, false_and, and_false, or_false, false_or] at hQ ⊢; exact hQ)
    | (simp [begF, c6, c11, c23v2, c31v3, c42v3, c51v3, c56v6, c68v6, c73v12] at hQ ⊢; exact hQ)
    | (exfalso; simp_all))
                  · refine a_aload_n dX6_beginLine_76 rfl ?_
                    refine a_getR (ci := 1) (j := 2) dX6_beginLine_77 (kdB hb rfl) rfl (by decide) rfl fl_6_93 ?_
                    refine a_getI (ci := 3) (j := 5) dX6_beginLine_80 (kdB hb rfl) rfl (by decide) rfl fl_6_97 ?_
                    refine a_bipush (v := 8) dX6_beginLine_83 (by decide) ?_
                    refine a_icmp_lt dX6_beginLine_85 (tgt := 94) (by decide) (fun c85v12 => ?_) (fun c85v12 => ?_)
                    · refine a_aload_n dX6_beginLine_94 rfl ?_
                      refine a_iload_n dX6_beginLine_95 rfl ?_
                      refine a_putI (ci := 6) (j := 2) dX6_beginLine_96 rfl rfl (by decide) (by decide) rfl fl_6_19 ?_
                      refine a_aload_n dX6_beginLine_99 rfl ?_
                      refine a_iconst (v := 0) dX6_beginLine_100 (by decide) ?_
                      refine a_putI (ci := 6) (j := 3) dX6_beginLine_101 rfl rfl (by decide) (by decide) rfl fl_6_100 ?_
                      refine a_aload_n dX6_beginLine_104 rfl ?_
                      refine a_iconst (v := (-1)) dX6_beginLine_105 (by decide) ?_
                      refine a_putI (ci := 6) (j := 4) dX6_beginLine_106 rfl rfl (by decide) (by decide) rfl fl_6_58 ?_
                      refine a_aload_n dX6_beginLine_109 rfl ?_
                      refine a_iconst (v := 0) dX6_beginLine_110 (by decide) ?_
                      refine a_putI (ci := 6) (j := 5) dX6_beginLine_111 rfl rfl (by decide) (by decide) rfl fl_6_103 ?_
                      refine a_iconst (v := 1) dX6_beginLine_114 (by decide) ?_
                      exact a_zret dX6_beginLine_115 rfl rfl (by
  first
    | (simp only [begF, c6, c11, c23v2, c31v3, c42v3, c51v3, c56v6, c68v6, c73v12, c85v12, if_true, if_false, not_true_eq_false, not_false_eq_true, true_and, and_true, false_and, and_false, or_false, false_or] at hQ ⊢; exact hQ)
    | (simp [begF, c6, c11, c23v2, c31v3, c42v3, c51v3, c56v6, c68v6, c73v12, c85v12] at hQ ⊢; exact hQ)
    | (exfalso; simp_all))
                    · refine a_aload_n dX6_beginLine_88 rfl ?_
                      refine a_iconst (v := 3) dX6_beginLine_89 (by decide) ?_
                      refine a_cV1i dX6_beginLine_90 ml_6_51 wv_6_refuse rfl rfl (by decide) (Nat.le_of_ble_eq_true rfl) (c6_refuse ⟨rfl, rfl⟩) ?_
                      try simp (disch := first | decide | assumption | omega) only [ui_eq, ui_k, ui_j, ui_b, ui_2, ul_1, ul_eq, ul_k, ul_j, ul_b]
                      exact a_zret dX6_beginLine_93 rfl rfl (by
  first
    | (simp only [begF, c6, c11, c23v2, c31v3, c42v3, c51v3, c56v6, c68v6, c73v12, c85v12, if_true, if_false, not_true_eq_false, not_false_eq_true, true_and, and_true, false_and, and_false, or_false, false_or] at hQ ⊢; exact hQ)
    | (simp [begF, c6, c11, c23v2, c31v3, c42v3, c51v3, c56v6, c68v6, c73v12, c85v12] at hQ ⊢; exact hQ)
    | (exfalso; simp_all))
        · refine a_aload_n dX6_beginLine_34 rfl ?_
          refine a_iconst (v := 1) dX6_beginLine_35 (by decide) ?_
          refine a_cV1i dX6_beginLine_36 ml_6_51 wv_6_refuse rfl rfl (by decide) (Nat.le_of_ble_eq_true rfl) (c6_refuse ⟨rfl, rfl⟩) ?_
          try simp (disch := first | decide | assumption | omega) only [ui_eq, ui_k, ui_j, ui_b, ui_2, ul_1, ul_eq, ul_k, ul_j, ul_b]
          exact a_zret dX6_beginLine_39 rfl rfl (by
  first
    | (simp only [begF, c6, c11, c23v2, c31v3, if_true, if_false, not_true_eq_false, not_false_eq_true, true_and, and_true, false_and, and_false, or_false, false_or] at hQ ⊢; exact hQ)
    | (simp [begF, c6, c11, c23v2, c31v3] at hQ ⊢; exact hQ)
    | (exfalso; simp_all))
      · refine a_iconst (v := 1) dX6_beginLine_26 (by decide) ?_
        refine a_goto dX6_beginLine_27 (tgt := 31) (by decide) ?_
        refine a_icmp_eq dX6_beginLine_31 (tgt := 40) (by decide) (fun c31v4 => ?_) (fun c31v4 => ?_)
        · refine a_iload_n dX6_beginLine_40 rfl ?_
          refine a_iconst (v := 2) dX6_beginLine_41 (by decide) ?_
          refine a_icmp_ne dX6_beginLine_42 (tgt := 54) (by decide) (fun c42v4 => ?_) (fun c42v4 => ?_)
          · refine a_iload_n dX6_beginLine_54 rfl ?_
            refine a_iconst (v := 3) dX6_beginLine_55 (by decide) ?_
            refine a_icmp_ne dX6_beginLine_56 (tgt := 71) (by decide) (fun c56v7 => ?_) (fun c56v7 => ?_)
            · refine a_iload_n dX6_beginLine_71 rfl ?_
              refine a_iconst (v := 4) dX6_beginLine_72 (by decide) ?_
              refine a_icmp_ne dX6_beginLine_73 (tgt := 94) (by decide) (fun c73v13 => ?_) (fun c73v13 => ?_)
              · refine a_aload_n dX6_beginLine_94 rfl ?_
                refine a_iload_n dX6_beginLine_95 rfl ?_
                refine a_putI (ci := 6) (j := 2) dX6_beginLine_96 rfl rfl (by decide) (by decide) rfl fl_6_19 ?_
                refine a_aload_n dX6_beginLine_99 rfl ?_
                refine a_iconst (v := 0) dX6_beginLine_100 (by decide) ?_
                refine a_putI (ci := 6) (j := 3) dX6_beginLine_101 rfl rfl (by decide) (by decide) rfl fl_6_100 ?_
                refine a_aload_n dX6_beginLine_104 rfl ?_
                refine a_iconst (v := (-1)) dX6_beginLine_105 (by decide) ?_
                refine a_putI (ci := 6) (j := 4) dX6_beginLine_106 rfl rfl (by decide) (by decide) rfl fl_6_58 ?_
                refine a_aload_n dX6_beginLine_109 rfl ?_
                refine a_iconst (v := 0) dX6_beginLine_110 (by decide) ?_
                refine a_putI (ci := 6) (j := 5) dX6_beginLine_111 rfl rfl (by decide) (by decide) rfl fl_6_103 ?_
                refine a_iconst (v := 1) dX6_beginLine_114 (by decide) ?_
                exact a_zret dX6_beginLine_115 rfl rfl (by
  first
    | (simp only [begF, c6, c11, c23v2, c31v4, c42v4, c56v7, c73v13, if_true, if_false, not_true_eq_false, not_false_eq_true, true_and, and_true, false_and, and_false, or_false, false_or] at hQ ⊢; exact hQ)
    | (simp [begF, c6, c11, c23v2, c31v4, c42v4, c56v7, c73v13] at hQ ⊢; exact hQ)
    | (exfalso; simp_all))
              · refine a_aload_n dX6_beginLine_76 rfl ?_
                refine a_getR (ci := 1) (j := 2) dX6_beginLine_77 (kdB hb rfl) rfl (by decide) rfl fl_6_93 ?_
                refine a_getI (ci := 3) (j := 5) dX6_beginLine_80 (kdB hb rfl) rfl (by decide) rfl fl_6_97 ?_
                refine a_bipush (v := 8) dX6_beginLine_83 (by decide) ?_
                refine a_icmp_lt dX6_beginLine_85 (tgt := 94) (by decide) (fun c85v13 => ?_) (fun c85v13 => ?_)
                · refine a_aload_n dX6_beginLine_94 rfl ?_
                  refine a_iload_n dX6_beginLine_95 rfl ?_
                  refine a_putI (ci := 6) (j := 2) dX6_beginLine_96 rfl rfl (by decide) (by decide) rfl fl_6_19 ?_
                  refine a_aload_n dX6_beginLine_99 rfl ?_
                  refine a_iconst (v := 0) dX6_beginLine_100 (by decide) ?_
                  refine a_putI (ci := 6) (j := 3) dX6_beginLine_101 rfl rfl (by decide) (by decide) rfl fl_6_100 ?_
                  refine a_aload_n dX6_beginLine_104 rfl ?_
                  refine a_iconst (v := (-1)) dX6_beginLine_105 (by decide) ?_
                  refine a_putI (ci := 6) (j := 4) dX6_beginLine_106 rfl rfl (by decide) (by decide) rfl fl_6_58 ?_
                  refine a_aload_n dX6_beginLine_109 rfl ?_
                  refine a_iconst (v := 0) dX6_beginLine_110 (by decide) ?_
                  refine a_putI (ci := 6) (j := 5) dX6_beginLine_111 rfl rfl (by decide) (by decide) rfl fl_6_103 ?_
                  refine a_iconst (v := 1) dX6_beginLine_114 (by decide) ?_
                  exact a_zret dX6_beginLine_115 rfl rfl (by
  first
    | (simp only [begF, c6, c11, c23v2, c31v4, c42v4, c56v7, c73v13, c85v13, if_true, if_false, not_true_eq_false, not_false_eq_true, true_and, and_true, false_and, and_false, or_false, false_or] at hQ ⊢; exact hQ)
    | (simp [begF, c6, c11, c23v2, c31v4, c42v4, c56v7, c73v13, c85v13] at hQ ⊢; exact hQ)
    | (exfalso; simp_all))
                · refine a_aload_n dX6_beginLine_88 rfl ?_
                  refine a_iconst (v := 3) dX6_beginLine_89 (by decide) ?_
                  refine a_cV1i dX6_beginLine_90 ml_6_51 wv_6_refuse rfl rfl (by decide) (Nat.le_of_ble_eq_true rfl) (c6_refuse ⟨rfl, rfl⟩) ?_
                  try simp (disch := first | decide | assumption | omega) only [ui_eq, ui_k, ui_j, ui_b, ui_2, ul_1, ul_eq, ul_k, ul_j, ul_b]
                  exact a_zret dX6_beginLine_93 rfl rfl (by
  first
    | (simp only [begF, c6, c11, c23v2, c31v4, c42v4, c56v7, c73v13, c85v13, if_true, if_false, not_true_eq_false, not_false_eq_true, true_and, and_true, false_and, and_false, or_false, false_or] at hQ ⊢; exact hQ)
    | (simp [begF, c6, c11, c23v2, c31v4, c42v4, c56v7, c73v13, c85v13] at hQ ⊢; exact hQ)
    | (exfalso; simp_all))
            · refine a_aload_n dX6_beginLine_59 rfl ?_
              refine a_getR (ci := 1) (j := 1) dX6_beginLine_60 (kdB hb rfl) rfl (by decide) rfl fl_6_84 ?_
              refine a_getI (ci := 4) (j := 11) dX6_beginLine_63 (kdB hb rfl) rfl (by decide) rfl fl_6_88 ?_
              refine a_bipush (v := 6) dX6_beginLine_66 (by decide) ?_
              refine a_icmp_ge dX6_beginLine_68 (tgt := 88) (by decide) (fun c68v7 => ?_) (fun c68v7 => ?_)
              · refine a_aload_n dX6_beginLine_88 rfl ?_
                refine a_iconst (v := 3) dX6_beginLine_89 (by decide) ?_
                refine a_cV1i dX6_beginLine_90 ml_6_51 wv_6_refuse rfl rfl (by decide) (Nat.le_of_ble_eq_true rfl) (c6_refuse ⟨rfl, rfl⟩) ?_
                try simp (disch := first | decide | assumption | omega) only [ui_eq, ui_k, ui_j, ui_b, ui_2, ul_1, ul_eq, ul_k, ul_j, ul_b]
                exact a_zret dX6_beginLine_93 rfl rfl (by
  first
    | (simp only [begF, c6, c11, c23v2, c31v4, c42v4, c56v7, c68v7, if_true, if_false, not_true_eq_false, not_false_eq_true, true_and, and_true, false_and, and_false, or_false, false_or] at hQ ⊢; exact hQ)
    | (simp [begF, c6, c11, c23v2, c31v4, c42v4, c56v7, c68v7] at hQ ⊢; exact hQ)
    | (exfalso; simp_all))
              · refine a_iload_n dX6_beginLine_71 rfl ?_
                refine a_iconst (v := 4) dX6_beginLine_72 (by decide) ?_
                refine a_icmp_ne dX6_beginLine_73 (tgt := 94) (by decide) (fun c73v14 => ?_) (fun c73v14 => ?_)
                · refine a_aload_n dX6_beginLine_94 rfl ?_
                  refine a_iload_n dX6_beginLine_95 rfl ?_
                  refine a_putI (ci := 6) (j := 2) dX6_beginLine_96 rfl rfl (by decide) (by decide) rfl fl_6_19 ?_
                  refine a_aload_n dX6_beginLine_99 rfl ?_
                  refine a_iconst (v := 0) dX6_beginLine_100 (by decide) ?_
                  refine a_putI (ci := 6) (j := 3) dX6_beginLine_101 rfl rfl (by decide) (by decide) rfl fl_6_100 ?_
                  refine a_aload_n dX6_beginLine_104 rfl ?_
                  refine a_iconst (v := (-1)) dX6_beginLine_105 (by decide) ?_
                  refine a_putI (ci := 6) (j := 4) dX6_beginLine_106 rfl rfl (by decide) (by decide) rfl fl_6_58 ?_
                  refine a_aload_n dX6_beginLine_109 rfl ?_
                  refine a_iconst (v := 0) dX6_beginLine_110 (by decide) ?_
                  refine a_putI (ci := 6) (j := 5) dX6_beginLine_111 rfl rfl (by decide) (by decide) rfl fl_6_103 ?_
                  refine a_iconst (v := 1) dX6_beginLine_114 (by decide) ?_
                  exact a_zret dX6_beginLine_115 rfl rfl (by
  first
    | (simp only [begF, c6, c11, c23v2, c31v4, c42v4, c56v7, c68v7, c73v14, if_true, if_false, not_true_eq_false, not_false_eq_true, true_and, and_true, false_and, and_false, or_false, false_or] at hQ ⊢; exact hQ)
    | (simp [begF, c6, c11, c23v2, c31v4, c42v4, c56v7, c68v7, c73v14] at hQ ⊢; exact hQ)
    | (exfalso; simp_all))
                · refine a_aload_n dX6_beginLine_76 rfl ?_
                  refine a_getR (ci := 1) (j := 2) dX6_beginLine_77 (kdB hb rfl) rfl (by decide) rfl fl_6_93 ?_
                  refine a_getI (ci := 3) (j := 5) dX6_beginLine_80 (kdB hb rfl) rfl (by decide) rfl fl_6_97 ?_
                  refine a_bipush (v := 8) dX6_beginLine_83 (by decide) ?_
                  refine a_icmp_lt dX6_beginLine_85 (tgt := 94) (by decide) (fun c85v14 => ?_) (fun c85v14 => ?_)
                  · refine a_aload_n dX6_beginLine_94 rfl ?_
                    refine a_iload_n dX6_beginLine_95 rfl ?_
                    refine a_putI (ci := 6) (j := 2) dX6_beginLine_96 rfl rfl (by decide) (by decide) rfl fl_6_19 ?_
                    refine a_aload_n dX6_beginLine_99 rfl ?_
                    refine a_iconst (v := 0) dX6_beginLine_100 (by decide) ?_
                    refine a_putI (ci := 6) (j := 3) dX6_beginLine_101 rfl rfl (by decide) (by decide) rfl fl_6_100 ?_
                    refine a_aload_n dX6_beginLine_104 rfl ?_
                    refine a_iconst (v := (-1)) dX6_beginLine_105 (by decide) ?_
                    refine a_putI (ci := 6) (j := 4) dX6_beginLine_106 rfl rfl (by decide) (by decide) rfl fl_6_58 ?_
                    refine a_aload_n dX6_beginLine_109 rfl ?_
                    refine a_iconst (v := 0) dX6_beginLine_110 (by decide) ?_
                    refine a_putI (ci := 6) (j := 5) dX6_beginLine_111 rfl rfl (by decide) (by decide) rfl fl_6_103 ?_
                    refine a_iconst (v := 1) dX6_beginLine_114 (by decide) ?_
                    exact a_zret dX6_beginLine_115 rfl rfl (by
  first
    | (simp only [begF, c6, c11, c23v2, c31v4, c42v4, c56v7, c68v7, c73v14, c85v14, if_true, if_false, not_true_eq_false, not_false_eq_true, true_and, and_true, false_and, and_false, or_false, false_or] at hQ ⊢; exact hQ)
    | (simp [begF, c6, c11, c23v2, c31v4, c42v4, c56v7, c68v7, c73v14, c85v14] at hQ ⊢; exact hQ)
    | (exfalso; simp_all))
                  · refine a_aload_n dX6_beginLine_88 rfl ?_
                    refine a_iconst (v := 3) dX6_beginLine_89 (by decide) ?_
                    refine a_cV1i dX6_beginLine_90 ml_6_51 wv_6_refuse rfl rfl (by decide) (Nat.le_of_ble_eq_true rfl) (c6_refuse ⟨rfl, rfl⟩) ?_
                    try simp (disch := first | decide | assumption | omega) only [ui_eq, ui_k, ui_j, ui_b, ui_2, ul_1, ul_eq, ul_k, ul_j, ul_b]
                    exact a_zret dX6_beginLine_93 rfl rfl (by
  first
    | (simp only [begF, c6, c11, c23v2, c31v4, c42v4, c56v7, c68v7, c73v14, c85v14, if_true, if_false, not_true_eq_false, not_false_eq_true, true_and, and_true, false_and, and_false, or_false, false_or] at hQ ⊢; exact hQ)
    | (simp [begF, c6, c11, c23v2, c31v4, c42v4, c56v7, c68v7, c73v14, c85v14] at hQ ⊢; exact hQ)
    | (exfalso; simp_all))
          · refine a_aload_n dX6_beginLine_45 rfl ?_
            refine a_getI (ci := 6) (j := 7) dX6_beginLine_46 rfl rfl (by decide) rfl fl_6_26 ?_
            refine a_bipush (v := 28) dX6_beginLine_49 (by decide) ?_
            refine a_icmp_ge dX6_beginLine_51 (tgt := 88) (by decide) (fun c51v4 => ?_) (fun c51v4 => ?_)
            · refine a_aload_n dX6_beginLine_88 rfl ?_
              refine a_iconst (v := 3) dX6_beginLine_89 (by decide) ?_
              refine a_cV1i dX6_beginLine_90 ml_6_51 wv_6_refuse rfl rfl (by decide) (Nat.le_of_ble_eq_true rfl) (c6_refuse ⟨rfl, rfl⟩) ?_
              try simp (disch := first | decide | assumption | omega) only [ui_eq, ui_k, ui_j, ui_b, ui_2, ul_1, ul_eq, ul_k, ul_j, ul_b]
              exact a_zret dX6_beginLine_93 rfl rfl (by
  first
    | (simp only [begF, c6, c11, c23v2, c31v4, c42v4, c51v4, if_true, if_false, not_true_eq_false, not_false_eq_true, true_and, and_true, false_and, and_false, or_false, false_or] at hQ ⊢; exact hQ)
    | (simp [begF, c6, c11, c23v2, c31v4, c42v4, c51v4] at hQ ⊢; exact hQ)
    | (exfalso; simp_all))
            · refine a_iload_n dX6_beginLine_54 rfl ?_
              refine a_iconst (v := 3) dX6_beginLine_55 (by decide) ?_
              refine a_icmp_ne dX6_beginLine_56 (tgt := 71) (by decide) (fun c56v8 => ?_) (fun c56v8 => ?_)
              · refine a_iload_n dX6_beginLine_71 rfl ?_
                refine a_iconst (v := 4) dX6_beginLine_72 (by decide) ?_
                refine a_icmp_ne dX6_beginLine_73 (tgt := 94) (by decide) (fun c73v15 => ?_) (fun c73v15 => ?_)
                · refine a_aload_n dX6_beginLine_94 rfl ?_
                  refine a_iload_n dX6_beginLine_95 rfl ?_
                  refine a_putI (ci := 6) (j := 2) dX6_beginLine_96 rfl rfl (by decide) (by decide) rfl fl_6_19 ?_
                  refine a_aload_n dX6_beginLine_99 rfl ?_
                  refine a_iconst (v := 0) dX6_beginLine_100 (by decide) ?_
                  refine a_putI (ci := 6) (j := 3) dX6_beginLine_101 rfl rfl (by decide) (by decide) rfl fl_6_100 ?_
                  refine a_aload_n dX6_beginLine_104 rfl ?_
                  refine a_iconst (v := (-1)) dX6_beginLine_105 (by decide) ?_
                  refine a_putI (ci := 6) (j := 4) dX6_beginLine_106 rfl rfl (by decide) (by decide) rfl fl_6_58 ?_
                  refine a_aload_n dX6_beginLine_109 rfl ?_
                  refine a_iconst (v := 0) dX6_beginLine_110 (by decide) ?_
                  refine a_putI (ci := 6) (j := 5) dX6_beginLine_111 rfl rfl (by decide) (by decide) rfl fl_6_103 ?_
                  refine a_iconst (v := 1) dX6_beginLine_114 (by decide) ?_
                  exact a_zret dX6_beginLine_115 rfl rfl (by
  first
    | (simp only [begF, c6, c11, c23v2, c31v4, c42v4, c51v4, c56v8, c73v15, if_true, if_false, not_true_eq_false, not_false_eq_true, true_and, and_true, false_and, and_false, or_false, false_or] at hQ ⊢; exact hQ)
    | (simp [begF, c6, c11, c23v2, c31v4, c42v4, c51v4, c56v8, c73v15] at hQ ⊢; exact hQ)
    | (exfalso; simp_all))
                · refine a_aload_n dX6_beginLine_76 rfl ?_
                  refine a_getR (ci := 1) (j := 2) dX6_beginLine_77 (kdB hb rfl) rfl (by decide) rfl fl_6_93 ?_
                  refine a_getI (ci := 3) (j := 5) dX6_beginLine_80 (kdB hb rfl) rfl (by decide) rfl fl_6_97 ?_
                  refine a_bipush (v := 8) dX6_beginLine_83 (by decide) ?_
                  refine a_icmp_lt dX6_beginLine_85 (tgt := 94) (by decide) (fun c85v15 => ?_) (fun c85v15 => ?_)
                  · refine a_aload_n dX6_beginLine_94 rfl ?_
                    refine a_iload_n dX6_beginLine_95 rfl ?_
                    refine a_putI (ci := 6) (j := 2) dX6_beginLine_96 rfl rfl (by decide) (by decide) rfl fl_6_19 ?_
                    refine a_aload_n dX6_beginLine_99 rfl ?_
                    refine a_iconst (v := 0) dX6_beginLine_100 (by decide) ?_
                    refine a_putI (ci := 6) (j := 3) dX6_beginLine_101 rfl rfl (by decide) (by decide) rfl fl_6_100 ?_
                    refine a_aload_n dX6_beginLine_104 rfl ?_
                    refine a_iconst (v := (-1)) dX6_beginLine_105 (by decide) ?_
                    refine a_putI (ci := 6) (j := 4) dX6_beginLine_106 rfl rfl (by decide) (by decide) rfl fl_6_58 ?_
                    refine a_aload_n dX6_beginLine_109 rfl ?_
                    refine a_iconst (v := 0) dX6_beginLine_110 (by decide) ?_
                    refine a_putI (ci := 6) (j := 5) dX6_beginLine_111 rfl rfl (by decide) (by decide) rfl fl_6_103 ?_
                    refine a_iconst (v := 1) dX6_beginLine_114 (by decide) ?_
                    exact a_zret dX6_beginLine_115 rfl rfl (by
  first
    | (simp only [begF, c6, c11, c23v2, c31v4, c42v4, c51v4, c56v8, c73v15, c85v15, if_true, if_false, not_true_eq_false, not_false_eq_true, true_and, and_true, false_and, and_false, or_false, false_or] at hQ ⊢; exact hQ)
    | (simp [begF, c6, c11, c23v2, c31v4, c42v4, c51v4, c56v8, c73v15, c85v15] at hQ ⊢; exact hQ)
    | (exfalso; simp_all))
                  · refine a_aload_n dX6_beginLine_88 rfl ?_
                    refine a_iconst (v := 3) dX6_beginLine_89 (by decide) ?_
                    refine a_cV1i dX6_beginLine_90 ml_6_51 wv_6_refuse rfl rfl (by decide) (Nat.le_of_ble_eq_true rfl) (c6_refuse ⟨rfl, rfl⟩) ?_
                    try simp (disch := first | decide | assumption | omega) only [ui_eq, ui_k, ui_j, ui_b, ui_2, ul_1, ul_eq, ul_k, ul_j, ul_b]
                    exact a_zret dX6_beginLine_93 rfl rfl (by
  first
    | (simp only [begF, c6, c11, c23v2, c31v4, c42v4, c51v4, c56v8, c73v15, c85v15, if_true, if_false, not_true_eq_false, not_false_eq_true, true_and, and_true, false_and, and_false, or_false, false_or] at hQ ⊢; exact hQ)
    | (simp [begF, c6, c11, c23v2, c31v4, c42v4, c51v4, c56v8, c73v15, c85v15] at hQ ⊢; exact hQ)
    | (exfalso; simp_all))
              · refine a_aload_n dX6_beginLine_59 rfl ?_
                refine a_getR (ci := 1) (j := 1) dX6_beginLine_60 (kdB hb rfl) rfl (by decide) rfl fl_6_84 ?_
                refine a_getI (ci := 4) (j := 11) dX6_beginLine_63 (kdB hb rfl) rfl (by decide) rfl fl_6_88 ?_
                refine a_bipush (v := 6) dX6_beginLine_66 (by decide) ?_
                refine a_icmp_ge dX6_beginLine_68 (tgt := 88) (by decide) (fun c68v8 => ?_) (fun c68v8 => ?_)
                · refine a_aload_n dX6_beginLine_88 rfl ?_
                  refine a_iconst (v := 3) dX6_beginLine_89 (by decide) ?_
                  refine a_cV1i dX6_beginLine_90 ml_6_51 wv_6_refuse rfl rfl (by decide) (Nat.le_of_ble_eq_true rfl) (c6_refuse ⟨rfl, rfl⟩) ?_
                  try simp (disch := first | decide | assumption | omega) only [ui_eq, ui_k, ui_j, ui_b, ui_2, ul_1, ul_eq, ul_k, ul_j, ul_b]
                  exact a_zret dX6_beginLine_93 rfl rfl (by
  first
    | (simp only [begF, c6, c11, c23v2, c31v4, c42v4, c51v4, c56v8, c68v8, if_true, if_false, not_true_eq_false, not_false_eq_true, true_and, and_true, false_and, and_false, or_false, false_or] at hQ ⊢; exact hQ)
    | (simp [begF, c6, c11, c23v2, c31v4, c42v4, c51v4, c56v8, c68v8] at hQ ⊢; exact hQ)
    | (exfalso; simp_all))
                · refine a_iload_n dX6_beginLine_71 rfl ?_
                  refine a_iconst (v := 4) dX6_beginLine_72 (by decide) ?_
                  refine a_icmp_ne dX6_beginLine_73 (tgt := 94) (by decide) (fun c73v16 => ?_) (fun c73v16 => ?_)
                  · refine a_aload_n dX6_beginLine_94 rfl ?_
                    refine a_iload_n dX6_beginLine_95 rfl ?_
                    refine a_putI (ci := 6) (j := 2) dX6_beginLine_96 rfl rfl (by decide) (by decide) rfl fl_6_19 ?_
                    refine a_aload_n dX6_beginLine_99 rfl ?_
                    refine a_iconst (v := 0) dX6_beginLine_100 (by decide) ?_
                    refine a_putI (ci := 6) (j := 3) dX6_beginLine_101 rfl rfl (by decide) (by decide) rfl fl_6_100 ?_
                    refine a_aload_n dX6_beginLine_104 rfl ?_
                    refine a_iconst (v := (-1)) dX6_beginLine_105 (by decide) ?_
                    refine a_putI (ci := 6) (j := 4) dX6_beginLine_106 rfl rfl (by decide) (by decide) rfl fl_6_58 ?_
                    refine a_aload_n dX6_beginLine_109 rfl ?_
                    refine a_iconst (v := 0) dX6_beginLine_110 (by decide) ?_
                    refine a_putI (ci := 6) (j := 5) dX6_beginLine_111 rfl rfl (by decide) (by decide) rfl fl_6_103 ?_
                    refine a_iconst (v := 1) dX6_beginLine_114 (by decide) ?_
                    exact a_zret dX6_beginLine_115 rfl rfl (by
  first
    | (simp only [begF, c6, c11, c23v2, c31v4, c42v4, c51v4, c56v8, c68v8, c73v16, if_true, if_false, not_true_eq_false, not_false_eq_true, true_and, and_true, false_and, and_false, or_false, false_or] at hQ ⊢; exact hQ)
    | (simp [begF, c6, c11, c23v2, c31v4, c42v4, c51v4, c56v8, c68v8, c73v16] at hQ ⊢; exact hQ)
    | (exfalso; simp_all))
                  · refine a_aload_n dX6_beginLine_76 rfl ?_
                    refine a_getR (ci := 1) (j := 2) dX6_beginLine_77 (kdB hb rfl) rfl (by decide) rfl fl_6_93 ?_
                    refine a_getI (ci := 3) (j := 5) dX6_beginLine_80 (kdB hb rfl) rfl (by decide) rfl fl_6_97 ?_
                    refine a_bipush (v := 8) dX6_beginLine_83 (by decide) ?_
                    refine a_icmp_lt dX6_beginLine_85 (tgt := 94) (by decide) (fun c85v16 => ?_) (fun c85v16 => ?_)
                    · refine a_aload_n dX6_beginLine_94 rfl ?_
                      refine a_iload_n dX6_beginLine_95 rfl ?_
                      refine a_putI (ci := 6) (j := 2) dX6_beginLine_96 rfl rfl (by decide) (by decide) rfl fl_6_19 ?_
                      refine a_aload_n dX6_beginLine_99 rfl ?_
                      refine a_iconst (v := 0) dX6_beginLine_100 (by decide) ?_
                      refine a_putI (ci := 6) (j := 3) dX6_beginLine_101 rfl rfl (by decide) (by decide) rfl fl_6_100 ?_
                      refine a_aload_n dX6_beginLine_104 rfl ?_
                      refine a_iconst (v := (-1)) dX6_beginLine_105 (by decide) ?_
                      refine a_putI (ci := 6) (j := 4) dX6_beginLine_106 rfl rfl (by decide) (by decide) rfl fl_6_58 ?_
                      refine a_aload_n dX6_beginLine_109 rfl ?_
                      refine a_iconst (v := 0) dX6_beginLine_110 (by decide) ?_
                      refine a_putI (ci := 6) (j := 5) dX6_beginLine_111 rfl rfl (by decide) (by decide) rfl fl_6_103 ?_
                      refine a_iconst (v := 1) dX6_beginLine_114 (by decide) ?_
                      exact a_zret dX6_beginLine_115 rfl rfl (by
  first
    | (simp only [begF, c6, c11, c23v2, c31v4, c42v4, c51v4, c56v8, c68v8, c73v16, c85v16, if_true, if_false, not_true_eq_false, not_false_eq_true, true_and, and_true, false_and, and_false, or_false, false_or] at hQ ⊢; exact hQ)
    | (simp [begF, c6, c11, c23v2, c31v4, c42v4, c51v4, c56v8, c68v8, c73v16, c85v16] at hQ ⊢; exact hQ)
    | (exfalso; simp_all))
                    · refine a_aload_n dX6_beginLine_88 rfl ?_
                      refine a_iconst (v := 3) dX6_beginLine_89 (by decide) ?_
                      refine a_cV1i dX6_beginLine_90 ml_6_51 wv_6_refuse rfl rfl (by decide) (Nat.le_of_ble_eq_true rfl) (c6_refuse ⟨rfl, rfl⟩) ?_
                      try simp (disch := first | decide | assumption | omega) only [ui_eq, ui_k, ui_j, ui_b, ui_2, ul_1, ul_eq, ul_k, ul_j, ul_b]
                      exact a_zret dX6_beginLine_93 rfl rfl (by
  first
    | (simp only [begF, c6, c11, c23v2, c31v4, c42v4, c51v4, c56v8, c68v8, c73v16, c85v16, if_true, if_false, not_true_eq_false, not_false_eq_true, true_and, and_true, false_and, and_false, or_false, false_or] at hQ ⊢; exact hQ)
    | (simp [begF, c6, c11, c23v2, c31v4, c42v4, c51v4, c56v8, c68v8, c73v16, c85v16] at hQ ⊢; exact hQ)
    | (exfalso; simp_all))
        · refine a_aload_n dX6_beginLine_34 rfl ?_
          refine a_iconst (v := 1) dX6_beginLine_35 (by decide) ?_
          refine a_cV1i dX6_beginLine_36 ml_6_51 wv_6_refuse rfl rfl (by decide) (Nat.le_of_ble_eq_true rfl) (c6_refuse ⟨rfl, rfl⟩) ?_
          try simp (disch := first | decide | assumption | omega) only [ui_eq, ui_k, ui_j, ui_b, ui_2, ul_1, ul_eq, ul_k, ul_j, ul_b]
          exact a_zret dX6_beginLine_39 rfl rfl (by
  first
    | (simp only [begF, c6, c11, c23v2, c31v4, if_true, if_false, not_true_eq_false, not_false_eq_true, true_and, and_true, false_and, and_false, or_false, false_or] at hQ ⊢; exact hQ)
    | (simp [begF, c6, c11, c23v2, c31v4] at hQ ⊢; exact hQ)
    | (exfalso; simp_all))
