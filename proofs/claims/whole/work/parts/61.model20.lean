/-- the numbers of now, the snapshots, how many -/
def nH (h : AH) (N S : Nat → Int32) (s : Int32) : AH := (fun b k j => if b = 3 then (if k = 2 then N j else if k = 4 then S j else if k = 0 then (if j = 14 then s else h.1 b k j) else h.1 b k j) else h.1 b k j, h.2)
theorem nH_2 {h : AH} {N S : Nat → Int32} {s : Int32} {j : Nat} {v : Int32} : ui (nH h N S s) 3 2 j v = nH h (upd N j v) S s := by
  refine ah_ext (fun b' k' j' => ?_) rfl
  simp only [ui, nH, upd]
  by_cases e : b' = 3
  · subst e
    by_cases e2 : k' = 2
    · subst e2
      by_cases e3 : j' = j <;> simp [e3]
    · simp [e2]
  · simp [e]
theorem nH_4 {h : AH} {N S : Nat → Int32} {s : Int32} {j : Nat} {v : Int32} : ui (nH h N S s) 3 4 j v = nH h N (upd S j v) s := by
  refine ah_ext (fun b' k' j' => ?_) rfl
  simp only [ui, nH, upd]
  by_cases e : b' = 3
  · subst e
    by_cases e2 : k' = 4
    · subst e2
      by_cases e3 : j' = j <;> simp [e3]
    · simp [e2]
  · simp [e]
theorem nH_s {h : AH} {N S : Nat → Int32} {s v : Int32} : ui (nH h N S s) 3 0 14 v = nH h N S v := by
  refine ah_ext (fun b' k' j' => ?_) rfl
  simp only [ui, nH]
  by_cases e : b' = 3
  · subst e
    by_cases e2 : k' = 0
    · subst e2
      by_cases e3 : j' = 14 <;> simp [e3]
    · simp [e2]
  · simp [e]
theorem nG_2 {h : AH} {N S : Nat → Int32} {s : Int32} : (nH h N S s).1 3 2 = N := rfl
theorem nG_2j {h : AH} {N S : Nat → Int32} {s : Int32} {j : Nat} : (nH h N S s).1 3 2 j = N j := rfl
theorem nG_4j {h : AH} {N S : Nat → Int32} {s : Int32} {j : Nat} : (nH h N S s).1 3 4 j = S j := rfl
theorem nG_s {h : AH} {N S : Nat → Int32} {s : Int32} : (nH h N S s).1 3 0 14 = s := rfl
theorem nG_7 {h : AH} {N S : Nat → Int32} {s : Int32} {j : Nat} : (nH h N S s).1 3 7 j = h.1 3 7 j := rfl
theorem nG_11 {h : AH} {N S : Nat → Int32} {s : Int32} {j : Nat} : (nH h N S s).1 3 11 j = h.1 3 11 j := rfl
theorem nG_22 {h : AH} {N S : Nat → Int32} {s : Int32} : (nH h N S s).1 3 0 22 = h.1 3 0 22 := rfl
theorem nH_self {h : AH} : nH h (h.1 3 2) (h.1 3 4) (h.1 3 0 14) = h := by
  refine ah_ext (fun b' k' j' => ?_) rfl
  simp only [nH]
  by_cases e : b' = 3
  · subst e
    simp only [if_true]
    repeat' split
    all_goals first | rfl | (rename_i e; rw [e]) | (rename_i e1 e2; rw [e1, e2]) | (rename_i e1 e2; rw [e2]; rfl)
    all_goals simp_all
  · simp [e]
def shS (S : Nat → Int32) (i : Nat) : Nat → Int32 := fun j => if j < i then S (j + 631) else S j
def puS (S N : Nat → Int32) (b i : Nat) : Nat → Int32 := fun j => if 631 * b ≤ j ∧ j < 631 * b + i then N (j - 631 * b) else S j
def snapS (S N : Nat → Int32) (sm : Nat) : Nat → Int32 := if sm = 10 then puS (shS S 5679) N 9 631 else puS S N sm 631
def snapM (sm : Nat) : Nat := if sm = 10 then 10 else sm + 1
theorem shS_0 (S : Nat → Int32) : shS S 0 = S := by funext j; simp [shS]
theorem shS_at (S : Nat → Int32) (i : Nat) : shS S i (i + 631) = S (i + 631) := by
  unfold shS
  rw [if_neg (by omega)]
theorem shS_s (S : Nat → Int32) (i : Nat) : upd (shS S i) i (S (i + 631)) = shS S (i + 1) := by
  funext j
  unfold shS
  by_cases e : j = i
  · subst e
    rw [up_eq, if_pos (by omega)]
  · rw [up_ne e]
    by_cases c : j < i
    · rw [if_pos c, if_pos (by omega)]
    · rw [if_neg c, if_neg (by omega)]
theorem puS_0 (S N : Nat → Int32) (b : Nat) : puS S N b 0 = S := by
  funext j
  unfold puS
  rw [if_neg (by omega)]
theorem puS_s (S N : Nat → Int32) (b i : Nat) : upd (puS S N b i) (631 * b + i) (N i) = puS S N b (i + 1) := by
  funext j
  unfold puS
  by_cases e : j = 631 * b + i
  · subst e
    rw [up_eq, if_pos (by omega), show 631 * b + i - 631 * b = i by omega]
  · rw [up_ne e]
    by_cases c : 631 * b ≤ j ∧ j < 631 * b + i
    · rw [if_pos c, if_pos (by omega)]
    · rw [if_neg c, if_neg (by omega)]
def cpN (i b : Nat) (N S : Nat → Int32) : Nat → Int32 := fun j => if j < i then S (631 * b + j) else N j
theorem cpN_0 (b : Nat) (N S : Nat → Int32) : cpN 0 b N S = N := by funext j; simp [cpN]
theorem cpN_s (b i : Nat) (N S : Nat → Int32) : upd (cpN i b N S) i (S (631 * b + i)) = cpN (i + 1) b N S := by
  funext j
  unfold cpN
  by_cases e : j = i
  · subst e
    rw [up_eq, if_pos (by omega)]
  · rw [up_ne e]
    by_cases c : j < i
    · rw [if_pos c, if_pos (by omega)]
    · rw [if_neg c, if_neg (by omega)]
theorem l11_sh {l : Launch} {G : GG} {h : AH} {Q : Option Value → AH → Prop} {N S : Nat → Int32} {s : Int32} (i : Nat) (hi : i ≤ 5679) (hE : AW l G 0 RX11 cX11_snap 2 none 40 [some (.ref (G.1 3 0)), some (.int (nI 5679))] [] (nH h N (shS S 5679) s) Q) : AW l G 0 RX11 cX11_snap 2 none 11 [some (.ref (G.1 3 0)), some (.int (nI i))] [] (nH h N (shS S i) s) Q := by
  have hic : (nI i).toNatClampNeg = i := nI_clamp (by omega)
  have e6 : nI i + 631 = nI (i + 631) := nI_add i 631
  have e6c : (nI (i + 631)).toNatClampNeg = i + 631 := nI_clamp (by omega)
  have hsh := shS_at S i
  refine a_iload_n dX11_snap_11 rfl ?_
  refine a_sipush (v := 5679) dX11_snap_12 (by decide) ?_
  refine a_icmp_ge dX11_snap_15 (tgt := 40) (by decide) (fun c15 => ?_) (fun c15 => ?_)
  · have hge : 5679 ≤ i := le_of_le (b := 5679) c15 (by omega) (by decide)
    have hie : i = 5679 := by omega
    subst hie
    exact hE
  · have hlt : i < 5679 := lt_of_nle (b := 5679) c15 (by omega) (by decide)
    refine a_aload_n dX11_snap_18 rfl ?_
    refine a_getR (ci := 11) (j := 13) dX11_snap_19 rfl rfl (by decide) rfl fl_11_78 ?_
    refine a_iload_n dX11_snap_22 rfl ?_
    refine a_aload_n dX11_snap_23 rfl ?_
    refine a_getR (ci := 11) (j := 13) dX11_snap_24 rfl rfl (by decide) rfl fl_11_78 ?_
    refine a_iload_n dX11_snap_27 rfl ?_
    refine a_sipush (v := 631) dX11_snap_28 (by decide) ?_
    refine a_iadd dX11_snap_31 ?_
    refine a_iaload dX11_snap_32 rfl (by (try rw [e6]); exact vp_in_nI (by omega) (by decide)) ?_
    try simp (disch := first | decide | assumption | omega) only [ui_eq, ui_k, ui_j, ui_b, ui_2, ul_1, ul_eq, ul_k, ul_j, ul_b, nG_2, nG_2j, nG_4j, nG_s, nG_7, nG_11, nG_22, nH_2, nH_4, nH_s, hic, e6, e6c, hsh]
    refine a_iastore dX11_snap_33 rfl (by (try rw [e6]); exact vp_in_nI (by omega) (by decide)) ?_
    refine a_inc (c := 1) dX11_snap_34 rfl (by decide) (by decide) rfl ?_
    dsimp only [lset]
    refine a_goto dX11_snap_37 (tgt := 11) (by decide) ?_
    try rw [hic]
    rw [nI_1, nH_4, shS_s]
    exact l11_sh (i + 1) (by omega) hE
termination_by 5679 - i
decreasing_by all_goals omega
theorem l11_pu {l : Launch} {G : GG} {h : AH} {Q : Option Value → AH → Prop} {N S : Nat → Int32} {b : Nat} (hb : b ≤ 9) (i : Nat) (hi : i ≤ 631) (hQ : Q none (nH h N (puS S N b 631) (nI (b + 1)))) : AW l G 0 RX11 cX11_snap 2 none 52 [some (.ref (G.1 3 0)), some (.int (nI i))] [] (nH h N (puS S N b i) (nI b)) Q := by
  have hic : (nI i).toNatClampNeg = i := nI_clamp (by omega)
  have e6 : (631 : Int32) * nI b + nI i = nI (631 * b + i) := by rw [show (631 : Int32) = nI 631 from rfl, pk_mul, nI_add]
  have e6c : (nI (631 * b + i)).toNatClampNeg = 631 * b + i := nI_clamp (by omega)
  refine a_iload_n dX11_snap_52 rfl ?_
  refine a_sipush (v := 631) dX11_snap_53 (by decide) ?_
  refine a_icmp_ge dX11_snap_56 (tgt := 86) (by decide) (fun c56 => ?_) (fun c56 => ?_)
  · have hge : 631 ≤ i := le_of_le (b := 631) c56 (by omega) (by decide)
    have hie : i = 631 := by omega
    subst hie
    refine a_aload_n dX11_snap_86 rfl ?_
    refine a_dup dX11_snap_87 rfl ?_
    refine a_getI (ci := 11) (j := 14) dX11_snap_88 rfl rfl (by decide) rfl fl_11_157 ?_
    try simp (disch := first | decide | assumption | omega) only [ui_eq, ui_k, ui_j, ui_b, ui_2, ul_1, ul_eq, ul_k, ul_j, ul_b, nG_2, nG_2j, nG_4j, nG_s, nG_7, nG_11, nG_22, nH_2, nH_4, nH_s, hic, e6, e6c]
    refine a_iconst (v := 1) dX11_snap_91 (by decide) ?_
    refine a_iadd dX11_snap_92 ?_
    refine a_putI (ci := 11) (j := 14) dX11_snap_93 rfl rfl (by decide) (by decide) rfl fl_11_157 ?_
    exact a_vret dX11_snap_96 rfl (by rw [nH_s, nI_1]; exact hQ)
  · have hlt : i < 631 := lt_of_nle (b := 631) c56 (by omega) (by decide)
    refine a_aload_n dX11_snap_59 rfl ?_
    refine a_getR (ci := 11) (j := 13) dX11_snap_60 rfl rfl (by decide) rfl fl_11_78 ?_
    refine a_sipush (v := 631) dX11_snap_63 (by decide) ?_
    refine a_aload_n dX11_snap_66 rfl ?_
    refine a_getI (ci := 11) (j := 14) dX11_snap_67 rfl rfl (by decide) rfl fl_11_157 ?_
    try simp (disch := first | decide | assumption | omega) only [ui_eq, ui_k, ui_j, ui_b, ui_2, ul_1, ul_eq, ul_k, ul_j, ul_b, nG_2, nG_2j, nG_4j, nG_s, nG_7, nG_11, nG_22, nH_2, nH_4, nH_s, hic, e6, e6c]
    refine a_imul dX11_snap_70 ?_
    refine a_iload_n dX11_snap_71 rfl ?_
    refine a_iadd dX11_snap_72 ?_
    refine a_aload_n dX11_snap_73 rfl ?_
    refine a_getR (ci := 11) (j := 11) dX11_snap_74 rfl rfl (by decide) rfl fl_11_72 ?_
    refine a_iload_n dX11_snap_77 rfl ?_
    refine a_iaload dX11_snap_78 rfl (vp_in_nI hlt (by decide)) ?_
    try simp (disch := first | decide | assumption | omega) only [ui_eq, ui_k, ui_j, ui_b, ui_2, ul_1, ul_eq, ul_k, ul_j, ul_b, nG_2, nG_2j, nG_4j, nG_s, nG_7, nG_11, nG_22, nH_2, nH_4, nH_s, hic, e6, e6c]
    refine a_iastore dX11_snap_79 rfl (by (try rw [e6]); exact vp_in_nI (by omega) (by decide)) ?_
    refine a_inc (c := 1) dX11_snap_80 rfl (by decide) (by decide) rfl ?_
    dsimp only [lset]
    refine a_goto dX11_snap_83 (tgt := 52) (by decide) ?_
    (try simp only [e6, e6c])
    rw [nI_1, nH_4, puS_s]
    exact l11_pu hb (i + 1) (by omega) hQ
termination_by 631 - i
decreasing_by all_goals omega
theorem c11_snap {l : Launch} {G : GG} {h : AH} {Q : Option Value → AH → Prop} {N S : Nat → Int32} {sm : Nat} (hs : sm ≤ 10) (hQ : Q none (nH h N (snapS S N sm) (nI (snapM sm)))) : Ct l G 0 yX11_snap cX11_snap 2 none [.ref (G.1 3 0)] (nH h N S (nI sm)) Q := by
  refine Ct.of (by decide) (Nat.le_of_ble_eq_true rfl) ?_
  show AW l G 0 RX11 cX11_snap 2 none 0 [some (.ref (G.1 3 0))] [] (nH h N S (nI sm)) Q
  refine a_aload_n dX11_snap_0 rfl ?_
  refine a_getI (ci := 11) (j := 14) dX11_snap_1 rfl rfl (by decide) rfl fl_11_157 ?_
  try simp (disch := first | decide | assumption | omega) only [ui_eq, ui_k, ui_j, ui_b, ui_2, ul_1, ul_eq, ul_k, ul_j, ul_b, nG_2, nG_2j, nG_4j, nG_s, nG_7, nG_11, nG_22, nH_2, nH_4, nH_s]
  refine a_bipush (v := 10) dX11_snap_4 (by decide) ?_
  refine a_icmp_ne dX11_snap_6 (tgt := 50) (by decide) (fun c6 => ?_) (fun c6 => ?_)
  · have hne : ¬ sm = 10 := fun z => c6 (by rw [z]; rfl)
    rw [snapS, if_neg hne, snapM, if_neg hne] at hQ
    refine a_iconst (v := 0) dX11_snap_50 (by decide) ?_
    refine a_istore_n dX11_snap_51 (by decide) rfl ?_
    dsimp only [lset]
    first
      | (rw [show nH h N S (nI sm) = nH h N (puS S N sm 0) (nI sm) by rw [puS_0]]; exact l11_pu (b := sm) (by omega) 0 (by omega) hQ)
      | (rw [nH_s, show nH h N (shS S 5679) (nI 10 - 1) = nH h N (puS (shS S 5679) N 9 0) (nI 9) by rw [puS_0]; rfl]; exact l11_pu (b := 9) (by omega) 0 (by omega) hQ)
  · have heq : sm = 10 := nI_inj (b := 10) (by omega) (by decide) c6
    subst heq
    rw [snapS, if_pos rfl, snapM, if_pos rfl] at hQ
    refine a_iconst (v := 0) dX11_snap_9 (by decide) ?_
    refine a_istore_n dX11_snap_10 (by decide) rfl ?_
    dsimp only [lset]
    rw [show nH h N S (nI 10) = nH h N (shS S 0) (nI 10) by rw [shS_0]]
    refine l11_sh 0 (by omega) ?_
    refine a_aload_n dX11_snap_40 rfl ?_
    refine a_dup dX11_snap_41 rfl ?_
    refine a_getI (ci := 11) (j := 14) dX11_snap_42 rfl rfl (by decide) rfl fl_11_157 ?_
    try simp (disch := first | decide | assumption | omega) only [ui_eq, ui_k, ui_j, ui_b, ui_2, ul_1, ul_eq, ul_k, ul_j, ul_b, nG_2, nG_2j, nG_4j, nG_s, nG_7, nG_11, nG_22, nH_2, nH_4, nH_s]
    refine a_iconst (v := 1) dX11_snap_45 (by decide) ?_
    refine a_isub dX11_snap_46 ?_
    refine a_putI (ci := 11) (j := 14) dX11_snap_47 rfl rfl (by decide) (by decide) rfl fl_11_157 ?_
    refine a_iconst (v := 0) dX11_snap_50 (by decide) ?_
    refine a_istore_n dX11_snap_51 (by decide) rfl ?_
    dsimp only [lset]
    first
      | (rw [show nH h N S (nI sm) = nH h N (puS S N sm 0) (nI sm) by rw [puS_0]]; exact l11_pu (b := sm) (by omega) 0 (by omega) hQ)
      | (rw [nH_s, show nH h N (shS S 5679) (nI 10 - 1) = nH h N (puS (shS S 5679) N 9 0) (nI 9) by rw [puS_0]; rfl]; exact l11_pu (b := 9) (by omega) 0 (by omega) hQ)
def snH (h : AH) (sm : Nat) : AH := nH h (h.1 3 2) (snapS (h.1 3 4) (h.1 3 2) sm) (nI (snapM sm))
theorem c11_snapH {l : Launch} {G : GG} {h : AH} {Q : Option Value → AH → Prop} {sm : Nat} (hsm : h.1 3 0 14 = nI sm) (hs : sm ≤ 10) (hQ : Q none (snH h sm)) : Ct l G 0 yX11_snap cX11_snap 2 none [.ref (G.1 3 0)] h Q := by
  have e := c11_snap (l := l) (G := G) (h := h) (N := h.1 3 2) (S := h.1 3 4) (Q := Q) hs hQ
  rw [← hsm, nH_self] at e
  exact e
/-- after an act: now is N -/
def acH (h : AH) (sm : Nat) (N : Nat → Int32) : AH := nH (ui h 3 0 0 0) N (snapS (h.1 3 4) (h.1 3 2) sm) (nI (snapM sm))
theorem acH_0 {h : AH} {sm : Nat} : snH (ui h 3 0 0 0) sm = acH h sm (h.1 3 2) := by
  unfold snH acH
  rw [N_k (by decide)]
  rfl
theorem acG {h : AH} {sm : Nat} {N : Nat → Int32} : (acH h sm N).1 3 2 = N := rfl
theorem acGj {h : AH} {sm : Nat} {N : Nat → Int32} {j : Nat} : (acH h sm N).1 3 2 j = N j := rfl
theorem acU {h : AH} {sm : Nat} {N : Nat → Int32} {j : Nat} {v : Int32} : ui (acH h sm N) 3 2 j v = acH h sm (upd N j v) := nH_2
def undN (h : AH) (sm : Nat) : Nat → Int32 := cpN 631 sm (h.1 3 2) (h.1 3 4)
theorem l11_un {l : Launch} {G : GG} {h : AH} {Q : Option Value → AH → Prop} {N S : Nat → Int32} {b : Nat} (hb : b ≤ 9) (i : Nat) (hi : i ≤ 631) (hQ : Q (some (.int (nI b))) (nH h (cpN 631 b N S) S (nI b))) : AW l G 0 RX11 cX11_undo 2 (some .int) 26 [some (.ref (G.1 3 0)), some (.int (nI i))] [] (nH h (cpN i b N S) S (nI b)) Q := by
  have hic : (nI i).toNatClampNeg = i := nI_clamp (by omega)
  have e6 : (631 : Int32) * nI b + nI i = nI (631 * b + i) := by rw [show (631 : Int32) = nI 631 from rfl, pk_mul, nI_add]
  have e6c : (nI (631 * b + i)).toNatClampNeg = 631 * b + i := nI_clamp (by omega)
  refine a_iload_n dX11_undo_26 rfl ?_
  refine a_sipush (v := 631) dX11_undo_27 (by decide) ?_
  refine a_icmp_ge dX11_undo_30 (tgt := 60) (by decide) (fun c30 => ?_) (fun c30 => ?_)
  · have hge : 631 ≤ i := le_of_le (b := 631) c30 (by omega) (by decide)
    have hie : i = 631 := by omega
    subst hie
    refine a_aload_n dX11_undo_60 rfl ?_
    refine a_getI (ci := 11) (j := 14) dX11_undo_61 rfl rfl (by decide) rfl fl_11_157 ?_
    try simp (disch := first | decide | assumption | omega) only [ui_eq, ui_k, ui_j, ui_b, ui_2, ul_1, ul_eq, ul_k, ul_j, ul_b, nG_2, nG_2j, nG_4j, nG_s, nG_7, nG_11, nG_22, nH_2, nH_4, nH_s, hic, e6, e6c]
    exact a_iret dX11_undo_64 rfl hQ
  · have hlt : i < 631 := lt_of_nle (b := 631) c30 (by omega) (by decide)
    refine a_aload_n dX11_undo_33 rfl ?_
    refine a_getR (ci := 11) (j := 11) dX11_undo_34 rfl rfl (by decide) rfl fl_11_72 ?_
    refine a_iload_n dX11_undo_37 rfl ?_
    refine a_aload_n dX11_undo_38 rfl ?_
    refine a_getR (ci := 11) (j := 13) dX11_undo_39 rfl rfl (by decide) rfl fl_11_78 ?_
    refine a_sipush (v := 631) dX11_undo_42 (by decide) ?_
    refine a_aload_n dX11_undo_45 rfl ?_
    refine a_getI (ci := 11) (j := 14) dX11_undo_46 rfl rfl (by decide) rfl fl_11_157 ?_
    try simp (disch := first | decide | assumption | omega) only [ui_eq, ui_k, ui_j, ui_b, ui_2, ul_1, ul_eq, ul_k, ul_j, ul_b, nG_2, nG_2j, nG_4j, nG_s, nG_7, nG_11, nG_22, nH_2, nH_4, nH_s, hic, e6, e6c]
    refine a_imul dX11_undo_49 ?_
    refine a_iload_n dX11_undo_50 rfl ?_
    refine a_iadd dX11_undo_51 ?_
    refine a_iaload dX11_undo_52 rfl (by (try rw [e6]); exact vp_in_nI (by omega) (by decide)) ?_
    try simp (disch := first | decide | assumption | omega) only [ui_eq, ui_k, ui_j, ui_b, ui_2, ul_1, ul_eq, ul_k, ul_j, ul_b, nG_2, nG_2j, nG_4j, nG_s, nG_7, nG_11, nG_22, nH_2, nH_4, nH_s, hic, e6, e6c]
    refine a_iastore dX11_undo_53 rfl (vp_in_nI hlt (by decide)) ?_
    refine a_inc (c := 1) dX11_undo_54 rfl (by decide) (by decide) rfl ?_
    dsimp only [lset]
    refine a_goto dX11_undo_57 (tgt := 26) (by decide) ?_
    try simp only [hic]
    rw [nI_1, nH_2, cpN_s]
    exact l11_un hb (i + 1) (by omega) hQ
termination_by 631 - i
decreasing_by all_goals omega
def mUndo (h : AH) (sm : Nat) : Int32 × AH := if sm = 0 then (-1, ui h 3 0 0 0) else (nI (sm - 1), nH (ui h 3 0 0 0) (cpN 631 (sm - 1) (h.1 3 2) (h.1 3 4)) (h.1 3 4) (nI (sm - 1)))
theorem c11_undo {l : Launch} {G : GG} {h : AH} {Q : Option Value → AH → Prop} {sm : Nat} (hsm : h.1 3 0 14 = nI sm) (hs : sm ≤ 10) (hQ : Q (some (.int (mUndo h sm).1)) (mUndo h sm).2) : Ct l G 0 yX11_undo cX11_undo 2 (some .int) [.ref (G.1 3 0)] h Q := by
  refine Ct.of (by decide) (Nat.le_of_ble_eq_true rfl) ?_
  show AW l G 0 RX11 cX11_undo 2 (some .int) 0 [some (.ref (G.1 3 0))] [] h Q
  refine a_aload_n dX11_undo_0 rfl ?_
  refine a_iconst (v := 0) dX11_undo_1 (by decide) ?_
  refine a_putI (ci := 11) (j := 0) dX11_undo_2 rfl rfl (by decide) (by decide) rfl fl_11_1 ?_
  refine a_aload_n dX11_undo_5 rfl ?_
  refine a_getI (ci := 11) (j := 14) dX11_undo_6 rfl rfl (by decide) rfl fl_11_157 ?_
  try simp (disch := first | decide | assumption | omega) only [ui_eq, ui_k, ui_j, ui_b, ui_2, ul_1, ul_eq, ul_k, ul_j, ul_b, hsm]
  refine a_if_ne dX11_undo_9 (tgt := 14) (by decide) (fun c9 => ?_) (fun c9 => ?_)
  · have hne : ¬ sm = 0 := fun z => c9 (by rw [z]; rfl)
    rw [mUndo, if_neg hne] at hQ
    have es : nI sm - 1 = nI (sm - 1) := pk_sub (a := sm) (b := 1) (by omega)
    refine a_aload_n dX11_undo_14 rfl ?_
    refine a_dup dX11_undo_15 rfl ?_
    refine a_getI (ci := 11) (j := 14) dX11_undo_16 rfl rfl (by decide) rfl fl_11_157 ?_
    try simp (disch := first | decide | assumption | omega) only [ui_eq, ui_k, ui_j, ui_b, ui_2, ul_1, ul_eq, ul_k, ul_j, ul_b, hsm]
    refine a_iconst (v := 1) dX11_undo_19 (by decide) ?_
    refine a_isub dX11_undo_20 ?_
    refine a_putI (ci := 11) (j := 14) dX11_undo_21 rfl rfl (by decide) (by decide) rfl fl_11_157 ?_
    refine a_iconst (v := 0) dX11_undo_24 (by decide) ?_
    refine a_istore_n dX11_undo_25 (by decide) rfl ?_
    dsimp only [lset]
    rw [es]
    have e := l11_un (l := l) (G := G) (h := ui h 3 0 0 0) (N := h.1 3 2) (S := h.1 3 4) (b := sm - 1) (Q := Q) (by omega) 0 (by omega) hQ
    rw [cpN_0, ← nH_s (s := (ui h 3 0 0 0).1 3 0 14), show h.1 3 2 = (ui h 3 0 0 0).1 3 2 from (N_k (by decide)).symm, show h.1 3 4 = (ui h 3 0 0 0).1 3 4 from rfl, nH_self] at e
    exact e
  · have heq : sm = 0 := nI_inj (b := 0) (by omega) (by decide) c9
    rw [mUndo, if_pos heq] at hQ
    refine a_iconst (v := (-1)) dX11_undo_12 (by decide) ?_
    exact a_iret dX11_undo_13 rfl hQ
