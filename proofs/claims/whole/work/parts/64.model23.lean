def asN (N gv : Nat → Int32) : Nat → (Nat → Int32)
  | 0 => N
  | t + 1 => if mT (asN N gv t) t 2 = 0 ∧ ¬ gv t = -1 then upd (upd (upd (asN N gv t) (111 + 13 * t + 2) 1) (111 + 13 * t + 3) (gv t)) (111 + 13 * t + 4) (asN N gv t 6) else asN N gv t
theorem asN_lo (N gv : Nat → Int32) : ∀ {t j : Nat}, j < 111 → asN N gv t j = N j
  | 0, j, _ => rfl
  | t + 1, j, h => by
    unfold asN
    split
    · rw [up_ne (by omega), up_ne (by omega), up_ne (by omega)]
      exact asN_lo N gv h
    · exact asN_lo N gv h
theorem l11_as {l : Launch} {G : GG} {h : AH} {Q : Option Value → AH → Prop} {N gv S : Nat → Int32} {s : Int32} {nt : Nat} (hnt : N 5 = nI nt) (ht40 : nt ≤ 40) (hgv : h.1 3 7 = gv) (t : Nat) (ht : t ≤ nt) (hQ : Q (some (.int (h.1 3 0 22))) (nH h (asN N gv nt) S s)) : AW l G 8 RX11 cX11_assign 2 (some .int) 15 [some (.ref (G.1 3 0)), some (.int (nI t))] [] (nH h (asN N gv t) S s) Q := by
  have htc : (nI t).toNatClampNeg = t := nI_clamp (by omega)
  have e5 : asN N gv t 5 = nI nt := (asN_lo N gv (by decide)).trans hnt
  have hgt : h.1 3 7 t = gv t := congrFun hgv t
  refine a_iload_n dX11_assign_15 rfl ?_
  refine a_aload_n dX11_assign_16 rfl ?_
  refine a_getR (ci := 11) (j := 11) dX11_assign_17 rfl rfl (by decide) rfl fl_11_72 ?_
  refine a_iconst (v := 5) dX11_assign_20 (by decide) ?_
  refine a_iaload dX11_assign_21 rfl (by rw [vp_in_iff]; decide) ?_
  try simp (disch := first | decide | assumption | omega) only [ui_eq, ui_k, ui_j, ui_b, ui_2, ul_1, ul_eq, ul_k, ul_j, ul_b, nG_2, nG_2j, nG_4j, nG_s, nG_7, nG_11, nG_22, nH_2, nH_4, nH_s, htc, e5, hgt, cl5, cl6, up_eq, up_ne, ixT2, ixT3, ixT4, ixT5, ixT6, ixL2, ixY7, ixY8, ixT2c, ixT3c, ixT4c, ixT5c, ixT6c, ixL2c, ixY7c, ixY8c]
  refine a_icmp_ge dX11_assign_22 (tgt := 109) (by decide) (fun c22 => ?_) (fun c22 => ?_)
  · have hge : nt ≤ t := le_of_le c22 (by omega) (by omega)
    have hie : nt = t := by omega
    subst hie
    refine a_aload_n dX11_assign_109 rfl ?_
    refine a_getI (ci := 11) (j := 22) dX11_assign_110 rfl rfl (by decide) rfl fl_11_225 ?_
    try simp (disch := first | decide | assumption | omega) only [ui_eq, ui_k, ui_j, ui_b, ui_2, ul_1, ul_eq, ul_k, ul_j, ul_b, nG_2, nG_2j, nG_4j, nG_s, nG_7, nG_11, nG_22, nH_2, nH_4, nH_s, htc, e5, hgt, cl5, cl6, up_eq, up_ne, ixT2, ixT3, ixT4, ixT5, ixT6, ixL2, ixY7, ixY8, ixT2c, ixT3c, ixT4c, ixT5c, ixT6c, ixL2c, ixY7c, ixY8c]
    exact a_iret dX11_assign_113 rfl hQ
  · have hlt : t < nt := lt_of_nle c22 (by omega) (by omega)
    refine a_aload_n dX11_assign_25 rfl ?_
    refine a_iload_n dX11_assign_26 rfl ?_
    refine a_iconst (v := 2) dX11_assign_27 (by decide) ?_
    refine a_cV2i dX11_assign_28 ml_11_160 wv_11_its rfl rfl (by decide) (Nat.le_of_ble_eq_true rfl) (c11_its (t := t) (w := 2) (by omega) (by decide) ⟨rfl, rfl⟩) ?_
    try simp (disch := first | decide | assumption | omega) only [ui_eq, ui_k, ui_j, ui_b, ui_2, ul_1, ul_eq, ul_k, ul_j, ul_b, nG_2, nG_2j, nG_4j, nG_s, nG_7, nG_11, nG_22, nH_2, nH_4, nH_s, htc, e5, hgt, cl5, cl6, up_eq, up_ne, ixT2, ixT3, ixT4, ixT5, ixT6, ixL2, ixY7, ixY8, ixT2c, ixT3c, ixT4c, ixT5c, ixT6c, ixL2c, ixY7c, ixY8c]
    refine a_if_ne dX11_assign_31 (tgt := 103) (by decide) (fun c31 => ?_) (fun c31 => ?_)
    · refine a_inc (c := 1) dX11_assign_103 rfl (by decide) (by decide) rfl ?_
      dsimp only [lset]
      refine a_goto dX11_assign_106 (tgt := 15) (by decide) ?_
      rw [nI_1]
      have e := l11_as (l := l) (G := G) (h := h) (N := N) (S := S) (s := s) (Q := Q) hnt ht40 hgv (t + 1) (by omega) hQ
      unfold asN at e
      first
        | (rw [if_neg (fun z => c31 z.1)] at e; exact e)
        | (rw [if_neg (fun z => z.2 c41)] at e; exact e)
        | (rw [if_pos ⟨c31, c41⟩] at e; (try simp (disch := omega) only [nH_2, nG_2j, hgt, cl6, up_ne, ixT2, ixT3, ixT4, ixT5, ixT6, ixL2, ixY7, ixY8, ixT2c, ixT3c, ixT4c, ixT5c, ixT6c, ixL2c, ixY7c, ixY8c]); exact e)
    · refine a_aload_n dX11_assign_34 rfl ?_
      refine a_getR (ci := 11) (j := 18) dX11_assign_35 rfl rfl (by decide) rfl fl_11_87 ?_
      refine a_iload_n dX11_assign_38 rfl ?_
      refine a_iaload dX11_assign_39 rfl (vp_in_nI (show t < 40 by omega) (by decide)) ?_
      try simp (disch := first | decide | assumption | omega) only [ui_eq, ui_k, ui_j, ui_b, ui_2, ul_1, ul_eq, ul_k, ul_j, ul_b, nG_2, nG_2j, nG_4j, nG_s, nG_7, nG_11, nG_22, nH_2, nH_4, nH_s, htc, e5, hgt, cl5, cl6, up_eq, up_ne, ixT2, ixT3, ixT4, ixT5, ixT6, ixL2, ixY7, ixY8, ixT2c, ixT3c, ixT4c, ixT5c, ixT6c, ixL2c, ixY7c, ixY8c]
      refine a_iconst (v := (-1)) dX11_assign_40 (by decide) ?_
      refine a_icmp_ne dX11_assign_41 (tgt := 47) (by decide) (fun c41 => ?_) (fun c41 => ?_)
      · refine a_aload_n dX11_assign_47 rfl ?_
        refine a_getR (ci := 11) (j := 11) dX11_assign_48 rfl rfl (by decide) rfl fl_11_72 ?_
        refine a_bipush (v := 111) dX11_assign_51 (by decide) ?_
        refine a_bipush (v := 13) dX11_assign_53 (by decide) ?_
        refine a_iload_n dX11_assign_55 rfl ?_
        refine a_imul dX11_assign_56 ?_
        refine a_iadd dX11_assign_57 ?_
        refine a_iconst (v := 2) dX11_assign_58 (by decide) ?_
        refine a_iadd dX11_assign_59 ?_
        refine a_iconst (v := 1) dX11_assign_60 (by decide) ?_
        refine a_iastore dX11_assign_61 rfl (by (first | rw [ixT2] | rw [ixT3] | rw [ixT4] | rw [ixT5] | rw [ixT6] | rw [ixL2] | rw [ixY7] | rw [ixY8] | skip); exact vp_in_nI (by omega) (by decide)) ?_
        refine a_aload_n dX11_assign_62 rfl ?_
        refine a_getR (ci := 11) (j := 11) dX11_assign_63 rfl rfl (by decide) rfl fl_11_72 ?_
        refine a_bipush (v := 111) dX11_assign_66 (by decide) ?_
        refine a_bipush (v := 13) dX11_assign_68 (by decide) ?_
        refine a_iload_n dX11_assign_70 rfl ?_
        refine a_imul dX11_assign_71 ?_
        refine a_iadd dX11_assign_72 ?_
        refine a_iconst (v := 3) dX11_assign_73 (by decide) ?_
        refine a_iadd dX11_assign_74 ?_
        refine a_aload_n dX11_assign_75 rfl ?_
        refine a_getR (ci := 11) (j := 18) dX11_assign_76 rfl rfl (by decide) rfl fl_11_87 ?_
        refine a_iload_n dX11_assign_79 rfl ?_
        refine a_iaload dX11_assign_80 rfl (vp_in_nI (show t < 40 by omega) (by decide)) ?_
        try simp (disch := first | decide | assumption | omega) only [ui_eq, ui_k, ui_j, ui_b, ui_2, ul_1, ul_eq, ul_k, ul_j, ul_b, nG_2, nG_2j, nG_4j, nG_s, nG_7, nG_11, nG_22, nH_2, nH_4, nH_s, htc, e5, hgt, cl5, cl6, up_eq, up_ne, ixT2, ixT3, ixT4, ixT5, ixT6, ixL2, ixY7, ixY8, ixT2c, ixT3c, ixT4c, ixT5c, ixT6c, ixL2c, ixY7c, ixY8c]
        refine a_iastore dX11_assign_81 rfl (by (first | rw [ixT2] | rw [ixT3] | rw [ixT4] | rw [ixT5] | rw [ixT6] | rw [ixL2] | rw [ixY7] | rw [ixY8] | skip); exact vp_in_nI (by omega) (by decide)) ?_
        refine a_aload_n dX11_assign_82 rfl ?_
        refine a_getR (ci := 11) (j := 11) dX11_assign_83 rfl rfl (by decide) rfl fl_11_72 ?_
        refine a_bipush (v := 111) dX11_assign_86 (by decide) ?_
        refine a_bipush (v := 13) dX11_assign_88 (by decide) ?_
        refine a_iload_n dX11_assign_90 rfl ?_
        refine a_imul dX11_assign_91 ?_
        refine a_iadd dX11_assign_92 ?_
        refine a_iconst (v := 4) dX11_assign_93 (by decide) ?_
        refine a_iadd dX11_assign_94 ?_
        refine a_aload_n dX11_assign_95 rfl ?_
        refine a_getR (ci := 11) (j := 11) dX11_assign_96 rfl rfl (by decide) rfl fl_11_72 ?_
        refine a_bipush (v := 6) dX11_assign_99 (by decide) ?_
        refine a_iaload dX11_assign_101 rfl (by rw [vp_in_iff]; decide) ?_
        try simp (disch := first | decide | assumption | omega) only [ui_eq, ui_k, ui_j, ui_b, ui_2, ul_1, ul_eq, ul_k, ul_j, ul_b, nG_2, nG_2j, nG_4j, nG_s, nG_7, nG_11, nG_22, nH_2, nH_4, nH_s, htc, e5, hgt, cl5, cl6, up_eq, up_ne, ixT2, ixT3, ixT4, ixT5, ixT6, ixL2, ixY7, ixY8, ixT2c, ixT3c, ixT4c, ixT5c, ixT6c, ixL2c, ixY7c, ixY8c]
        refine a_iastore dX11_assign_102 rfl (by (first | rw [ixT2] | rw [ixT3] | rw [ixT4] | rw [ixT5] | rw [ixT6] | rw [ixL2] | rw [ixY7] | rw [ixY8] | skip); exact vp_in_nI (by omega) (by decide)) ?_
        refine a_inc (c := 1) dX11_assign_103 rfl (by decide) (by decide) rfl ?_
        dsimp only [lset]
        refine a_goto dX11_assign_106 (tgt := 15) (by decide) ?_
        rw [nI_1]
        have e := l11_as (l := l) (G := G) (h := h) (N := N) (S := S) (s := s) (Q := Q) hnt ht40 hgv (t + 1) (by omega) hQ
        unfold asN at e
        first
          | (rw [if_neg (fun z => c31 z.1)] at e; exact e)
          | (rw [if_neg (fun z => z.2 c41)] at e; exact e)
          | (rw [if_pos ⟨c31, c41⟩] at e; (try simp (disch := omega) only [nH_2, nG_2j, hgt, cl6, up_ne, ixT2, ixT3, ixT4, ixT5, ixT6, ixL2, ixY7, ixY8, ixT2c, ixT3c, ixT4c, ixT5c, ixT6c, ixL2c, ixY7c, ixY8c]); exact e)
      · refine a_goto dX11_assign_44 (tgt := 103) (by decide) ?_
        refine a_inc (c := 1) dX11_assign_103 rfl (by decide) (by decide) rfl ?_
        dsimp only [lset]
        refine a_goto dX11_assign_106 (tgt := 15) (by decide) ?_
        rw [nI_1]
        have e := l11_as (l := l) (G := G) (h := h) (N := N) (S := S) (s := s) (Q := Q) hnt ht40 hgv (t + 1) (by omega) hQ
        unfold asN at e
        first
          | (rw [if_neg (fun z => c31 z.1)] at e; exact e)
          | (rw [if_neg (fun z => z.2 c41)] at e; exact e)
          | (rw [if_pos ⟨c31, c41⟩] at e; (try simp (disch := omega) only [nH_2, nG_2j, hgt, cl6, up_ne, ixT2, ixT3, ixT4, ixT5, ixT6, ixL2, ixY7, ixY8, ixT2c, ixT3c, ixT4c, ixT5c, ixT6c, ixL2c, ixY7c, ixY8c]); exact e)
termination_by nt - t
decreasing_by all_goals omega
theorem c11_assign {l : Launch} {G : GG} {h : AH} {Q : Option Value → AH → Prop} {nl np nq nt sm : Nat} (hW : WM h nl np nq nt sm) (hPP : PP (h.1 3 2) np nt) (hQ : ∀ fr us gv cm qu st, LR (h.1 3 2) np nt (mfr (h.1 3 2) np nt) gv → R6 np gv → Q (some (.int (nI (srvN (h.1 3 2) nt gv)))) (nH (qH (SM (ui h 3 0 0 0) (nI (srvN (h.1 3 2) nt gv)) (nI (scN (h.1 3 2) nt gv))) fr us gv cm qu st) (asN (h.1 3 2) gv nt) (snapS (h.1 3 4) (h.1 3 2) sm) (nI (snapM sm)))) : Ct l G 8 yX11_assign cX11_assign 2 (some .int) [.ref (G.1 3 0)] h Q := by
  refine Ct.of (by decide) (Nat.le_of_ble_eq_true rfl) ?_
  show AW l G 8 RX11 cX11_assign 2 (some .int) 0 [some (.ref (G.1 3 0))] [] h Q
  have hW0 := hW.th (v := 0)
  obtain ⟨hnl, hl8, hnp, hp6, hnq, hq8, hnt, ht40, hsm, hsm10, hz, hT⟩ := id hW0
  obtain ⟨gnl, -, gnp, -, gnq, -, gnt, -, gsm, -, gz, gT⟩ := id hW
  have hPP0 : PP ((ui h 3 0 0 0).1 3 2) np nt := by rw [N_k (by decide)]; exact hPP
  refine a_aload_n dX11_assign_0 rfl ?_
  refine a_iconst (v := 0) dX11_assign_1 (by decide) ?_
  refine a_putI (ci := 11) (j := 0) dX11_assign_2 rfl rfl (by decide) (by decide) rfl fl_11_1 ?_
  refine a_aload_n dX11_assign_5 rfl ?_
  refine a_cV0 dX11_assign_6 ml_11_244 wv_11_laysPlan rfl rfl (by decide) (Nat.le_of_ble_eq_true rfl) (c11_laysPlanH (Q := LPR (ui h 3 0 0 0) np nt) hPP0 (fun _ _ z => z)) (fun v6 h6 p6 => ?_)
  obtain ⟨rfl, fr, us, gv, cm, qu, st, rfl, hR, h6⟩ := p6
  rw [N_k (by decide)] at hR ⊢
  simp only [Option.toList, List.nil_append]
  try simp (disch := first | decide | assumption | omega) only [ui_eq, ui_k, ui_j, ui_b, ui_2, ul_1, ul_eq, ul_k, ul_j, ul_b]
  refine a_aload_n dX11_assign_9 rfl ?_
  refine a_cV0v dX11_assign_10 ml_11_259 wv_11_snap rfl rfl (by decide) (Nat.le_of_ble_eq_true rfl) (c11_snapH (h := (qH (SM (ui h 3 0 0 0) (nI (srvN (h.1 3 2) nt gv)) (nI (scN (h.1 3 2) nt gv))) fr us gv cm qu st)) (by rw [qG_0j]; unfold SM; simp (disch := decide) only [ui_j]; exact gsm) hsm10 ⟨rfl, rfl⟩) ?_
  try simp (disch := first | decide | assumption | omega) only [ui_eq, ui_k, ui_j, ui_b, ui_2, ul_1, ul_eq, ul_k, ul_j, ul_b]
  refine a_iconst (v := 0) dX11_assign_13 (by decide) ?_
  refine a_istore_n dX11_assign_14 (by decide) rfl ?_
  dsimp only [lset]
  have eN : ((qH (SM (ui h 3 0 0 0) (nI (srvN (h.1 3 2) nt gv)) (nI (scN (h.1 3 2) nt gv))) fr us gv cm qu st)).1 3 2 = h.1 3 2 := by rw [qG_2, SM_N, N_k (by decide)]
  have e22 : ((qH (SM (ui h 3 0 0 0) (nI (srvN (h.1 3 2) nt gv)) (nI (scN (h.1 3 2) nt gv))) fr us gv cm qu st)).1 3 0 22 = nI (srvN (h.1 3 2) nt gv) := qG_222
  unfold snH
  rw [eN]
  refine l11_as (gv := gv) gnt ht40 rfl 0 (by omega) ?_
  rw [e22]
  exact hQ fr us gv cm qu st hR h6
def lfG (row : Int32) : Nat → Int32
  | 0 => row
  | k + 1 => lfG row k / 10
def wyG (row : Int32) (k : Nat) : Int32 := lfG row k - lfG row k / 10 * 10
def bnG (row : Int32) : Nat → Int32
  | 0 => 0
  | k + 1 => bnG row k ||| 1 <<< (wyG row k &&& 31)
def okG (N : Nat → Int32) (nl : Nat) (home row : Int32) (k : Nat) : Prop := ¬ hasI (nI nl) (wyG row k) = 0 ∧ hasB (bnG row k) (wyG row k) = 0 ∧ (k = 0 → wyG row 0 = home) ∧ (¬ k = 0 → ¬ hasB (N (103 + (wyG row (k - 1)).toNatClampNeg)) (wyG row k) = 0)
def cgOK (N : Nat → Int32) (nl nq : Nat) (x row z : Int32) : Prop := ¬ hasI (nI nq) x = 0 ∧ ¬ isInF z 2 6 = 0 ∧ ¬ row < 0 ∧ (∀ k, k < z.toNatClampNeg → okG N nl (mQ N x.toNatClampNeg 0) row k) ∧ lfG row z.toNatClampNeg = 0
theorem sI_11 {h : AH} {w : Nat → Int32} {j : Nat} {v : Int32} : ui (setI h 3 11 w) 3 11 j v = setI h 3 11 (upd w j v) := uis
theorem sI_2 {h : AH} {w : Nat → Int32} : (setI h 3 11 w).1 3 2 = h.1 3 2 := setI_k (by decide)
theorem sI_2j {h : AH} {w : Nat → Int32} {j : Nat} : (setI h 3 11 w).1 3 2 j = h.1 3 2 j := by rw [sI_2]
theorem sI_e {h : AH} {w : Nat → Int32} {j : Nat} : (setI h 3 11 w).1 3 11 j = w j := setI_eq
theorem l11_cg {l : Launch} {G : GG} {h : AH} {Q : Option Value → AH → Prop} {nl : Nat} (hnl : h.1 3 2 0 = nI nl) (hl8 : nl ≤ 8) {q m : Nat} (hq : q < 8) (hm6 : m ≤ 6) {row : Int32} (k : Nat) (hk : k ≤ m) (w : Nat → Int32) (hw : ∀ j, j < k → w j = wyG row j) (hok : ∀ j, j < k → okG (h.1 3 2) nl (mQ (h.1 3 2) q 0) row j) (hQ : ∀ r w2, (r = 0 ∨ r = 1) → (¬ r = 0 ↔ ((∀ j, j < m → okG (h.1 3 2) nl (mQ (h.1 3 2) q 0) row j) ∧ lfG row m = 0)) → (¬ r = 0 → ∀ j, j < m → w2 j = wyG row j) → Q (some (.int r)) (setI h 3 11 w2)) : AW l G 2 RX11 cX11_canGo 7 (some .boolean) 33 [some (.ref (G.1 3 0)), some (.int (nI q)), some (.int row), some (.int (nI m)), some (.int (lfG row k)), some (.int (bnG row k)), some (.int (nI k))] [] (setI h 3 11 w) Q := by
  have hkc : (nI k).toNatClampNeg = k := nI_clamp (by omega)
  have ewy : lfG row k - lfG row k / 10 * 10 = wyG row k := rfl
  have ea : (0 : Nat) = 0 := rfl
  have eb : (0 : Nat) = 0 := rfl
  have ec : (0 : Nat) = 0 := rfl
  have ew1 : (0 : Nat) = 0 := rfl
  refine a_iload dX11_canGo_33 rfl ?_
  refine a_iload_n dX11_canGo_35 rfl ?_
  refine a_icmp_ge dX11_canGo_36 (tgt := 164) (by decide) (fun c36 => ?_) (fun c36 => ?_)
  · have hge : m ≤ k := le_of_le c36 (by omega) (by omega)
    have hie : m = k := by omega
    subst hie
    refine a_iload dX11_canGo_164 rfl ?_
    refine a_if_ne dX11_canGo_166 (tgt := 173) (by decide) (fun c166 => ?_) (fun c166 => ?_)
    · refine a_iconst (v := 0) dX11_canGo_173 (by decide) ?_
      exact a_zret dX11_canGo_174 rfl rfl (by
  first
    | exact hQ 1 _ (Or.inr rfl) ⟨fun _ => ⟨hok, c166⟩, fun _ => by decide⟩ (fun _ => hw)
    | exact hQ 0 _ (Or.inl rfl) ⟨fun z => absurd rfl z, fun z => absurd z.2 c166⟩ (fun z => absurd rfl z))
    · refine a_iconst (v := 1) dX11_canGo_169 (by decide) ?_
      refine a_goto dX11_canGo_170 (tgt := 174) (by decide) ?_
      exact a_zret dX11_canGo_174 rfl rfl (by
  first
    | exact hQ 1 _ (Or.inr rfl) ⟨fun _ => ⟨hok, c166⟩, fun _ => by decide⟩ (fun _ => hw)
    | exact hQ 0 _ (Or.inl rfl) ⟨fun z => absurd rfl z, fun z => absurd z.2 c166⟩ (fun z => absurd rfl z))
  · have hlt : k < m := lt_of_nle c36 (by omega) (by omega)
    refine a_aload_n dX11_canGo_39 rfl ?_
    refine a_getR (ci := 11) (j := 24) dX11_canGo_40 rfl rfl (by decide) rfl fl_11_100 ?_
    refine a_iload dX11_canGo_43 rfl ?_
    refine a_iload dX11_canGo_45 rfl ?_
    refine a_bipush (v := 10) dX11_canGo_47 (by decide) ?_
    refine a_irem dX11_canGo_49 (by decide) ?_
    refine a_iastore dX11_canGo_50 rfl (vp_in_nI (show k < 6 by omega) (by decide)) ?_
    refine a_iload dX11_canGo_51 rfl ?_
    refine a_bipush (v := 10) dX11_canGo_53 (by decide) ?_
    refine a_idiv dX11_canGo_55 (by decide) ?_
    refine a_istore dX11_canGo_56 (by decide) rfl ?_
    dsimp only [lset]
    refine a_aload_n dX11_canGo_58 rfl ?_
    refine a_aload_n dX11_canGo_59 rfl ?_
    refine a_getR (ci := 11) (j := 24) dX11_canGo_60 rfl rfl (by decide) rfl fl_11_100 ?_
    refine a_iload dX11_canGo_63 rfl ?_
    refine a_iaload dX11_canGo_65 rfl (vp_in_nI (show k < 6 by omega) (by decide)) ?_
    try simp (disch := first | decide | assumption | omega) only [ui_eq, ui_k, ui_j, ui_b, ui_2, ul_1, ul_eq, ul_k, ul_j, ul_b, sI_11, sI_2, sI_2j, sI_e, hkc, up_eq, up_ne, cl0, ewy, ea, eb, ec, ew1]
    refine a_cV1i dX11_canGo_66 ml_11_250 wv_11_isLand rfl rfl (by decide) (Nat.le_of_ble_eq_true rfl) (c11_isLand (h := setI h 3 11 (upd w k (wyG row k))) (by rw [sI_2]; exact hnl) (by omega) ⟨rfl, rfl⟩) ?_
    try simp (disch := first | decide | assumption | omega) only [ui_eq, ui_k, ui_j, ui_b, ui_2, ul_1, ul_eq, ul_k, ul_j, ul_b, sI_11, sI_2, sI_2j, sI_e, hkc, up_eq, up_ne, cl0, ewy, ea, eb, ec, ew1]
    refine a_if_eq dX11_canGo_69 (tgt := 87) (by decide) (fun c69 => ?_) (fun c69 => ?_)
    · refine a_iconst (v := 0) dX11_canGo_87 (by decide) ?_
      exact a_zret dX11_canGo_88 rfl rfl (hQ 0 _ (Or.inl rfl) ⟨fun z => absurd rfl z, fun z => by first | exact absurd c69 (z.1 k hlt).1 | exact absurd (z.1 k hlt).2.1 c84⟩ (fun z => absurd rfl z))
    · refine a_iload dX11_canGo_72 rfl ?_
      refine a_aload_n dX11_canGo_74 rfl ?_
      refine a_getR (ci := 11) (j := 24) dX11_canGo_75 rfl rfl (by decide) rfl fl_11_100 ?_
      refine a_iload dX11_canGo_78 rfl ?_
      refine a_iaload dX11_canGo_80 rfl (vp_in_nI (show k < 6 by omega) (by decide)) ?_
      try simp (disch := first | decide | assumption | omega) only [ui_eq, ui_k, ui_j, ui_b, ui_2, ul_1, ul_eq, ul_k, ul_j, ul_b, sI_11, sI_2, sI_2j, sI_e, hkc, up_eq, up_ne, cl0, ewy, ea, eb, ec, ew1]
      refine a_cS2i dX11_canGo_81 ml_11_113 ws_11_has (by decide) (Nat.le_of_ble_eq_true rfl) (c11_has ⟨rfl, rfl⟩) ?_
      try simp (disch := first | decide | assumption | omega) only [ui_eq, ui_k, ui_j, ui_b, ui_2, ul_1, ul_eq, ul_k, ul_j, ul_b, sI_11, sI_2, sI_2j, sI_e, hkc, up_eq, up_ne, cl0, ewy, ea, eb, ec, ew1]
      refine a_if_eq dX11_canGo_84 (tgt := 89) (by decide) (fun c84 => ?_) (fun c84 => ?_)
      · refine a_iload dX11_canGo_89 rfl ?_
        refine a_if_ne dX11_canGo_91 (tgt := 112) (by decide) (fun c91 => ?_) (fun c91 => ?_)
        · have hk0 : ¬ k = 0 := fun z => c91 (by rw [z]; rfl)
          have ea : nI k - 1 = nI (k - 1) := pk_sub (a := k) (b := 1) (by omega)
          have eb : (nI (k - 1)).toNatClampNeg = k - 1 := nI_clamp (by omega)
          have ew1 : w (k - 1) = wyG row (k - 1) := hw (k - 1) (by omega)
          obtain ⟨p, hp8, hpe⟩ := hasI_of (by omega) (hok (k - 1) (by omega)).1
          have eb2 : (103 : Int32) + wyG row (k - 1) = nI (103 + p) := by rw [hpe]; exact nI_add 103 p
          have ec : ((103 : Int32) + wyG row (k - 1)).toNatClampNeg = 103 + (wyG row (k - 1)).toNatClampNeg := by rw [eb2, nI_clamp (by omega), hpe, nI_clamp (by omega)]
          refine a_aload_n dX11_canGo_112 rfl ?_
          refine a_getR (ci := 11) (j := 11) dX11_canGo_113 rfl rfl (by decide) rfl fl_11_72 ?_
          refine a_bipush (v := 103) dX11_canGo_116 (by decide) ?_
          refine a_aload_n dX11_canGo_118 rfl ?_
          refine a_getR (ci := 11) (j := 24) dX11_canGo_119 rfl rfl (by decide) rfl fl_11_100 ?_
          refine a_iload dX11_canGo_122 rfl ?_
          refine a_iconst (v := 1) dX11_canGo_124 (by decide) ?_
          refine a_isub dX11_canGo_125 ?_
          refine a_iaload dX11_canGo_126 rfl (by rw [ea]; exact vp_in_nI (by omega) (by decide)) ?_
          try simp (disch := first | decide | assumption | omega) only [ui_eq, ui_k, ui_j, ui_b, ui_2, ul_1, ul_eq, ul_k, ul_j, ul_b, sI_11, sI_2, sI_2j, sI_e, hkc, up_eq, up_ne, cl0, ewy, ea, eb, ec, ew1]
          refine a_iadd dX11_canGo_127 ?_
          refine a_iaload dX11_canGo_128 rfl (by rw [eb2]; exact vp_in_nI (by omega) (by decide)) ?_
          try simp (disch := first | decide | assumption | omega) only [ui_eq, ui_k, ui_j, ui_b, ui_2, ul_1, ul_eq, ul_k, ul_j, ul_b, sI_11, sI_2, sI_2j, sI_e, hkc, up_eq, up_ne, cl0, ewy, ea, eb, ec, ew1]
          refine a_aload_n dX11_canGo_129 rfl ?_
          refine a_getR (ci := 11) (j := 24) dX11_canGo_130 rfl rfl (by decide) rfl fl_11_100 ?_
          refine a_iload dX11_canGo_133 rfl ?_
          refine a_iaload dX11_canGo_135 rfl (vp_in_nI (show k < 6 by omega) (by decide)) ?_
          try simp (disch := first | decide | assumption | omega) only [ui_eq, ui_k, ui_j, ui_b, ui_2, ul_1, ul_eq, ul_k, ul_j, ul_b, sI_11, sI_2, sI_2j, sI_e, hkc, up_eq, up_ne, cl0, ewy, ea, eb, ec, ew1]
          refine a_cS2i dX11_canGo_136 ml_11_113 ws_11_has (by decide) (Nat.le_of_ble_eq_true rfl) (c11_has ⟨rfl, rfl⟩) ?_
          try simp (disch := first | decide | assumption | omega) only [ui_eq, ui_k, ui_j, ui_b, ui_2, ul_1, ul_eq, ul_k, ul_j, ul_b, sI_11, sI_2, sI_2j, sI_e, hkc, up_eq, up_ne, cl0, ewy, ea, eb, ec, ew1]
          refine a_if_ne dX11_canGo_139 (tgt := 144) (by decide) (fun c139 => ?_) (fun c139 => ?_)
          · have hkk : okG (h.1 3 2) nl (mQ (h.1 3 2) q 0) row k := ⟨c69, c84, fun z => absurd z hk0, fun _ => c139⟩
            refine a_iload dX11_canGo_144 rfl ?_
            refine a_iconst (v := 1) dX11_canGo_146 (by decide) ?_
            refine a_aload_n dX11_canGo_147 rfl ?_
            refine a_getR (ci := 11) (j := 24) dX11_canGo_148 rfl rfl (by decide) rfl fl_11_100 ?_
            refine a_iload dX11_canGo_151 rfl ?_
            refine a_iaload dX11_canGo_153 rfl (vp_in_nI (show k < 6 by omega) (by decide)) ?_
            try simp (disch := first | decide | assumption | omega) only [ui_eq, ui_k, ui_j, ui_b, ui_2, ul_1, ul_eq, ul_k, ul_j, ul_b, sI_11, sI_2, sI_2j, sI_e, hkc, up_eq, up_ne, cl0, ewy, ea, eb, ec, ew1]
            refine a_ishl dX11_canGo_154 ?_
            refine a_ior dX11_canGo_155 ?_
            refine a_istore dX11_canGo_156 (by decide) rfl ?_
            dsimp only [lset]
            refine a_inc (c := 1) dX11_canGo_158 rfl (by decide) (by decide) rfl ?_
            dsimp only [lset]
            refine a_goto dX11_canGo_161 (tgt := 33) (by decide) ?_
            rw [nI_1]
            exact l11_cg hnl hl8 hq hm6 (k + 1) (by omega) _ (fun j hj => by
              by_cases e : j = k
              · subst e; exact up_eq
              · rw [up_ne e]; exact hw j (by omega)) (fun j hj => by
              by_cases e : j = k
              · subst e; exact hkk
              · exact hok j (by omega)) hQ
          · refine a_iconst (v := 0) dX11_canGo_142 (by decide) ?_
            exact a_zret dX11_canGo_143 rfl rfl (hQ 0 _ (Or.inl rfl) ⟨fun z => absurd rfl z, fun z => by first | exact absurd c139 ((z.1 k hlt).2.2.2 hk0) | (have z1 := (z.1 k hlt).2.2.1 hk0; rw [hk0] at c106; exact absurd z1 c106)⟩ (fun z => absurd rfl z))
        · have hk0 : k = 0 := nI_inj (b := 0) (by omega) (by decide) c91
          refine a_aload_n dX11_canGo_94 rfl ?_
          refine a_getR (ci := 11) (j := 24) dX11_canGo_95 rfl rfl (by decide) rfl fl_11_100 ?_
          refine a_iconst (v := 0) dX11_canGo_98 (by decide) ?_
          refine a_iaload dX11_canGo_99 rfl (by rw [vp_in_iff]; decide) ?_
          try simp (disch := first | decide | assumption | omega) only [ui_eq, ui_k, ui_j, ui_b, ui_2, ul_1, ul_eq, ul_k, ul_j, ul_b, sI_11, sI_2, sI_2j, sI_e, hkc, up_eq, up_ne, cl0, ewy, ea, eb, ec, ew1]
          refine a_aload_n dX11_canGo_100 rfl ?_
          refine a_iload_n dX11_canGo_101 rfl ?_
          refine a_iconst (v := 0) dX11_canGo_102 (by decide) ?_
          refine a_cV2i dX11_canGo_103 ml_11_176 wv_11_lorryOf rfl rfl (by decide) (Nat.le_of_ble_eq_true rfl) (c11_lorryOf (t := q) (w := 0) hq (by decide) ⟨rfl, rfl⟩) ?_
          try simp (disch := first | decide | assumption | omega) only [ui_eq, ui_k, ui_j, ui_b, ui_2, ul_1, ul_eq, ul_k, ul_j, ul_b, sI_11, sI_2, sI_2j, sI_e, hkc, up_eq, up_ne, cl0, ewy, ea, eb, ec, ew1]
          refine a_icmp_eq dX11_canGo_106 (tgt := 144) (by decide) (fun c106 => ?_) (fun c106 => ?_)
          · have hkk : okG (h.1 3 2) nl (mQ (h.1 3 2) q 0) row k := ⟨c69, c84, fun _ => by rw [hk0] at c106; exact c106, fun z => absurd hk0 z⟩
            refine a_iload dX11_canGo_144 rfl ?_
            refine a_iconst (v := 1) dX11_canGo_146 (by decide) ?_
            refine a_aload_n dX11_canGo_147 rfl ?_
            refine a_getR (ci := 11) (j := 24) dX11_canGo_148 rfl rfl (by decide) rfl fl_11_100 ?_
            refine a_iload dX11_canGo_151 rfl ?_
            refine a_iaload dX11_canGo_153 rfl (vp_in_nI (show k < 6 by omega) (by decide)) ?_
            try simp (disch := first | decide | assumption | omega) only [ui_eq, ui_k, ui_j, ui_b, ui_2, ul_1, ul_eq, ul_k, ul_j, ul_b, sI_11, sI_2, sI_2j, sI_e, hkc, up_eq, up_ne, cl0, ewy, ea, eb, ec, ew1]
            refine a_ishl dX11_canGo_154 ?_
            refine a_ior dX11_canGo_155 ?_
            refine a_istore dX11_canGo_156 (by decide) rfl ?_
            dsimp only [lset]
            refine a_inc (c := 1) dX11_canGo_158 rfl (by decide) (by decide) rfl ?_
            dsimp only [lset]
            refine a_goto dX11_canGo_161 (tgt := 33) (by decide) ?_
            rw [nI_1]
            exact l11_cg hnl hl8 hq hm6 (k + 1) (by omega) _ (fun j hj => by
              by_cases e : j = k
              · subst e; exact up_eq
              · rw [up_ne e]; exact hw j (by omega)) (fun j hj => by
              by_cases e : j = k
              · subst e; exact hkk
              · exact hok j (by omega)) hQ
          · refine a_goto dX11_canGo_109 (tgt := 142) (by decide) ?_
            refine a_iconst (v := 0) dX11_canGo_142 (by decide) ?_
            exact a_zret dX11_canGo_143 rfl rfl (hQ 0 _ (Or.inl rfl) ⟨fun z => absurd rfl z, fun z => by first | exact absurd c139 ((z.1 k hlt).2.2.2 hk0) | (have z1 := (z.1 k hlt).2.2.1 hk0; rw [hk0] at c106; exact absurd z1 c106)⟩ (fun z => absurd rfl z))
      · refine a_iconst (v := 0) dX11_canGo_87 (by decide) ?_
        exact a_zret dX11_canGo_88 rfl rfl (hQ 0 _ (Or.inl rfl) ⟨fun z => absurd rfl z, fun z => by first | exact absurd c69 (z.1 k hlt).1 | exact absurd (z.1 k hlt).2.1 c84⟩ (fun z => absurd rfl z))
termination_by m - k
decreasing_by all_goals omega
theorem c11_canGo {l : Launch} {G : GG} {h : AH} {Q : Option Value → AH → Prop} {nl np nq nt sm : Nat} (hW : WM h nl np nq nt sm) {x row z : Int32} (hQ : ∀ r w2, (r = 0 ∨ r = 1) → (¬ r = 0 ↔ cgOK (h.1 3 2) nl nq x row z) → (¬ r = 0 → ∀ j, j < z.toNatClampNeg → w2 j = wyG row j) → Q (some (.int r)) (setI h 3 11 w2)) : Ct l G 2 yX11_canGo cX11_canGo 7 (some .boolean) [.ref (G.1 3 0), .int x, .int row, .int z] h Q := by
  refine Ct.of (by decide) (Nat.le_of_ble_eq_true rfl) ?_
  show AW l G 2 RX11 cX11_canGo 7 (some .boolean) 0 [some (.ref (G.1 3 0)), some (.int x), some (.int row), some (.int z)] [] h Q
  obtain ⟨hnl, hl8, hnp, hp6, hnq, hq8, hnt, ht40, hsm, hsm10, hz, hT⟩ := id hW
  have esf := setI_self (h := h) (b := 3) (k := 11)
  refine a_aload_n dX11_canGo_0 rfl ?_
  refine a_iload_n dX11_canGo_1 rfl ?_
  refine a_cV1i dX11_canGo_2 ml_11_195 wv_11_isLorry rfl rfl (by decide) (Nat.le_of_ble_eq_true rfl) (c11_isLorry hnq (by omega) ⟨rfl, rfl⟩) ?_
  refine a_if_eq dX11_canGo_5 (tgt := 22) (by decide) (fun c5 => ?_) (fun c5 => ?_)
  · refine a_iconst (v := 0) dX11_canGo_22 (by decide) ?_
    exact a_zret dX11_canGo_23 rfl rfl (by
  have e := hQ 0 (h.1 3 11) (Or.inl rfl) ⟨fun q => absurd rfl q, fun q => by first | exact absurd c5 q.1 | exact absurd c15 q.2.1 | exact absurd (i32_lt_of_not_le (x := row) (y := 0) c19) q.2.2.1⟩ (fun q => absurd rfl q)
  rw [esf] at e
  exact e)
  · refine a_iload_n dX11_canGo_8 rfl ?_
    refine a_iconst (v := 2) dX11_canGo_9 (by decide) ?_
    refine a_bipush (v := 6) dX11_canGo_10 (by decide) ?_
    refine a_cS3i dX11_canGo_12 ml_11_106 ws_11_isIn (by decide) (Nat.le_of_ble_eq_true rfl) (c11_isIn ⟨rfl, rfl⟩) ?_
    refine a_if_eq dX11_canGo_15 (tgt := 22) (by decide) (fun c15 => ?_) (fun c15 => ?_)
    · refine a_iconst (v := 0) dX11_canGo_22 (by decide) ?_
      exact a_zret dX11_canGo_23 rfl rfl (by
  have e := hQ 0 (h.1 3 11) (Or.inl rfl) ⟨fun q => absurd rfl q, fun q => by first | exact absurd c5 q.1 | exact absurd c15 q.2.1 | exact absurd (i32_lt_of_not_le (x := row) (y := 0) c19) q.2.2.1⟩ (fun q => absurd rfl q)
  rw [esf] at e
  exact e)
    · refine a_iload_n dX11_canGo_18 rfl ?_
      refine a_if_ge dX11_canGo_19 (tgt := 24) (by decide) (fun c19 => ?_) (fun c19 => ?_)
      · refine a_iload_n dX11_canGo_24 rfl ?_
        refine a_istore dX11_canGo_25 (by decide) rfl ?_
        dsimp only [lset]
        refine a_iconst (v := 0) dX11_canGo_27 (by decide) ?_
        refine a_istore dX11_canGo_28 (by decide) rfl ?_
        dsimp only [lset]
        refine a_iconst (v := 0) dX11_canGo_30 (by decide) ?_
        refine a_istore dX11_canGo_31 (by decide) rfl ?_
        dsimp only [lset]
        obtain ⟨q, hq, rfl⟩ := hasI_of (by omega) c5
        have hqc : (nI q).toNatClampNeg = q := nI_clamp (by omega)
        obtain ⟨m, hm2, hm6, rfl⟩ := isIn_of (a := 2) (b := 6) (by decide) (by decide) c15
        have hmc : (nI m).toNatClampNeg = m := nI_clamp (by omega)
        have e := l11_cg (l := l) (G := G) (h := h) (Q := Q) (row := row) hnl hl8 (show q < 8 by omega) hm6 0 (by omega) (h.1 3 11) (fun _ q => absurd q (by omega)) (fun _ q => absurd q (by omega)) (fun r w2 h1 h2 h3 => hQ r w2 h1 ⟨fun q => by
          unfold cgOK
          rw [hqc, hmc]
          exact ⟨c5, c15, i32_not_lt c19, h2.mp q⟩, fun q => by
          unfold cgOK at q
          rw [hqc, hmc] at q
          exact h2.mpr q.2.2.2⟩ (by rw [hmc]; exact h3))
        rw [esf] at e
        exact e
      · refine a_iconst (v := 0) dX11_canGo_22 (by decide) ?_
        exact a_zret dX11_canGo_23 rfl rfl (by
  have e := hQ 0 (h.1 3 11) (Or.inl rfl) ⟨fun q => absurd rfl q, fun q => by first | exact absurd c5 q.1 | exact absurd c15 q.2.1 | exact absurd (i32_lt_of_not_le (x := row) (y := 0) c19) q.2.2.1⟩ (fun q => absurd rfl q)
  rw [esf] at e
  exact e)
def ask1 (N : Nat → Int32) (t : Nat) (x z : Int32) : Nat → Int32 := upd (upd (upd (upd (upd (upd (upd N (111 + 13 * t + 0) x) (111 + 13 * t + 1) z) (111 + 13 * t + 2) 0) (111 + 13 * t + 3) (-1)) (111 + 13 * t + 4) (-1)) (111 + 13 * t + 5) (-1)) (111 + 13 * t + 6) 0
def awG (N : Nat → Int32) (t m : Nat) (row : Int32) : Nat → (Nat → Int32)
  | 0 => N
  | j + 1 => upd (awG N t m row j) (111 + 13 * t + 7 + j) (if j < m then wyG row j else 0)
theorem awG_lo (N : Nat → Int32) (t m : Nat) (row : Int32) : ∀ {i j : Nat}, j < 111 → awG N t m row i j = N j
  | 0, j, _ => rfl
  | i + 1, j, h => by
    unfold awG
    rw [up_ne (by omega)]
    exact awG_lo N t m row h
def askN (N : Nat → Int32) (t m : Nat) (x row : Int32) : Nat → Int32 := upd (awG (ask1 N t x (nI m)) t m row 6) 5 (nI (t + 1))
set_option maxHeartbeats 8000000 in
theorem l11_aw {l : Launch} {G : GG} {h : AH} {Q : Option Value → AH → Prop} {N1 S : Nat → Int32} {s x row : Int32} {t m : Nat} (ht : t < 40) (h5 : N1 5 = nI t) (hm6 : m ≤ 6) (hw : ∀ j, j < m → h.1 3 11 j = wyG row j) (j : Nat) (hj : j ≤ 6) (hQ : Q (some (.int (nI t))) (nH h (upd (awG N1 t m row 6) 5 (nI (t + 1))) S s)) : AW l G 3 RX11 cX11_ask 7 (some .int) 139 [some (.ref (G.1 3 0)), some (.int x), some (.int row), some (.int (nI m)), some (.int (nI t)), some (.int (nI (111 + 13 * t))), some (.int (nI j))] [] (nH h (awG N1 t m row j) S s) Q := by
  have hjc : (nI j).toNatClampNeg = j := nI_clamp (by omega)
  have e7 : nI (111 + 13 * t) + 7 + nI j = nI (111 + 13 * t + 7 + j) := by rw [show nI (111 + 13 * t) + 7 = nI (111 + 13 * t + 7) from nI_add _ 7, nI_add]
  have e7c : (nI (111 + 13 * t + 7 + j)).toNatClampNeg = 111 + 13 * t + 7 + j := nI_clamp (by omega)
  have e5 : awG N1 t m row j 5 = nI t := (awG_lo N1 t m row (by decide)).trans h5
  have hwj : (0 : Nat) = 0 := rfl
  refine a_iload dX11_ask_139 rfl ?_
  refine a_bipush (v := 6) dX11_ask_141 (by decide) ?_
  refine a_icmp_ge dX11_ask_143 (tgt := 182) (by decide) (fun c143 => ?_) (fun c143 => ?_)
  · have hge : 6 ≤ j := le_of_le (b := 6) c143 (by omega) (by decide)
    have hie : j = 6 := by omega
    subst hie
    refine a_aload_n dX11_ask_182 rfl ?_
    refine a_getR (ci := 11) (j := 11) dX11_ask_183 rfl rfl (by decide) rfl fl_11_72 ?_
    refine a_iconst (v := 5) dX11_ask_186 (by decide) ?_
    refine a_dup2 dX11_ask_187 rfl rfl ?_
    refine a_iaload dX11_ask_188 rfl (by rw [vp_in_iff]; decide) ?_
    try simp (disch := first | decide | assumption | omega) only [ui_eq, ui_k, ui_j, ui_b, ui_2, ul_1, ul_eq, ul_k, ul_j, ul_b, nG_2, nG_2j, nG_4j, nG_s, nG_7, nG_11, nG_22, nH_2, nH_4, nH_s, hjc, e7, e7c, e5, cl5, nI_1, hwj]
    refine a_iconst (v := 1) dX11_ask_189 (by decide) ?_
    refine a_iadd dX11_ask_190 ?_
    refine a_iastore dX11_ask_191 rfl (by rw [vp_in_iff]; decide) ?_
    refine a_iload dX11_ask_192 rfl ?_
    exact a_iret dX11_ask_194 rfl (by
  (try simp only [cl5, nH_2])
  (try rw [nI_1])
  exact hQ)
  · have hlt : j < 6 := lt_of_nle (b := 6) c143 (by omega) (by decide)
    refine a_aload_n dX11_ask_146 rfl ?_
    refine a_getR (ci := 11) (j := 11) dX11_ask_147 rfl rfl (by decide) rfl fl_11_72 ?_
    refine a_iload dX11_ask_150 rfl ?_
    refine a_bipush (v := 7) dX11_ask_152 (by decide) ?_
    refine a_iadd dX11_ask_154 ?_
    refine a_iload dX11_ask_155 rfl ?_
    refine a_iadd dX11_ask_157 ?_
    refine a_iload dX11_ask_158 rfl ?_
    refine a_iload_n dX11_ask_160 rfl ?_
    refine a_icmp_ge dX11_ask_161 (tgt := 174) (by decide) (fun c161 => ?_) (fun c161 => ?_)
    · have ev : (if j < m then wyG row j else 0) = 0 := if_neg (by have := le_of_le c161 (by omega) (by omega); omega)
      refine a_iconst (v := 0) dX11_ask_174 (by decide) ?_
      refine a_iastore dX11_ask_175 rfl (by (try rw [e7]); exact vp_in_nI (by omega) (by decide)) ?_
      refine a_inc (c := 1) dX11_ask_176 rfl (by decide) (by decide) rfl ?_
      dsimp only [lset]
      refine a_goto dX11_ask_179 (tgt := 139) (by decide) ?_
      (try simp only [e7, e7c])
      rw [nI_1, nH_2, ← ev]
      exact l11_aw ht h5 hm6 hw (j + 1) (by omega) hQ
    · have hjm : j < m := lt_of_nle c161 (by omega) (by omega)
      have ev : (if j < m then wyG row j else 0) = wyG row j := if_pos hjm
      have hwj := hw j hjm
      refine a_aload_n dX11_ask_164 rfl ?_
      refine a_getR (ci := 11) (j := 24) dX11_ask_165 rfl rfl (by decide) rfl fl_11_100 ?_
      refine a_iload dX11_ask_168 rfl ?_
      refine a_iaload dX11_ask_170 rfl (vp_in_nI (show j < 6 by omega) (by decide)) ?_
      try simp (disch := first | decide | assumption | omega) only [ui_eq, ui_k, ui_j, ui_b, ui_2, ul_1, ul_eq, ul_k, ul_j, ul_b, nG_2, nG_2j, nG_4j, nG_s, nG_7, nG_11, nG_22, nH_2, nH_4, nH_s, hjc, e7, e7c, e5, cl5, nI_1, hwj]
      refine a_goto dX11_ask_171 (tgt := 175) (by decide) ?_
      refine a_iastore dX11_ask_175 rfl (by (try rw [e7]); exact vp_in_nI (by omega) (by decide)) ?_
      refine a_inc (c := 1) dX11_ask_176 rfl (by decide) (by decide) rfl ?_
      dsimp only [lset]
      refine a_goto dX11_ask_179 (tgt := 139) (by decide) ?_
      (try simp only [e7, e7c])
      rw [nI_1, nH_2, ← ev]
      exact l11_aw ht h5 hm6 hw (j + 1) (by omega) hQ
termination_by 6 - j
decreasing_by all_goals omega
def askC (h : AH) (nl nq nt : Nat) (x row z : Int32) : Int32 := if tOG (h.1 3 2) x nt 0 = -1 then (if nt = 40 then -3 else 0) else -2
theorem ixA (t w : Nat) : nI (111 + 13 * t) + nI w = nI (111 + 13 * t + w) := nI_add _ _
theorem c11_ask {l : Launch} {G : GG} {h : AH} {Q : Option Value → AH → Prop} {nl np nq nt sm : Nat} (hW : WM h nl np nq nt sm) {x row z : Int32} (hQ1 : ¬ cgOK (h.1 3 2) nl nq x row z → ∀ w2, Q (some (.int (-1))) (setI (ui h 3 0 0 0) 3 11 w2)) (hQ2 : cgOK (h.1 3 2) nl nq x row z → ¬ tOG (h.1 3 2) x nt 0 = -1 → ∀ w2, Q (some (.int (-2))) (setI (ui h 3 0 0 0) 3 11 w2)) (hQ3 : cgOK (h.1 3 2) nl nq x row z → tOG (h.1 3 2) x nt 0 = -1 → nt = 40 → ∀ w2, Q (some (.int (-3))) (setI (ui h 3 0 0 0) 3 11 w2)) (hQ4 : cgOK (h.1 3 2) nl nq x row z → tOG (h.1 3 2) x nt 0 = -1 → nt < 40 → ∀ w2, Q (some (.int (nI nt))) (nH (setI (ui h 3 0 0 0) 3 11 w2) (askN (h.1 3 2) nt z.toNatClampNeg x row) (snapS (h.1 3 4) (h.1 3 2) sm) (nI (snapM sm)))) : Ct l G 3 yX11_ask cX11_ask 7 (some .int) [.ref (G.1 3 0), .int x, .int row, .int z] h Q := by
  refine Ct.of (by decide) (Nat.le_of_ble_eq_true rfl) ?_
  show AW l G 3 RX11 cX11_ask 7 (some .int) 0 [some (.ref (G.1 3 0)), some (.int x), some (.int row), some (.int z)] [] h Q
  have hW0 := hW.th (v := 0)
  obtain ⟨hnl, hl8, hnp, hp6, hnq, hq8, hnt, ht40, hsm, hsm10, hz, hT⟩ := id hW0
  obtain ⟨gnl, -, gnp, -, gnq, -, gnt, -, gsm, -, gz, gT⟩ := id hW
  have a0 : (0 : Nat) = 0 := rfl
  have b0 : (0 : Nat) = 0 := rfl
  have a1 : (0 : Nat) = 0 := rfl
  have b1 : (0 : Nat) = 0 := rfl
  have a2 : (0 : Nat) = 0 := rfl
  have b2 : (0 : Nat) = 0 := rfl
  have a3 : (0 : Nat) = 0 := rfl
  have b3 : (0 : Nat) = 0 := rfl
  have a4 : (0 : Nat) = 0 := rfl
  have b4 : (0 : Nat) = 0 := rfl
  have a5 : (0 : Nat) = 0 := rfl
  have b5 : (0 : Nat) = 0 := rfl
  have a6 : (0 : Nat) = 0 := rfl
  have b6 : (0 : Nat) = 0 := rfl
  refine a_aload_n dX11_ask_0 rfl ?_
  refine a_iconst (v := 0) dX11_ask_1 (by decide) ?_
  refine a_putI (ci := 11) (j := 0) dX11_ask_2 rfl rfl (by decide) (by decide) rfl fl_11_1 ?_
  refine a_aload_n dX11_ask_5 rfl ?_
  refine a_iload_n dX11_ask_6 rfl ?_
  refine a_iload_n dX11_ask_7 rfl ?_
  refine a_iload_n dX11_ask_8 rfl ?_
  refine a_cV3 dX11_ask_9 ml_11_256 wv_11_canGo rfl rfl (by decide) (Nat.le_of_ble_eq_true rfl) (c11_canGo (Q := fun v h2 => ∃ r w2, v = some (.int r) ∧ h2 = setI (ui h 3 0 0 0) 3 11 w2 ∧ (¬ r = 0 ↔ cgOK (h.1 3 2) nl nq x row z) ∧ (¬ r = 0 → ∀ j, j < z.toNatClampNeg → w2 j = wyG row j)) hW0 (fun r w2 _ h2 h3 => ⟨r, w2, rfl, rfl, by rw [N_k (by decide)] at h2; exact h2, h3⟩)) (fun v9 h9 p9 => ?_)
  obtain ⟨r, w2, rfl, rfl, hr, hw2⟩ := p9
  simp only [Option.toList, List.cons_append, List.nil_append]
  try simp (disch := first | decide | assumption | omega) only [ui_eq, ui_k, ui_j, ui_b, ui_2, ul_1, ul_eq, ul_k, ul_j, ul_b, sI_2, sI_2j, N_k, gnt, cl5, nG_2, nG_2j, nG_4j, nG_s, nG_7, nG_11, nG_22, nH_2, nH_4, nH_s, a0, b0, a1, b1, a2, b2, a3, b3, a4, b4, a5, b5, a6, b6]
  refine a_if_ne dX11_ask_12 (tgt := 17) (by decide) (fun c12 => ?_) (fun c12 => ?_)
  · have hcg := hr.mp c12
    refine a_aload_n dX11_ask_17 rfl ?_
    refine a_iload_n dX11_ask_18 rfl ?_
    refine a_cV1i dX11_ask_19 ml_11_201 wv_11_tripOf rfl rfl (by decide) (Nat.le_of_ble_eq_true rfl) (c11_tripOf (h := setI (ui h 3 0 0 0) 3 11 w2) (by rw [sI_2]; exact hnt) ht40 ⟨rfl, rfl⟩) ?_
    try simp (disch := first | decide | assumption | omega) only [ui_eq, ui_k, ui_j, ui_b, ui_2, ul_1, ul_eq, ul_k, ul_j, ul_b, sI_2, sI_2j, N_k, gnt, cl5, nG_2, nG_2j, nG_4j, nG_s, nG_7, nG_11, nG_22, nH_2, nH_4, nH_s, a0, b0, a1, b1, a2, b2, a3, b3, a4, b4, a5, b5, a6, b6]
    refine a_iconst (v := (-1)) dX11_ask_22 (by decide) ?_
    refine a_icmp_eq dX11_ask_23 (tgt := 29) (by decide) (fun c23 => ?_) (fun c23 => ?_)
    · refine a_aload_n dX11_ask_29 rfl ?_
      refine a_getR (ci := 11) (j := 11) dX11_ask_30 rfl rfl (by decide) rfl fl_11_72 ?_
      refine a_iconst (v := 5) dX11_ask_33 (by decide) ?_
      refine a_iaload dX11_ask_34 rfl (by rw [vp_in_iff]; decide) ?_
      try simp (disch := first | decide | assumption | omega) only [ui_eq, ui_k, ui_j, ui_b, ui_2, ul_1, ul_eq, ul_k, ul_j, ul_b, sI_2, sI_2j, N_k, gnt, cl5, nG_2, nG_2j, nG_4j, nG_s, nG_7, nG_11, nG_22, nH_2, nH_4, nH_s, a0, b0, a1, b1, a2, b2, a3, b3, a4, b4, a5, b5, a6, b6]
      refine a_bipush (v := 40) dX11_ask_35 (by decide) ?_
      refine a_icmp_ne dX11_ask_37 (tgt := 43) (by decide) (fun c37 => ?_) (fun c37 => ?_)
      · have hn40 : nt < 40 := by
          have : nt ≠ 40 := fun z => c37 (by rw [z]; rfl)
          omega
        obtain ⟨m, hm2, hm6, rfl⟩ := isIn_of (a := 2) (b := 6) (by decide) (by decide) hcg.2.1
        have hmc : (nI m).toNatClampNeg = m := nI_clamp (by omega)
        have a0 : nI (111 + 13 * nt) + 0 = nI (111 + 13 * nt + 0) := nI_add _ 0
        have b0 : (nI (111 + 13 * nt + 0)).toNatClampNeg = 111 + 13 * nt + 0 := nI_clamp (by omega)
        have a1 : nI (111 + 13 * nt) + 1 = nI (111 + 13 * nt + 1) := nI_add _ 1
        have b1 : (nI (111 + 13 * nt + 1)).toNatClampNeg = 111 + 13 * nt + 1 := nI_clamp (by omega)
        have a2 : nI (111 + 13 * nt) + 2 = nI (111 + 13 * nt + 2) := nI_add _ 2
        have b2 : (nI (111 + 13 * nt + 2)).toNatClampNeg = 111 + 13 * nt + 2 := nI_clamp (by omega)
        have a3 : nI (111 + 13 * nt) + 3 = nI (111 + 13 * nt + 3) := nI_add _ 3
        have b3 : (nI (111 + 13 * nt + 3)).toNatClampNeg = 111 + 13 * nt + 3 := nI_clamp (by omega)
        have a4 : nI (111 + 13 * nt) + 4 = nI (111 + 13 * nt + 4) := nI_add _ 4
        have b4 : (nI (111 + 13 * nt + 4)).toNatClampNeg = 111 + 13 * nt + 4 := nI_clamp (by omega)
        have a5 : nI (111 + 13 * nt) + 5 = nI (111 + 13 * nt + 5) := nI_add _ 5
        have b5 : (nI (111 + 13 * nt + 5)).toNatClampNeg = 111 + 13 * nt + 5 := nI_clamp (by omega)
        have a6 : nI (111 + 13 * nt) + 6 = nI (111 + 13 * nt + 6) := nI_add _ 6
        have b6 : (nI (111 + 13 * nt + 6)).toNatClampNeg = 111 + 13 * nt + 6 := nI_clamp (by omega)
        refine a_aload_n dX11_ask_43 rfl ?_
        refine a_cV0v dX11_ask_44 ml_11_259 wv_11_snap rfl rfl (by decide) (Nat.le_of_ble_eq_true rfl) (c11_snapH (h := setI (ui h 3 0 0 0) 3 11 w2) (sm := sm) (by rw [setI_k (by decide)]; exact hsm) hsm10 ⟨rfl, rfl⟩) ?_
        try simp (disch := first | decide | assumption | omega) only [ui_eq, ui_k, ui_j, ui_b, ui_2, ul_1, ul_eq, ul_k, ul_j, ul_b, sI_2, sI_2j, N_k, gnt, cl5, nG_2, nG_2j, nG_4j, nG_s, nG_7, nG_11, nG_22, nH_2, nH_4, nH_s, a0, b0, a1, b1, a2, b2, a3, b3, a4, b4, a5, b5, a6, b6]
        unfold snH
        rw [sI_2, N_k (by decide)]
        refine a_aload_n dX11_ask_47 rfl ?_
        refine a_getR (ci := 11) (j := 11) dX11_ask_48 rfl rfl (by decide) rfl fl_11_72 ?_
        refine a_iconst (v := 5) dX11_ask_51 (by decide) ?_
        refine a_iaload dX11_ask_52 rfl (by rw [vp_in_iff]; decide) ?_
        try simp (disch := first | decide | assumption | omega) only [ui_eq, ui_k, ui_j, ui_b, ui_2, ul_1, ul_eq, ul_k, ul_j, ul_b, sI_2, sI_2j, N_k, gnt, cl5, nG_2, nG_2j, nG_4j, nG_s, nG_7, nG_11, nG_22, nH_2, nH_4, nH_s, a0, b0, a1, b1, a2, b2, a3, b3, a4, b4, a5, b5, a6, b6]
        refine a_istore dX11_ask_53 (by decide) rfl ?_
        dsimp only [lset]
        refine a_bipush (v := 111) dX11_ask_55 (by decide) ?_
        refine a_bipush (v := 13) dX11_ask_57 (by decide) ?_
        refine a_iload dX11_ask_59 rfl ?_
        refine a_imul dX11_ask_61 ?_
        refine a_iadd dX11_ask_62 ?_
        rw [show (111 : Int32) + 13 * nI nt = nI (111 + 13 * nt) from by rw [show (111 : Int32) = nI 111 from rfl, show (13 : Int32) = nI 13 from rfl, pk_mul, nI_add]]
        refine a_istore dX11_ask_63 (by decide) rfl ?_
        dsimp only [lset]
        refine a_aload_n dX11_ask_65 rfl ?_
        refine a_getR (ci := 11) (j := 11) dX11_ask_66 rfl rfl (by decide) rfl fl_11_72 ?_
        refine a_iload dX11_ask_69 rfl ?_
        refine a_iconst (v := 0) dX11_ask_71 (by decide) ?_
        refine a_iadd dX11_ask_72 ?_
        refine a_iload_n dX11_ask_73 rfl ?_
        refine a_iastore dX11_ask_74 rfl (by (first | rw [a0] | rw [a1] | rw [a2] | rw [a3] | rw [a4] | rw [a5] | rw [a6] | skip); exact vp_in_nI (by omega) (by decide)) ?_
        refine a_aload_n dX11_ask_75 rfl ?_
        refine a_getR (ci := 11) (j := 11) dX11_ask_76 rfl rfl (by decide) rfl fl_11_72 ?_
        refine a_iload dX11_ask_79 rfl ?_
        refine a_iconst (v := 1) dX11_ask_81 (by decide) ?_
        refine a_iadd dX11_ask_82 ?_
        refine a_iload_n dX11_ask_83 rfl ?_
        refine a_iastore dX11_ask_84 rfl (by (first | rw [a0] | rw [a1] | rw [a2] | rw [a3] | rw [a4] | rw [a5] | rw [a6] | skip); exact vp_in_nI (by omega) (by decide)) ?_
        refine a_aload_n dX11_ask_85 rfl ?_
        refine a_getR (ci := 11) (j := 11) dX11_ask_86 rfl rfl (by decide) rfl fl_11_72 ?_
        refine a_iload dX11_ask_89 rfl ?_
        refine a_iconst (v := 2) dX11_ask_91 (by decide) ?_
        refine a_iadd dX11_ask_92 ?_
        refine a_iconst (v := 0) dX11_ask_93 (by decide) ?_
        refine a_iastore dX11_ask_94 rfl (by (first | rw [a0] | rw [a1] | rw [a2] | rw [a3] | rw [a4] | rw [a5] | rw [a6] | skip); exact vp_in_nI (by omega) (by decide)) ?_
        refine a_aload_n dX11_ask_95 rfl ?_
        refine a_getR (ci := 11) (j := 11) dX11_ask_96 rfl rfl (by decide) rfl fl_11_72 ?_
        refine a_iload dX11_ask_99 rfl ?_
        refine a_iconst (v := 3) dX11_ask_101 (by decide) ?_
        refine a_iadd dX11_ask_102 ?_
        refine a_iconst (v := (-1)) dX11_ask_103 (by decide) ?_
        refine a_iastore dX11_ask_104 rfl (by (first | rw [a0] | rw [a1] | rw [a2] | rw [a3] | rw [a4] | rw [a5] | rw [a6] | skip); exact vp_in_nI (by omega) (by decide)) ?_
        refine a_aload_n dX11_ask_105 rfl ?_
        refine a_getR (ci := 11) (j := 11) dX11_ask_106 rfl rfl (by decide) rfl fl_11_72 ?_
        refine a_iload dX11_ask_109 rfl ?_
        refine a_iconst (v := 4) dX11_ask_111 (by decide) ?_
        refine a_iadd dX11_ask_112 ?_
        refine a_iconst (v := (-1)) dX11_ask_113 (by decide) ?_
        refine a_iastore dX11_ask_114 rfl (by (first | rw [a0] | rw [a1] | rw [a2] | rw [a3] | rw [a4] | rw [a5] | rw [a6] | skip); exact vp_in_nI (by omega) (by decide)) ?_
        refine a_aload_n dX11_ask_115 rfl ?_
        refine a_getR (ci := 11) (j := 11) dX11_ask_116 rfl rfl (by decide) rfl fl_11_72 ?_
        refine a_iload dX11_ask_119 rfl ?_
        refine a_iconst (v := 5) dX11_ask_121 (by decide) ?_
        refine a_iadd dX11_ask_122 ?_
        refine a_iconst (v := (-1)) dX11_ask_123 (by decide) ?_
        refine a_iastore dX11_ask_124 rfl (by (first | rw [a0] | rw [a1] | rw [a2] | rw [a3] | rw [a4] | rw [a5] | rw [a6] | skip); exact vp_in_nI (by omega) (by decide)) ?_
        refine a_aload_n dX11_ask_125 rfl ?_
        refine a_getR (ci := 11) (j := 11) dX11_ask_126 rfl rfl (by decide) rfl fl_11_72 ?_
        refine a_iload dX11_ask_129 rfl ?_
        refine a_bipush (v := 6) dX11_ask_131 (by decide) ?_
        refine a_iadd dX11_ask_133 ?_
        refine a_iconst (v := 0) dX11_ask_134 (by decide) ?_
        refine a_iastore dX11_ask_135 rfl (by (first | rw [a0] | rw [a1] | rw [a2] | rw [a3] | rw [a4] | rw [a5] | rw [a6] | skip); exact vp_in_nI (by omega) (by decide)) ?_
        refine a_iconst (v := 0) dX11_ask_136 (by decide) ?_
        refine a_istore dX11_ask_137 (by decide) rfl ?_
        dsimp only [lset]
        (try simp only [a0, a1, a2, a3, a4, a5, a6, b0, b1, b2, b3, b4, b5, b6, nH_2])
        have e4 := hQ4 hcg c23 hn40 w2
        rw [hmc] at e4
        exact l11_aw (N1 := ask1 (h.1 3 2) nt x (nI m)) (m := m) hn40 (by unfold ask1; simp (disch := omega) only [up_ne]; exact gnt) hm6 (fun j hj => by rw [sI_e]; exact hw2 c12 j (by rw [hmc]; exact hj)) 0 (by omega) e4
      · have hn40 : nt = 40 := nI_inj (b := 40) (by omega) (by decide) c37
        refine a_bipush (v := (-3)) dX11_ask_40 (by decide) ?_
        exact a_iret dX11_ask_42 rfl (hQ3 hcg c23 hn40 w2)
    · refine a_bipush (v := (-2)) dX11_ask_26 (by decide) ?_
      exact a_iret dX11_ask_28 rfl (hQ2 hcg c23 w2)
  · refine a_iconst (v := (-1)) dX11_ask_15 (by decide) ?_
    exact a_iret dX11_ask_16 rfl (hQ1 (fun q => hr.mpr q c12) w2)
