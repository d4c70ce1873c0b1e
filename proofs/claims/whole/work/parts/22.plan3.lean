def filG (f g : Nat → Int32) (i : Nat) : Nat → Int32 := fun j => if j < i then f j else g j
theorem filG_0 (f g : Nat → Int32) : filG f g 0 = g := by funext j; simp [filG]
theorem filG_s (f g : Nat → Int32) (i : Nat) : upd (filG f g i) i (f i) = filG f g (i + 1) := by
  funext j
  simp only [upd, filG]
  by_cases h : j = i
  · simp [h]
  · simp [h, show j < i + 1 ↔ j < i by omega]
def cneI (f : Nat → Int32) (x : Int32) : Nat → Int32
  | 0 => 0
  | n + 1 => if f n = x then cneI f x n else cneI f x n + 1
abbrev S4 : Type := (Nat → Int32) × (Nat → Int32) × (Nat → Int64) × (Nat → Int32)
/-- the heap with other rows left (10), given (11), dear (12), mover (13) -/
def PS (h : AH) (s : S4) : AH := DM (setI (setI h 0 10 s.1) 0 11 s.2.1) s.2.2.1 s.2.2.2
def solG (P : Nat → Int64) (s0 : S4) : Nat → S4
  | 0 => s0
  | k + 1 =>
    let s := solG P s0 k
    let t := chainF P s.2.1 k s.2.2.1 s.2.2.2
    let o := chG s.1 t.1 6
    (upd s.1 o (s.1 o - 1), moveG t.2.1 k 7 s.2.1 (nI o), t.1, t.2.1)
def rngG (g : Nat → Int32) : Prop := ∀ k, k < 8 → (g k).toInt < 7
def rngM (nc : Nat) (m : Nat → Int32) : Prop := ∀ c, c < 7 → ∃ j, j ≤ nc ∧ m c = nI j
theorem pushG_m {P : Nat → Int64} {k fr nc : Nat} {s : T3} (hs : rngM nc s.2.1) (hk : k ≤ nc) (c : Nat) : rngM nc (pushG P k fr s c).2.1 := by
  induction c with
  | zero => exact hs
  | succ c ih =>
    unfold pushG
    split
    · exact ih
    · split
      · exact ih
      · intro j hj
        by_cases e : j = c
        · exact ⟨k, hk, by simp [upd, e]⟩
        · obtain ⟨i, h1, h2⟩ := ih j hj
          exact ⟨i, h1, by simp [upd, e, h2]⟩
theorem pushF_m {P : Nat → Int64} {k nc : Nat} {x : Int32} {d : Nat → Int64} {m : Nat → Int32} (hs : rngM nc m) (hk : k ≤ nc) : rngM nc (pushF P k x d m).2.1 := by
  unfold pushF
  split
  · exact hs
  · split
    · exact hs
    · exact pushG_m hs hk 7
theorem innG_m {P : Nat → Int64} {g : Nat → Int32} {nc : Nat} {s : T3} (hs : rngM nc s.2.1) (k : Nat) (hk : k ≤ nc) : rngM nc (innG P g s k).2.1 := by
  induction k with
  | zero => exact hs
  | succ k ih => exact pushF_m (ih (by omega)) (by omega)
theorem rndG_m {P : Nat → Int64} {g : Nat → Int32} {nc : Nat} (f : Nat) : ∀ s : T3, rngM nc s.2.1 → rngM nc (rndG P g nc f s).2.1 := by
  induction f with
  | zero => intro s hs; exact hs
  | succ f ih =>
    intro s hs
    unfold rndG
    split
    · exact hs
    · exact ih _ (innG_m (s := (s.1, s.2.1, 0)) hs nc (Nat.le_refl _))
theorem initG_m {P : Nat → Int64} {nc : Nat} {d : Nat → Int64} {m : Nat → Int32} (c : Nat) : ∀ j, j < c → (initG P nc d m c).2 j = nI nc := by
  induction c with
  | zero => intro j hj; omega
  | succ c ih =>
    intro j hj
    show upd (initG P nc d m c).2 c (nI nc) j = nI nc
    by_cases e : j = c
    · simp [upd, e]
    · simp [upd, e, ih j (by omega)]
theorem chainF_m {P : Nat → Int64} {g : Nat → Int32} {nc : Nat} {d : Nat → Int64} {m : Nat → Int32} : rngM nc (chainF P g nc d m).2.1 := rndG_m 7 _ (fun c hc => ⟨nc, Nat.le_refl _, initG_m 7 c hc⟩)
theorem rngM_in {nc : Nat} {m : Nat → Int32} (h : rngM nc m) (hn : nc < 8) : ∀ c, c < 7 → vp_in (m c) 8 := by
  intro c hc
  obtain ⟨j, h1, h2⟩ := h c hc
  rw [h2]
  exact vp_in_nI (by omega) (by decide)
theorem moveG_r {mv : Nat → Int32} {nc : Nat} (hmv : ∀ c, c < 7 → vp_in (mv c) 8) (f : Nat) : ∀ (g : Nat → Int32) (t : Int32), rngG g → t.toInt < 7 → rngG (moveG mv nc f g t) := by
  induction f with
  | zero => intro g t hg ht; exact hg
  | succ f ih =>
    intro g t hg ht
    unfold moveG
    split
    · exact hg
    · rename_i hn
      have htl : t.toNatClampNeg < 7 := Nat.not_le.mp fun q => (g_in (n := 7) hn ht) (Or.inr q)
      have hml : (mv t.toNatClampNeg).toNatClampNeg < 8 := Nat.not_le.mp fun q => (hmv _ htl) (Or.inr q)
      refine ih _ _ (fun k hk => ?_) ?_
      · by_cases e : k = (mv t.toNatClampNeg).toNatClampNeg <;> simp [upd, e, ht, hg k hk]
      · split
        · decide
        · exact hg _ hml
theorem solG_r {P : Nat → Int64} {s0 : S4} (h0 : rngG s0.2.1) (k : Nat) (hk : k ≤ 8) : rngG (solG P s0 k).2.1 := by
  induction k with
  | zero => exact h0
  | succ k ih =>
    refine moveG_r (rngM_in chainF_m (by omega)) 7 _ _ (ih (by omega)) ?_
    have := chG_le (solG P s0 k).1 (chainF P (solG P s0 k).2.1 k (solG P s0 k).2.2.1 (solG P s0 k).2.2.2).1 6 (Nat.le_refl _)
    rw [nI_toInt (by omega)]
    omega
theorem PS_step {h : AH} {s : S4} {t : T3} {o : Nat} {g2 : Nat → Int32} : setI (ui (DM (setI (setI h 0 10 s.1) 0 11 s.2.1) t.1 t.2.1) 0 10 o ((DM (setI (setI h 0 10 s.1) 0 11 s.2.1) t.1 t.2.1).1 0 10 o - 1)) 0 11 g2 = PS h (upd s.1 o (s.1 o - 1), g2, t.1, t.2.1) := by
  have e1 : (DM (setI (setI h 0 10 s.1) 0 11 s.2.1) t.1 t.2.1).1 0 10 = s.1 := by rw [DM_1 (by decide), setI_k (by decide), setI_f]
  rw [ui_set, e1]
  unfold PS DM
  simp only [setLI]
  rw [setI_comm (k := 13) (k2 := 10) (by decide), setI_comm (k := 13) (k2 := 11) (by decide), setI_comm (k := 11) (k2 := 10) (by decide), setI_setI, setI_setI]
theorem ui_ui {h : AH} {b k j : Nat} {v w : Int32} : ui (ui h b k j v) b k j w = ui h b k j w := by
  refine ah_ext (fun b' k' j' => ?_) rfl
  simp only [ui]
  split <;> rfl
theorem l5_sA {l : Launch} {G : GG} {h : AH} {Q : Option Value → AH → Prop} (c : Nat) (hc : c ≤ 7) {L : Nat → Int32} (hE : AW l G 2 RX5 cX5_solve 2 none 26 [some (.ref (G.1 0 6)), some (.int (nI 7))] [] (setI h 0 10 (filG (h.1 0 9) L 7)) Q) : AW l G 2 RX5 cX5_solve 2 none 2 [some (.ref (G.1 0 6)), some (.int (nI c))] [] (setI h 0 10 (filG (h.1 0 9) L c)) Q := by
  have hci : (nI c).toNatClampNeg = c := nI_clamp (by omega)
  refine a_iload_n dX5_solve_2 rfl ?_
  refine a_bipush (v := 7) dX5_solve_3 (by decide) ?_
  refine a_icmp_ge dX5_solve_5 (tgt := 26) (by decide) (fun c5 => ?_) (fun c5 => ?_)
  · have hge : 7 ≤ c := le_of_le (b := 7) c5 (by omega) (by decide)
    have hie : c = 7 := by omega
    subst hie
    exact hE
  · have hlt : c < 7 := lt_of_nle (b := 7) c5 (by omega) (by decide)
    refine a_aload_n dX5_solve_8 rfl ?_
    refine a_getR (ci := 5) (j := 3) dX5_solve_9 rfl rfl (by decide) rfl fl_5_22 ?_
    refine a_iload_n dX5_solve_12 rfl ?_
    refine a_aload_n dX5_solve_13 rfl ?_
    refine a_getR (ci := 5) (j := 2) dX5_solve_14 rfl rfl (by decide) rfl fl_5_19 ?_
    refine a_iload_n dX5_solve_17 rfl ?_
    refine a_iaload dX5_solve_18 rfl (vp_in_nI hlt (by decide)) ?_
    try simp (disch := first | decide | assumption | omega) only [ui_eq, ui_k, ui_j, ui_b, ui_2, ul_1, ul_eq, ul_k, ul_j, ul_b, setI_eq, setI_k, setI_b, setI_2, setL_1, setL_eq, setL_k, setL_b, hci]
    refine a_iastore dX5_solve_19 rfl (vp_in_nI hlt (by decide)) ?_
    refine a_inc (c := 1) dX5_solve_20 rfl (by decide) (by decide) rfl ?_
    dsimp only [lset]
    refine a_goto dX5_solve_23 (tgt := 2) (by decide) ?_
    rw [hci, uis, filG_s, nI_1]
    exact l5_sA (c + 1) (by omega) hE
termination_by 7 - c
decreasing_by all_goals omega
theorem l5_sB {l : Launch} {G : GG} {h : AH} {Q : Option Value → AH → Prop} {w : Nat} (hw : h.1 0 6 7 = nI w) (hw8 : w ≤ 8) (c : Nat) (hc : c ≤ w) {g : Nat → Int32} (hE : AW l G 2 RX5 cX5_solve 2 none 49 [some (.ref (G.1 0 6)), some (.int (nI w))] [] (setI h 0 11 (filG (fun _ => -1) g w)) Q) : AW l G 2 RX5 cX5_solve 2 none 28 [some (.ref (G.1 0 6)), some (.int (nI c))] [] (setI h 0 11 (filG (fun _ => -1) g c)) Q := by
  have hci : (nI c).toNatClampNeg = c := nI_clamp (by omega)
  refine a_iload_n dX5_solve_28 rfl ?_
  refine a_aload_n dX5_solve_29 rfl ?_
  refine a_getI (ci := 5) (j := 7) dX5_solve_30 rfl rfl (by decide) rfl fl_5_34 ?_
  try simp (disch := first | decide | assumption | omega) only [ui_eq, ui_k, ui_j, ui_b, ui_2, ul_1, ul_eq, ul_k, ul_j, ul_b, setI_eq, setI_k, setI_b, setI_2, setL_1, setL_eq, setL_k, setL_b, hci, hw]
  refine a_icmp_ge dX5_solve_33 (tgt := 49) (by decide) (fun c33 => ?_) (fun c33 => ?_)
  · have hge : w ≤ c := le_of_le c33 (by omega) (by omega)
    have hie : c = w := by omega
    subst hie
    exact hE
  · have hlt : c < w := lt_of_nle c33 (by omega) (by omega)
    refine a_aload_n dX5_solve_36 rfl ?_
    refine a_getR (ci := 5) (j := 4) dX5_solve_37 rfl rfl (by decide) rfl fl_5_25 ?_
    refine a_iload_n dX5_solve_40 rfl ?_
    refine a_iconst (v := (-1)) dX5_solve_41 (by decide) ?_
    refine a_iastore dX5_solve_42 rfl (vp_in_nI (show c < 8 by omega) (by decide)) ?_
    refine a_inc (c := 1) dX5_solve_43 rfl (by decide) (by decide) rfl ?_
    dsimp only [lset]
    refine a_goto dX5_solve_46 (tgt := 28) (by decide) ?_
    rw [hci, uis, filG_s (fun _ => -1) g c, nI_1]
    exact l5_sB hw hw8 (c + 1) (by omega) hE
termination_by w - c
decreasing_by all_goals omega
theorem PS_step2 {h : AH} {s : S4} {t : T3} {o : Nat} {g2 : Nat → Int32} : setI (ui (DM (setI (setI h 0 10 s.1) 0 11 s.2.1) t.1 t.2.1) 0 10 o (s.1 o - 1)) 0 11 g2 = PS h (upd s.1 o (s.1 o - 1), g2, t.1, t.2.1) := by
  have e1 : (DM (setI (setI h 0 10 s.1) 0 11 s.2.1) t.1 t.2.1).1 0 10 = s.1 := by rw [DM_1 (by decide), setI_k (by decide), setI_f]
  have e := PS_step (h := h) (s := s) (t := t) (o := o) (g2 := g2)
  rw [e1] at e
  exact e
theorem l5_sC {l : Launch} {G : GG} {h : AH} {Q : Option Value → AH → Prop} {w : Nat} (hw : h.1 0 6 7 = nI w) (hw8 : w ≤ 8) {s0 : S4} (h0 : rngG s0.2.1) (k : Nat) (hk : k ≤ w) (hE : AW l G 2 RX5 cX5_solve 2 none 79 [some (.ref (G.1 0 6)), some (.int (nI w))] [] (PS h (solG (h.2 0 8) s0 w)) Q) : AW l G 2 RX5 cX5_solve 2 none 51 [some (.ref (G.1 0 6)), some (.int (nI k))] [] (PS h (solG (h.2 0 8) s0 k)) Q := by
  have hr := solG_r (P := h.2 0 8) h0 k (by omega)
  have hP : (setI (setI h 0 10 (solG (h.2 0 8) s0 k).1) 0 11 (solG (h.2 0 8) s0 k).2.1).2 0 8 = h.2 0 8 := rfl
  have hg : (setI (setI h 0 10 (solG (h.2 0 8) s0 k).1) 0 11 (solG (h.2 0 8) s0 k).2.1).1 0 11 = (solG (h.2 0 8) s0 k).2.1 := setI_f
  have hw2 : (PS h (solG (h.2 0 8) s0 k)).1 0 6 7 = nI w := by rw [PS, DM_1 (by decide), setI_k (by decide), setI_k (by decide), hw]
  have hchle := chG_le (solG (h.2 0 8) s0 k).1 (chainF (h.2 0 8) (solG (h.2 0 8) s0 k).2.1 k (solG (h.2 0 8) s0 k).2.2.1 (solG (h.2 0 8) s0 k).2.2.2).1 6 (Nat.le_refl _)
  refine a_iload_n dX5_solve_51 rfl ?_
  refine a_aload_n dX5_solve_52 rfl ?_
  refine a_getI (ci := 5) (j := 7) dX5_solve_53 rfl rfl (by decide) rfl fl_5_34 ?_
  try simp (disch := first | decide | assumption | omega) only [ui_eq, ui_k, ui_j, ui_b, ui_2, ul_1, ul_eq, ul_k, ul_j, ul_b, hw2]
  refine a_icmp_ge dX5_solve_56 (tgt := 79) (by decide) (fun c56 => ?_) (fun c56 => ?_)
  · have hge : w ≤ k := le_of_le c56 (by omega) (by omega)
    have hie : k = w := by omega
    subst hie
    exact hE
  · have hlt : k < w := lt_of_nle c56 (by omega) (by omega)
    refine a_aload_n dX5_solve_59 rfl ?_
    refine a_iload_n dX5_solve_60 rfl ?_
    refine a_cV1v dX5_solve_61 ml_5_92 wv_5_findChains rfl rfl (by decide) (Nat.le_of_ble_eq_true rfl) (c5_findChains (h := setI (setI h 0 10 (solG (h.2 0 8) s0 k).1) 0 11 (solG (h.2 0 8) s0 k).2.1) (d := (solG (h.2 0 8) s0 k).2.2.1) (m := (solG (h.2 0 8) s0 k).2.2.2) (by omega) (by intro j hj; rw [hg]; exact hr j hj) ⟨rfl, rfl⟩) ?_
    try simp (disch := first | decide | assumption | omega) only [ui_eq, ui_k, ui_j, ui_b, ui_2, ul_1, ul_eq, ul_k, ul_j, ul_b, hw2]
    refine a_aload_n dX5_solve_64 rfl ?_
    refine a_iload_n dX5_solve_65 rfl ?_
    refine a_aload_n dX5_solve_66 rfl ?_
    refine a_cV0i dX5_solve_67 ml_5_96 wv_5_cheapestOpen rfl rfl (by decide) (Nat.le_of_ble_eq_true rfl) (c5_cheapestOpen ⟨rfl, rfl⟩) ?_
    try simp (disch := first | decide | assumption | omega) only [ui_eq, ui_k, ui_j, ui_b, ui_2, ul_1, ul_eq, ul_k, ul_j, ul_b, hw2]
    refine a_cV2v dX5_solve_70 ml_5_100 wv_5_moveAlong rfl rfl (by decide) (Nat.le_of_ble_eq_true rfl) (c5_moveAlong (by intro c hc; rw [DM_m]; exact rngM_in chainF_m (by omega) c hc) (by intro j hj; rw [DM_1 (by decide), hg]; exact hr j hj) (by rw [DM_d, DM_1 (by decide), setI_k (by decide), setI_f, hP, hg]; omega) ⟨rfl, rfl⟩) ?_
    try simp (disch := first | decide | assumption | omega) only [ui_eq, ui_k, ui_j, ui_b, ui_2, ul_1, ul_eq, ul_k, ul_j, ul_b, hw2]
    refine a_inc (c := 1) dX5_solve_73 rfl (by decide) (by decide) rfl ?_
    dsimp only [lset]
    refine a_goto dX5_solve_76 (tgt := 51) (by decide) ?_
    rw [hP, hg, DM_d, DM_1 (k := 10) (by decide), setI_k (k := 11) (k' := 10) (by decide), setI_f, DM_m, DM_1 (k := 11) (by decide), hg, PS_step2, nI_1]
    exact l5_sC hw hw8 h0 (k + 1) (by omega) hE
termination_by w - k
decreasing_by all_goals omega
theorem l5_sD {l : Launch} {G : GG} {h : AH} {Q : Option Value → AH → Prop} {w : Nat} (hw : h.1 0 6 7 = nI w) (hw8 : w ≤ 8) (k : Nat) (hk : k ≤ w) (hQ : Q none (ui h 0 6 8 (cneI (h.1 0 11) 6 w))) : AW l G 2 RX5 cX5_solve 2 none 86 [some (.ref (G.1 0 6)), some (.int (nI k))] [] (ui h 0 6 8 (cneI (h.1 0 11) 6 k)) Q := by
  have hci : (nI k).toNatClampNeg = k := nI_clamp (by omega)
  refine a_iload_n dX5_solve_86 rfl ?_
  refine a_aload_n dX5_solve_87 rfl ?_
  refine a_getI (ci := 5) (j := 7) dX5_solve_88 rfl rfl (by decide) rfl fl_5_34 ?_
  try simp (disch := first | decide | assumption | omega) only [ui_eq, ui_k, ui_j, ui_b, ui_2, ul_1, ul_eq, ul_k, ul_j, ul_b, hci, hw]
  refine a_icmp_ge dX5_solve_91 (tgt := 121) (by decide) (fun c91 => ?_) (fun c91 => ?_)
  · have hge : w ≤ k := le_of_le c91 (by omega) (by omega)
    have hie : k = w := by omega
    subst hie
    exact a_vret dX5_solve_121 rfl hQ
  · have hlt : k < w := lt_of_nle c91 (by omega) (by omega)
    refine a_aload_n dX5_solve_94 rfl ?_
    refine a_getR (ci := 5) (j := 4) dX5_solve_95 rfl rfl (by decide) rfl fl_5_25 ?_
    refine a_iload_n dX5_solve_98 rfl ?_
    refine a_iaload dX5_solve_99 rfl (vp_in_nI (show k < 8 by omega) (by decide)) ?_
    try simp (disch := first | decide | assumption | omega) only [ui_eq, ui_k, ui_j, ui_b, ui_2, ul_1, ul_eq, ul_k, ul_j, ul_b, hci, hw]
    refine a_bipush (v := 6) dX5_solve_100 (by decide) ?_
    refine a_icmp_eq dX5_solve_102 (tgt := 115) (by decide) (fun c102 => ?_) (fun c102 => ?_)
    · refine a_inc (c := 1) dX5_solve_115 rfl (by decide) (by decide) rfl ?_
      dsimp only [lset]
      refine a_goto dX5_solve_118 (tgt := 86) (by decide) ?_
      rw [nI_1]
      try rw [ui_ui]
      have e := l5_sD (l := l) (G := G) (h := h) hw hw8 (k + 1) (by omega) hQ
      simp only [cneI, c102, if_true, if_false] at e
      exact e
    · refine a_aload_n dX5_solve_105 rfl ?_
      refine a_dup dX5_solve_106 rfl ?_
      refine a_getI (ci := 5) (j := 8) dX5_solve_107 rfl rfl (by decide) rfl fl_5_104 ?_
      try simp (disch := first | decide | assumption | omega) only [ui_eq, ui_k, ui_j, ui_b, ui_2, ul_1, ul_eq, ul_k, ul_j, ul_b, hci, hw]
      refine a_iconst (v := 1) dX5_solve_110 (by decide) ?_
      refine a_iadd dX5_solve_111 ?_
      refine a_putI (ci := 5) (j := 8) dX5_solve_112 rfl rfl (by decide) (by decide) rfl fl_5_104 ?_
      refine a_inc (c := 1) dX5_solve_115 rfl (by decide) (by decide) rfl ?_
      dsimp only [lset]
      refine a_goto dX5_solve_118 (tgt := 86) (by decide) ?_
      rw [nI_1]
      try rw [ui_ui]
      have e := l5_sD (l := l) (G := G) (h := h) hw hw8 (k + 1) (by omega) hQ
      simp only [cneI, c102, if_true, if_false] at e
      exact e
termination_by w - k
decreasing_by all_goals omega
def sol0 (h : AH) (w : Nat) : S4 := (filG (h.1 0 9) (h.1 0 10) 7, filG (fun _ => -1) (h.1 0 11) w, h.2 0 12, h.1 0 13)
def solveF (h : AH) (w : Nat) : AH := ui (PS h (solG (h.2 0 8) (sol0 h w) w)) 0 6 8 (cneI (solG (h.2 0 8) (sol0 h w) w).2.1 6 w)
theorem PS_0 {h : AH} {L g : Nat → Int32} : setI (setI h 0 10 L) 0 11 g = PS h (L, g, h.2 0 12, h.1 0 13) := by
  unfold PS
  have e := DM_self (setI (setI h 0 10 L) 0 11 g)
  rw [show (setI (setI h 0 10 L) 0 11 g).1 0 13 = h.1 0 13 by rw [setI_k (by decide), setI_k (by decide)]] at e
  exact e.symm
theorem rng0 {g : Nat → Int32} (hg : rngG g) (w : Nat) : rngG (filG (fun _ => -1) g w) := by
  intro k hk
  unfold filG
  split
  · show (-1 : Int32).toInt < 7
    decide
  · exact hg k hk
theorem c5_solve {l : Launch} {G : GG} {h : AH} {Q : Option Value → AH → Prop} {w : Nat} (hw : h.1 0 6 7 = nI w) (hw8 : w ≤ 8) (hg : rngG (h.1 0 11)) (hQ : Q none (solveF h w)) : Ct l G 2 yX5_solve cX5_solve 2 none [.ref (G.1 0 6)] h Q := by
  refine Ct.of (by decide) (Nat.le_of_ble_eq_true rfl) ?_
  show AW l G 2 RX5 cX5_solve 2 none 0 [some (.ref (G.1 0 6))] [] h Q
  refine a_iconst (v := 0) dX5_solve_0 (by decide) ?_
  refine a_istore_n dX5_solve_1 (by decide) rfl ?_
  dsimp only [lset]
  have e0 := setI_self (h := h) (b := 0) (k := 10)
  rw [← filG_0 (h.1 0 9) (h.1 0 10)] at e0
  rw [← e0]
  refine l5_sA (c := 0) (by omega) ?_
  refine a_iconst (v := 0) dX5_solve_26 (by decide) ?_
  refine a_istore_n dX5_solve_27 (by decide) rfl ?_
  dsimp only [lset]
  have hw1 : (setI h 0 10 (filG (h.1 0 9) (h.1 0 10) 7)).1 0 6 7 = nI w := by rw [setI_k (by decide), hw]
  have e1 := setI_self (h := setI h 0 10 (filG (h.1 0 9) (h.1 0 10) 7)) (b := 0) (k := 11)
  rw [setI_k (by decide), ← filG_0 (fun _ => -1) (h.1 0 11)] at e1
  rw [← e1]
  refine l5_sB hw1 hw8 0 (by omega) ?_
  refine a_iconst (v := 0) dX5_solve_49 (by decide) ?_
  refine a_istore_n dX5_solve_50 (by decide) rfl ?_
  dsimp only [lset]
  rw [PS_0]
  refine l5_sC (s0 := sol0 h w) hw hw8 (rng0 hg w) 0 (by omega) ?_
  refine a_aload_n dX5_solve_79 rfl ?_
  refine a_iconst (v := 0) dX5_solve_80 (by decide) ?_
  refine a_putI (ci := 5) (j := 8) dX5_solve_81 rfl rfl (by decide) (by decide) rfl fl_5_104 ?_
  refine a_iconst (v := 0) dX5_solve_84 (by decide) ?_
  refine a_istore_n dX5_solve_85 (by decide) rfl ?_
  dsimp only [lset]
  have hw3 : (PS h (solG (h.2 0 8) (sol0 h w) w)).1 0 6 7 = nI w := by rw [PS, DM_1 (by decide), setI_k (by decide), setI_k (by decide), hw]
  have hg3 : (PS h (solG (h.2 0 8) (sol0 h w) w)).1 0 11 = (solG (h.2 0 8) (sol0 h w) w).2.1 := by rw [PS, DM_1 (by decide), setI_f]
  exact l5_sD hw3 hw8 0 (by omega) (by rw [hg3]; exact hQ)
