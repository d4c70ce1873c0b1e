theorem c11_servesS {l : Launch} {G : GG} {h : AH} {Q : Option Value → AH → Prop} {a b : Int32} {np nt : Nat} (hP : PW (h.1 3 2) np nt) {fr us gv cm qu st : Nat → Int32} (hg : R6 np gv) (hQ : ∀ us2 gv2 cm2 qu2, SVR (h.1 3 2) np nt fr us2 gv2 st gv → Q none (qH (SM h (nI (srvN (h.1 3 2) nt gv2)) (nI (scN (h.1 3 2) nt gv2))) fr us2 gv2 cm2 qu2 st)) : Ct l G 5 yX11_serves cX11_serves 5 none [.ref (G.1 3 0)] (qH (SM h a b) fr us gv cm qu st) Q := by
  refine c11_serves (h := SM h a b) (by rw [SM_N]; exact hP) hg (fun us2 gv2 cm2 qu2 hS => ?_)
  rw [SM_N] at hS ⊢
  have e := hQ us2 gv2 cm2 qu2 hS
  rw [← SM_SM (a := a) (b := b)] at e
  exact e
def AGR (h : AH) (N : Nat → Int32) (np nt : Nat) (fr us gv cm qu st : Nat → Int32) (a b : Int32) (t : Nat) (x y z : Int32) (v : Option Value) (h2 : AH) : Prop :=
  (v = some (.int 0) ∧ h2 = qH (SM h a b) fr us gv cm qu st ∧ ∃ k, k < np ∧ x = nI k ∧ (fitM N k t = 0 ∨ fr k ≤ 0)) ∨
  ((∀ k, k < np → x = nI k → ¬ fitM N k t = 0 ∧ ¬ fr k ≤ 0) ∧ ∃ us2 gv2 cm2 qu2 r, SVR N np nt fr us2 gv2 (upd st t 1) (upd gv t x) ∧ v = some (.int r) ∧ h2 = qH (SM h (nI (srvN N nt gv2)) (nI (scN N nt gv2))) fr us2 gv2 cm2 qu2 (upd st t 1) ∧ (r = 0 ∨ r = 1) ∧ (¬ r = 0 ↔ (∀ i, i < 6 → us2 i ≤ fr i) ∧ nI (srvN N nt gv2) = y ∧ nI (scN N nt gv2) = z))
theorem qG_222 {h : AH} {a b : Int32} {fr us gv cm qu st : Nat → Int32} : (qH (SM h a b) fr us gv cm qu st).1 3 0 22 = a := by rw [qG_0j]; exact SM_22
theorem qG_223 {h : AH} {a b : Int32} {fr us gv cm qu st : Nat → Int32} : (qH (SM h a b) fr us gv cm qu st).1 3 0 23 = b := by rw [qG_0j]; exact SM_23
theorem R6.up {np : Nat} {gv : Nat → Int32} {t : Nat} {x : Int32} (h : R6 np gv) (hx : x = -1 ∨ ∃ k, k < np ∧ x = nI k) : R6 np (upd gv t x) := by
  intro t' ht'
  by_cases e : t' = t
  · subst e; rw [up_eq]; exact hx
  · rw [up_ne e]; exact h t' ht'
theorem i32_nle {x : Int32} (h : 0 < x) : ¬ x ≤ 0 := by
  rw [Int32.lt_iff_toInt_lt] at h
  rw [Int32.le_iff_toInt_le]
  omega
theorem i32_le {x : Int32} (h : ¬ 0 < x) : x ≤ 0 := by
  rw [Int32.lt_iff_toInt_lt] at h
  rw [Int32.le_iff_toInt_le]
  omega
theorem l11_lf {l : Launch} {G : GG} {h : AH} {Q : Option Value → AH → Prop} {np nt : Nat} (hP : PW (h.1 3 2) np nt) {a b : Int32} {fr us gv cm qu st : Nat → Int32} (k : Nat) (hk : k ≤ 6) (hQ : Q none (qH (SM h a b) (filG (mfr (h.1 3 2) np nt) fr 6) us gv cm qu st)) : AW l G 5 RX11 cX11_laysFree 2 none 2 [some (.ref (G.1 3 0)), some (.int (nI k))] [] (qH (SM h a b) (filG (mfr (h.1 3 2) np nt) fr k) us gv cm qu st) Q := by
  obtain ⟨hnp, hp6, hnt, ht40, hz, hTW, hCo⟩ := id hP
  have hkc : (nI k).toNatClampNeg = k := nI_clamp (by omega)
  refine a_iload_n dX11_laysFree_2 rfl ?_
  refine a_bipush (v := 6) dX11_laysFree_3 (by decide) ?_
  refine a_icmp_ge dX11_laysFree_5 (tgt := 39) (by decide) (fun c5 => ?_) (fun c5 => ?_)
  · have hge : 6 ≤ k := le_of_le (b := 6) c5 (by omega) (by decide)
    have hie : k = 6 := by omega
    subst hie
    exact a_vret dX11_laysFree_39 rfl hQ
  · have hlt : k < 6 := lt_of_nle (b := 6) c5 (by omega) (by decide)
    refine a_aload_n dX11_laysFree_8 rfl ?_
    refine a_getR (ci := 11) (j := 16) dX11_laysFree_9 rfl rfl (by decide) rfl fl_11_81 ?_
    refine a_iload_n dX11_laysFree_12 rfl ?_
    refine a_iload_n dX11_laysFree_13 rfl ?_
    refine a_aload_n dX11_laysFree_14 rfl ?_
    refine a_getR (ci := 11) (j := 11) dX11_laysFree_15 rfl rfl (by decide) rfl fl_11_72 ?_
    refine a_iconst (v := 3) dX11_laysFree_18 (by decide) ?_
    refine a_iaload dX11_laysFree_19 rfl (by rw [vp_in_iff]; decide) ?_
    try simp (disch := first | decide | assumption | omega) only [ui_eq, ui_k, ui_j, ui_b, ui_2, ul_1, ul_eq, ul_k, ul_j, ul_b, qG_222, qG_223, qG_2, qG_2j, qG_0j, qG_5, qG_5j, qH_5, qG_6, qG_6j, qH_6, qG_7, qG_7j, qH_7, qG_8, qG_8j, qH_8, qG_9, qG_9j, qH_9, qG_10, qG_10j, qH_10, qH_0, SM_N, hkc, hnp, cl3]
    refine a_icmp_ge dX11_laysFree_20 (tgt := 31) (by decide) (fun c20 => ?_) (fun c20 => ?_)
    · have hge : np ≤ k := le_of_le c20 (by omega) (by omega)
      have hm : mfr (h.1 3 2) np nt k = 0 := if_neg (by omega)
      refine a_iconst (v := 0) dX11_laysFree_31 (by decide) ?_
      refine a_iastore dX11_laysFree_32 rfl (vp_in_nI (show k < 6 by omega) (by decide)) ?_
      refine a_inc (c := 1) dX11_laysFree_33 rfl (by decide) (by decide) rfl ?_
      dsimp only [lset]
      refine a_goto dX11_laysFree_36 (tgt := 2) (by decide) ?_
      try rw [hkc]
      rw [nI_1, qH_5]
      (try rw [qG_2, SM_N])
      rw [← hm, filG_s]
      exact l11_lf hP (k + 1) (by omega) hQ
    · have hl2 : k < np := lt_of_nle c20 (by omega) (by omega)
      have hm : mfr (h.1 3 2) np nt k = mFree (h.1 3 2) nt k := if_pos hl2
      refine a_aload_n dX11_laysFree_23 rfl ?_
      refine a_iload_n dX11_laysFree_24 rfl ?_
      refine a_cV1i dX11_laysFree_25 ml_11_192 wv_11_freeOf rfl rfl (by decide) (Nat.le_of_ble_eq_true rfl) (c11_freeOf (nt := nt) (k := k) (by rw [qG_2, SM_N]; exact hnt) ht40 (by omega) (by rw [qG_2, SM_N]; exact hz k hl2) ⟨rfl, rfl⟩) ?_
      try simp (disch := first | decide | assumption | omega) only [ui_eq, ui_k, ui_j, ui_b, ui_2, ul_1, ul_eq, ul_k, ul_j, ul_b, qG_222, qG_223, qG_2, qG_2j, qG_0j, qG_5, qG_5j, qH_5, qG_6, qG_6j, qH_6, qG_7, qG_7j, qH_7, qG_8, qG_8j, qH_8, qG_9, qG_9j, qH_9, qG_10, qG_10j, qH_10, qH_0, SM_N, hkc, hnp, cl3]
      refine a_goto dX11_laysFree_28 (tgt := 32) (by decide) ?_
      refine a_iastore dX11_laysFree_32 rfl (vp_in_nI (show k < 6 by omega) (by decide)) ?_
      refine a_inc (c := 1) dX11_laysFree_33 rfl (by decide) (by decide) rfl ?_
      dsimp only [lset]
      refine a_goto dX11_laysFree_36 (tgt := 2) (by decide) ?_
      try rw [hkc]
      rw [nI_1, qH_5]
      (try rw [qG_2, SM_N])
      rw [← hm, filG_s]
      exact l11_lf hP (k + 1) (by omega) hQ
termination_by 6 - k
decreasing_by all_goals omega
theorem c11_laysFree {l : Launch} {G : GG} {h : AH} {Q : Option Value → AH → Prop} {np nt : Nat} (hP : PW (h.1 3 2) np nt) {a b : Int32} {fr us gv cm qu st : Nat → Int32} (hQ : Q none (qH (SM h a b) (filG (mfr (h.1 3 2) np nt) fr 6) us gv cm qu st)) : Ct l G 5 yX11_laysFree cX11_laysFree 2 none [.ref (G.1 3 0)] (qH (SM h a b) fr us gv cm qu st) Q := by
  refine Ct.of (by decide) (Nat.le_of_ble_eq_true rfl) ?_
  show AW l G 5 RX11 cX11_laysFree 2 none 0 [some (.ref (G.1 3 0))] [] (qH (SM h a b) fr us gv cm qu st) Q
  refine a_iconst (v := 0) dX11_laysFree_0 (by decide) ?_
  refine a_istore_n dX11_laysFree_1 (by decide) rfl ?_
  dsimp only [lset]
  rw [show qH (SM h a b) fr us gv cm qu st = qH (SM h a b) (filG (mfr (h.1 3 2) np nt) fr 0) us gv cm qu st by rw [filG_0]]
  exact l11_lf hP 0 (by omega) hQ
theorem l11_oa {l : Launch} {G : GG} {h : AH} {Q : Option Value → AH → Prop} {fr us gv cm qu st : Nat → Int32} (k : Nat) (hk : k ≤ 40) (hQ : Q none (qH h fr us (filG (fun _ => -1) gv 40) cm qu (filG (fun _ => 0) st 40))) : AW l G 0 RX11 cX11_opensAll 2 none 2 [some (.ref (G.1 3 0)), some (.int (nI k))] [] (qH h fr us (filG (fun _ => -1) gv k) cm qu (filG (fun _ => 0) st k)) Q := by
  have hkc : (nI k).toNatClampNeg = k := nI_clamp (by omega)
  refine a_iload_n dX11_opensAll_2 rfl ?_
  refine a_bipush (v := 40) dX11_opensAll_3 (by decide) ?_
  refine a_icmp_ge dX11_opensAll_5 (tgt := 28) (by decide) (fun c5 => ?_) (fun c5 => ?_)
  · have hge : 40 ≤ k := le_of_le (b := 40) c5 (by omega) (by decide)
    have hie : k = 40 := by omega
    subst hie
    exact a_vret dX11_opensAll_28 rfl hQ
  · have hlt : k < 40 := lt_of_nle (b := 40) c5 (by omega) (by decide)
    refine a_aload_n dX11_opensAll_8 rfl ?_
    refine a_getR (ci := 11) (j := 21) dX11_opensAll_9 rfl rfl (by decide) rfl fl_11_96 ?_
    refine a_iload_n dX11_opensAll_12 rfl ?_
    refine a_iconst (v := 0) dX11_opensAll_13 (by decide) ?_
    refine a_zastore dX11_opensAll_14 rfl (vp_in_nI hlt (by decide)) ?_
    refine a_aload_n dX11_opensAll_15 rfl ?_
    refine a_getR (ci := 11) (j := 18) dX11_opensAll_16 rfl rfl (by decide) rfl fl_11_87 ?_
    refine a_iload_n dX11_opensAll_19 rfl ?_
    refine a_iconst (v := (-1)) dX11_opensAll_20 (by decide) ?_
    refine a_iastore dX11_opensAll_21 rfl (vp_in_nI hlt (by decide)) ?_
    refine a_inc (c := 1) dX11_opensAll_22 rfl (by decide) (by decide) rfl ?_
    dsimp only [lset]
    refine a_goto dX11_opensAll_25 (tgt := 2) (by decide) ?_
    simp only [hkc, z_0, qH_7, qH_10]
    rw [nI_1, filG_s (fun _ => -1), filG_s (fun _ => 0)]
    exact l11_oa (k + 1) (by omega) hQ
termination_by 40 - k
decreasing_by all_goals omega
theorem c11_opensAll {l : Launch} {G : GG} {h : AH} {Q : Option Value → AH → Prop} {fr us gv cm qu st : Nat → Int32} (hQ : Q none (qH h fr us (filG (fun _ => -1) gv 40) cm qu (filG (fun _ => 0) st 40))) : Ct l G 0 yX11_opensAll cX11_opensAll 2 none [.ref (G.1 3 0)] (qH h fr us gv cm qu st) Q := by
  refine Ct.of (by decide) (Nat.le_of_ble_eq_true rfl) ?_
  show AW l G 0 RX11 cX11_opensAll 2 none 0 [some (.ref (G.1 3 0))] [] (qH h fr us gv cm qu st) Q
  refine a_iconst (v := 0) dX11_opensAll_0 (by decide) ?_
  refine a_istore_n dX11_opensAll_1 (by decide) rfl ?_
  dsimp only [lset]
  rw [show qH h fr us gv cm qu st = qH h fr us (filG (fun _ => -1) gv 0) cm qu (filG (fun _ => 0) st 0) by rw [filG_0, filG_0]]
  exact l11_oa 0 (by omega) hQ
theorem l11_ag46 {l : Launch} {G : GG} {h : AH} {Q : Option Value → AH → Prop} {fr us gv cm qu st : Nat → Int32} {a b : Int32} {t : Nat} {x y z : Int32} (i : Nat) (hi : i ≤ 6) (hB : ∀ j, j < i → us j ≤ fr j) (hQ : ∀ r : Int32, (r = 0 ∨ r = 1) → (¬ r = 0 ↔ (∀ i, i < 6 → us i ≤ fr i) ∧ a = y ∧ b = z) → Q (some (.int r)) (qH (SM h a b) fr us gv cm qu st)) : AW l G 6 RX11 cX11_isAsGood 6 (some .boolean) 46 [some (.ref (G.1 3 0)), some (.int (nI t)), some (.int x), some (.int y), some (.int z), some (.int (nI i))] [] (qH (SM h a b) fr us gv cm qu st) Q := by
  have hic : (nI i).toNatClampNeg = i := nI_clamp (by omega)
  refine a_iload dX11_isAsGood_46 rfl ?_
  refine a_bipush (v := 6) dX11_isAsGood_48 (by decide) ?_
  refine a_icmp_ge dX11_isAsGood_50 (tgt := 78) (by decide) (fun c50 => ?_) (fun c50 => ?_)
  · have hge : 6 ≤ i := le_of_le (b := 6) c50 (by omega) (by decide)
    have hie : i = 6 := by omega
    subst hie
    refine a_aload_n dX11_isAsGood_78 rfl ?_
    refine a_getI (ci := 11) (j := 22) dX11_isAsGood_79 rfl rfl (by decide) rfl fl_11_225 ?_
    try simp (disch := first | decide | assumption | omega) only [ui_eq, ui_k, ui_j, ui_b, ui_2, ul_1, ul_eq, ul_k, ul_j, ul_b, qG_222, qG_223, qG_2, qG_2j, qG_0j, qG_5, qG_5j, qH_5, qG_6, qG_6j, qH_6, qG_7, qG_7j, qH_7, qG_8, qG_8j, qH_8, qG_9, qG_9j, qH_9, qG_10, qG_10j, qH_10, qH_0, SM_N, hic]
    refine a_iload_n dX11_isAsGood_82 rfl ?_
    refine a_icmp_ne dX11_isAsGood_83 (tgt := 99) (by decide) (fun c83 => ?_) (fun c83 => ?_)
    · refine a_iconst (v := 0) dX11_isAsGood_99 (by decide) ?_
      exact a_zret dX11_isAsGood_100 rfl rfl (by
  first
    | exact hQ 1 (Or.inr rfl) ⟨fun _ => ⟨hB, by assumption, by assumption⟩, fun _ => by decide⟩
    | exact hQ 0 (Or.inl rfl) ⟨fun q => absurd rfl q, fun q => absurd q.2.1 (by assumption)⟩
    | exact hQ 0 (Or.inl rfl) ⟨fun q => absurd rfl q, fun q => absurd q.2.2 (by assumption)⟩)
    · refine a_aload_n dX11_isAsGood_86 rfl ?_
      refine a_getI (ci := 11) (j := 23) dX11_isAsGood_87 rfl rfl (by decide) rfl fl_11_228 ?_
      try simp (disch := first | decide | assumption | omega) only [ui_eq, ui_k, ui_j, ui_b, ui_2, ul_1, ul_eq, ul_k, ul_j, ul_b, qG_222, qG_223, qG_2, qG_2j, qG_0j, qG_5, qG_5j, qH_5, qG_6, qG_6j, qH_6, qG_7, qG_7j, qH_7, qG_8, qG_8j, qH_8, qG_9, qG_9j, qH_9, qG_10, qG_10j, qH_10, qH_0, SM_N, hic]
      refine a_iload dX11_isAsGood_90 rfl ?_
      refine a_icmp_ne dX11_isAsGood_92 (tgt := 99) (by decide) (fun c92 => ?_) (fun c92 => ?_)
      · refine a_iconst (v := 0) dX11_isAsGood_99 (by decide) ?_
        exact a_zret dX11_isAsGood_100 rfl rfl (by
  first
    | exact hQ 1 (Or.inr rfl) ⟨fun _ => ⟨hB, by assumption, by assumption⟩, fun _ => by decide⟩
    | exact hQ 0 (Or.inl rfl) ⟨fun q => absurd rfl q, fun q => absurd q.2.1 (by assumption)⟩
    | exact hQ 0 (Or.inl rfl) ⟨fun q => absurd rfl q, fun q => absurd q.2.2 (by assumption)⟩)
      · refine a_iconst (v := 1) dX11_isAsGood_95 (by decide) ?_
        refine a_goto dX11_isAsGood_96 (tgt := 100) (by decide) ?_
        exact a_zret dX11_isAsGood_100 rfl rfl (by
  first
    | exact hQ 1 (Or.inr rfl) ⟨fun _ => ⟨hB, by assumption, by assumption⟩, fun _ => by decide⟩
    | exact hQ 0 (Or.inl rfl) ⟨fun q => absurd rfl q, fun q => absurd q.2.1 (by assumption)⟩
    | exact hQ 0 (Or.inl rfl) ⟨fun q => absurd rfl q, fun q => absurd q.2.2 (by assumption)⟩)
  · have hlt : i < 6 := lt_of_nle (b := 6) c50 (by omega) (by decide)
    refine a_aload_n dX11_isAsGood_53 rfl ?_
    refine a_getR (ci := 11) (j := 17) dX11_isAsGood_54 rfl rfl (by decide) rfl fl_11_84 ?_
    refine a_iload dX11_isAsGood_57 rfl ?_
    refine a_iaload dX11_isAsGood_59 rfl (vp_in_nI hlt (by decide)) ?_
    try simp (disch := first | decide | assumption | omega) only [ui_eq, ui_k, ui_j, ui_b, ui_2, ul_1, ul_eq, ul_k, ul_j, ul_b, qG_222, qG_223, qG_2, qG_2j, qG_0j, qG_5, qG_5j, qH_5, qG_6, qG_6j, qH_6, qG_7, qG_7j, qH_7, qG_8, qG_8j, qH_8, qG_9, qG_9j, qH_9, qG_10, qG_10j, qH_10, qH_0, SM_N, hic]
    refine a_aload_n dX11_isAsGood_60 rfl ?_
    refine a_getR (ci := 11) (j := 16) dX11_isAsGood_61 rfl rfl (by decide) rfl fl_11_81 ?_
    refine a_iload dX11_isAsGood_64 rfl ?_
    refine a_iaload dX11_isAsGood_66 rfl (vp_in_nI hlt (by decide)) ?_
    try simp (disch := first | decide | assumption | omega) only [ui_eq, ui_k, ui_j, ui_b, ui_2, ul_1, ul_eq, ul_k, ul_j, ul_b, qG_222, qG_223, qG_2, qG_2j, qG_0j, qG_5, qG_5j, qH_5, qG_6, qG_6j, qH_6, qG_7, qG_7j, qH_7, qG_8, qG_8j, qH_8, qG_9, qG_9j, qH_9, qG_10, qG_10j, qH_10, qH_0, SM_N, hic]
    refine a_icmp_le dX11_isAsGood_67 (tgt := 72) (by decide) (fun c67 => ?_) (fun c67 => ?_)
    · refine a_inc (c := 1) dX11_isAsGood_72 rfl (by decide) (by decide) rfl ?_
      dsimp only [lset]
      refine a_goto dX11_isAsGood_75 (tgt := 46) (by decide) ?_
      rw [nI_1]
      exact l11_ag46 (i + 1) (by omega) (fun j hj => by
        by_cases e : j = i
        · subst e; exact c67
        · exact hB j (by omega)) hQ
    · refine a_iconst (v := 0) dX11_isAsGood_70 (by decide) ?_
      exact a_zret dX11_isAsGood_71 rfl rfl (hQ 0 (Or.inl rfl) ⟨fun q => absurd rfl q, fun q => absurd (q.1 i hlt) c67⟩)
termination_by 6 - i
decreasing_by all_goals omega
theorem l11_ag25 {l : Launch} {G : GG} {h : AH} {Q : Option Value → AH → Prop} {np nt : Nat} (hP : PW (h.1 3 2) np nt) {a b : Int32} {fr us gv cm qu st : Nat → Int32} {t : Nat} (ht : t < nt) {x y z : Int32} (hg : R6 np gv) (hx : x = -1 ∨ ∃ k, k < np ∧ x = nI k) (hfit : ∀ k, k < np → x = nI k → ¬ fitM (h.1 3 2) k t = 0 ∧ ¬ fr k ≤ 0) (hQ : ∀ v h2, AGR h (h.1 3 2) np nt fr us gv cm qu st a b t x y z v h2 → Q v h2) : AW l G 6 RX11 cX11_isAsGood 6 (some .boolean) 25 [some (.ref (G.1 3 0)), some (.int (nI t)), some (.int x), some (.int y), some (.int z)] [] (qH (SM h a b) fr us gv cm qu st) Q := by
  obtain ⟨hnp, hp6, hnt, ht40, hz, hTW, hCo⟩ := id hP
  have htc : (nI t).toNatClampNeg = t := nI_clamp (by omega)
  refine a_aload_n dX11_isAsGood_25 rfl ?_
  refine a_getR (ci := 11) (j := 21) dX11_isAsGood_26 rfl rfl (by decide) rfl fl_11_96 ?_
  refine a_iload_n dX11_isAsGood_29 rfl ?_
  refine a_iconst (v := 1) dX11_isAsGood_30 (by decide) ?_
  refine a_zastore dX11_isAsGood_31 rfl (vp_in_nI (show t < 40 by omega) (by decide)) ?_
  refine a_aload_n dX11_isAsGood_32 rfl ?_
  refine a_getR (ci := 11) (j := 18) dX11_isAsGood_33 rfl rfl (by decide) rfl fl_11_87 ?_
  refine a_iload_n dX11_isAsGood_36 rfl ?_
  refine a_iload_n dX11_isAsGood_37 rfl ?_
  refine a_iastore dX11_isAsGood_38 rfl (vp_in_nI (show t < 40 by omega) (by decide)) ?_
  refine a_aload_n dX11_isAsGood_39 rfl ?_
  simp only [htc, z_1, qH_7, qH_10]
  refine a_cV0 dX11_isAsGood_40 ml_11_231 wv_11_serves rfl rfl (by decide) (Nat.le_of_ble_eq_true rfl) (c11_servesS (Q := fun v h2 => ∃ us2 gv2 cm2 qu2, SVR (h.1 3 2) np nt fr us2 gv2 (upd st t 1) (upd gv t x) ∧ v = none ∧ h2 = qH (SM h (nI (srvN (h.1 3 2) nt gv2)) (nI (scN (h.1 3 2) nt gv2))) fr us2 gv2 cm2 qu2 (upd st t 1)) hP (hg.up hx) (fun us2 gv2 cm2 qu2 hS => ⟨us2, gv2, cm2, qu2, hS, rfl, rfl⟩)) (fun v40 h40 p40 => ?_)
  obtain ⟨us2, gv2, cm2, qu2, hS, rfl, rfl⟩ := p40
  simp only [Option.toList, List.nil_append]
  try simp (disch := first | decide | assumption | omega) only [ui_eq, ui_k, ui_j, ui_b, ui_2, ul_1, ul_eq, ul_k, ul_j, ul_b, qG_222, qG_223, qG_2, qG_2j, qG_0j, qG_5, qG_5j, qH_5, qG_6, qG_6j, qH_6, qG_7, qG_7j, qH_7, qG_8, qG_8j, qH_8, qG_9, qG_9j, qH_9, qG_10, qG_10j, qH_10, qH_0, SM_N, htc, z_1]
  refine a_iconst (v := 0) dX11_isAsGood_43 (by decide) ?_
  refine a_istore dX11_isAsGood_44 (by decide) rfl ?_
  dsimp only [lset]
  exact l11_ag46 0 (by omega) (fun _ q => absurd q (by omega)) (fun r h1 h2 => hQ _ _ (Or.inr ⟨hfit, us2, gv2, cm2, qu2, r, hS, rfl, rfl, h1, h2⟩))
theorem c11_isAsGood {l : Launch} {G : GG} {h : AH} {Q : Option Value → AH → Prop} {np nt : Nat} (hP : PW (h.1 3 2) np nt) {a b : Int32} {fr us gv cm qu st : Nat → Int32} {t : Nat} (ht : t < nt) {x y z : Int32} (hg : R6 np gv) (hx : x = -1 ∨ ∃ k, k < np ∧ x = nI k) (hQ : ∀ v h2, AGR h (h.1 3 2) np nt fr us gv cm qu st a b t x y z v h2 → Q v h2) : Ct l G 6 yX11_isAsGood cX11_isAsGood 6 (some .boolean) [.ref (G.1 3 0), .int (nI t), .int x, .int y, .int z] (qH (SM h a b) fr us gv cm qu st) Q := by
  refine Ct.of (by decide) (Nat.le_of_ble_eq_true rfl) ?_
  show AW l G 6 RX11 cX11_isAsGood 6 (some .boolean) 0 [some (.ref (G.1 3 0)), some (.int (nI t)), some (.int x), some (.int y), some (.int z)] [] (qH (SM h a b) fr us gv cm qu st) Q
  obtain ⟨hnp, hp6, hnt, ht40, hz, hTW, hCo⟩ := id hP
  obtain ⟨⟨q, hq8, hq⟩, ⟨m, hm6, hm⟩, -⟩ := hTW t ht
  have hkc : (0 : Nat) = 0 := rfl
  refine a_iload_n dX11_isAsGood_0 rfl ?_
  refine a_iconst (v := (-1)) dX11_isAsGood_1 (by decide) ?_
  refine a_icmp_eq dX11_isAsGood_2 (tgt := 25) (by decide) (fun c2 => ?_) (fun c2 => ?_)
  · have hfit : ∀ k, k < np → x = nI k → ¬ fitM (h.1 3 2) k t = 0 ∧ ¬ fr k ≤ 0 := fun k hk q => absurd (q.symm.trans c2) (m1_ne (by omega))
    exact l11_ag25 hP ht hg hx hfit hQ
  · obtain ⟨k, hk, rfl⟩ := hx.resolve_left c2
    have hkc : (nI k).toNatClampNeg = k := nI_clamp (by omega)
    refine a_aload_n dX11_isAsGood_5 rfl ?_
    refine a_iload_n dX11_isAsGood_6 rfl ?_
    refine a_iload_n dX11_isAsGood_7 rfl ?_
    refine a_cV2i dX11_isAsGood_8 ml_11_213 wv_11_isFit rfl rfl (by decide) (Nat.le_of_ble_eq_true rfl) (c11_isFit (h := qH (SM h a b) fr us gv cm qu st) (m := m) (q := q) (by omega) (by omega) (by rw [qG_2, SM_N]; exact hm) hm6 (by rw [qG_2, SM_N]; exact hq) hq8 ⟨rfl, rfl⟩) ?_
    try simp (disch := first | decide | assumption | omega) only [ui_eq, ui_k, ui_j, ui_b, ui_2, ul_1, ul_eq, ul_k, ul_j, ul_b, qG_222, qG_223, qG_2, qG_2j, qG_0j, qG_5, qG_5j, qH_5, qG_6, qG_6j, qH_6, qG_7, qG_7j, qH_7, qG_8, qG_8j, qH_8, qG_9, qG_9j, qH_9, qG_10, qG_10j, qH_10, qH_0, SM_N, hkc]
    refine a_if_eq dX11_isAsGood_11 (tgt := 23) (by decide) (fun c11 => ?_) (fun c11 => ?_)
    · refine a_iconst (v := 0) dX11_isAsGood_23 (by decide) ?_
      exact a_zret dX11_isAsGood_24 rfl rfl (hQ _ _ (Or.inl ⟨rfl, rfl, k, hk, rfl, by first | exact Or.inl c11 | exact Or.inr (i32_le c20)⟩))
    · refine a_aload_n dX11_isAsGood_14 rfl ?_
      refine a_getR (ci := 11) (j := 16) dX11_isAsGood_15 rfl rfl (by decide) rfl fl_11_81 ?_
      refine a_iload_n dX11_isAsGood_18 rfl ?_
      refine a_iaload dX11_isAsGood_19 rfl (vp_in_nI (show k < 6 by omega) (by decide)) ?_
      try simp (disch := first | decide | assumption | omega) only [ui_eq, ui_k, ui_j, ui_b, ui_2, ul_1, ul_eq, ul_k, ul_j, ul_b, qG_222, qG_223, qG_2, qG_2j, qG_0j, qG_5, qG_5j, qH_5, qG_6, qG_6j, qH_6, qG_7, qG_7j, qH_7, qG_8, qG_8j, qH_8, qG_9, qG_9j, qH_9, qG_10, qG_10j, qH_10, qH_0, SM_N, hkc]
      refine a_if_gt dX11_isAsGood_20 (tgt := 25) (by decide) (fun c20 => ?_) (fun c20 => ?_)
      · have hfit : ∀ k2, k2 < np → nI k = nI k2 → ¬ fitM (h.1 3 2) k2 t = 0 ∧ ¬ fr k2 ≤ 0 := fun k2 hk2 q => by
          have e := nI_inj (by omega) (by omega) q
          subst e
          exact ⟨c11, i32_nle c20⟩
        exact l11_ag25 hP ht hg hx hfit hQ
      · refine a_iconst (v := 0) dX11_isAsGood_23 (by decide) ?_
        exact a_zret dX11_isAsGood_24 rfl rfl (hQ _ _ (Or.inl ⟨rfl, rfl, k, hk, rfl, by first | exact Or.inl c11 | exact Or.inr (i32_le c20)⟩))
