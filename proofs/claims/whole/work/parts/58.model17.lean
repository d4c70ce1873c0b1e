theorem UU2 {N : Nat → Int32} {np nt : Nat} {g g1 : Nat → Int32} (hP : PW N np nt) (hw : wN N nt ≤ 8) (h1 : R6 np g) (h2 : R6 np g1) : (nI (srvN N nt g) = nI (srvN N nt g1) ∧ nI (scN N nt g) = nI (scN N nt g1)) ↔ UU N nt g = UU N nt g1 := by
  obtain ⟨-, hp6, -, h40, -⟩ := id hP
  have r1 : ∀ t, t < nt → mT N t 2 = 0 → g t = -1 ∨ ∃ k, k < np ∧ g t = nI k := fun t ht _ => h1 t (by omega)
  have r2 : ∀ t, t < nt → mT N t 2 = 0 → g1 t = -1 ∨ ∃ k, k < np ∧ g1 t = nI k := fun t ht _ => h2 t (by omega)
  rw [UU_inj hP hw r1 r2]
  have hcs : ∀ k, k < np → cst N k ≤ 99 := fun k hk => (cst_of hP hk).2
  have a := UU_eq hp6 hcs r1
  have b := UU_eq hp6 hcs r2
  constructor
  · intro e
    exact ⟨nI_inj (by omega) (by omega) e.1, nI_inj (by omega) (by omega) e.2⟩
  · intro e
    rw [e.1, e.2]
    exact ⟨rfl, rfl⟩
theorem ag_sum {h : AH} {N : Nat → Int32} {np nt : Nat} {fr us gv cm qu st g1 : Nat → Int32} {a b : Int32} {t k U1 : Nat} {v : Option Value} {h2 : AH} (hP : PW N np nt) (h0 : ∀ k, k < 6 → 0 ≤ (fr k).toInt) (hmin : ∀ g, FE N np nt fr g → U1 ≤ UU N nt g) (hg1 : R6 np g1) (hU1 : UU N nt g1 = U1) (hw8 : wN N nt ≤ 8) (ht : t < nt) (hw : mT N t 2 = 0) (hk : k < np) (hL : LI N np nt fr gv st U1 t) (hT : TR N np nt fr gv U1 t k)
    (hA : AGR h N np nt fr us gv cm qu st a b t (nI k) (nI (srvN N nt g1)) (nI (scN N nt g1)) v h2) :
    ∃ r a2 b2 us2 gv2 cm2 qu2 st2, v = some (.int r) ∧ h2 = qH (SM h a2 b2) fr us2 gv2 cm2 qu2 st2 ∧ (¬ r = 0 → LI N np nt fr gv2 st2 U1 (t + 1) ∧ a2 = nI (srvN N nt g1) ∧ b2 = nI (scN N nt g1)) ∧ (r = 0 → LI N np nt fr gv2 st2 U1 t ∧ TR N np nt fr gv2 U1 t (k + 1)) := by
  obtain ⟨-, hp6, -, h40, -⟩ := id hP
  rcases hA with ⟨e1, e2, k2, hk2, e3, e4⟩ | ⟨hfit, us2, gv2, cm2, qu2, r, hS, e1, e2, hr, hiff⟩
  · have := nI_inj (by omega) (by omega) e3
    subst this
    refine ⟨0, a, b, us, gv, cm, qu, st, e1, e2, fun z => absurd rfl z, fun _ => ⟨hL, ?_⟩⟩
    intro k' hk' g hg hU ha hgt
    by_cases e : k' = k
    · subst e
      rcases hg.1 t ht hw with z | ⟨k3, hk3, z, z1, z2⟩
      · exact m1_ne (by omega) (hgt.symm.trans z)
      · have := nI_inj (by omega) (by omega) (hgt.symm.trans z)
        subst this
        rcases e4 with q | q
        · exact z2 q
        · exact z1 q
    · exact hT k' (by omega) g hg hU ha hgt
  · have hx : VC N np fr (upd gv t (nI k)) t := Or.inr ⟨k, hk, up_eq, (hfit k hk rfl).2, (hfit k hk rfl).1⟩
    have hu : (nI (srvN N nt gv2) = nI (srvN N nt g1) ∧ nI (scN N nt gv2) = nI (scN N nt g1)) ↔ UU N nt gv2 = U1 := by rw [← hU1]; exact UU2 hP hw8 hS.1.1 hg1
    rw [hu] at hiff
    refine ⟨r, _, _, us2, gv2, cm2, qu2, upd st t 1, e1, e2, fun z => ?_, fun z => ?_⟩
    · obtain ⟨z1, z2⟩ := hiff.mp z
      have z3 := hu.mpr z2
      exact ⟨ag_yes hP hL ht hw hk hx hS hT z1 z2, z3.1, z3.2⟩
    · exact ag_no hP hL ht hx hS hT h0 hmin (fun q => hiff.mpr q z)
theorem ag_sumN {h : AH} {N : Nat → Int32} {np nt : Nat} {fr us gv cm qu st g1 : Nat → Int32} {a b : Int32} {t U1 : Nat} {v : Option Value} {h2 : AH} (hP : PW N np nt) (hmin : ∀ g, FE N np nt fr g → U1 ≤ UU N nt g) (hg1 : R6 np g1) (hU1 : UU N nt g1 = U1) (hw8 : wN N nt ≤ 8) (ht : t < nt) (hw : mT N t 2 = 0) (hL : LI N np nt fr gv st U1 t) (hT : TR N np nt fr gv U1 t np)
    (hA : AGR h N np nt fr us gv cm qu st a b t (-1) (nI (srvN N nt g1)) (nI (scN N nt g1)) v h2) :
    ∃ r us2 gv2 cm2 qu2 st2, v = some (.int r) ∧ h2 = qH (SM h (nI (srvN N nt g1)) (nI (scN N nt g1))) fr us2 gv2 cm2 qu2 st2 ∧ LI N np nt fr gv2 st2 U1 (t + 1) := by
  obtain ⟨-, hp6, -, h40, -⟩ := id hP
  rcases hA with ⟨e1, e2, k2, hk2, e3, e4⟩ | ⟨hfit, us2, gv2, cm2, qu2, r, hS, e1, e2, hr, hiff⟩
  · exact absurd e3.symm (m1_ne (by omega))
  · obtain ⟨z1, z2⟩ := ag_none hP hL ht hw hS hT hmin
    have z3 := (UU2 hP hw8 hS.1.1 hg1).mpr (z2.trans hU1.symm)
    rw [z3.1, z3.2] at e2
    exact ⟨r, us2, gv2, cm2, qu2, upd st t 1, e1, e2, z1⟩
theorem FE_congr {N : Nat → Int32} {np nt : Nat} {fr fr2 g : Nat → Int32} (h : ∀ k, k < np → fr2 k = fr k) (hg : FE N np nt fr g) : FE N np nt fr2 g := by
  refine ⟨fun t ht hw => ?_, fun k hk => by rw [h k hk]; exact hg.2 k hk⟩
  rcases hg.1 t ht hw with z | ⟨k, hk, z, z1, z2⟩
  · exact Or.inl z
  · exact Or.inr ⟨k, hk, z, by rw [h k hk]; exact z1, z2⟩
theorem LR_congr {N : Nat → Int32} {np nt : Nat} {fr fr2 g : Nat → Int32} (h : ∀ k, k < np → fr2 k = fr k) (hg : LR N np nt fr g) : LR N np nt fr2 g := by
  have h' : ∀ k, k < np → fr k = fr2 k := fun k hk => (h k hk).symm
  exact ⟨FE_congr h hg.1, fun g' hg' => hg.2.1 g' (FE_congr h' hg'), fun t0 h1 h2 g' hg' => hg.2.2 t0 h1 h2 g' (FE_congr h' hg')⟩
/-- a best plan -/
def MR (N : Nat → Int32) (np nt : Nat) (fr gv : Nat → Int32) : Prop := FE N np nt fr gv ∧ ∀ g, FE N np nt fr g → UU N nt gv ≤ UU N nt g
theorem MR_congr {N : Nat → Int32} {np nt : Nat} {fr fr2 g : Nat → Int32} (h : ∀ k, k < np → fr2 k = fr k) (hg : MR N np nt fr g) : MR N np nt fr2 g :=
  ⟨FE_congr h hg.1, fun g' hg' => hg.2 g' (FE_congr (fun k hk => (h k hk).symm) hg')⟩
theorem SVR_MR {N : Nat → Int32} {np nt : Nat} {fr us gv st gv0 : Nat → Int32} (hP : PW N np nt) (h0 : ∀ k, k < 6 → 0 ≤ (fr k).toInt) (hst : ∀ t, t < nt → st t = 0) (hS : SVR N np nt fr us gv st gv0) : MR N np nt fr gv := by
  obtain ⟨-, hp6, -, h40, -⟩ := id hP
  have hn : ∀ t, t < nt → mT N t 2 = 0 → ¬ st t = 0 → False := fun t ht _ z => z (hst t ht)
  have hfe : FE N np nt fr (fun _ => -1) := by
    refine ⟨fun t _ _ => Or.inl rfl, fun k hk => ?_⟩
    have : ldN N nt (fun _ => -1) k = 0 := sN_0 (fun t _ => if_neg (fun z => m1_ne (by omega) z.2.symm))
    rw [this]
    exact h0 k (by omega)
  exact ⟨hS.fe hP (fun t h1 h2 h3 => (hn t h1 h2 h3).elim) hfe (fun t h1 h2 h3 => (hn t h1 h2 h3).elim), fun g hg => hS.opt hP hg (fun t h1 h2 h3 => (hn t h1 h2 h3).elim)⟩
theorem LI_0 {N : Nat → Int32} {np nt : Nat} {fr gv st : Nat → Int32} (hr : R6 np gv) (hst : ∀ t, t < nt → st t = 0) (hM : MR N np nt fr gv) : LI N np nt fr gv st (UU N nt gv) 0 :=
  ⟨hr, fun _ z => absurd z (by omega), ⟨gv, hM.1, rfl, fun _ _ _ _ => rfl⟩, fun _ z => absurd z (by omega), fun t h1 _ _ => ⟨fun _ => Nat.zero_le _, fun _ => hst t h1⟩⟩
theorem l11_lp49 {l : Launch} {G : GG} {h : AH} {Q : Option Value → AH → Prop} {np nt : Nat} (hP : PW (h.1 3 2) np nt) {fr g1 : Nat → Int32} {U1 : Nat} (h0 : ∀ k, k < 6 → 0 ≤ (fr k).toInt) (hmin : ∀ g, FE (h.1 3 2) np nt fr g → U1 ≤ UU (h.1 3 2) nt g) (hg1 : R6 np g1) (hU1 : UU (h.1 3 2) nt g1 = U1) (hw8 : wN (h.1 3 2) nt ≤ 8) {t : Nat} (ht : t < nt) (hw : mT (h.1 3 2) t 2 = 0) (k : Nat) (hk : k ≤ np) (us gv cm qu st : Nat → Int32) (a b : Int32) (hL : LI (h.1 3 2) np nt fr gv st U1 t) (hT : TR (h.1 3 2) np nt fr gv U1 t k) (hE : ∀ us gv cm qu st, LI (h.1 3 2) np nt fr gv st U1 (t + 1) → AW l G 7 RX11 cX11_laysPlan 5 none 98 [some (.ref (G.1 3 0)), some (.int (nI (srvN (h.1 3 2) nt g1))), some (.int (nI (scN (h.1 3 2) nt g1))), some (.int (nI t))] [] (qH (SM h (nI (srvN (h.1 3 2) nt g1)) (nI (scN (h.1 3 2) nt g1))) fr us gv cm qu st) Q) : AW l G 7 RX11 cX11_laysPlan 5 none 49 [some (.ref (G.1 3 0)), some (.int (nI (srvN (h.1 3 2) nt g1))), some (.int (nI (scN (h.1 3 2) nt g1))), some (.int (nI t)), some (.int (nI k))] [] (qH (SM h a b) fr us gv cm qu st) Q := by
  obtain ⟨hnp, hp6, hnt, ht40, hz, hTW, hCo⟩ := id hP
  refine a_iload dX11_laysPlan_49 rfl ?_
  refine a_aload_n dX11_laysPlan_51 rfl ?_
  refine a_getR (ci := 11) (j := 11) dX11_laysPlan_52 rfl rfl (by decide) rfl fl_11_72 ?_
  refine a_iconst (v := 3) dX11_laysPlan_55 (by decide) ?_
  refine a_iaload dX11_laysPlan_56 rfl (by rw [vp_in_iff]; decide) ?_
  try simp (disch := first | decide | assumption | omega) only [ui_eq, ui_k, ui_j, ui_b, ui_2, ul_1, ul_eq, ul_k, ul_j, ul_b, qG_222, qG_223, qG_2, qG_2j, qG_0j, qG_5, qG_5j, qH_5, qG_6, qG_6j, qH_6, qG_7, qG_7j, qH_7, qG_8, qG_8j, qH_8, qG_9, qG_9j, qH_9, qG_10, qG_10j, qH_10, qH_0, SM_N, hnp, cl3]
  refine a_icmp_ge dX11_laysPlan_57 (tgt := 78) (by decide) (fun c57 => ?_) (fun c57 => ?_)
  · have hge : np ≤ k := le_of_le c57 (by omega) (by omega)
    have hie : np = k := by omega
    subst hie
    refine a_iload dX11_laysPlan_78 rfl ?_
    refine a_aload_n dX11_laysPlan_80 rfl ?_
    refine a_getR (ci := 11) (j := 11) dX11_laysPlan_81 rfl rfl (by decide) rfl fl_11_72 ?_
    refine a_iconst (v := 3) dX11_laysPlan_84 (by decide) ?_
    refine a_iaload dX11_laysPlan_85 rfl (by rw [vp_in_iff]; decide) ?_
    try simp (disch := first | decide | assumption | omega) only [ui_eq, ui_k, ui_j, ui_b, ui_2, ul_1, ul_eq, ul_k, ul_j, ul_b, qG_222, qG_223, qG_2, qG_2j, qG_0j, qG_5, qG_5j, qH_5, qG_6, qG_6j, qH_6, qG_7, qG_7j, qH_7, qG_8, qG_8j, qH_8, qG_9, qG_9j, qH_9, qG_10, qG_10j, qH_10, qH_0, SM_N, hnp, cl3]
    refine a_icmp_ne dX11_laysPlan_86 (tgt := 98) (by decide) (fun c86 => ?_) (fun c86 => ?_)
    · exact absurd rfl c86
    · refine a_aload_n dX11_laysPlan_89 rfl ?_
      refine a_iload_n dX11_laysPlan_90 rfl ?_
      refine a_iconst (v := (-1)) dX11_laysPlan_91 (by decide) ?_
      refine a_iload_n dX11_laysPlan_92 rfl ?_
      refine a_iload_n dX11_laysPlan_93 rfl ?_
      refine a_cV4 dX11_laysPlan_94 ml_11_240 wv_11_isAsGood rfl rfl (by decide) (Nat.le_of_ble_eq_true rfl) (c11_isAsGood (Q := AGR h (h.1 3 2) np nt fr us gv cm qu st a b t (-1) (nI (srvN (h.1 3 2) nt g1)) (nI (scN (h.1 3 2) nt g1))) hP ht hL.1 (Or.inl rfl) (fun _ _ z => z)) (fun v94 h94 p94 => ?_)
      obtain ⟨r, us2, gv2, cm2, qu2, st2, rfl, rfl, hY⟩ := ag_sumN hP hmin hg1 hU1 hw8 ht hw hL hT p94
      simp only [Option.toList, List.cons_append, List.nil_append]
      try simp (disch := first | decide | assumption | omega) only [ui_eq, ui_k, ui_j, ui_b, ui_2, ul_1, ul_eq, ul_k, ul_j, ul_b, qG_222, qG_223, qG_2, qG_2j, qG_0j, qG_5, qG_5j, qH_5, qG_6, qG_6j, qH_6, qG_7, qG_7j, qH_7, qG_8, qG_8j, qH_8, qG_9, qG_9j, qH_9, qG_10, qG_10j, qH_10, qH_0, SM_N, hnp, cl3]
      refine a_pop dX11_laysPlan_97 rfl ?_
      refine a_take 4 ?_
      dsimp only [List.take]
      exact hE _ _ _ _ _ hY
  · have hlt : k < np := lt_of_nle c57 (by omega) (by omega)
    refine a_aload_n dX11_laysPlan_60 rfl ?_
    refine a_iload_n dX11_laysPlan_61 rfl ?_
    refine a_iload dX11_laysPlan_62 rfl ?_
    refine a_iload_n dX11_laysPlan_64 rfl ?_
    refine a_iload_n dX11_laysPlan_65 rfl ?_
    refine a_cV4 dX11_laysPlan_66 ml_11_240 wv_11_isAsGood rfl rfl (by decide) (Nat.le_of_ble_eq_true rfl) (c11_isAsGood (Q := AGR h (h.1 3 2) np nt fr us gv cm qu st a b t (nI k) (nI (srvN (h.1 3 2) nt g1)) (nI (scN (h.1 3 2) nt g1))) hP ht hL.1 (Or.inr ⟨k, hlt, rfl⟩) (fun _ _ z => z)) (fun v66 h66 p66 => ?_)
    obtain ⟨r, a2, b2, us2, gv2, cm2, qu2, st2, rfl, rfl, hA1, hA2⟩ := ag_sum hP h0 hmin hg1 hU1 hw8 ht hw hlt hL hT p66
    simp only [Option.toList, List.cons_append, List.nil_append]
    try simp (disch := first | decide | assumption | omega) only [ui_eq, ui_k, ui_j, ui_b, ui_2, ul_1, ul_eq, ul_k, ul_j, ul_b, qG_222, qG_223, qG_2, qG_2j, qG_0j, qG_5, qG_5j, qH_5, qG_6, qG_6j, qH_6, qG_7, qG_7j, qH_7, qG_8, qG_8j, qH_8, qG_9, qG_9j, qH_9, qG_10, qG_10j, qH_10, qH_0, SM_N, hnp, cl3]
    refine a_if_ne dX11_laysPlan_69 (tgt := 78) (by decide) (fun c69 => ?_) (fun c69 => ?_)
    · obtain ⟨hY, rfl, rfl⟩ := hA1 c69
      refine a_iload dX11_laysPlan_78 rfl ?_
      refine a_aload_n dX11_laysPlan_80 rfl ?_
      refine a_getR (ci := 11) (j := 11) dX11_laysPlan_81 rfl rfl (by decide) rfl fl_11_72 ?_
      refine a_iconst (v := 3) dX11_laysPlan_84 (by decide) ?_
      refine a_iaload dX11_laysPlan_85 rfl (by rw [vp_in_iff]; decide) ?_
      try simp (disch := first | decide | assumption | omega) only [ui_eq, ui_k, ui_j, ui_b, ui_2, ul_1, ul_eq, ul_k, ul_j, ul_b, qG_222, qG_223, qG_2, qG_2j, qG_0j, qG_5, qG_5j, qH_5, qG_6, qG_6j, qH_6, qG_7, qG_7j, qH_7, qG_8, qG_8j, qH_8, qG_9, qG_9j, qH_9, qG_10, qG_10j, qH_10, qH_0, SM_N, hnp, cl3]
      refine a_icmp_ne dX11_laysPlan_86 (tgt := 98) (by decide) (fun c86v2 => ?_) (fun c86v2 => ?_)
      · refine a_take 4 ?_
        dsimp only [List.take]
        exact hE _ _ _ _ _ hY
      · exact absurd (nI_inj (by omega) (by omega) c86v2) (by omega)
    · obtain ⟨hL2, hT2⟩ := hA2 c69
      refine a_inc (c := 1) dX11_laysPlan_72 rfl (by decide) (by decide) rfl ?_
      dsimp only [lset]
      refine a_goto dX11_laysPlan_75 (tgt := 49) (by decide) ?_
      rw [nI_1]
      exact l11_lp49 hP h0 hmin hg1 hU1 hw8 ht hw (k + 1) (by omega) _ _ _ _ _ _ _ hL2 hT2 hE
termination_by np - k
decreasing_by all_goals omega
theorem l11_lp24 {l : Launch} {G : GG} {h : AH} {Q : Option Value → AH → Prop} {np nt : Nat} (hP : PW (h.1 3 2) np nt) {fr g1 : Nat → Int32} {U1 : Nat} (h0 : ∀ k, k < 6 → 0 ≤ (fr k).toInt) (hmin : ∀ g, FE (h.1 3 2) np nt fr g → U1 ≤ UU (h.1 3 2) nt g) (hg1 : R6 np g1) (hU1 : UU (h.1 3 2) nt g1 = U1) (hw8 : wN (h.1 3 2) nt ≤ 8) (t : Nat) (ht : t ≤ nt) (us gv cm qu st : Nat → Int32) (hL : LI (h.1 3 2) np nt fr gv st U1 t) (hQ : ∀ us2 gv2 cm2 qu2 st2, LR (h.1 3 2) np nt fr gv2 → R6 np gv2 → Q none (qH (SM h (nI (srvN (h.1 3 2) nt gv2)) (nI (scN (h.1 3 2) nt gv2))) fr us2 gv2 cm2 qu2 st2)) : AW l G 7 RX11 cX11_laysPlan 5 none 24 [some (.ref (G.1 3 0)), some (.int (nI (srvN (h.1 3 2) nt g1))), some (.int (nI (scN (h.1 3 2) nt g1))), some (.int (nI t))] [] (qH (SM h (nI (srvN (h.1 3 2) nt g1)) (nI (scN (h.1 3 2) nt g1))) fr us gv cm qu st) Q := by
  obtain ⟨hnp, hp6, hnt, ht40, hz, hTW, hCo⟩ := id hP
  refine a_iload_n dX11_laysPlan_24 rfl ?_
  refine a_aload_n dX11_laysPlan_25 rfl ?_
  refine a_getR (ci := 11) (j := 11) dX11_laysPlan_26 rfl rfl (by decide) rfl fl_11_72 ?_
  refine a_iconst (v := 5) dX11_laysPlan_29 (by decide) ?_
  refine a_iaload dX11_laysPlan_30 rfl (by rw [vp_in_iff]; decide) ?_
  try simp (disch := first | decide | assumption | omega) only [ui_eq, ui_k, ui_j, ui_b, ui_2, ul_1, ul_eq, ul_k, ul_j, ul_b, qG_222, qG_223, qG_2, qG_2j, qG_0j, qG_5, qG_5j, qH_5, qG_6, qG_6j, qH_6, qG_7, qG_7j, qH_7, qG_8, qG_8j, qH_8, qG_9, qG_9j, qH_9, qG_10, qG_10j, qH_10, qH_0, SM_N, hnt, cl5]
  refine a_icmp_ge dX11_laysPlan_31 (tgt := 104) (by decide) (fun c31 => ?_) (fun c31 => ?_)
  · have hge : nt ≤ t := le_of_le c31 (by omega) (by omega)
    have hie : nt = t := by omega
    subst hie
    exact a_vret dX11_laysPlan_104 rfl (by
  obtain ⟨hR, hU⟩ := hL.fin hmin
  have e := (UU2 hP hw8 hL.1 hg1).mpr (hU.trans hU1.symm)
  rw [← e.1, ← e.2]
  exact hQ _ _ _ _ _ hR hL.1)
  · have hlt : t < nt := lt_of_nle c31 (by omega) (by omega)
    refine a_aload_n dX11_laysPlan_34 rfl ?_
    refine a_iload_n dX11_laysPlan_35 rfl ?_
    refine a_iconst (v := 2) dX11_laysPlan_36 (by decide) ?_
    refine a_cV2i dX11_laysPlan_37 ml_11_160 wv_11_its rfl rfl (by decide) (Nat.le_of_ble_eq_true rfl) (c11_its (t := t) (w := 2) (by omega) (by decide) ⟨rfl, rfl⟩) ?_
    try simp (disch := first | decide | assumption | omega) only [ui_eq, ui_k, ui_j, ui_b, ui_2, ul_1, ul_eq, ul_k, ul_j, ul_b, qG_222, qG_223, qG_2, qG_2j, qG_0j, qG_5, qG_5j, qH_5, qG_6, qG_6j, qH_6, qG_7, qG_7j, qH_7, qG_8, qG_8j, qH_8, qG_9, qG_9j, qH_9, qG_10, qG_10j, qH_10, qH_0, SM_N, hnt, cl5]
    refine a_if_eq dX11_laysPlan_40 (tgt := 46) (by decide) (fun c40 => ?_) (fun c40 => ?_)
    · refine a_iconst (v := 0) dX11_laysPlan_46 (by decide) ?_
      refine a_istore dX11_laysPlan_47 (by decide) rfl ?_
      dsimp only [lset]
      refine l11_lp49 hP h0 hmin hg1 hU1 hw8 hlt c40 0 (by omega) us gv cm qu st _ _ hL (fun _ z => absurd z (by omega)) (fun us2 gv2 cm2 qu2 st2 hL2 => ?_)
      refine a_inc (c := 1) dX11_laysPlan_98 rfl (by decide) (by decide) rfl ?_
      dsimp only [lset]
      refine a_goto dX11_laysPlan_101 (tgt := 24) (by decide) ?_
      rw [nI_1]
      first
        | exact l11_lp24 hP h0 hmin hg1 hU1 hw8 (t + 1) (by omega) _ _ _ _ _ hL2 hQ
        | exact l11_lp24 hP h0 hmin hg1 hU1 hw8 (t + 1) (by omega) _ _ _ _ _ (hL.skip c40) hQ
    · refine a_goto dX11_laysPlan_43 (tgt := 98) (by decide) ?_
      refine a_inc (c := 1) dX11_laysPlan_98 rfl (by decide) (by decide) rfl ?_
      dsimp only [lset]
      refine a_goto dX11_laysPlan_101 (tgt := 24) (by decide) ?_
      rw [nI_1]
      first
        | exact l11_lp24 hP h0 hmin hg1 hU1 hw8 (t + 1) (by omega) _ _ _ _ _ hL2 hQ
        | exact l11_lp24 hP h0 hmin hg1 hU1 hw8 (t + 1) (by omega) _ _ _ _ _ (hL.skip c40) hQ
termination_by nt - t
decreasing_by all_goals omega
theorem mfr_0 {N : Nat → Int32} {np nt : Nat} {fr : Nat → Int32} (hf0 : ∀ k, k < np → 0 ≤ (mFree N nt k).toInt) : ∀ k, k < 6 → 0 ≤ (filG (mfr N np nt) fr 6 k).toInt := by
  intro k hk
  rw [show filG (mfr N np nt) fr 6 k = mfr N np nt k from if_pos hk]
  unfold mfr
  split
  · exact hf0 k (by assumption)
  · exact Int.le_refl 0
theorem R6_n {np : Nat} {gv : Nat → Int32} : R6 np (filG (fun _ => -1) gv 40) := fun t ht => Or.inl (if_pos ht)
theorem c11_laysPlan {l : Launch} {G : GG} {h : AH} {Q : Option Value → AH → Prop} {np nt : Nat} (hP : PW (h.1 3 2) np nt) (hf0 : ∀ k, k < np → 0 ≤ (mFree (h.1 3 2) nt k).toInt) (hw8 : wN (h.1 3 2) nt ≤ 8) {a b : Int32} {fr us gv cm qu st : Nat → Int32} (hQ : ∀ us2 gv2 cm2 qu2 st2, LR (h.1 3 2) np nt (filG (mfr (h.1 3 2) np nt) fr 6) gv2 → R6 np gv2 → Q none (qH (SM h (nI (srvN (h.1 3 2) nt gv2)) (nI (scN (h.1 3 2) nt gv2))) (filG (mfr (h.1 3 2) np nt) fr 6) us2 gv2 cm2 qu2 st2)) : Ct l G 7 yX11_laysPlan cX11_laysPlan 5 none [.ref (G.1 3 0)] (qH (SM h a b) fr us gv cm qu st) Q := by
  refine Ct.of (by decide) (Nat.le_of_ble_eq_true rfl) ?_
  show AW l G 7 RX11 cX11_laysPlan 5 none 0 [some (.ref (G.1 3 0))] [] (qH (SM h a b) fr us gv cm qu st) Q
  obtain ⟨hnp, hp6, hnt, ht40, hz, hTW, hCo⟩ := id hP
  refine a_aload_n dX11_laysPlan_0 rfl ?_
  refine a_cV0v dX11_laysPlan_1 ml_11_234 wv_11_laysFree rfl rfl (by decide) (Nat.le_of_ble_eq_true rfl) (c11_laysFree hP ⟨rfl, rfl⟩) ?_
  try simp (disch := first | decide | assumption | omega) only [ui_eq, ui_k, ui_j, ui_b, ui_2, ul_1, ul_eq, ul_k, ul_j, ul_b, qG_222, qG_223, qG_2, qG_2j, qG_0j, qG_5, qG_5j, qH_5, qG_6, qG_6j, qH_6, qG_7, qG_7j, qH_7, qG_8, qG_8j, qH_8, qG_9, qG_9j, qH_9, qG_10, qG_10j, qH_10, qH_0, SM_N]
  refine a_aload_n dX11_laysPlan_4 rfl ?_
  refine a_cV0v dX11_laysPlan_5 ml_11_237 wv_11_opensAll rfl rfl (by decide) (Nat.le_of_ble_eq_true rfl) (c11_opensAll ⟨rfl, rfl⟩) ?_
  try simp (disch := first | decide | assumption | omega) only [ui_eq, ui_k, ui_j, ui_b, ui_2, ul_1, ul_eq, ul_k, ul_j, ul_b, qG_222, qG_223, qG_2, qG_2j, qG_0j, qG_5, qG_5j, qH_5, qG_6, qG_6j, qH_6, qG_7, qG_7j, qH_7, qG_8, qG_8j, qH_8, qG_9, qG_9j, qH_9, qG_10, qG_10j, qH_10, qH_0, SM_N]
  refine a_aload_n dX11_laysPlan_8 rfl ?_
  refine a_cV0 dX11_laysPlan_9 ml_11_231 wv_11_serves rfl rfl (by decide) (Nat.le_of_ble_eq_true rfl) (c11_servesS (Q := fun v h2 => ∃ us2 gv2 cm2 qu2, SVR (h.1 3 2) np nt (filG (mfr (h.1 3 2) np nt) fr 6) us2 gv2 (filG (fun _ => 0) st 40) (filG (fun _ => -1) gv 40) ∧ v = none ∧ h2 = qH (SM h (nI (srvN (h.1 3 2) nt gv2)) (nI (scN (h.1 3 2) nt gv2))) (filG (mfr (h.1 3 2) np nt) fr 6) us2 gv2 cm2 qu2 (filG (fun _ => 0) st 40)) hP R6_n (fun us2 gv2 cm2 qu2 hS => ⟨us2, gv2, cm2, qu2, hS, rfl, rfl⟩)) (fun v9 h9 p9 => ?_)
  obtain ⟨us1, g1, cm1, qu1, hS, rfl, rfl⟩ := p9
  simp only [Option.toList, List.nil_append]
  try simp (disch := first | decide | assumption | omega) only [ui_eq, ui_k, ui_j, ui_b, ui_2, ul_1, ul_eq, ul_k, ul_j, ul_b, qG_222, qG_223, qG_2, qG_2j, qG_0j, qG_5, qG_5j, qH_5, qG_6, qG_6j, qH_6, qG_7, qG_7j, qH_7, qG_8, qG_8j, qH_8, qG_9, qG_9j, qH_9, qG_10, qG_10j, qH_10, qH_0, SM_N]
  refine a_aload_n dX11_laysPlan_12 rfl ?_
  refine a_getI (ci := 11) (j := 22) dX11_laysPlan_13 rfl rfl (by decide) rfl fl_11_225 ?_
  try simp (disch := first | decide | assumption | omega) only [ui_eq, ui_k, ui_j, ui_b, ui_2, ul_1, ul_eq, ul_k, ul_j, ul_b, qG_222, qG_223, qG_2, qG_2j, qG_0j, qG_5, qG_5j, qH_5, qG_6, qG_6j, qH_6, qG_7, qG_7j, qH_7, qG_8, qG_8j, qH_8, qG_9, qG_9j, qH_9, qG_10, qG_10j, qH_10, qH_0, SM_N]
  refine a_istore_n dX11_laysPlan_16 (by decide) rfl ?_
  dsimp only [lset]
  refine a_aload_n dX11_laysPlan_17 rfl ?_
  refine a_getI (ci := 11) (j := 23) dX11_laysPlan_18 rfl rfl (by decide) rfl fl_11_228 ?_
  try simp (disch := first | decide | assumption | omega) only [ui_eq, ui_k, ui_j, ui_b, ui_2, ul_1, ul_eq, ul_k, ul_j, ul_b, qG_222, qG_223, qG_2, qG_2j, qG_0j, qG_5, qG_5j, qH_5, qG_6, qG_6j, qH_6, qG_7, qG_7j, qH_7, qG_8, qG_8j, qH_8, qG_9, qG_9j, qH_9, qG_10, qG_10j, qH_10, qH_0, SM_N]
  refine a_istore_n dX11_laysPlan_21 (by decide) rfl ?_
  dsimp only [lset]
  refine a_iconst (v := 0) dX11_laysPlan_22 (by decide) ?_
  refine a_istore_n dX11_laysPlan_23 (by decide) rfl ?_
  dsimp only [lset]
  have hst : ∀ t, t < nt → filG (fun _ => (0 : Int32)) st 40 t = 0 := fun t ht => if_pos (by omega)
  have hM := SVR_MR hP (mfr_0 hf0) hst hS
  exact l11_lp24 (g1 := g1) hP (mfr_0 hf0) hM.2 hS.1.1 rfl hw8 0 (by omega) _ _ _ _ _ (LI_0 hS.1.1 hst hM) hQ
