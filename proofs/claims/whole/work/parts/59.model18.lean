theorem qS_self {h : AH} : qH (SM h (h.1 3 0 22) (h.1 3 0 23)) (h.1 3 5) (h.1 3 6) (h.1 3 7) (h.1 3 8) (h.1 3 9) (h.1 3 10) = h := by
  rw [SM_self]
  exact qH_self
def PP (N : Nat → Int32) (np nt : Nat) : Prop := PW N np nt ∧ (∀ k, k < np → 0 ≤ (mFree N nt k).toInt) ∧ wN N nt ≤ 8
def LPR (h : AH) (np nt : Nat) (v : Option Value) (h2 : AH) : Prop := v = none ∧ ∃ fr us gv cm qu st, h2 = qH (SM h (nI (srvN (h.1 3 2) nt gv)) (nI (scN (h.1 3 2) nt gv))) fr us gv cm qu st ∧ LR (h.1 3 2) np nt (mfr (h.1 3 2) np nt) gv ∧ R6 np gv
theorem c11_laysPlanH {l : Launch} {G : GG} {h : AH} {Q : Option Value → AH → Prop} {np nt : Nat} (hP : PP (h.1 3 2) np nt) (hQ : ∀ v h2, LPR h np nt v h2 → Q v h2) : Ct l G 7 yX11_laysPlan cX11_laysPlan 5 none [.ref (G.1 3 0)] h Q := by
  have hp6 := hP.1.2.1
  have e := c11_laysPlan (l := l) (G := G) (h := h) (a := h.1 3 0 22) (b := h.1 3 0 23) (fr := h.1 3 5) (us := h.1 3 6) (gv := h.1 3 7) (cm := h.1 3 8) (qu := h.1 3 9) (st := h.1 3 10) (Q := Q) hP.1 hP.2.1 hP.2.2 (fun us2 gv2 cm2 qu2 st2 hR h6 => hQ _ _ ⟨rfl, _, us2, gv2, cm2, qu2, st2, rfl, LR_congr (fun k hk => (if_pos (by omega) : filG (mfr (h.1 3 2) np nt) (h.1 3 5) 6 k = mfr (h.1 3 2) np nt k).symm) hR, h6⟩)
  rw [qS_self] at e
  exact e
def plOk (N : Nat → Int32) (nt : Nat) (x : Int32) : Prop := ¬ isInF x 0 1 = 0 ∨ (¬ x < 10 ∧ ¬ hasI (nI nt) (x - 10) = 0 ∧ mT N (x - 10).toNatClampNeg 2 = 0)
def plV (N : Nat → Int32) (nt : Nat) (gv : Nat → Int32) (x : Int32) : Int32 := if x = 0 then nI (srvN N nt gv) else if x = 1 then nI (scN N nt gv) else gv (x - 10).toNatClampNeg
theorem c11_plan {l : Launch} {G : GG} {h : AH} {Q : Option Value → AH → Prop} {nl np nq nt sm : Nat} (hW : WM h nl np nq nt sm) {x : Int32} (hPP : PP (h.1 3 2) np nt) (hQ1 : ¬ plOk (h.1 3 2) nt x → Q (some (.int (-1))) (ui h 3 0 0 0)) (hQ2 : plOk (h.1 3 2) nt x → ∀ fr us gv cm qu st, LR (h.1 3 2) np nt (mfr (h.1 3 2) np nt) gv → R6 np gv → Q (some (.int (plV (h.1 3 2) nt gv x))) (qH (SM (ui h 3 0 0 0) (nI (srvN (h.1 3 2) nt gv)) (nI (scN (h.1 3 2) nt gv))) fr us gv cm qu st)) : Ct l G 8 yX11_plan cX11_plan 2 (some .int) [.ref (G.1 3 0), .int x] h Q := by
  refine Ct.of (by decide) (Nat.le_of_ble_eq_true rfl) ?_
  show AW l G 8 RX11 cX11_plan 2 (some .int) 0 [some (.ref (G.1 3 0)), some (.int x)] [] h Q
  have hW0 := hW.th (v := 0)
  obtain ⟨hnl, hl8, hnp, hp6, hnq, hq8, hnt, ht40, hsm, hsm10, hz, hT⟩ := id hW0
  obtain ⟨gnl, -, gnp, -, gnq, -, gnt, -, gsm, -, gz, gT⟩ := id hW
  have hPP0 : PP ((ui h 3 0 0 0).1 3 2) np nt := by rw [N_k (by decide)]; exact hPP
  have htc : (0 : Nat) = 0 := rfl
  refine a_aload_n dX11_plan_0 rfl ?_
  refine a_iconst (v := 0) dX11_plan_1 (by decide) ?_
  refine a_putI (ci := 11) (j := 0) dX11_plan_2 rfl rfl (by decide) (by decide) rfl fl_11_1 ?_
  refine a_iload_n dX11_plan_5 rfl ?_
  refine a_iconst (v := 0) dX11_plan_6 (by decide) ?_
  refine a_iconst (v := 1) dX11_plan_7 (by decide) ?_
  refine a_cS3i dX11_plan_8 ml_11_106 ws_11_isIn (by decide) (Nat.le_of_ble_eq_true rfl) (c11_isIn ⟨rfl, rfl⟩) ?_
  try simp (disch := first | decide | assumption | omega) only [ui_eq, ui_k, ui_j, ui_b, ui_2, ul_1, ul_eq, ul_k, ul_j, ul_b, N_k, gnl, gnp, gnq, gnt, gsm, cl0, cl1, cl2, cl3, cl4, cl5, cl6, cl7, cl8, cl9, cl10, qG_222, qG_223, qG_2, qG_2j, qG_0j, qG_5, qG_5j, qH_5, qG_6, qG_6j, qH_6, qG_7, qG_7j, qH_7, qG_8, qG_8j, qH_8, qG_9, qG_9j, qH_9, qG_10, qG_10j, qH_10, qH_0, SM_N, htc]
  refine a_if_ne dX11_plan_11 (tgt := 45) (by decide) (fun c11 => ?_) (fun c11 => ?_)
  · have hok : plOk (h.1 3 2) nt x := Or.inl c11
    refine a_aload_n dX11_plan_45 rfl ?_
    refine a_cV0 dX11_plan_46 ml_11_244 wv_11_laysPlan rfl rfl (by decide) (Nat.le_of_ble_eq_true rfl) (c11_laysPlanH (Q := LPR (ui h 3 0 0 0) np nt) hPP0 (fun _ _ z => z)) (fun v46 h46 p46 => ?_)
    obtain ⟨rfl, fr, us, gv, cm, qu, st, rfl, hR, h6⟩ := p46
    rw [N_k (by decide)] at hR ⊢
    simp only [Option.toList, List.nil_append]
    try simp (disch := first | decide | assumption | omega) only [ui_eq, ui_k, ui_j, ui_b, ui_2, ul_1, ul_eq, ul_k, ul_j, ul_b, N_k, gnl, gnp, gnq, gnt, gsm, cl0, cl1, cl2, cl3, cl4, cl5, cl6, cl7, cl8, cl9, cl10, qG_222, qG_223, qG_2, qG_2j, qG_0j, qG_5, qG_5j, qH_5, qG_6, qG_6j, qH_6, qG_7, qG_7j, qH_7, qG_8, qG_8j, qH_8, qG_9, qG_9j, qH_9, qG_10, qG_10j, qH_10, qH_0, SM_N, htc]
    refine a_iload_n dX11_plan_49 rfl ?_
    refine a_if_ne dX11_plan_50 (tgt := 60) (by decide) (fun c50 => ?_) (fun c50 => ?_)
    · refine a_iload_n dX11_plan_60 rfl ?_
      refine a_iconst (v := 1) dX11_plan_61 (by decide) ?_
      refine a_icmp_ne dX11_plan_62 (tgt := 72) (by decide) (fun c62 => ?_) (fun c62 => ?_)
      · obtain ⟨w, -, hw1, rfl⟩ := isIn_of (a := 0) (b := 1) (by decide) (by decide) c11
        exfalso
        have h1 : w ≠ 0 := fun z => c50 (by rw [z]; rfl)
        have h2 : w ≠ 1 := fun z => c62 (by rw [z]; rfl)
        omega
      · refine a_aload_n dX11_plan_65 rfl ?_
        refine a_getI (ci := 11) (j := 23) dX11_plan_66 rfl rfl (by decide) rfl fl_11_228 ?_
        try simp (disch := first | decide | assumption | omega) only [ui_eq, ui_k, ui_j, ui_b, ui_2, ul_1, ul_eq, ul_k, ul_j, ul_b, N_k, gnl, gnp, gnq, gnt, gsm, cl0, cl1, cl2, cl3, cl4, cl5, cl6, cl7, cl8, cl9, cl10, qG_222, qG_223, qG_2, qG_2j, qG_0j, qG_5, qG_5j, qH_5, qG_6, qG_6j, qH_6, qG_7, qG_7j, qH_7, qG_8, qG_8j, qH_8, qG_9, qG_9j, qH_9, qG_10, qG_10j, qH_10, qH_0, SM_N, htc]
        refine a_goto dX11_plan_69 (tgt := 81) (by decide) ?_
        exact a_iret dX11_plan_81 rfl (by
  have e := hQ2 hok fr us gv cm qu st hR h6
  simp only [plV, c11, c50, c62, if_true, if_false] at e
  first
    | exact e
    | (rw [hxt, htc] at e; exact e))
    · refine a_aload_n dX11_plan_53 rfl ?_
      refine a_getI (ci := 11) (j := 22) dX11_plan_54 rfl rfl (by decide) rfl fl_11_225 ?_
      try simp (disch := first | decide | assumption | omega) only [ui_eq, ui_k, ui_j, ui_b, ui_2, ul_1, ul_eq, ul_k, ul_j, ul_b, N_k, gnl, gnp, gnq, gnt, gsm, cl0, cl1, cl2, cl3, cl4, cl5, cl6, cl7, cl8, cl9, cl10, qG_222, qG_223, qG_2, qG_2j, qG_0j, qG_5, qG_5j, qH_5, qG_6, qG_6j, qH_6, qG_7, qG_7j, qH_7, qG_8, qG_8j, qH_8, qG_9, qG_9j, qH_9, qG_10, qG_10j, qH_10, qH_0, SM_N, htc]
      refine a_goto dX11_plan_57 (tgt := 81) (by decide) ?_
      exact a_iret dX11_plan_81 rfl (by
  have e := hQ2 hok fr us gv cm qu st hR h6
  simp only [plV, c11, c50, if_true, if_false] at e
  first
    | exact e
    | (rw [hxt, htc] at e; exact e))
  · refine a_iload_n dX11_plan_14 rfl ?_
    refine a_bipush (v := 10) dX11_plan_15 (by decide) ?_
    refine a_icmp_lt dX11_plan_17 (tgt := 43) (by decide) (fun c17 => ?_) (fun c17 => ?_)
    · refine a_iconst (v := (-1)) dX11_plan_43 (by decide) ?_
      exact a_iret dX11_plan_44 rfl (hQ1 (fun z => by
  rcases z with z | ⟨z1, z2, z3⟩
  · exact z c11
  · first | exact z1 c17 | exact z2 c28 | (rw [hxt, htc] at z3; exact c40 z3)))
    · refine a_aload_n dX11_plan_20 rfl ?_
      refine a_iload_n dX11_plan_21 rfl ?_
      refine a_bipush (v := 10) dX11_plan_22 (by decide) ?_
      refine a_isub dX11_plan_24 ?_
      refine a_cV1i dX11_plan_25 ml_11_207 wv_11_isTrip rfl rfl (by decide) (Nat.le_of_ble_eq_true rfl) (c11_isTrip hnt (by omega) ⟨rfl, rfl⟩) ?_
      try simp (disch := first | decide | assumption | omega) only [ui_eq, ui_k, ui_j, ui_b, ui_2, ul_1, ul_eq, ul_k, ul_j, ul_b, N_k, gnl, gnp, gnq, gnt, gsm, cl0, cl1, cl2, cl3, cl4, cl5, cl6, cl7, cl8, cl9, cl10, qG_222, qG_223, qG_2, qG_2j, qG_0j, qG_5, qG_5j, qH_5, qG_6, qG_6j, qH_6, qG_7, qG_7j, qH_7, qG_8, qG_8j, qH_8, qG_9, qG_9j, qH_9, qG_10, qG_10j, qH_10, qH_0, SM_N, htc]
      refine a_if_eq dX11_plan_28 (tgt := 43) (by decide) (fun c28 => ?_) (fun c28 => ?_)
      · refine a_iconst (v := (-1)) dX11_plan_43 (by decide) ?_
        exact a_iret dX11_plan_44 rfl (hQ1 (fun z => by
  rcases z with z | ⟨z1, z2, z3⟩
  · exact z c11
  · first | exact z1 c17 | exact z2 c28 | (rw [hxt, htc] at z3; exact c40 z3)))
      · refine a_aload_n dX11_plan_31 rfl ?_
        obtain ⟨t, ht, hxt⟩ := hasI_of (by omega) c28
        have htc : (nI t).toNatClampNeg = t := nI_clamp (by omega)
        refine a_iload_n dX11_plan_32 rfl ?_
        refine a_bipush (v := 10) dX11_plan_33 (by decide) ?_
        refine a_isub dX11_plan_35 ?_
        refine a_iconst (v := 2) dX11_plan_36 (by decide) ?_
        rw [hxt]
        refine a_cV2i dX11_plan_37 ml_11_160 wv_11_its rfl rfl (by decide) (Nat.le_of_ble_eq_true rfl) (c11_its (t := t) (w := 2) (by omega) (by decide) ⟨rfl, rfl⟩) ?_
        try simp (disch := first | decide | assumption | omega) only [ui_eq, ui_k, ui_j, ui_b, ui_2, ul_1, ul_eq, ul_k, ul_j, ul_b, N_k, gnl, gnp, gnq, gnt, gsm, cl0, cl1, cl2, cl3, cl4, cl5, cl6, cl7, cl8, cl9, cl10, qG_222, qG_223, qG_2, qG_2j, qG_0j, qG_5, qG_5j, qH_5, qG_6, qG_6j, qH_6, qG_7, qG_7j, qH_7, qG_8, qG_8j, qH_8, qG_9, qG_9j, qH_9, qG_10, qG_10j, qH_10, qH_0, SM_N, htc]
        refine a_if_eq dX11_plan_40 (tgt := 45) (by decide) (fun c40 => ?_) (fun c40 => ?_)
        · have hok : plOk (h.1 3 2) nt x := Or.inr ⟨c17, c28, by rw [hxt, htc]; exact c40⟩
          refine a_aload_n dX11_plan_45 rfl ?_
          refine a_cV0 dX11_plan_46 ml_11_244 wv_11_laysPlan rfl rfl (by decide) (Nat.le_of_ble_eq_true rfl) (c11_laysPlanH (Q := LPR (ui h 3 0 0 0) np nt) hPP0 (fun _ _ z => z)) (fun v46 h46 p46 => ?_)
          obtain ⟨rfl, fr, us, gv, cm, qu, st, rfl, hR, h6⟩ := p46
          rw [N_k (by decide)] at hR ⊢
          simp only [Option.toList, List.nil_append]
          try simp (disch := first | decide | assumption | omega) only [ui_eq, ui_k, ui_j, ui_b, ui_2, ul_1, ul_eq, ul_k, ul_j, ul_b, N_k, gnl, gnp, gnq, gnt, gsm, cl0, cl1, cl2, cl3, cl4, cl5, cl6, cl7, cl8, cl9, cl10, qG_222, qG_223, qG_2, qG_2j, qG_0j, qG_5, qG_5j, qH_5, qG_6, qG_6j, qH_6, qG_7, qG_7j, qH_7, qG_8, qG_8j, qH_8, qG_9, qG_9j, qH_9, qG_10, qG_10j, qH_10, qH_0, SM_N, htc]
          refine a_iload_n dX11_plan_49 rfl ?_
          refine a_if_ne dX11_plan_50 (tgt := 60) (by decide) (fun c50v2 => ?_) (fun c50v2 => ?_)
          · refine a_iload_n dX11_plan_60 rfl ?_
            refine a_iconst (v := 1) dX11_plan_61 (by decide) ?_
            refine a_icmp_ne dX11_plan_62 (tgt := 72) (by decide) (fun c62v2 => ?_) (fun c62v2 => ?_)
            · refine a_aload_n dX11_plan_72 rfl ?_
              refine a_getR (ci := 11) (j := 18) dX11_plan_73 rfl rfl (by decide) rfl fl_11_87 ?_
              refine a_iload_n dX11_plan_76 rfl ?_
              refine a_bipush (v := 10) dX11_plan_77 (by decide) ?_
              refine a_isub dX11_plan_79 ?_
              refine a_iaload dX11_plan_80 rfl (by first | (rw [hxt]; exact vp_in_nI (show t < 40 by omega) (by decide))) ?_
              try simp (disch := first | decide | assumption | omega) only [ui_eq, ui_k, ui_j, ui_b, ui_2, ul_1, ul_eq, ul_k, ul_j, ul_b, N_k, gnl, gnp, gnq, gnt, gsm, cl0, cl1, cl2, cl3, cl4, cl5, cl6, cl7, cl8, cl9, cl10, qG_222, qG_223, qG_2, qG_2j, qG_0j, qG_5, qG_5j, qH_5, qG_6, qG_6j, qH_6, qG_7, qG_7j, qH_7, qG_8, qG_8j, qH_8, qG_9, qG_9j, qH_9, qG_10, qG_10j, qH_10, qH_0, SM_N, htc]
              exact a_iret dX11_plan_81 rfl (by
  have e := hQ2 hok fr us gv cm qu st hR h6
  simp only [plV, c11, c17, c28, c40, c50v2, c62v2, if_true, if_false] at e
  first
    | exact e
    | (rw [hxt, htc] at e; exact e))
            · refine a_aload_n dX11_plan_65 rfl ?_
              refine a_getI (ci := 11) (j := 23) dX11_plan_66 rfl rfl (by decide) rfl fl_11_228 ?_
              try simp (disch := first | decide | assumption | omega) only [ui_eq, ui_k, ui_j, ui_b, ui_2, ul_1, ul_eq, ul_k, ul_j, ul_b, N_k, gnl, gnp, gnq, gnt, gsm, cl0, cl1, cl2, cl3, cl4, cl5, cl6, cl7, cl8, cl9, cl10, qG_222, qG_223, qG_2, qG_2j, qG_0j, qG_5, qG_5j, qH_5, qG_6, qG_6j, qH_6, qG_7, qG_7j, qH_7, qG_8, qG_8j, qH_8, qG_9, qG_9j, qH_9, qG_10, qG_10j, qH_10, qH_0, SM_N, htc]
              refine a_goto dX11_plan_69 (tgt := 81) (by decide) ?_
              exact a_iret dX11_plan_81 rfl (by
  have e := hQ2 hok fr us gv cm qu st hR h6
  simp only [plV, c11, c17, c28, c40, c50v2, c62v2, if_true, if_false] at e
  first
    | exact e
    | (rw [hxt, htc] at e; exact e))
          · refine a_aload_n dX11_plan_53 rfl ?_
            refine a_getI (ci := 11) (j := 22) dX11_plan_54 rfl rfl (by decide) rfl fl_11_225 ?_
            try simp (disch := first | decide | assumption | omega) only [ui_eq, ui_k, ui_j, ui_b, ui_2, ul_1, ul_eq, ul_k, ul_j, ul_b, N_k, gnl, gnp, gnq, gnt, gsm, cl0, cl1, cl2, cl3, cl4, cl5, cl6, cl7, cl8, cl9, cl10, qG_222, qG_223, qG_2, qG_2j, qG_0j, qG_5, qG_5j, qH_5, qG_6, qG_6j, qH_6, qG_7, qG_7j, qH_7, qG_8, qG_8j, qH_8, qG_9, qG_9j, qH_9, qG_10, qG_10j, qH_10, qH_0, SM_N, htc]
            refine a_goto dX11_plan_57 (tgt := 81) (by decide) ?_
            exact a_iret dX11_plan_81 rfl (by
  have e := hQ2 hok fr us gv cm qu st hR h6
  simp only [plV, c11, c17, c28, c40, c50v2, if_true, if_false] at e
  first
    | exact e
    | (rw [hxt, htc] at e; exact e))
        · refine a_iconst (v := (-1)) dX11_plan_43 (by decide) ?_
          exact a_iret dX11_plan_44 rfl (hQ1 (fun z => by
  rcases z with z | ⟨z1, z2, z3⟩
  · exact z c11
  · first | exact z1 c17 | exact z2 c28 | (rw [hxt, htc] at z3; exact c40 z3)))
