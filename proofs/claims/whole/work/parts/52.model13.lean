def CLS (N : Nat → Int32) (np : Nat) (fr cm : Nat → Int32) (t : Nat) : Prop := ∀ k, k < np → ¬ fr k ≤ 0 → ¬ fitM N k t = 0 → ¬ cm k = -1
def BP (N : Nat → Int32) (np : Nat) (fr us qu : Nat → Int32) (i : Nat) (best : Int32) : Prop :=
  (best = -1 ∧ ∀ j, j < i → ∀ k, k < np → qu j = nI k → ¬ us k < fr k) ∨
  (∃ j k, j < i ∧ k < np ∧ best = nI k ∧ qu j = nI k ∧ us k < fr k ∧ ∀ j', j' < i → ∀ k', k' < np → qu j' = nI k' → us k' < fr k' → mY N k 3 ≤ mY N k' 3)
def F1 (N : Nat → Int32) (np nt : Nat) (fr gv st cm qu : Nat → Int32) (n T : Nat) : Prop := BQ N np nt fr gv st cm qu n ∧ ∀ t, t < T → t < nt → OP N st t → gv t = -1 → CLS N np fr cm t
def F2 (N : Nat → Int32) (np nt : Nat) (fr us gv st cm qu : Nat → Int32) (n i : Nat) (best : Int32) : Prop :=
  F1 N np nt fr gv st cm qu n nt ∧ (∀ j, j < i → ∀ t, t < nt → OP N st t → gv t = qu j → CLS N np fr cm t) ∧ BP N np fr us qu i best
def F4 (N : Nat → Int32) (np nt : Nat) (fr us gv st cm qu : Nat → Int32) (n i : Nat) (best : Int32) (T : Nat) : Prop :=
  F1 N np nt fr gv st cm qu n nt ∧ (∀ j, j < i → ∀ t, t < nt → OP N st t → gv t = qu j → CLS N np fr cm t) ∧ BP N np fr us qu (i + 1) best ∧ i < n ∧ ∀ t, t < T → t < nt → OP N st t → gv t = qu i → CLS N np fr cm t
theorem RC.cls {N : Nat → Int32} {np nt : Nat} {fr gv st : Nat → Int32} {t : Nat} {cm qu cm2 qu2 : Nat → Int32} {n n2 t' : Nat} (h : RC N np nt fr gv st t cm qu n cm2 qu2 n2 np) (hc : CLS N np fr cm t') : CLS N np fr cm2 t' := by
  intro k hk a b
  rw [h.2.2.2.1 k (hc k hk a b)]
  exact hc k hk a b
theorem RC.cls0 {N : Nat → Int32} {np nt : Nat} {fr gv st : Nat → Int32} {t : Nat} {cm qu cm2 qu2 : Nat → Int32} {n n2 : Nat} (h : RC N np nt fr gv st t cm qu n cm2 qu2 n2 np) : CLS N np fr cm2 t := h.2.2.2.2
theorem F1.step {N : Nat → Int32} {np nt : Nat} {fr gv st : Nat → Int32} {cm qu cm2 qu2 : Nat → Int32} {n n2 T : Nat} (h : F1 N np nt fr gv st cm qu n T) (hR : RC N np nt fr gv st T cm qu n cm2 qu2 n2 np) : F1 N np nt fr gv st cm2 qu2 n2 (T + 1) := by
  refine ⟨hR.1, fun t ht htn ho hg => ?_⟩
  by_cases e : t = T
  · subst e; exact hR.cls0
  · exact hR.cls (h.2 t (by omega) htn ho hg)
theorem F1.skip {N : Nat → Int32} {np nt : Nat} {fr gv st : Nat → Int32} {cm qu : Nat → Int32} {n T : Nat} (h : F1 N np nt fr gv st cm qu n T) (hs : ¬ OP N st T ∨ ¬ gv T = -1) : F1 N np nt fr gv st cm qu n (T + 1) := by
  refine ⟨h.1, fun t ht htn ho hg => ?_⟩
  by_cases e : t = T
  · subst e
    rcases hs with q | q
    · exact absurd ho q
    · exact absurd hg q
  · exact h.2 t (by omega) htn ho hg
theorem BP.ext {N : Nat → Int32} {np : Nat} {fr us qu qu2 : Nat → Int32} {i : Nat} {best : Int32} (h : BP N np fr us qu i best) (he : ∀ j, j < i → qu2 j = qu j) : BP N np fr us qu2 i best := by
  rcases h with ⟨h1, h2⟩ | ⟨j, k, h1, h2, h3, h4, h5, h6⟩
  · exact Or.inl ⟨h1, fun j hj k hk hq => h2 j hj k hk (by rw [← he j hj]; exact hq)⟩
  · exact Or.inr ⟨j, k, h1, h2, h3, by rw [he j h1]; exact h4, h5, fun j' hj' k' hk' hq => h6 j' hj' k' hk' (by rw [← he j' hj']; exact hq)⟩
theorem F4.step {N : Nat → Int32} {np nt : Nat} {fr us gv st : Nat → Int32} {cm qu cm2 qu2 : Nat → Int32} {n n2 i T : Nat} {best : Int32} (h : F4 N np nt fr us gv st cm qu n i best T) (hR : RC N np nt fr gv st T cm qu n cm2 qu2 n2 np) : F4 N np nt fr us gv st cm2 qu2 n2 i best (T + 1) := by
  obtain ⟨h1, h2, h3, h4, h5⟩ := h
  have hq := hR.2.2.1
  have hn := hR.2.1
  refine ⟨⟨hR.1, fun t ht htn ho hg => hR.cls (h1.2 t ht htn ho hg)⟩, ?_, h3.ext (fun j hj => hq j (by omega)), by omega, ?_⟩
  · intro j hj t ht ho hg
    rw [hq j (by omega)] at hg
    exact hR.cls (h2 j hj t ht ho hg)
  · intro t ht htn ho hg
    rw [hq i h4] at hg
    by_cases e : t = T
    · subst e; exact hR.cls0
    · exact hR.cls (h5 t (by omega) htn ho hg)
theorem F4.skip {N : Nat → Int32} {np nt : Nat} {fr us gv st : Nat → Int32} {cm qu : Nat → Int32} {n i T : Nat} {best : Int32} (h : F4 N np nt fr us gv st cm qu n i best T) (hs : ¬ OP N st T ∨ ¬ gv T = qu i) : F4 N np nt fr us gv st cm qu n i best (T + 1) := by
  obtain ⟨h1, h2, h3, h4, h5⟩ := h
  refine ⟨h1, h2, h3, h4, fun t ht htn ho hg => ?_⟩
  by_cases e : t = T
  · subst e
    rcases hs with q | q
    · exact absurd ho q
    · exact absurd hg q
  · exact h5 t (by omega) htn ho hg
theorem F4.done {N : Nat → Int32} {np nt : Nat} {fr us gv st : Nat → Int32} {cm qu : Nat → Int32} {n i : Nat} {best : Int32} (h : F4 N np nt fr us gv st cm qu n i best nt) : F2 N np nt fr us gv st cm qu n (i + 1) best := by
  obtain ⟨h1, h2, h3, h4, h5⟩ := h
  refine ⟨h1, fun j hj t ht ho hg => ?_, h3⟩
  by_cases e : j = i
  · subst e; exact h5 t ht ht ho hg
  · exact h2 j (by omega) t ht ho hg
theorem F2.go {N : Nat → Int32} {np nt : Nat} {fr us gv st : Nat → Int32} {cm qu : Nat → Int32} {n i : Nat} {best best2 : Int32} (h : F2 N np nt fr us gv st cm qu n i best) (hi : i < n) (hb : BP N np fr us qu (i + 1) best2) : F4 N np nt fr us gv st cm qu n i best2 0 := ⟨h.1, h.2.1, hb, hi, fun _ z => absurd z (by omega)⟩
theorem BP.keep {N : Nat → Int32} {np : Nat} {fr us qu : Nat → Int32} {i k : Nat} {best : Int32} (h6 : np ≤ 6) (h : BP N np fr us qu i best) (hq : qu i = nI k) (hk : k < np) (hc : ¬ us k < fr k ∨ (∃ kb, kb < np ∧ best = nI kb ∧ mY N kb 3 ≤ mY N k 3)) : BP N np fr us qu (i + 1) best := by
  have key : ∀ k', k' < np → qu i = nI k' → k' = k := fun k' hk' z => nI_inj (by omega) (by omega) (z.symm.trans hq)
  rcases h with ⟨h1, h2⟩ | ⟨j, kb, h1, h2, h3, h4, h5, h7⟩
  · refine Or.inl ⟨h1, fun j hj k' hk' hq' => ?_⟩
    by_cases e : j = i
    · subst e
      have := key k' hk' hq'
      subst this
      rcases hc with c | ⟨kb, a, b, -⟩
      · exact c
      · rw [h1] at b
        exact absurd b.symm (m1_ne (by omega))
    · exact h2 j (by omega) k' hk' hq'
  · refine Or.inr ⟨j, kb, by omega, h2, h3, h4, h5, fun j' hj' k' hk' hq' hl => ?_⟩
    by_cases e : j' = i
    · subst e
      have := key k' hk' hq'
      subst this
      rcases hc with c | ⟨kc, a, b, d⟩
      · exact absurd hl c
      · have : kc = kb := nI_inj (by omega) (by omega) (b.symm.trans h3)
        subst this
        exact d
    · exact h7 j' (by omega) k' hk' hq' hl
theorem BP.take {N : Nat → Int32} {np : Nat} {fr us qu : Nat → Int32} {i k : Nat} {best : Int32} (h6 : np ≤ 6) (h : BP N np fr us qu i best) (hq : qu i = nI k) (hk : k < np) (hu : us k < fr k) (hc : best = -1 ∨ ∃ kb, kb < np ∧ best = nI kb ∧ mY N k 3 ≤ mY N kb 3) : BP N np fr us qu (i + 1) (nI k) := by
  have key : ∀ k', k' < np → qu i = nI k' → k' = k := fun k' hk' z => nI_inj (by omega) (by omega) (z.symm.trans hq)
  refine Or.inr ⟨i, k, by omega, hk, rfl, hq, hu, fun j' hj' k' hk' hq' hl => ?_⟩
  by_cases e : j' = i
  · subst e
    rw [key k' hk' hq']
    exact Int32.le_refl _
  · rcases h with ⟨h1, h2⟩ | ⟨j, kb, h1, h2, h3, h4, h5, h7⟩
    · exact absurd hl (h2 j' (by omega) k' hk' hq')
    · rcases hc with c | ⟨kc, a, b, d⟩
      · rw [h3] at c
        exact absurd c (m1_ne (by omega))
      · have : kc = kb := nI_inj (by omega) (by omega) (b.symm.trans h3)
        subst this
        exact Int32.le_trans d (h7 j' (by omega) k' hk' hq' hl)
theorem BP.best {N : Nat → Int32} {np : Nat} {fr us qu : Nat → Int32} {i : Nat} {best : Int32} (h : BP N np fr us qu i best) (hb : ¬ best = -1) : ∃ kb, kb < np ∧ best = nI kb := by
  rcases h with ⟨h1, -⟩ | ⟨j, kb, -, h2, h3, -⟩
  · exact absurd h1 hb
  · exact ⟨kb, h2, h3⟩
theorem i32_le_of_not_le {x y : Int32} (h : ¬ y ≤ x) : x ≤ y := by
  rw [Int32.le_iff_toInt_le] at *
  omega
theorem i32_lt_of_not_le {x y : Int32} (h : ¬ y ≤ x) : x < y := by
  rw [Int32.le_iff_toInt_le] at h
  rw [Int32.lt_iff_toInt_lt]
  omega
theorem i32_not_lt {x y : Int32} (h : y ≤ x) : ¬ x < y := by
  rw [Int32.le_iff_toInt_le] at h
  rw [Int32.lt_iff_toInt_lt]
  omega
theorem BQ.none {N : Nat → Int32} {np nt : Nat} {fr gv st : Nat → Int32} {qu : Nat → Int32} {cm : Nat → Int32} (hc : ∀ k, k < 6 → cm k = -1) : BQ N np nt fr gv st cm qu 0 := by
  refine ⟨?_, fun i hi => absurd hi (by omega), fun k hk z => absurd (hc k hk) z, fun i j hi => absurd hi (by omega)⟩
  simp [sN, cmN, hc 0 (by omega), hc 1 (by omega), hc 2 (by omega), hc 3 (by omega), hc 4 (by omega), hc 5 (by omega)]
theorem l11_f4 {l : Launch} {G : GG} {h : AH} {Q : Option Value → AH → Prop} {np nt : Nat} (hP : PW (h.1 3 2) np nt) {fr us gv st : Nat → Int32} {i k : Nat} {best : Int32} (hk : k < 6) (t : Nat) (ht : t ≤ nt) (cm qu : Nat → Int32) (n : Nat) (hF : F4 (h.1 3 2) np nt fr us gv st cm qu n i best t) (hqi : qu i = nI k) (hE : ∀ cm2 qu2 n2, F4 (h.1 3 2) np nt fr us gv st cm2 qu2 n2 i best nt → AW l G 4 RX11 cX11_finds 6 (some .int) 173 [some (.ref (G.1 3 0)), some (.int (nI n2)), some (.int best), some (.int (nI i)), some (.int (nI k)), some (.int (nI nt))] [] (qH h fr us gv cm2 qu2 st) Q) : AW l G 4 RX11 cX11_finds 6 (some .int) 127 [some (.ref (G.1 3 0)), some (.int (nI n)), some (.int best), some (.int (nI i)), some (.int (nI k)), some (.int (nI t))] [] (qH h fr us gv cm qu st) Q := by
  obtain ⟨hnp, hp6, hnt, ht40, hz, hTW, hCo⟩ := id hP
  have htc : (nI t).toNatClampNeg = t := nI_clamp (by omega)
  have hin := hF.2.2.2.1
  refine a_iload dX11_finds_127 rfl ?_
  refine a_aload_n dX11_finds_129 rfl ?_
  refine a_getR (ci := 11) (j := 11) dX11_finds_130 rfl rfl (by decide) rfl fl_11_72 ?_
  refine a_iconst (v := 5) dX11_finds_133 (by decide) ?_
  refine a_iaload dX11_finds_134 rfl (by rw [vp_in_iff]; decide) ?_
  try simp (disch := first | decide | assumption | omega) only [ui_eq, ui_k, ui_j, ui_b, ui_2, ul_1, ul_eq, ul_k, ul_j, ul_b, qG_2, qG_2j, qG_0j, qG_5, qG_5j, qH_5, qG_6, qG_6j, qH_6, qG_7, qG_7j, qH_7, qG_8, qG_8j, qH_8, qG_9, qG_9j, qH_9, qG_10, qG_10j, qH_10, qH_0, htc, hnt, cl5]
  refine a_icmp_ge dX11_finds_135 (tgt := 173) (by decide) (fun c135 => ?_) (fun c135 => ?_)
  · have hge : nt ≤ t := le_of_le c135 (by omega) (by omega)
    have hie : t = nt := by omega
    subst hie
    exact hE _ _ _ hF
  · have hlt : t < nt := lt_of_nle c135 (by omega) (by omega)
    refine a_aload_n dX11_finds_138 rfl ?_
    refine a_iload dX11_finds_139 rfl ?_
    refine a_cV1i dX11_finds_141 ml_11_216 wv_11_isOpen rfl rfl (by decide) (Nat.le_of_ble_eq_true rfl) (c11_isOpen (by omega) ⟨rfl, rfl⟩) ?_
    try simp (disch := first | decide | assumption | omega) only [ui_eq, ui_k, ui_j, ui_b, ui_2, ul_1, ul_eq, ul_k, ul_j, ul_b, qG_2, qG_2j, qG_0j, qG_5, qG_5j, qH_5, qG_6, qG_6j, qH_6, qG_7, qG_7j, qH_7, qG_8, qG_8j, qH_8, qG_9, qG_9j, qH_9, qG_10, qG_10j, qH_10, qH_0, htc, hnt, cl5]
    refine a_if_eq dX11_finds_144 (tgt := 167) (by decide) (fun c144 => ?_) (fun c144 => ?_)
    · refine a_inc (c := 1) dX11_finds_167 rfl (by decide) (by decide) rfl ?_
      dsimp only [lset]
      refine a_goto dX11_finds_170 (tgt := 127) (by decide) ?_
      rw [nI_1]
      first
        | exact l11_f4 hP hk (t + 1) (by omega) _ _ _ (hF.step hR) (by rw [hR.2.2.1 i hin]; exact hqi) hE
        | exact l11_f4 hP hk (t + 1) (by omega) _ _ _ (hF.skip (Or.inr (fun z => c156 (z.trans hqi)))) hqi hE
        | exact l11_f4 hP hk (t + 1) (by omega) _ _ _ (hF.skip (Or.inl (fun z => opM_1.mpr z c144))) hqi hE
    · refine a_aload_n dX11_finds_147 rfl ?_
      refine a_getR (ci := 11) (j := 18) dX11_finds_148 rfl rfl (by decide) rfl fl_11_87 ?_
      refine a_iload dX11_finds_151 rfl ?_
      refine a_iaload dX11_finds_153 rfl (vp_in_nI (show t < 40 by omega) (by decide)) ?_
      try simp (disch := first | decide | assumption | omega) only [ui_eq, ui_k, ui_j, ui_b, ui_2, ul_1, ul_eq, ul_k, ul_j, ul_b, qG_2, qG_2j, qG_0j, qG_5, qG_5j, qH_5, qG_6, qG_6j, qH_6, qG_7, qG_7j, qH_7, qG_8, qG_8j, qH_8, qG_9, qG_9j, qH_9, qG_10, qG_10j, qH_10, qH_0, htc, hnt, cl5]
      refine a_iload dX11_finds_154 rfl ?_
      refine a_icmp_ne dX11_finds_156 (tgt := 167) (by decide) (fun c156 => ?_) (fun c156 => ?_)
      · refine a_inc (c := 1) dX11_finds_167 rfl (by decide) (by decide) rfl ?_
        dsimp only [lset]
        refine a_goto dX11_finds_170 (tgt := 127) (by decide) ?_
        rw [nI_1]
        first
          | exact l11_f4 hP hk (t + 1) (by omega) _ _ _ (hF.step hR) (by rw [hR.2.2.1 i hin]; exact hqi) hE
          | exact l11_f4 hP hk (t + 1) (by omega) _ _ _ (hF.skip (Or.inr (fun z => c156 (z.trans hqi)))) hqi hE
          | exact l11_f4 hP hk (t + 1) (by omega) _ _ _ (hF.skip (Or.inl (fun z => opM_1.mpr z c144))) hqi hE
      · refine a_aload_n dX11_finds_159 rfl ?_
        refine a_iload dX11_finds_160 rfl ?_
        refine a_iload_n dX11_finds_162 rfl ?_
        refine a_cV2 dX11_finds_163 ml_11_219 wv_11_reaches rfl rfl (by decide) (Nat.le_of_ble_eq_true rfl) (c11_reaches (Q := fun v h2 => ∃ cm3 qu3 n3, RC (h.1 3 2) np nt fr gv st t cm qu n cm3 qu3 n3 np ∧ v = some (.int (nI n3)) ∧ h2 = qH h fr us gv cm3 qu3 st) hP hlt (opM_1.mp c144) (Or.inr ⟨i, hin, c156.trans hqi.symm⟩) hF.1.1 (fun cm3 qu3 n3 hR => ⟨cm3, qu3, n3, hR, rfl, rfl⟩)) (fun v163 h163 p163 => ?_)
        obtain ⟨cm3, qu3, n3, hR, rfl, rfl⟩ := p163
        simp only [Option.toList, List.cons_append, List.nil_append]
        try simp (disch := first | decide | assumption | omega) only [ui_eq, ui_k, ui_j, ui_b, ui_2, ul_1, ul_eq, ul_k, ul_j, ul_b, qG_2, qG_2j, qG_0j, qG_5, qG_5j, qH_5, qG_6, qG_6j, qH_6, qG_7, qG_7j, qH_7, qG_8, qG_8j, qH_8, qG_9, qG_9j, qH_9, qG_10, qG_10j, qH_10, qH_0, htc, hnt, cl5]
        refine a_istore_n dX11_finds_166 (by decide) rfl ?_
        dsimp only [lset]
        refine a_inc (c := 1) dX11_finds_167 rfl (by decide) (by decide) rfl ?_
        dsimp only [lset]
        refine a_goto dX11_finds_170 (tgt := 127) (by decide) ?_
        rw [nI_1]
        first
          | exact l11_f4 hP hk (t + 1) (by omega) _ _ _ (hF.step hR) (by rw [hR.2.2.1 i hin]; exact hqi) hE
          | exact l11_f4 hP hk (t + 1) (by omega) _ _ _ (hF.skip (Or.inr (fun z => c156 (z.trans hqi)))) hqi hE
          | exact l11_f4 hP hk (t + 1) (by omega) _ _ _ (hF.skip (Or.inl (fun z => opM_1.mpr z c144))) hqi hE
termination_by nt - t
decreasing_by all_goals omega
theorem l11_f2 {l : Launch} {G : GG} {h : AH} {Q : Option Value → AH → Prop} {np nt : Nat} (hP : PW (h.1 3 2) np nt) {fr us gv st : Nat → Int32} {mo : List (Option Value)} (i : Nat) (best : Int32) (cm qu : Nat → Int32) (n : Nat) (hi6 : i ≤ 6) (hin : i ≤ n) (hF : F2 (h.1 3 2) np nt fr us gv st cm qu n i best) (hQ : ∀ cm3 qu3 n3 best3, F2 (h.1 3 2) np nt fr us gv st cm3 qu3 n3 n3 best3 → Q (some (.int best3)) (qH h fr us gv cm3 qu3 st)) : AW l G 4 RX11 cX11_finds 6 (some .int) 70 [some (.ref (G.1 3 0)), some (.int (nI n)), some (.int best), some (.int (nI i))] [] (qH h fr us gv cm qu st) Q := by
  obtain ⟨hnp, hp6, hnt, ht40, hz, hTW, hCo⟩ := id hP
  have hic : (nI i).toNatClampNeg = i := nI_clamp (by omega)
  have hn6 := hF.1.1.le
  refine a_iload_n dX11_finds_70 rfl ?_
  refine a_iload_n dX11_finds_71 rfl ?_
  refine a_icmp_ge dX11_finds_72 (tgt := 179) (by decide) (fun c72 => ?_) (fun c72 => ?_)
  · have hge : n ≤ i := le_of_le c72 (by omega) (by omega)
    have hie : i = n := by omega
    subst hie
    refine a_iload_n dX11_finds_179 rfl ?_
    exact a_iret dX11_finds_180 rfl (hQ _ _ _ _ hF)
  · have hlt : i < n := lt_of_nle c72 (by omega) (by omega)
    obtain ⟨k, t, hk, hqi, -⟩ := hF.1.1.2.1 i hlt
    have hkc : (nI k).toNatClampNeg = k := nI_clamp (by omega)
    refine a_aload_n dX11_finds_75 rfl ?_
    refine a_getR (ci := 11) (j := 20) dX11_finds_76 rfl rfl (by decide) rfl fl_11_93 ?_
    refine a_iload_n dX11_finds_79 rfl ?_
    refine a_iaload dX11_finds_80 rfl (vp_in_nI (show i < 6 by omega) (by decide)) ?_
    try simp (disch := first | decide | assumption | omega) only [ui_eq, ui_k, ui_j, ui_b, ui_2, ul_1, ul_eq, ul_k, ul_j, ul_b, qG_2, qG_2j, qG_0j, qG_5, qG_5j, qH_5, qG_6, qG_6j, qH_6, qG_7, qG_7j, qH_7, qG_8, qG_8j, qH_8, qG_9, qG_9j, qH_9, qG_10, qG_10j, qH_10, qH_0, hic, hkc, hqi]
    refine a_istore dX11_finds_81 (by decide) rfl ?_
    dsimp only [lset]
    refine a_aload_n dX11_finds_83 rfl ?_
    refine a_getR (ci := 11) (j := 17) dX11_finds_84 rfl rfl (by decide) rfl fl_11_84 ?_
    refine a_iload dX11_finds_87 rfl ?_
    refine a_iaload dX11_finds_89 rfl (vp_in_nI (show k < 6 by omega) (by decide)) ?_
    try simp (disch := first | decide | assumption | omega) only [ui_eq, ui_k, ui_j, ui_b, ui_2, ul_1, ul_eq, ul_k, ul_j, ul_b, qG_2, qG_2j, qG_0j, qG_5, qG_5j, qH_5, qG_6, qG_6j, qH_6, qG_7, qG_7j, qH_7, qG_8, qG_8j, qH_8, qG_9, qG_9j, qH_9, qG_10, qG_10j, qH_10, qH_0, hic, hkc, hqi]
    refine a_aload_n dX11_finds_90 rfl ?_
    refine a_getR (ci := 11) (j := 16) dX11_finds_91 rfl rfl (by decide) rfl fl_11_81 ?_
    refine a_iload dX11_finds_94 rfl ?_
    refine a_iaload dX11_finds_96 rfl (vp_in_nI (show k < 6 by omega) (by decide)) ?_
    try simp (disch := first | decide | assumption | omega) only [ui_eq, ui_k, ui_j, ui_b, ui_2, ul_1, ul_eq, ul_k, ul_j, ul_b, qG_2, qG_2j, qG_0j, qG_5, qG_5j, qH_5, qG_6, qG_6j, qH_6, qG_7, qG_7j, qH_7, qG_8, qG_8j, qH_8, qG_9, qG_9j, qH_9, qG_10, qG_10j, qH_10, qH_0, hic, hkc, hqi]
    refine a_icmp_ge dX11_finds_97 (tgt := 124) (by decide) (fun c97 => ?_) (fun c97 => ?_)
    · have hb2 := hF.2.2.keep hp6 hqi hk (Or.inl (i32_not_lt c97))
      refine a_iconst (v := 0) dX11_finds_124 (by decide) ?_
      refine a_istore dX11_finds_125 (by decide) rfl ?_
      dsimp only [lset]
      refine l11_f4 hP (show k < 6 by omega) 0 (by omega) cm qu n (hF.go hlt hb2) hqi (fun cm2 qu2 n2 hF4 => ?_)
      refine a_inc (c := 1) dX11_finds_173 rfl (by decide) (by decide) rfl ?_
      dsimp only [lset]
      refine a_goto dX11_finds_176 (tgt := 70) (by decide) ?_
      refine a_take 4 ?_
      dsimp only [List.take]
      rw [nI_1]
      exact l11_f2 hP (mo := []) (i + 1) _ _ _ _ (by omega) (by have := hF4.2.2.2.1; omega) hF4.done hQ
    · refine a_iload_n dX11_finds_100 rfl ?_
      refine a_iconst (v := (-1)) dX11_finds_101 (by decide) ?_
      refine a_icmp_eq dX11_finds_102 (tgt := 121) (by decide) (fun c102 => ?_) (fun c102 => ?_)
      · have hb2 := hF.2.2.take hp6 hqi hk (i32_lt_of_not_le c97) (Or.inl c102)
        refine a_iload dX11_finds_121 rfl ?_
        refine a_istore_n dX11_finds_123 (by decide) rfl ?_
        dsimp only [lset]
        refine a_iconst (v := 0) dX11_finds_124 (by decide) ?_
        refine a_istore dX11_finds_125 (by decide) rfl ?_
        dsimp only [lset]
        refine l11_f4 hP (show k < 6 by omega) 0 (by omega) cm qu n (hF.go hlt hb2) hqi (fun cm2 qu2 n2 hF4 => ?_)
        refine a_inc (c := 1) dX11_finds_173 rfl (by decide) (by decide) rfl ?_
        dsimp only [lset]
        refine a_goto dX11_finds_176 (tgt := 70) (by decide) ?_
        refine a_take 4 ?_
        dsimp only [List.take]
        rw [nI_1]
        exact l11_f2 hP (mo := []) (i + 1) _ _ _ _ (by omega) (by have := hF4.2.2.2.1; omega) hF4.done hQ
      · obtain ⟨kb, hkb, rfl⟩ := hF.2.2.best c102
        refine a_aload_n dX11_finds_105 rfl ?_
        refine a_iload dX11_finds_106 rfl ?_
        refine a_iconst (v := 3) dX11_finds_108 (by decide) ?_
        refine a_cV2i dX11_finds_109 ml_11_167 wv_11_typed rfl rfl (by decide) (Nat.le_of_ble_eq_true rfl) (c11_typed (t := k) (w := 3) (by omega) (by decide) ⟨rfl, rfl⟩) ?_
        try simp (disch := first | decide | assumption | omega) only [ui_eq, ui_k, ui_j, ui_b, ui_2, ul_1, ul_eq, ul_k, ul_j, ul_b, qG_2, qG_2j, qG_0j, qG_5, qG_5j, qH_5, qG_6, qG_6j, qH_6, qG_7, qG_7j, qH_7, qG_8, qG_8j, qH_8, qG_9, qG_9j, qH_9, qG_10, qG_10j, qH_10, qH_0, hic, hkc, hqi]
        refine a_aload_n dX11_finds_112 rfl ?_
        refine a_iload_n dX11_finds_113 rfl ?_
        refine a_iconst (v := 3) dX11_finds_114 (by decide) ?_
        refine a_cV2i dX11_finds_115 ml_11_167 wv_11_typed rfl rfl (by decide) (Nat.le_of_ble_eq_true rfl) (c11_typed (t := kb) (w := 3) (by omega) (by decide) ⟨rfl, rfl⟩) ?_
        try simp (disch := first | decide | assumption | omega) only [ui_eq, ui_k, ui_j, ui_b, ui_2, ul_1, ul_eq, ul_k, ul_j, ul_b, qG_2, qG_2j, qG_0j, qG_5, qG_5j, qH_5, qG_6, qG_6j, qH_6, qG_7, qG_7j, qH_7, qG_8, qG_8j, qH_8, qG_9, qG_9j, qH_9, qG_10, qG_10j, qH_10, qH_0, hic, hkc, hqi]
        refine a_icmp_ge dX11_finds_118 (tgt := 124) (by decide) (fun c118 => ?_) (fun c118 => ?_)
        · have hb2 := hF.2.2.keep hp6 hqi hk (Or.inr ⟨kb, hkb, rfl, c118⟩)
          refine a_iconst (v := 0) dX11_finds_124 (by decide) ?_
          refine a_istore dX11_finds_125 (by decide) rfl ?_
          dsimp only [lset]
          refine l11_f4 hP (show k < 6 by omega) 0 (by omega) cm qu n (hF.go hlt hb2) hqi (fun cm2 qu2 n2 hF4 => ?_)
          refine a_inc (c := 1) dX11_finds_173 rfl (by decide) (by decide) rfl ?_
          dsimp only [lset]
          refine a_goto dX11_finds_176 (tgt := 70) (by decide) ?_
          refine a_take 4 ?_
          dsimp only [List.take]
          rw [nI_1]
          exact l11_f2 hP (mo := []) (i + 1) _ _ _ _ (by omega) (by have := hF4.2.2.2.1; omega) hF4.done hQ
        · have hb2 := hF.2.2.take hp6 hqi hk (i32_lt_of_not_le c97) (Or.inr ⟨kb, hkb, rfl, i32_le_of_not_le c118⟩)
          refine a_iload dX11_finds_121 rfl ?_
          refine a_istore_n dX11_finds_123 (by decide) rfl ?_
          dsimp only [lset]
          refine a_iconst (v := 0) dX11_finds_124 (by decide) ?_
          refine a_istore dX11_finds_125 (by decide) rfl ?_
          dsimp only [lset]
          refine l11_f4 hP (show k < 6 by omega) 0 (by omega) cm qu n (hF.go hlt hb2) hqi (fun cm2 qu2 n2 hF4 => ?_)
          refine a_inc (c := 1) dX11_finds_173 rfl (by decide) (by decide) rfl ?_
          dsimp only [lset]
          refine a_goto dX11_finds_176 (tgt := 70) (by decide) ?_
          refine a_take 4 ?_
          dsimp only [List.take]
          rw [nI_1]
          exact l11_f2 hP (mo := []) (i + 1) _ _ _ _ (by omega) (by have := hF4.2.2.2.1; omega) hF4.done hQ
termination_by 7 - i
decreasing_by all_goals omega
theorem l11_f1 {l : Launch} {G : GG} {h : AH} {Q : Option Value → AH → Prop} {np nt : Nat} (hP : PW (h.1 3 2) np nt) {fr us gv st : Nat → Int32} (t : Nat) (ht : t ≤ nt) (cm qu : Nat → Int32) (n : Nat) (hF : F1 (h.1 3 2) np nt fr gv st cm qu n t) (hQ : ∀ cm3 qu3 n3 best3, F2 (h.1 3 2) np nt fr us gv st cm3 qu3 n3 n3 best3 → Q (some (.int best3)) (qH h fr us gv cm3 qu3 st)) : AW l G 4 RX11 cX11_finds 6 (some .int) 25 [some (.ref (G.1 3 0)), some (.int (nI n)), some (.int (nI t))] [] (qH h fr us gv cm qu st) Q := by
  obtain ⟨hnp, hp6, hnt, ht40, hz, hTW, hCo⟩ := id hP
  have htc : (nI t).toNatClampNeg = t := nI_clamp (by omega)
  refine a_iload_n dX11_finds_25 rfl ?_
  refine a_aload_n dX11_finds_26 rfl ?_
  refine a_getR (ci := 11) (j := 11) dX11_finds_27 rfl rfl (by decide) rfl fl_11_72 ?_
  refine a_iconst (v := 5) dX11_finds_30 (by decide) ?_
  refine a_iaload dX11_finds_31 rfl (by rw [vp_in_iff]; decide) ?_
  try simp (disch := first | decide | assumption | omega) only [ui_eq, ui_k, ui_j, ui_b, ui_2, ul_1, ul_eq, ul_k, ul_j, ul_b, qG_2, qG_2j, qG_0j, qG_5, qG_5j, qH_5, qG_6, qG_6j, qH_6, qG_7, qG_7j, qH_7, qG_8, qG_8j, qH_8, qG_9, qG_9j, qH_9, qG_10, qG_10j, qH_10, qH_0, htc, hnt, cl5]
  refine a_icmp_ge dX11_finds_32 (tgt := 66) (by decide) (fun c32 => ?_) (fun c32 => ?_)
  · have hge : nt ≤ t := le_of_le c32 (by omega) (by omega)
    have hie : t = nt := by omega
    subst hie
    refine a_iconst (v := (-1)) dX11_finds_66 (by decide) ?_
    refine a_istore_n dX11_finds_67 (by decide) rfl ?_
    dsimp only [lset]
    refine a_iconst (v := 0) dX11_finds_68 (by decide) ?_
    refine a_istore_n dX11_finds_69 (by decide) rfl ?_
    dsimp only [lset]
    exact l11_f2 hP (mo := []) 0 (-1) _ _ _ (by omega) (by omega) ⟨hF, fun _ z => absurd z (by omega), Or.inl ⟨rfl, fun _ z => absurd z (by omega)⟩⟩ hQ
  · have hlt : t < nt := lt_of_nle c32 (by omega) (by omega)
    refine a_aload_n dX11_finds_35 rfl ?_
    refine a_iload_n dX11_finds_36 rfl ?_
    refine a_cV1i dX11_finds_37 ml_11_216 wv_11_isOpen rfl rfl (by decide) (Nat.le_of_ble_eq_true rfl) (c11_isOpen (by omega) ⟨rfl, rfl⟩) ?_
    try simp (disch := first | decide | assumption | omega) only [ui_eq, ui_k, ui_j, ui_b, ui_2, ul_1, ul_eq, ul_k, ul_j, ul_b, qG_2, qG_2j, qG_0j, qG_5, qG_5j, qH_5, qG_6, qG_6j, qH_6, qG_7, qG_7j, qH_7, qG_8, qG_8j, qH_8, qG_9, qG_9j, qH_9, qG_10, qG_10j, qH_10, qH_0, htc, hnt, cl5]
    refine a_if_eq dX11_finds_40 (tgt := 60) (by decide) (fun c40 => ?_) (fun c40 => ?_)
    · refine a_inc (c := 1) dX11_finds_60 rfl (by decide) (by decide) rfl ?_
      dsimp only [lset]
      refine a_goto dX11_finds_63 (tgt := 25) (by decide) ?_
      rw [nI_1]
      first
        | exact l11_f1 hP (t + 1) (by omega) _ _ _ (hF.step hR) hQ
        | exact l11_f1 hP (t + 1) (by omega) _ _ _ (hF.skip (Or.inr c50)) hQ
        | exact l11_f1 hP (t + 1) (by omega) _ _ _ (hF.skip (Or.inl (fun z => opM_1.mpr z c40))) hQ
    · refine a_aload_n dX11_finds_43 rfl ?_
      refine a_getR (ci := 11) (j := 18) dX11_finds_44 rfl rfl (by decide) rfl fl_11_87 ?_
      refine a_iload_n dX11_finds_47 rfl ?_
      refine a_iaload dX11_finds_48 rfl (vp_in_nI (show t < 40 by omega) (by decide)) ?_
      try simp (disch := first | decide | assumption | omega) only [ui_eq, ui_k, ui_j, ui_b, ui_2, ul_1, ul_eq, ul_k, ul_j, ul_b, qG_2, qG_2j, qG_0j, qG_5, qG_5j, qH_5, qG_6, qG_6j, qH_6, qG_7, qG_7j, qH_7, qG_8, qG_8j, qH_8, qG_9, qG_9j, qH_9, qG_10, qG_10j, qH_10, qH_0, htc, hnt, cl5]
      refine a_iconst (v := (-1)) dX11_finds_49 (by decide) ?_
      refine a_icmp_ne dX11_finds_50 (tgt := 60) (by decide) (fun c50 => ?_) (fun c50 => ?_)
      · refine a_inc (c := 1) dX11_finds_60 rfl (by decide) (by decide) rfl ?_
        dsimp only [lset]
        refine a_goto dX11_finds_63 (tgt := 25) (by decide) ?_
        rw [nI_1]
        first
          | exact l11_f1 hP (t + 1) (by omega) _ _ _ (hF.step hR) hQ
          | exact l11_f1 hP (t + 1) (by omega) _ _ _ (hF.skip (Or.inr c50)) hQ
          | exact l11_f1 hP (t + 1) (by omega) _ _ _ (hF.skip (Or.inl (fun z => opM_1.mpr z c40))) hQ
      · refine a_aload_n dX11_finds_53 rfl ?_
        refine a_iload_n dX11_finds_54 rfl ?_
        refine a_iload_n dX11_finds_55 rfl ?_
        refine a_cV2 dX11_finds_56 ml_11_219 wv_11_reaches rfl rfl (by decide) (Nat.le_of_ble_eq_true rfl) (c11_reaches (Q := fun v h2 => ∃ cm3 qu3 n3, RC (h.1 3 2) np nt fr gv st t cm qu n cm3 qu3 n3 np ∧ v = some (.int (nI n3)) ∧ h2 = qH h fr us gv cm3 qu3 st) hP hlt (opM_1.mp c40) (Or.inl c50) hF.1 (fun cm3 qu3 n3 hR => ⟨cm3, qu3, n3, hR, rfl, rfl⟩)) (fun v56 h56 p56 => ?_)
        obtain ⟨cm3, qu3, n3, hR, rfl, rfl⟩ := p56
        simp only [Option.toList, List.cons_append, List.nil_append]
        try simp (disch := first | decide | assumption | omega) only [ui_eq, ui_k, ui_j, ui_b, ui_2, ul_1, ul_eq, ul_k, ul_j, ul_b, qG_2, qG_2j, qG_0j, qG_5, qG_5j, qH_5, qG_6, qG_6j, qH_6, qG_7, qG_7j, qH_7, qG_8, qG_8j, qH_8, qG_9, qG_9j, qH_9, qG_10, qG_10j, qH_10, qH_0, htc, hnt, cl5]
        refine a_istore_n dX11_finds_59 (by decide) rfl ?_
        dsimp only [lset]
        refine a_inc (c := 1) dX11_finds_60 rfl (by decide) (by decide) rfl ?_
        dsimp only [lset]
        refine a_goto dX11_finds_63 (tgt := 25) (by decide) ?_
        rw [nI_1]
        first
          | exact l11_f1 hP (t + 1) (by omega) _ _ _ (hF.step hR) hQ
          | exact l11_f1 hP (t + 1) (by omega) _ _ _ (hF.skip (Or.inr c50)) hQ
          | exact l11_f1 hP (t + 1) (by omega) _ _ _ (hF.skip (Or.inl (fun z => opM_1.mpr z c40))) hQ
termination_by nt - t
decreasing_by all_goals omega
theorem l11_f0 {l : Launch} {G : GG} {h : AH} {Q : Option Value → AH → Prop} {np nt : Nat} (hP : PW (h.1 3 2) np nt) {fr us gv cm qu st : Nat → Int32} (k : Nat) (hk : k ≤ 6) (hQ : ∀ cm3 qu3 n3 best3, F2 (h.1 3 2) np nt fr us gv st cm3 qu3 n3 n3 best3 → Q (some (.int best3)) (qH h fr us gv cm3 qu3 st)) : AW l G 4 RX11 cX11_finds 6 (some .int) 4 [some (.ref (G.1 3 0)), some (.int (nI 0)), some (.int (nI k))] [] (qH h fr us gv (filG (fun _ => -1) cm k) qu st) Q := by
  have hkc : (nI k).toNatClampNeg = k := nI_clamp (by omega)
  refine a_iload_n dX11_finds_4 rfl ?_
  refine a_bipush (v := 6) dX11_finds_5 (by decide) ?_
  refine a_icmp_ge dX11_finds_7 (tgt := 23) (by decide) (fun c7 => ?_) (fun c7 => ?_)
  · have hge : 6 ≤ k := le_of_le (b := 6) c7 (by omega) (by decide)
    have hie : k = 6 := by omega
    subst hie
    refine a_iconst (v := 0) dX11_finds_23 (by decide) ?_
    refine a_istore_n dX11_finds_24 (by decide) rfl ?_
    dsimp only [lset]
    exact l11_f1 hP 0 (by omega) _ _ 0 ⟨BQ.none (fun k hk => if_pos hk), fun _ z => absurd z (by omega)⟩ hQ
  · have hlt : k < 6 := lt_of_nle (b := 6) c7 (by omega) (by decide)
    refine a_aload_n dX11_finds_10 rfl ?_
    refine a_getR (ci := 11) (j := 19) dX11_finds_11 rfl rfl (by decide) rfl fl_11_90 ?_
    refine a_iload_n dX11_finds_14 rfl ?_
    refine a_iconst (v := (-1)) dX11_finds_15 (by decide) ?_
    refine a_iastore dX11_finds_16 rfl (vp_in_nI (show k < 6 by omega) (by decide)) ?_
    refine a_inc (c := 1) dX11_finds_17 rfl (by decide) (by decide) rfl ?_
    dsimp only [lset]
    refine a_goto dX11_finds_20 (tgt := 4) (by decide) ?_
    try rw [hkc]
    rw [nI_1, qH_8, filG_s]
    exact l11_f0 hP (k + 1) (by omega) hQ
termination_by 6 - k
decreasing_by all_goals omega
theorem c11_finds {l : Launch} {G : GG} {h : AH} {Q : Option Value → AH → Prop} {np nt : Nat} (hP : PW (h.1 3 2) np nt) {fr us gv cm qu st : Nat → Int32} (hQ : ∀ cm3 qu3 n3 best3, F2 (h.1 3 2) np nt fr us gv st cm3 qu3 n3 n3 best3 → Q (some (.int best3)) (qH h fr us gv cm3 qu3 st)) : Ct l G 4 yX11_finds cX11_finds 6 (some .int) [.ref (G.1 3 0)] (qH h fr us gv cm qu st) Q := by
  refine Ct.of (by decide) (Nat.le_of_ble_eq_true rfl) ?_
  show AW l G 4 RX11 cX11_finds 6 (some .int) 0 [some (.ref (G.1 3 0))] [] (qH h fr us gv cm qu st) Q
  refine a_iconst (v := 0) dX11_finds_0 (by decide) ?_
  refine a_istore_n dX11_finds_1 (by decide) rfl ?_
  dsimp only [lset]
  refine a_iconst (v := 0) dX11_finds_2 (by decide) ?_
  refine a_istore_n dX11_finds_3 (by decide) rfl ?_
  dsimp only [lset]
  rw [show qH h fr us gv cm qu st = qH h fr us gv (filG (fun _ => -1) cm 0) qu st by rw [filG_0]]
  exact l11_f0 hP 0 (by omega) hQ
