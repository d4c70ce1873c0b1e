def rsG (N st gv : Nat → Int32) (T : Nat) : Nat → Int32 := fun t => if t < T ∧ OP N st t then -1 else gv t
def srvN (N : Nat → Int32) (nt : Nat) (gv : Nat → Int32) : Nat := sN (fun t => if mT N t 2 = 0 ∧ ¬ gv t = -1 then 1 else 0) nt
def scN (N : Nat → Int32) (nt : Nat) (gv : Nat → Int32) : Nat := sN (fun t => if mT N t 2 = 0 ∧ ¬ gv t = -1 then cst N (gv t).toNatClampNeg else 0) nt
def SVR (N : Nat → Int32) (np nt : Nat) (fr us gv st gv0 : Nat → Int32) : Prop := SI N np nt fr us gv st gv0 ∧ ∃ r, FC N np nt fr us gv st r
theorem rsG_0 (N st gv : Nat → Int32) : rsG N st gv 0 = gv := by funext t; simp [rsG]
theorem rsG_open {N st gv : Nat → Int32} {T : Nat} (h : OP N st T) : upd (rsG N st gv T) T (-1) = rsG N st gv (T + 1) := by
  funext t
  unfold rsG
  by_cases e : t = T
  · subst e
    rw [up_eq, if_pos ⟨by omega, h⟩]
  · rw [up_ne e]
    by_cases c : t < T ∧ OP N st t
    · rw [if_pos c, if_pos ⟨by omega, c.2⟩]
    · rw [if_neg c, if_neg (fun z => c ⟨by omega, z.2⟩)]
theorem rsG_not {N st gv : Nat → Int32} {T : Nat} (h : ¬ OP N st T) : rsG N st gv (T + 1) = rsG N st gv T := by
  funext t
  unfold rsG
  by_cases c : t < T ∧ OP N st t
  · rw [if_pos c, if_pos ⟨by omega, c.2⟩]
  · rw [if_neg c, if_neg (fun z => c ⟨by
      have : t ≠ T := fun q => h (q ▸ z.2)
      omega, z.2⟩)]
theorem rsG_at {N st gv : Nat → Int32} {T : Nat} : rsG N st gv T T = gv T := by unfold rsG; rw [if_neg (fun z => by omega)]
theorem ldS_skip {N st gv : Nat → Int32} {k T : Nat} (h : ¬ (mT N T 2 = 0 ∧ ¬ st T = 0 ∧ gv T = nI k)) : ldS N st gv k (T + 1) = ldS N st gv k T := by
  unfold ldS
  rw [sN, if_neg h]
  rfl
theorem ldS_add {N st gv : Nat → Int32} {k T : Nat} (h : mT N T 2 = 0 ∧ ¬ st T = 0 ∧ gv T = nI k) : ldS N st gv k (T + 1) = ldS N st gv k T + 1 := by
  unfold ldS
  rw [sN, if_pos h]
theorem SI_0 {N : Nat → Int32} {np nt : Nat} {fr us gv st : Nat → Int32} (hP : PW N np nt) (hg : ∀ t, t < 40 → gv t = -1 ∨ ∃ k, k < np ∧ gv t = nI k) (hU : ∀ k, k < 6 → us k = nI (ldS N st gv k nt)) : SI N np nt fr us (rsG N st gv nt) st gv ∧ CT N np nt fr us (rsG N st gv nt) st (cst N) := by
  obtain ⟨-, hp6, -, h40, -⟩ := id hP
  have ho : ∀ t, t < nt → OP N st t → rsG N st gv nt t = -1 := fun t ht c => if_pos ⟨ht, c⟩
  have hl : ∀ k, k < 6 → ldN N nt (rsG N st gv nt) k = ldS N st gv k nt := by
    intro k hk
    refine sN_congr (fun t ht => ?_)
    by_cases c : OP N st t
    · rw [ho t ht c, if_neg (fun z => m1_ne (by omega) z.2.symm), if_neg (fun z => z.2.1 c.2)]
    · rw [show rsG N st gv nt t = gv t from if_neg (fun z => c z.2)]
      have : (mT N t 2 = 0 ∧ gv t = nI k) ↔ (mT N t 2 = 0 ∧ ¬ st t = 0 ∧ gv t = nI k) := ⟨fun z => ⟨z.1, fun q => c ⟨z.1, q⟩, z.2⟩, fun z => ⟨z.1, z.2.2⟩⟩
      by_cases e : mT N t 2 = 0 ∧ gv t = nI k
      · rw [if_pos e, if_pos (this.mp e)]
      · rw [if_neg e, if_neg (fun z => e (this.mpr z))]
  refine ⟨⟨?_, fun t ht c => Or.inl (ho t ht c), fun k hk => by rw [hl k hk]; exact hU k hk, fun t ht => if_neg ht, fun k hk => Or.inl (by rw [hl k (by omega)]; exact Nat.le_refl _)⟩, ?_, ?_⟩
  · intro t ht
    unfold rsG
    split
    · exact Or.inl rfl
    · exact hg t ht
  · intro k hk
    exact ⟨(cst_of hP hk).2, Nat.le_refl _, fun _ => rfl⟩
  · intro t ht c k hk z
    rw [ho t ht c] at z
    exact absurd z.symm (m1_ne (by omega))
theorem srvN_s {N : Nat → Int32} {T : Nat} {gv : Nat → Int32} : srvN N (T + 1) gv = srvN N T gv + (if mT N T 2 = 0 ∧ ¬ gv T = -1 then 1 else 0) := rfl
theorem scN_s {N : Nat → Int32} {T : Nat} {gv : Nat → Int32} : scN N (T + 1) gv = scN N T gv + (if mT N T 2 = 0 ∧ ¬ gv T = -1 then cst N (gv T).toNatClampNeg else 0) := rfl
theorem ui_22 {h : AH} {a b c : Int32} : ui (ui (ui h 3 0 22 a) 3 0 23 b) 3 0 22 c = ui (ui h 3 0 22 c) 3 0 23 b := by
  refine ah_ext (fun b' k' j' => ?_) rfl
  simp only [ui]
  by_cases e : b' = 3 ∧ k' = 0
  · obtain ⟨rfl, rfl⟩ := e
    by_cases e3 : j' = 22
    · subst e3; simp
    · by_cases e4 : j' = 23 <;> simp [e3, e4]
  · simp only [show ¬ (b' = 3 ∧ k' = 0 ∧ j' = 22) from fun z => e ⟨z.1, z.2.1⟩, show ¬ (b' = 3 ∧ k' = 0 ∧ j' = 23) from fun z => e ⟨z.1, z.2.1⟩, if_false]
theorem ui_23 {h : AH} {b c : Int32} : ui (ui h 3 0 23 b) 3 0 23 c = ui h 3 0 23 c := by
  refine ah_ext (fun b' k' j' => ?_) rfl
  simp only [ui]
  split <;> rfl
theorem l11_sum {l : Launch} {G : GG} {h : AH} {Q : Option Value → AH → Prop} {np nt : Nat} (hP : PW (h.1 3 2) np nt) {fr us gv cm qu st : Nat → Int32} (hg : ∀ t, t < 40 → gv t = -1 ∨ ∃ k, k < np ∧ gv t = nI k) (t : Nat) (ht : t ≤ nt) (hQ : Q none (qH (ui (ui h 3 0 22 (nI (srvN (h.1 3 2) nt gv))) 3 0 23 (nI (scN (h.1 3 2) nt gv))) fr us gv cm qu st)) : AW l G 5 RX11 cX11_serves 5 none 172 [some (.ref (G.1 3 0)), some (.int (nI t))] [] (qH (ui (ui h 3 0 22 (nI (srvN (h.1 3 2) t gv))) 3 0 23 (nI (scN (h.1 3 2) t gv))) fr us gv cm qu st) Q := by
  obtain ⟨hnp, hp6, hnt, ht40, hz, hTW, hCo⟩ := id hP
  have htc : (nI t).toNatClampNeg = t := nI_clamp (by omega)
  have hgk : (0 : Nat) = 0 := rfl
  refine a_iload_n dX11_serves_172 rfl ?_
  refine a_aload_n dX11_serves_173 rfl ?_
  refine a_getR (ci := 11) (j := 11) dX11_serves_174 rfl rfl (by decide) rfl fl_11_72 ?_
  refine a_iconst (v := 5) dX11_serves_177 (by decide) ?_
  refine a_iaload dX11_serves_178 rfl (by rw [vp_in_iff]; decide) ?_
  try simp (disch := first | decide | assumption | omega) only [ui_eq, ui_k, ui_j, ui_b, ui_2, ul_1, ul_eq, ul_k, ul_j, ul_b, qG_2, qG_2j, qG_0j, qG_5, qG_5j, qH_5, qG_6, qG_6j, qH_6, qG_7, qG_7j, qH_7, qG_8, qG_8j, qH_8, qG_9, qG_9j, qH_9, qG_10, qG_10j, qH_10, qH_0, htc, hnt, cl5, N_k, hgk]
  refine a_icmp_ge dX11_serves_179 (tgt := 240) (by decide) (fun c179 => ?_) (fun c179 => ?_)
  · have hge : nt ≤ t := le_of_le c179 (by omega) (by omega)
    have hie : t = nt := by omega
    subst hie
    exact a_vret dX11_serves_240 rfl hQ
  · have hlt : t < nt := lt_of_nle c179 (by omega) (by omega)
    refine a_aload_n dX11_serves_182 rfl ?_
    refine a_iload_n dX11_serves_183 rfl ?_
    refine a_iconst (v := 2) dX11_serves_184 (by decide) ?_
    refine a_cV2i dX11_serves_185 ml_11_160 wv_11_its rfl rfl (by decide) (Nat.le_of_ble_eq_true rfl) (c11_its (t := t) (w := 2) (by omega) (by decide) ⟨rfl, rfl⟩) ?_
    try simp (disch := first | decide | assumption | omega) only [ui_eq, ui_k, ui_j, ui_b, ui_2, ul_1, ul_eq, ul_k, ul_j, ul_b, qG_2, qG_2j, qG_0j, qG_5, qG_5j, qH_5, qG_6, qG_6j, qH_6, qG_7, qG_7j, qH_7, qG_8, qG_8j, qH_8, qG_9, qG_9j, qH_9, qG_10, qG_10j, qH_10, qH_0, htc, hnt, cl5, N_k, hgk]
    refine a_if_ne dX11_serves_188 (tgt := 234) (by decide) (fun c188 => ?_) (fun c188 => ?_)
    · refine a_inc (c := 1) dX11_serves_234 rfl (by decide) (by decide) rfl ?_
      dsimp only [lset]
      refine a_goto dX11_serves_237 (tgt := 172) (by decide) ?_
      rw [nI_1]
      first
        | (have e1 : srvN (h.1 3 2) (t + 1) gv = srvN (h.1 3 2) t gv := by rw [srvN_s, if_neg (fun z => c188 z.1)]; rfl
           have e2 : scN (h.1 3 2) (t + 1) gv = scN (h.1 3 2) t gv := by rw [scN_s, if_neg (fun z => c188 z.1)]; rfl
           have e := l11_sum (l := l) (G := G) (h := h) (cm := cm) (qu := qu) hP hg (t + 1) (by omega) hQ
           rw [e1, e2] at e
           exact e)
        | (have e1 : srvN (h.1 3 2) (t + 1) gv = srvN (h.1 3 2) t gv := by rw [srvN_s, if_neg (fun z => z.2 c198)]; rfl
           have e2 : scN (h.1 3 2) (t + 1) gv = scN (h.1 3 2) t gv := by rw [scN_s, if_neg (fun z => z.2 c198)]; rfl
           have e := l11_sum (l := l) (G := G) (h := h) (cm := cm) (qu := qu) hP hg (t + 1) (by omega) hQ
           rw [e1, e2] at e
           exact e)
        | (have e1 : srvN (h.1 3 2) (t + 1) gv = srvN (h.1 3 2) t gv + 1 := by rw [srvN_s, if_pos ⟨c188, c198⟩]
           have e2 : scN (h.1 3 2) (t + 1) gv = scN (h.1 3 2) t gv + cst (h.1 3 2) k := by rw [scN_s, if_pos ⟨c188, c198⟩, hgc]
           have e := l11_sum (l := l) (G := G) (h := h) (cm := cm) (qu := qu) hP hg (t + 1) (by omega) hQ
           rw [e1, e2] at e
           simp only [qH_0, ui_22, ui_23, hcs2, nI_1, nI_add]
           exact e)
    · refine a_aload_n dX11_serves_191 rfl ?_
      refine a_getR (ci := 11) (j := 18) dX11_serves_192 rfl rfl (by decide) rfl fl_11_87 ?_
      refine a_iload_n dX11_serves_195 rfl ?_
      refine a_iaload dX11_serves_196 rfl (vp_in_nI (show t < 40 by omega) (by decide)) ?_
      try simp (disch := first | decide | assumption | omega) only [ui_eq, ui_k, ui_j, ui_b, ui_2, ul_1, ul_eq, ul_k, ul_j, ul_b, qG_2, qG_2j, qG_0j, qG_5, qG_5j, qH_5, qG_6, qG_6j, qH_6, qG_7, qG_7j, qH_7, qG_8, qG_8j, qH_8, qG_9, qG_9j, qH_9, qG_10, qG_10j, qH_10, qH_0, htc, hnt, cl5, N_k, hgk]
      refine a_iconst (v := (-1)) dX11_serves_197 (by decide) ?_
      refine a_icmp_ne dX11_serves_198 (tgt := 204) (by decide) (fun c198 => ?_) (fun c198 => ?_)
      · obtain ⟨k, hk, hgk⟩ := (hg t (by omega)).resolve_left c198
        have hgc : (gv t).toNatClampNeg = k := by rw [hgk]; exact nI_clamp (by omega)
        obtain ⟨hcs, -⟩ := cst_of hP hk
        have hcs2 : h.1 3 2 (7 + 12 * k + 3) = nI (cst (h.1 3 2) k) := hcs
        refine a_aload_n dX11_serves_204 rfl ?_
        refine a_dup dX11_serves_205 rfl ?_
        refine a_getI (ci := 11) (j := 22) dX11_serves_206 rfl rfl (by decide) rfl fl_11_225 ?_
        try simp (disch := first | decide | assumption | omega) only [ui_eq, ui_k, ui_j, ui_b, ui_2, ul_1, ul_eq, ul_k, ul_j, ul_b, qG_2, qG_2j, qG_0j, qG_5, qG_5j, qH_5, qG_6, qG_6j, qH_6, qG_7, qG_7j, qH_7, qG_8, qG_8j, qH_8, qG_9, qG_9j, qH_9, qG_10, qG_10j, qH_10, qH_0, htc, hnt, cl5, N_k, hgk]
        refine a_iconst (v := 1) dX11_serves_209 (by decide) ?_
        refine a_iadd dX11_serves_210 ?_
        refine a_putI (ci := 11) (j := 22) dX11_serves_211 rfl rfl (by decide) (by decide) rfl fl_11_225 ?_
        refine a_aload_n dX11_serves_214 rfl ?_
        refine a_dup dX11_serves_215 rfl ?_
        refine a_getI (ci := 11) (j := 23) dX11_serves_216 rfl rfl (by decide) rfl fl_11_228 ?_
        try simp (disch := first | decide | assumption | omega) only [ui_eq, ui_k, ui_j, ui_b, ui_2, ul_1, ul_eq, ul_k, ul_j, ul_b, qG_2, qG_2j, qG_0j, qG_5, qG_5j, qH_5, qG_6, qG_6j, qH_6, qG_7, qG_7j, qH_7, qG_8, qG_8j, qH_8, qG_9, qG_9j, qH_9, qG_10, qG_10j, qH_10, qH_0, htc, hnt, cl5, N_k, hgk]
        refine a_aload_n dX11_serves_219 rfl ?_
        refine a_aload_n dX11_serves_220 rfl ?_
        refine a_getR (ci := 11) (j := 18) dX11_serves_221 rfl rfl (by decide) rfl fl_11_87 ?_
        refine a_iload_n dX11_serves_224 rfl ?_
        refine a_iaload dX11_serves_225 rfl (vp_in_nI (show t < 40 by omega) (by decide)) ?_
        try simp (disch := first | decide | assumption | omega) only [ui_eq, ui_k, ui_j, ui_b, ui_2, ul_1, ul_eq, ul_k, ul_j, ul_b, qG_2, qG_2j, qG_0j, qG_5, qG_5j, qH_5, qG_6, qG_6j, qH_6, qG_7, qG_7j, qH_7, qG_8, qG_8j, qH_8, qG_9, qG_9j, qH_9, qG_10, qG_10j, qH_10, qH_0, htc, hnt, cl5, N_k, hgk]
        refine a_iconst (v := 3) dX11_serves_226 (by decide) ?_
        refine a_cV2i dX11_serves_227 ml_11_167 wv_11_typed rfl rfl (by decide) (Nat.le_of_ble_eq_true rfl) (c11_typed (t := k) (w := 3) (by omega) (by decide) ⟨rfl, rfl⟩) ?_
        try simp (disch := first | decide | assumption | omega) only [ui_eq, ui_k, ui_j, ui_b, ui_2, ul_1, ul_eq, ul_k, ul_j, ul_b, qG_2, qG_2j, qG_0j, qG_5, qG_5j, qH_5, qG_6, qG_6j, qH_6, qG_7, qG_7j, qH_7, qG_8, qG_8j, qH_8, qG_9, qG_9j, qH_9, qG_10, qG_10j, qH_10, qH_0, htc, hnt, cl5, N_k, hgk]
        refine a_iadd dX11_serves_230 ?_
        refine a_putI (ci := 11) (j := 23) dX11_serves_231 rfl rfl (by decide) (by decide) rfl fl_11_228 ?_
        refine a_inc (c := 1) dX11_serves_234 rfl (by decide) (by decide) rfl ?_
        dsimp only [lset]
        refine a_goto dX11_serves_237 (tgt := 172) (by decide) ?_
        rw [nI_1]
        first
          | (have e1 : srvN (h.1 3 2) (t + 1) gv = srvN (h.1 3 2) t gv := by rw [srvN_s, if_neg (fun z => c188 z.1)]; rfl
             have e2 : scN (h.1 3 2) (t + 1) gv = scN (h.1 3 2) t gv := by rw [scN_s, if_neg (fun z => c188 z.1)]; rfl
             have e := l11_sum (l := l) (G := G) (h := h) (cm := cm) (qu := qu) hP hg (t + 1) (by omega) hQ
             rw [e1, e2] at e
             exact e)
          | (have e1 : srvN (h.1 3 2) (t + 1) gv = srvN (h.1 3 2) t gv := by rw [srvN_s, if_neg (fun z => z.2 c198)]; rfl
             have e2 : scN (h.1 3 2) (t + 1) gv = scN (h.1 3 2) t gv := by rw [scN_s, if_neg (fun z => z.2 c198)]; rfl
             have e := l11_sum (l := l) (G := G) (h := h) (cm := cm) (qu := qu) hP hg (t + 1) (by omega) hQ
             rw [e1, e2] at e
             exact e)
          | (have e1 : srvN (h.1 3 2) (t + 1) gv = srvN (h.1 3 2) t gv + 1 := by rw [srvN_s, if_pos ⟨c188, c198⟩]
             have e2 : scN (h.1 3 2) (t + 1) gv = scN (h.1 3 2) t gv + cst (h.1 3 2) k := by rw [scN_s, if_pos ⟨c188, c198⟩, hgc]
             have e := l11_sum (l := l) (G := G) (h := h) (cm := cm) (qu := qu) hP hg (t + 1) (by omega) hQ
             rw [e1, e2] at e
             simp only [qH_0, ui_22, ui_23, hcs2, nI_1, nI_add]
             exact e)
      · refine a_goto dX11_serves_201 (tgt := 234) (by decide) ?_
        refine a_inc (c := 1) dX11_serves_234 rfl (by decide) (by decide) rfl ?_
        dsimp only [lset]
        refine a_goto dX11_serves_237 (tgt := 172) (by decide) ?_
        rw [nI_1]
        first
          | (have e1 : srvN (h.1 3 2) (t + 1) gv = srvN (h.1 3 2) t gv := by rw [srvN_s, if_neg (fun z => c188 z.1)]; rfl
             have e2 : scN (h.1 3 2) (t + 1) gv = scN (h.1 3 2) t gv := by rw [scN_s, if_neg (fun z => c188 z.1)]; rfl
             have e := l11_sum (l := l) (G := G) (h := h) (cm := cm) (qu := qu) hP hg (t + 1) (by omega) hQ
             rw [e1, e2] at e
             exact e)
          | (have e1 : srvN (h.1 3 2) (t + 1) gv = srvN (h.1 3 2) t gv := by rw [srvN_s, if_neg (fun z => z.2 c198)]; rfl
             have e2 : scN (h.1 3 2) (t + 1) gv = scN (h.1 3 2) t gv := by rw [scN_s, if_neg (fun z => z.2 c198)]; rfl
             have e := l11_sum (l := l) (G := G) (h := h) (cm := cm) (qu := qu) hP hg (t + 1) (by omega) hQ
             rw [e1, e2] at e
             exact e)
          | (have e1 : srvN (h.1 3 2) (t + 1) gv = srvN (h.1 3 2) t gv + 1 := by rw [srvN_s, if_pos ⟨c188, c198⟩]
             have e2 : scN (h.1 3 2) (t + 1) gv = scN (h.1 3 2) t gv + cst (h.1 3 2) k := by rw [scN_s, if_pos ⟨c188, c198⟩, hgc]
             have e := l11_sum (l := l) (G := G) (h := h) (cm := cm) (qu := qu) hP hg (t + 1) (by omega) hQ
             rw [e1, e2] at e
             simp only [qH_0, ui_22, ui_23, hcs2, nI_1, nI_add]
             exact e)
termination_by nt - t
decreasing_by all_goals omega
theorem l11_ch {l : Launch} {G : GG} {h : AH} {Q : Option Value → AH → Prop} {fr us cm qu st : Nat → Int32} {k : Int32} (f : Nat) (gv : Nat → Int32) (a : Int32) (hT : chT cm f gv a) (hE : AW l G 5 RX11 cX11_serves 5 none 152 [some (.ref (G.1 3 0)), some (.int k)] [] (qH h fr us (chF cm f gv a) cm qu st) Q) : AW l G 5 RX11 cX11_serves 5 none 119 [some (.ref (G.1 3 0)), some (.int k), some (.int a)] [] (qH h fr us gv cm qu st) Q := by
  have hx : (0 : Nat) = 0 := rfl
  have hy : (0 : Nat) = 0 := rfl
  have hw : (0 : Nat) = 0 := rfl
  refine a_iload_n dX11_serves_119 rfl ?_
  refine a_iconst (v := (-1)) dX11_serves_120 (by decide) ?_
  refine a_icmp_eq dX11_serves_121 (tgt := 152) (by decide) (fun c121 => ?_) (fun c121 => ?_)
  · rw [c121, chF_n] at hE
    refine a_take 2 ?_
    dsimp only [List.take]
    exact hE
  · obtain ⟨g, rfl⟩ : ∃ g, f = g + 1 := by
      cases f with
      | zero => exact absurd hT c121
      | succ g => exact ⟨g, rfl⟩
    obtain ⟨k0, t0, hk0, ht0, ha, hc, hT2⟩ := hT.resolve_left c121
    rw [chF_s hk0 ht0 ha hc] at hE
    have hx : a.toNatClampNeg = k0 := by rw [ha]; exact nI_clamp (by omega)
    have hy : (nI t0).toNatClampNeg = t0 := nI_clamp (by omega)
    have hw : cm k0 = nI t0 := hc
    refine a_aload_n dX11_serves_124 rfl ?_
    refine a_getR (ci := 11) (j := 19) dX11_serves_125 rfl rfl (by decide) rfl fl_11_90 ?_
    refine a_iload_n dX11_serves_128 rfl ?_
    refine a_iaload dX11_serves_129 rfl (by rw [ha]; exact vp_in_nI (show k0 < 6 by omega) (by decide)) ?_
    try simp (disch := first | decide | assumption | omega) only [ui_eq, ui_k, ui_j, ui_b, ui_2, ul_1, ul_eq, ul_k, ul_j, ul_b, qG_2, qG_2j, qG_0j, qG_5, qG_5j, qH_5, qG_6, qG_6j, qH_6, qG_7, qG_7j, qH_7, qG_8, qG_8j, qH_8, qG_9, qG_9j, qH_9, qG_10, qG_10j, qH_10, qH_0, hx, hy, hw]
    refine a_istore_n dX11_serves_130 (by decide) rfl ?_
    dsimp only [lset]
    refine a_aload_n dX11_serves_131 rfl ?_
    refine a_getR (ci := 11) (j := 18) dX11_serves_132 rfl rfl (by decide) rfl fl_11_87 ?_
    refine a_iload_n dX11_serves_135 rfl ?_
    refine a_iaload dX11_serves_136 rfl (vp_in_nI (show t0 < 40 by omega) (by decide)) ?_
    try simp (disch := first | decide | assumption | omega) only [ui_eq, ui_k, ui_j, ui_b, ui_2, ul_1, ul_eq, ul_k, ul_j, ul_b, qG_2, qG_2j, qG_0j, qG_5, qG_5j, qH_5, qG_6, qG_6j, qH_6, qG_7, qG_7j, qH_7, qG_8, qG_8j, qH_8, qG_9, qG_9j, qH_9, qG_10, qG_10j, qH_10, qH_0, hx, hy, hw]
    refine a_istore dX11_serves_137 (by decide) rfl ?_
    dsimp only [lset]
    refine a_aload_n dX11_serves_139 rfl ?_
    refine a_getR (ci := 11) (j := 18) dX11_serves_140 rfl rfl (by decide) rfl fl_11_87 ?_
    refine a_iload_n dX11_serves_143 rfl ?_
    refine a_iload_n dX11_serves_144 rfl ?_
    refine a_iastore dX11_serves_145 rfl (vp_in_nI (show t0 < 40 by omega) (by decide)) ?_
    refine a_iload dX11_serves_146 rfl ?_
    refine a_istore_n dX11_serves_148 (by decide) rfl ?_
    dsimp only [lset]
    refine a_goto dX11_serves_149 (tgt := 119) (by decide) ?_
    refine a_take 3 ?_
    dsimp only [List.take]
    (try rw [hy])
    rw [qH_7]
    exact l11_ch g _ _ hT2 hE
termination_by f
decreasing_by all_goals omega
theorem l11_sv {l : Launch} {G : GG} {h : AH} {Q : Option Value → AH → Prop} {np nt : Nat} (hP : PW (h.1 3 2) np nt) {fr st gv0 : Nat → Int32} (us gv cm qu : Nat → Int32) {n : Nat} {best : Int32} {r : Nat → Nat} (hS : SI (h.1 3 2) np nt fr us gv st gv0) (hC : CT (h.1 3 2) np nt fr us gv st r) (hF : F2 (h.1 3 2) np nt fr us gv st cm qu n n best) (hQ : ∀ us2 gv2 cm2 qu2, SVR (h.1 3 2) np nt fr us2 gv2 st gv0 → Q none (qH (ui (ui h 3 0 22 (nI (srvN (h.1 3 2) nt gv2))) 3 0 23 (nI (scN (h.1 3 2) nt gv2))) fr us2 gv2 cm2 qu2 st)) : AW l G 5 RX11 cX11_serves 5 none 102 [some (.ref (G.1 3 0)), some (.int best)] [] (qH h fr us gv cm qu st) Q := by
  obtain ⟨hnp, hp6, hnt, ht40, hz, hTW, hCo⟩ := id hP
  have hbc : (0 : Nat) = 0 := rfl
  refine a_iload_n dX11_serves_102 rfl ?_
  refine a_iconst (v := (-1)) dX11_serves_103 (by decide) ?_
  refine a_icmp_eq dX11_serves_104 (tgt := 160) (by decide) (fun c104 => ?_) (fun c104 => ?_)
  · obtain ⟨r2, hFC⟩ := fin_FC hP hC hF c104
    refine a_aload_n dX11_serves_160 rfl ?_
    refine a_iconst (v := 0) dX11_serves_161 (by decide) ?_
    refine a_putI (ci := 11) (j := 22) dX11_serves_162 rfl rfl (by decide) (by decide) rfl fl_11_225 ?_
    refine a_aload_n dX11_serves_165 rfl ?_
    refine a_iconst (v := 0) dX11_serves_166 (by decide) ?_
    refine a_putI (ci := 11) (j := 23) dX11_serves_167 rfl rfl (by decide) (by decide) rfl fl_11_228 ?_
    refine a_iconst (v := 0) dX11_serves_170 (by decide) ?_
    refine a_istore_n dX11_serves_171 (by decide) rfl ?_
    dsimp only [lset]
    simp only [qH_0]
    refine l11_sum (gv := gv) hP hS.1 0 (by omega) ?_
    exact hQ _ _ _ _ ⟨hS, r2, hFC⟩
  · obtain ⟨b, hb, hbe, hbr, hT7, hS2, ⟨r2, hC2⟩, hun⟩ := augm hP hS hC hF c104
    have hbc : best.toNatClampNeg = b := by rw [hbe]; exact nI_clamp (by omega)
    refine a_aload_n dX11_serves_107 rfl ?_
    refine a_getR (ci := 11) (j := 17) dX11_serves_108 rfl rfl (by decide) rfl fl_11_84 ?_
    refine a_iload_n dX11_serves_111 rfl ?_
    refine a_dup2 dX11_serves_112 rfl rfl ?_
    refine a_iaload dX11_serves_113 rfl (by rw [hbe]; exact vp_in_nI (show b < 6 by omega) (by decide)) ?_
    try simp (disch := first | decide | assumption | omega) only [ui_eq, ui_k, ui_j, ui_b, ui_2, ul_1, ul_eq, ul_k, ul_j, ul_b, qG_2, qG_2j, qG_0j, qG_5, qG_5j, qH_5, qG_6, qG_6j, qH_6, qG_7, qG_7j, qH_7, qG_8, qG_8j, qH_8, qG_9, qG_9j, qH_9, qG_10, qG_10j, qH_10, qH_0, hbc]
    refine a_iconst (v := 1) dX11_serves_114 (by decide) ?_
    refine a_iadd dX11_serves_115 ?_
    refine a_iastore dX11_serves_116 rfl (by rw [hbe]; exact vp_in_nI (show b < 6 by omega) (by decide)) ?_
    refine a_iload_n dX11_serves_117 rfl ?_
    refine a_istore_n dX11_serves_118 (by decide) rfl ?_
    dsimp only [lset]
    try rw [hbc]
    rw [qH_6]
    refine l11_ch 7 gv best hT7 ?_
    refine a_aload_n dX11_serves_152 rfl ?_
    refine a_cV0 dX11_serves_153 ml_11_222 wv_11_finds rfl rfl (by decide) (Nat.le_of_ble_eq_true rfl) (c11_finds (Q := fun v h2 => ∃ cm3 qu3 n3 best3, F2 (h.1 3 2) np nt fr (upd us b (us b + 1)) (chF cm 7 gv best) st cm3 qu3 n3 n3 best3 ∧ v = some (.int best3) ∧ h2 = qH h fr (upd us b (us b + 1)) (chF cm 7 gv best) cm3 qu3 st) hP (fun cm3 qu3 n3 b3 hF => ⟨cm3, qu3, n3, b3, hF, rfl, rfl⟩)) (fun v153 h153 p153 => ?_)
    obtain ⟨cm3, qu3, n3, best3, hF3, rfl, rfl⟩ := p153
    simp only [Option.toList, List.cons_append, List.nil_append]
    try simp (disch := first | decide | assumption | omega) only [ui_eq, ui_k, ui_j, ui_b, ui_2, ul_1, ul_eq, ul_k, ul_j, ul_b, qG_2, qG_2j, qG_0j, qG_5, qG_5j, qH_5, qG_6, qG_6j, qH_6, qG_7, qG_7j, qH_7, qG_8, qG_8j, qH_8, qG_9, qG_9j, qH_9, qG_10, qG_10j, qH_10, qH_0, hbc]
    refine a_istore_n dX11_serves_156 (by decide) rfl ?_
    dsimp only [lset]
    refine a_goto dX11_serves_157 (tgt := 102) (by decide) ?_
    exact l11_sv hP _ _ _ _ hS2 hC2 hF3 hQ
termination_by unN (h.1 3 2) nt st gv
decreasing_by all_goals omega
theorem l11_s2 {l : Launch} {G : GG} {h : AH} {Q : Option Value → AH → Prop} {np nt : Nat} (hP : PW (h.1 3 2) np nt) {fr us gv cm qu st : Nat → Int32} (hg : ∀ t, t < 40 → gv t = -1 ∨ ∃ k, k < np ∧ gv t = nI k) (t : Nat) (ht : t ≤ nt) (hU : ∀ k, k < 6 → us k = nI (ldS (h.1 3 2) st gv k t)) (hQ : ∀ us2 gv2 cm2 qu2, SVR (h.1 3 2) np nt fr us2 gv2 st gv → Q none (qH (ui (ui h 3 0 22 (nI (srvN (h.1 3 2) nt gv2))) 3 0 23 (nI (scN (h.1 3 2) nt gv2))) fr us2 gv2 cm2 qu2 st)) : AW l G 5 RX11 cX11_serves 5 none 23 [some (.ref (G.1 3 0)), some (.int (nI t))] [] (qH h fr us (rsG (h.1 3 2) st gv t) cm qu st) Q := by
  obtain ⟨hnp, hp6, hnt, ht40, hz, hTW, hCo⟩ := id hP
  have htc : (nI t).toNatClampNeg = t := nI_clamp (by omega)
  have ers := rsG_at (N := h.1 3 2) (st := st) (gv := gv) (T := t)
  have hgk : (0 : Nat) = 0 := rfl
  have hgc : (0 : Nat) = 0 := rfl
  refine a_iload_n dX11_serves_23 rfl ?_
  refine a_aload_n dX11_serves_24 rfl ?_
  refine a_getR (ci := 11) (j := 11) dX11_serves_25 rfl rfl (by decide) rfl fl_11_72 ?_
  refine a_iconst (v := 5) dX11_serves_28 (by decide) ?_
  refine a_iaload dX11_serves_29 rfl (by rw [vp_in_iff]; decide) ?_
  try simp (disch := first | decide | assumption | omega) only [ui_eq, ui_k, ui_j, ui_b, ui_2, ul_1, ul_eq, ul_k, ul_j, ul_b, qG_2, qG_2j, qG_0j, qG_5, qG_5j, qH_5, qG_6, qG_6j, qH_6, qG_7, qG_7j, qH_7, qG_8, qG_8j, qH_8, qG_9, qG_9j, qH_9, qG_10, qG_10j, qH_10, qH_0, htc, hnt, cl5, ers, hgk, hgc]
  refine a_icmp_ge dX11_serves_30 (tgt := 97) (by decide) (fun c30 => ?_) (fun c30 => ?_)
  · have hge : nt ≤ t := le_of_le c30 (by omega) (by omega)
    have hie : nt = t := by omega
    subst hie
    refine a_aload_n dX11_serves_97 rfl ?_
    refine a_cV0 dX11_serves_98 ml_11_222 wv_11_finds rfl rfl (by decide) (Nat.le_of_ble_eq_true rfl) (c11_finds (Q := fun v h2 => ∃ cm3 qu3 n3 best3, F2 (h.1 3 2) np nt fr us (rsG (h.1 3 2) st gv nt) st cm3 qu3 n3 n3 best3 ∧ v = some (.int best3) ∧ h2 = qH h fr us (rsG (h.1 3 2) st gv nt) cm3 qu3 st) hP (fun cm3 qu3 n3 b3 hF => ⟨cm3, qu3, n3, b3, hF, rfl, rfl⟩)) (fun v98 h98 p98 => ?_)
    obtain ⟨cm3, qu3, n3, best3, hF3, rfl, rfl⟩ := p98
    simp only [Option.toList, List.cons_append, List.nil_append]
    try simp (disch := first | decide | assumption | omega) only [ui_eq, ui_k, ui_j, ui_b, ui_2, ul_1, ul_eq, ul_k, ul_j, ul_b, qG_2, qG_2j, qG_0j, qG_5, qG_5j, qH_5, qG_6, qG_6j, qH_6, qG_7, qG_7j, qH_7, qG_8, qG_8j, qH_8, qG_9, qG_9j, qH_9, qG_10, qG_10j, qH_10, qH_0, htc, hnt, cl5, ers, hgk, hgc]
    refine a_istore_n dX11_serves_101 (by decide) rfl ?_
    dsimp only [lset]
    obtain ⟨hS, hC⟩ := SI_0 (fr := fr) hP hg hU
    exact l11_sv hP _ _ _ _ hS hC hF3 hQ
  · have hlt : t < nt := lt_of_nle c30 (by omega) (by omega)
    refine a_aload_n dX11_serves_33 rfl ?_
    refine a_iload_n dX11_serves_34 rfl ?_
    refine a_cV1i dX11_serves_35 ml_11_216 wv_11_isOpen rfl rfl (by decide) (Nat.le_of_ble_eq_true rfl) (c11_isOpen (by omega) ⟨rfl, rfl⟩) ?_
    try simp (disch := first | decide | assumption | omega) only [ui_eq, ui_k, ui_j, ui_b, ui_2, ul_1, ul_eq, ul_k, ul_j, ul_b, qG_2, qG_2j, qG_0j, qG_5, qG_5j, qH_5, qG_6, qG_6j, qH_6, qG_7, qG_7j, qH_7, qG_8, qG_8j, qH_8, qG_9, qG_9j, qH_9, qG_10, qG_10j, qH_10, qH_0, htc, hnt, cl5, ers, hgk, hgc]
    refine a_if_eq dX11_serves_38 (tgt := 48) (by decide) (fun c38 => ?_) (fun c38 => ?_)
    · have hno : ¬ OP (h.1 3 2) st t := fun z => opM_1.mpr z c38
      refine a_aload_n dX11_serves_48 rfl ?_
      refine a_iload_n dX11_serves_49 rfl ?_
      refine a_iconst (v := 2) dX11_serves_50 (by decide) ?_
      refine a_cV2i dX11_serves_51 ml_11_160 wv_11_its rfl rfl (by decide) (Nat.le_of_ble_eq_true rfl) (c11_its (t := t) (w := 2) (by omega) (by decide) ⟨rfl, rfl⟩) ?_
      try simp (disch := first | decide | assumption | omega) only [ui_eq, ui_k, ui_j, ui_b, ui_2, ul_1, ul_eq, ul_k, ul_j, ul_b, qG_2, qG_2j, qG_0j, qG_5, qG_5j, qH_5, qG_6, qG_6j, qH_6, qG_7, qG_7j, qH_7, qG_8, qG_8j, qH_8, qG_9, qG_9j, qH_9, qG_10, qG_10j, qH_10, qH_0, htc, hnt, cl5, ers, hgk, hgc]
      refine a_if_ne dX11_serves_54 (tgt := 91) (by decide) (fun c54 => ?_) (fun c54 => ?_)
      · refine a_inc (c := 1) dX11_serves_91 rfl (by decide) (by decide) rfl ?_
        dsimp only [lset]
        refine a_goto dX11_serves_94 (tgt := 23) (by decide) ?_
        rw [nI_1]
        first
          | (rw [rsG_open hop]; exact l11_s2 hP hg (t + 1) (by omega) (fun k hk => by rw [ldS_skip (fun z => z.2.1 hop.2)]; exact hU k hk) hQ)
          | (rw [← rsG_not hno]; exact l11_s2 hP hg (t + 1) (by omega) (fun k hk => by rw [ldS_skip (fun z => c54 z.1)]; exact hU k hk) hQ)
          | (rw [← rsG_not hno]; exact l11_s2 hP hg (t + 1) (by omega) (fun k hk => by rw [ldS_skip (fun z => z.2.1 c63)]; exact hU k hk) hQ)
          | (rw [← rsG_not hno]; exact l11_s2 hP hg (t + 1) (by omega) (fun k hk => by rw [ldS_skip (fun z => by rw [c73] at z; exact m1_ne (by omega) z.2.2.symm)]; exact hU k hk) hQ)
          | (rw [← rsG_not hno, hgc, qH_6]; exact l11_s2 hP hg (t + 1) (by omega) (fun k' hk' => by
              by_cases e : k' = k
              · subst e
                rw [up_eq, ldS_add ⟨c54, c63, hgk⟩, hU k' hk', nI_1]
              · rw [up_ne e, ldS_skip (fun z => e (nI_inj (by omega) (by omega) (z.2.2.symm.trans hgk))), hU k' hk']) hQ)
      · refine a_aload_n dX11_serves_57 rfl ?_
        refine a_getR (ci := 11) (j := 21) dX11_serves_58 rfl rfl (by decide) rfl fl_11_96 ?_
        refine a_iload_n dX11_serves_61 rfl ?_
        refine a_zaload dX11_serves_62 rfl (vp_in_nI (show t < 40 by omega) (by decide)) ?_
        try simp (disch := first | decide | assumption | omega) only [ui_eq, ui_k, ui_j, ui_b, ui_2, ul_1, ul_eq, ul_k, ul_j, ul_b, qG_2, qG_2j, qG_0j, qG_5, qG_5j, qH_5, qG_6, qG_6j, qH_6, qG_7, qG_7j, qH_7, qG_8, qG_8j, qH_8, qG_9, qG_9j, qH_9, qG_10, qG_10j, qH_10, qH_0, htc, hnt, cl5, ers, hgk, hgc]
        refine a_if_eq dX11_serves_63 (tgt := 91) (by decide) (fun c63 => ?_) (fun c63 => ?_)
        · refine a_inc (c := 1) dX11_serves_91 rfl (by decide) (by decide) rfl ?_
          dsimp only [lset]
          refine a_goto dX11_serves_94 (tgt := 23) (by decide) ?_
          rw [nI_1]
          first
            | (rw [rsG_open hop]; exact l11_s2 hP hg (t + 1) (by omega) (fun k hk => by rw [ldS_skip (fun z => z.2.1 hop.2)]; exact hU k hk) hQ)
            | (rw [← rsG_not hno]; exact l11_s2 hP hg (t + 1) (by omega) (fun k hk => by rw [ldS_skip (fun z => c54 z.1)]; exact hU k hk) hQ)
            | (rw [← rsG_not hno]; exact l11_s2 hP hg (t + 1) (by omega) (fun k hk => by rw [ldS_skip (fun z => z.2.1 c63)]; exact hU k hk) hQ)
            | (rw [← rsG_not hno]; exact l11_s2 hP hg (t + 1) (by omega) (fun k hk => by rw [ldS_skip (fun z => by rw [c73] at z; exact m1_ne (by omega) z.2.2.symm)]; exact hU k hk) hQ)
            | (rw [← rsG_not hno, hgc, qH_6]; exact l11_s2 hP hg (t + 1) (by omega) (fun k' hk' => by
                by_cases e : k' = k
                · subst e
                  rw [up_eq, ldS_add ⟨c54, c63, hgk⟩, hU k' hk', nI_1]
                · rw [up_ne e, ldS_skip (fun z => e (nI_inj (by omega) (by omega) (z.2.2.symm.trans hgk))), hU k' hk']) hQ)
        · refine a_aload_n dX11_serves_66 rfl ?_
          refine a_getR (ci := 11) (j := 18) dX11_serves_67 rfl rfl (by decide) rfl fl_11_87 ?_
          refine a_iload_n dX11_serves_70 rfl ?_
          refine a_iaload dX11_serves_71 rfl (vp_in_nI (show t < 40 by omega) (by decide)) ?_
          try simp (disch := first | decide | assumption | omega) only [ui_eq, ui_k, ui_j, ui_b, ui_2, ul_1, ul_eq, ul_k, ul_j, ul_b, qG_2, qG_2j, qG_0j, qG_5, qG_5j, qH_5, qG_6, qG_6j, qH_6, qG_7, qG_7j, qH_7, qG_8, qG_8j, qH_8, qG_9, qG_9j, qH_9, qG_10, qG_10j, qH_10, qH_0, htc, hnt, cl5, ers, hgk, hgc]
          refine a_iconst (v := (-1)) dX11_serves_72 (by decide) ?_
          refine a_icmp_eq dX11_serves_73 (tgt := 91) (by decide) (fun c73 => ?_) (fun c73 => ?_)
          · refine a_inc (c := 1) dX11_serves_91 rfl (by decide) (by decide) rfl ?_
            dsimp only [lset]
            refine a_goto dX11_serves_94 (tgt := 23) (by decide) ?_
            rw [nI_1]
            first
              | (rw [rsG_open hop]; exact l11_s2 hP hg (t + 1) (by omega) (fun k hk => by rw [ldS_skip (fun z => z.2.1 hop.2)]; exact hU k hk) hQ)
              | (rw [← rsG_not hno]; exact l11_s2 hP hg (t + 1) (by omega) (fun k hk => by rw [ldS_skip (fun z => c54 z.1)]; exact hU k hk) hQ)
              | (rw [← rsG_not hno]; exact l11_s2 hP hg (t + 1) (by omega) (fun k hk => by rw [ldS_skip (fun z => z.2.1 c63)]; exact hU k hk) hQ)
              | (rw [← rsG_not hno]; exact l11_s2 hP hg (t + 1) (by omega) (fun k hk => by rw [ldS_skip (fun z => by rw [c73] at z; exact m1_ne (by omega) z.2.2.symm)]; exact hU k hk) hQ)
              | (rw [← rsG_not hno, hgc, qH_6]; exact l11_s2 hP hg (t + 1) (by omega) (fun k' hk' => by
                  by_cases e : k' = k
                  · subst e
                    rw [up_eq, ldS_add ⟨c54, c63, hgk⟩, hU k' hk', nI_1]
                  · rw [up_ne e, ldS_skip (fun z => e (nI_inj (by omega) (by omega) (z.2.2.symm.trans hgk))), hU k' hk']) hQ)
          · obtain ⟨k, hk, hgk⟩ := (hg t (by omega)).resolve_left c73
            have hgc : (nI k).toNatClampNeg = k := nI_clamp (by omega)
            refine a_aload_n dX11_serves_76 rfl ?_
            refine a_getR (ci := 11) (j := 17) dX11_serves_77 rfl rfl (by decide) rfl fl_11_84 ?_
            refine a_aload_n dX11_serves_80 rfl ?_
            refine a_getR (ci := 11) (j := 18) dX11_serves_81 rfl rfl (by decide) rfl fl_11_87 ?_
            refine a_iload_n dX11_serves_84 rfl ?_
            refine a_iaload dX11_serves_85 rfl (vp_in_nI (show t < 40 by omega) (by decide)) ?_
            try simp (disch := first | decide | assumption | omega) only [ui_eq, ui_k, ui_j, ui_b, ui_2, ul_1, ul_eq, ul_k, ul_j, ul_b, qG_2, qG_2j, qG_0j, qG_5, qG_5j, qH_5, qG_6, qG_6j, qH_6, qG_7, qG_7j, qH_7, qG_8, qG_8j, qH_8, qG_9, qG_9j, qH_9, qG_10, qG_10j, qH_10, qH_0, htc, hnt, cl5, ers, hgk, hgc]
            refine a_dup2 dX11_serves_86 rfl rfl ?_
            refine a_iaload dX11_serves_87 rfl (vp_in_nI (show k < 6 by omega) (by decide)) ?_
            try simp (disch := first | decide | assumption | omega) only [ui_eq, ui_k, ui_j, ui_b, ui_2, ul_1, ul_eq, ul_k, ul_j, ul_b, qG_2, qG_2j, qG_0j, qG_5, qG_5j, qH_5, qG_6, qG_6j, qH_6, qG_7, qG_7j, qH_7, qG_8, qG_8j, qH_8, qG_9, qG_9j, qH_9, qG_10, qG_10j, qH_10, qH_0, htc, hnt, cl5, ers, hgk, hgc]
            refine a_iconst (v := 1) dX11_serves_88 (by decide) ?_
            refine a_iadd dX11_serves_89 ?_
            refine a_iastore dX11_serves_90 rfl (vp_in_nI (show k < 6 by omega) (by decide)) ?_
            refine a_inc (c := 1) dX11_serves_91 rfl (by decide) (by decide) rfl ?_
            dsimp only [lset]
            refine a_goto dX11_serves_94 (tgt := 23) (by decide) ?_
            rw [nI_1]
            first
              | (rw [rsG_open hop]; exact l11_s2 hP hg (t + 1) (by omega) (fun k hk => by rw [ldS_skip (fun z => z.2.1 hop.2)]; exact hU k hk) hQ)
              | (rw [← rsG_not hno]; exact l11_s2 hP hg (t + 1) (by omega) (fun k hk => by rw [ldS_skip (fun z => c54 z.1)]; exact hU k hk) hQ)
              | (rw [← rsG_not hno]; exact l11_s2 hP hg (t + 1) (by omega) (fun k hk => by rw [ldS_skip (fun z => z.2.1 c63)]; exact hU k hk) hQ)
              | (rw [← rsG_not hno]; exact l11_s2 hP hg (t + 1) (by omega) (fun k hk => by rw [ldS_skip (fun z => by rw [c73] at z; exact m1_ne (by omega) z.2.2.symm)]; exact hU k hk) hQ)
              | (rw [← rsG_not hno, hgc, qH_6]; exact l11_s2 hP hg (t + 1) (by omega) (fun k' hk' => by
                  by_cases e : k' = k
                  · subst e
                    rw [up_eq, ldS_add ⟨c54, c63, hgk⟩, hU k' hk', nI_1]
                  · rw [up_ne e, ldS_skip (fun z => e (nI_inj (by omega) (by omega) (z.2.2.symm.trans hgk))), hU k' hk']) hQ)
    · have hop := opM_1.mp c38
      refine a_aload_n dX11_serves_41 rfl ?_
      refine a_getR (ci := 11) (j := 18) dX11_serves_42 rfl rfl (by decide) rfl fl_11_87 ?_
      refine a_iload_n dX11_serves_45 rfl ?_
      refine a_iconst (v := (-1)) dX11_serves_46 (by decide) ?_
      refine a_iastore dX11_serves_47 rfl (vp_in_nI (show t < 40 by omega) (by decide)) ?_
      refine a_aload_n dX11_serves_48 rfl ?_
      refine a_iload_n dX11_serves_49 rfl ?_
      refine a_iconst (v := 2) dX11_serves_50 (by decide) ?_
      refine a_cV2i dX11_serves_51 ml_11_160 wv_11_its rfl rfl (by decide) (Nat.le_of_ble_eq_true rfl) (c11_its (t := t) (w := 2) (by omega) (by decide) ⟨rfl, rfl⟩) ?_
      try simp (disch := first | decide | assumption | omega) only [ui_eq, ui_k, ui_j, ui_b, ui_2, ul_1, ul_eq, ul_k, ul_j, ul_b, qG_2, qG_2j, qG_0j, qG_5, qG_5j, qH_5, qG_6, qG_6j, qH_6, qG_7, qG_7j, qH_7, qG_8, qG_8j, qH_8, qG_9, qG_9j, qH_9, qG_10, qG_10j, qH_10, qH_0, htc, hnt, cl5, ers, hgk, hgc]
      refine a_if_ne dX11_serves_54 (tgt := 91) (by decide) (fun c54v2 => ?_) (fun c54v2 => ?_)
      · exact absurd hop.1 c54v2
      · refine a_aload_n dX11_serves_57 rfl ?_
        refine a_getR (ci := 11) (j := 21) dX11_serves_58 rfl rfl (by decide) rfl fl_11_96 ?_
        refine a_iload_n dX11_serves_61 rfl ?_
        refine a_zaload dX11_serves_62 rfl (vp_in_nI (show t < 40 by omega) (by decide)) ?_
        try simp (disch := first | decide | assumption | omega) only [ui_eq, ui_k, ui_j, ui_b, ui_2, ul_1, ul_eq, ul_k, ul_j, ul_b, qG_2, qG_2j, qG_0j, qG_5, qG_5j, qH_5, qG_6, qG_6j, qH_6, qG_7, qG_7j, qH_7, qG_8, qG_8j, qH_8, qG_9, qG_9j, qH_9, qG_10, qG_10j, qH_10, qH_0, htc, hnt, cl5, ers, hgk, hgc]
        refine a_if_eq dX11_serves_63 (tgt := 91) (by decide) (fun c63v2 => ?_) (fun c63v2 => ?_)
        · refine a_inc (c := 1) dX11_serves_91 rfl (by decide) (by decide) rfl ?_
          dsimp only [lset]
          refine a_goto dX11_serves_94 (tgt := 23) (by decide) ?_
          rw [nI_1]
          first
            | (rw [rsG_open hop]; exact l11_s2 hP hg (t + 1) (by omega) (fun k hk => by rw [ldS_skip (fun z => z.2.1 hop.2)]; exact hU k hk) hQ)
            | (rw [← rsG_not hno]; exact l11_s2 hP hg (t + 1) (by omega) (fun k hk => by rw [ldS_skip (fun z => c54 z.1)]; exact hU k hk) hQ)
            | (rw [← rsG_not hno]; exact l11_s2 hP hg (t + 1) (by omega) (fun k hk => by rw [ldS_skip (fun z => z.2.1 c63)]; exact hU k hk) hQ)
            | (rw [← rsG_not hno]; exact l11_s2 hP hg (t + 1) (by omega) (fun k hk => by rw [ldS_skip (fun z => by rw [c73] at z; exact m1_ne (by omega) z.2.2.symm)]; exact hU k hk) hQ)
            | (rw [← rsG_not hno, hgc, qH_6]; exact l11_s2 hP hg (t + 1) (by omega) (fun k' hk' => by
                by_cases e : k' = k
                · subst e
                  rw [up_eq, ldS_add ⟨c54, c63, hgk⟩, hU k' hk', nI_1]
                · rw [up_ne e, ldS_skip (fun z => e (nI_inj (by omega) (by omega) (z.2.2.symm.trans hgk))), hU k' hk']) hQ)
        · exact absurd hop.2 c63v2
termination_by nt - t
decreasing_by all_goals omega
theorem l11_s1 {l : Launch} {G : GG} {h : AH} {Q : Option Value → AH → Prop} {np nt : Nat} (hP : PW (h.1 3 2) np nt) {fr us gv cm qu st : Nat → Int32} (hg : ∀ t, t < 40 → gv t = -1 ∨ ∃ k, k < np ∧ gv t = nI k) (k : Nat) (hk : k ≤ 6) (hQ : ∀ us2 gv2 cm2 qu2, SVR (h.1 3 2) np nt fr us2 gv2 st gv → Q none (qH (ui (ui h 3 0 22 (nI (srvN (h.1 3 2) nt gv2))) 3 0 23 (nI (scN (h.1 3 2) nt gv2))) fr us2 gv2 cm2 qu2 st)) : AW l G 5 RX11 cX11_serves 5 none 2 [some (.ref (G.1 3 0)), some (.int (nI k))] [] (qH h fr (filG (fun _ => 0) us k) gv cm qu st) Q := by
  have hkc : (nI k).toNatClampNeg = k := nI_clamp (by omega)
  refine a_iload_n dX11_serves_2 rfl ?_
  refine a_bipush (v := 6) dX11_serves_3 (by decide) ?_
  refine a_icmp_ge dX11_serves_5 (tgt := 21) (by decide) (fun c5 => ?_) (fun c5 => ?_)
  · have hge : 6 ≤ k := le_of_le (b := 6) c5 (by omega) (by decide)
    have hie : k = 6 := by omega
    subst hie
    refine a_iconst (v := 0) dX11_serves_21 (by decide) ?_
    refine a_istore_n dX11_serves_22 (by decide) rfl ?_
    dsimp only [lset]
    rw [show qH h fr (filG (fun _ => 0) us 6) gv cm qu st = qH h fr (filG (fun _ => 0) us 6) (rsG (h.1 3 2) st gv 0) cm qu st by rw [rsG_0]]
    exact l11_s2 hP hg 0 (by omega) (fun k hk => if_pos hk) hQ
  · have hlt : k < 6 := lt_of_nle (b := 6) c5 (by omega) (by decide)
    refine a_aload_n dX11_serves_8 rfl ?_
    refine a_getR (ci := 11) (j := 17) dX11_serves_9 rfl rfl (by decide) rfl fl_11_84 ?_
    refine a_iload_n dX11_serves_12 rfl ?_
    refine a_iconst (v := 0) dX11_serves_13 (by decide) ?_
    refine a_iastore dX11_serves_14 rfl (vp_in_nI (show k < 6 by omega) (by decide)) ?_
    refine a_inc (c := 1) dX11_serves_15 rfl (by decide) (by decide) rfl ?_
    dsimp only [lset]
    refine a_goto dX11_serves_18 (tgt := 2) (by decide) ?_
    try rw [hkc]
    rw [nI_1, qH_6, filG_s]
    exact l11_s1 hP hg (k + 1) (by omega) hQ
termination_by 6 - k
decreasing_by all_goals omega
theorem c11_serves {l : Launch} {G : GG} {h : AH} {Q : Option Value → AH → Prop} {np nt : Nat} (hP : PW (h.1 3 2) np nt) {fr us gv cm qu st : Nat → Int32} (hg : ∀ t, t < 40 → gv t = -1 ∨ ∃ k, k < np ∧ gv t = nI k) (hQ : ∀ us2 gv2 cm2 qu2, SVR (h.1 3 2) np nt fr us2 gv2 st gv → Q none (qH (ui (ui h 3 0 22 (nI (srvN (h.1 3 2) nt gv2))) 3 0 23 (nI (scN (h.1 3 2) nt gv2))) fr us2 gv2 cm2 qu2 st)) : Ct l G 5 yX11_serves cX11_serves 5 none [.ref (G.1 3 0)] (qH h fr us gv cm qu st) Q := by
  refine Ct.of (by decide) (Nat.le_of_ble_eq_true rfl) ?_
  show AW l G 5 RX11 cX11_serves 5 none 0 [some (.ref (G.1 3 0))] [] (qH h fr us gv cm qu st) Q
  refine a_iconst (v := 0) dX11_serves_0 (by decide) ?_
  refine a_istore_n dX11_serves_1 (by decide) rfl ?_
  dsimp only [lset]
  rw [show qH h fr us gv cm qu st = qH h fr (filG (fun _ => 0) us 0) gv cm qu st by rw [filG_0]]
  exact l11_s1 hP hg 0 (by omega) hQ
