theorem goP_r (T : Nat → Int32) (L : Nat) (s : PSt) : (goP T L s).2.2 = s.2.2 := rfl
theorem ixY0 (t : Nat) : (7 : Int32) + 12 * nI t = nI (7 + 12 * t) := by
  rw [show (7 : Int32) = nI 7 from rfl, show (12 : Int32) = nI 12 from rfl, pk_mul, nI_add]
theorem ixL0 (t : Nat) : (79 : Int32) + 3 * nI t = nI (79 + 3 * t) := by
  rw [show (79 : Int32) = nI 79 from rfl, show (3 : Int32) = nI 3 from rfl, pk_mul, nI_add]
theorem tyLP_01 (T : Nat → Int32) (L a f : Nat) : ∀ s, (tyLP T L a f s).1 = 0 ∨ (tyLP T L a f s).1 = 1 := by
  induction f with
  | zero => intro s; exact Or.inl rfl
  | succ f ih =>
    intro s
    unfold tyLP
    split
    · exact andP_01 (fun s => ih _)
    · exact Or.inr rfl
theorem lndsP_01 (T : Nat → Int32) (L : Nat) (s : PSt) : (lndsP T L s).1 = 0 ∨ (lndsP T L s).1 = 1 := by
  unfold lndsP
  split
  · exact Or.inl rfl
  · exact andP_01 (fun s => andP_01 (fun s => Or.inr rfl))
theorem bordP_01 (T : Nat → Int32) (L : Nat) (s : PSt) : (bordP T L s).1 = 0 ∨ (bordP T L s).1 = 1 := by
  unfold bordP
  split
  · exact Or.inl rfl
  · exact andP_01 (fun s => andP_01 (fun s => Or.inr rfl))
theorem lorP_01 (T : Nat → Int32) (L : Nat) (s : PSt) : (lorP T L s).1 = 0 ∨ (lorP T L s).1 = 1 := by
  unfold lorP
  split
  · exact Or.inl rfl
  · exact andP_01 (fun s => andP_01 (fun s => Or.inr rfl))
theorem typP_01 (T : Nat → Int32) (L : Nat) (s : PSt) : (typP T L s).1 = 0 ∨ (typP T L s).1 = 1 := by
  unfold typP
  split
  · exact Or.inl rfl
  · refine andP_01 (fun s => andP_01 (fun s => andP_01 (fun s => andP_01 (fun s => andP_01 (fun s => ?_)))))
    split
    · exact tyLP_01 _ _ _ _ _
    · exact Or.inl rfl
theorem linP_01 (T : Nat → Int32) (L : Nat) (b : Bool) (s : PSt) : (linP T L b s).1 = 0 ∨ (linP T L b s).1 = 1 := by
  unfold linP
  repeat' split
  · exact lndsP_01 _ _ _
  · exact Or.inl rfl
  · exact lorP_01 _ _ _
  · exact typP_01 _ _ _
  · exact bordP_01 _ _ _
theorem PI.to_le {L : Nat} {s : PSt} (h : PI L s) : pTo s ≤ L ∧ s.1 4 = nI (pTo s) := by
  obtain ⟨-, h2, ⟨p, hp, hp4⟩, -⟩ := h
  have : pTo s = p := by unfold pTo; rw [hp4]; exact nI_clamp (by omega)
  rw [this]
  exact ⟨hp, hp4⟩
theorem l11_tyL {l : Launch} {G : GG} {h : AH} {Q : Option Value → AH → Prop} {s : PSt} {L a : Nat} (f : Nat) (hI : PI L s) (ha5 : 5 ≤ a) (ha : a < 600) (hf1 : 1 ≤ f) (hf : s.1 6 = 3 → L + 1 < f + pTo s) (hQ : Q (some (.int (tyLP (h.1 3 1) L a f s).1)) (pH h (tyLP (h.1 3 1) L a f s).2.1 (tyLP (h.1 3 1) L a f s).2.2.1 (tyLP (h.1 3 1) L a f s).2.2.2)) : AW l G 4 RX11 cX11_readType 2 (some .boolean) 110 [some (.ref (G.1 3 0)), some (.int (nI a))] [] (pH h s.1 s.2.1 s.2.2) Q := by
  obtain ⟨g, rfl⟩ : ∃ g, f = g + 1 := ⟨f - 1, by omega⟩
  have ea : nI a + 6 = nI (a + 6) := nI_add a 6
  have eac : (nI (a + 6)).toNatClampNeg = a + 6 := nI_clamp (by omega)
  rw [tyLP] at hQ
  refine a_aload_n dX11_readType_110 rfl ?_
  refine a_getI (ci := 11) (j := 6) dX11_readType_111 rfl rfl (by decide) rfl fl_11_27 ?_
  try simp (disch := first | decide | assumption | omega) only [ui_eq, ui_k, ui_j, ui_b, ui_2, ul_1, ul_eq, ul_k, ul_j, ul_b, pH_g, pH_gr, pH_r, cl3, ea, eac]
  refine a_iconst (v := 3) dX11_readType_114 (by decide) ?_
  refine a_icmp_ne dX11_readType_115 (tgt := 157) (by decide) (fun c115 => ?_) (fun c115 => ?_)
  · rw [if_neg c115] at hQ
    refine a_aload_n dX11_readType_157 rfl ?_
    refine a_getR (ci := 11) (j := 12) dX11_readType_158 rfl rfl (by decide) rfl fl_11_75 ?_
    refine a_iconst (v := 3) dX11_readType_161 (by decide) ?_
    refine a_dup2 dX11_readType_162 rfl rfl ?_
    refine a_iaload dX11_readType_163 rfl (by rw [vp_in_iff]; decide) ?_
    try simp (disch := first | decide | assumption | omega) only [ui_eq, ui_k, ui_j, ui_b, ui_2, ul_1, ul_eq, ul_k, ul_j, ul_b, pH_g, pH_gr, pH_r, cl3, ea, eac]
    refine a_iconst (v := 1) dX11_readType_164 (by decide) ?_
    refine a_iadd dX11_readType_165 ?_
    refine a_iastore dX11_readType_166 rfl (by rw [vp_in_iff]; decide) ?_
    refine a_iconst (v := 1) dX11_readType_167 (by decide) ?_
    exact a_zret dX11_readType_168 rfl rfl (by
  simp only [pH_r, cl3]
  exact hQ)
  · rw [if_pos c115] at hQ
    refine a_aload_n dX11_readType_118 rfl ?_
    refine a_aload_n dX11_readType_119 rfl ?_
    refine a_getR (ci := 11) (j := 12) dX11_readType_120 rfl rfl (by decide) rfl fl_11_75 ?_
    refine a_iload_n dX11_readType_123 rfl ?_
    refine a_bipush (v := 6) dX11_readType_124 (by decide) ?_
    refine a_iadd dX11_readType_126 ?_
    refine a_iaload dX11_readType_127 rfl (by (try rw [ea]); exact vp_in_nI (by omega) (by decide)) ?_
    try simp (disch := first | decide | assumption | omega) only [ui_eq, ui_k, ui_j, ui_b, ui_2, ul_1, ul_eq, ul_k, ul_j, ul_b, pH_g, pH_gr, pH_r, cl3, ea, eac]
    refine a_cV1i dX11_readType_128 ml_11_127 wv_11_land rfl rfl (by decide) (Nat.le_of_ble_eq_true rfl) (c11_land hI ⟨rfl, rfl⟩) ?_
    try simp (disch := first | decide | assumption | omega) only [ui_eq, ui_k, ui_j, ui_b, ui_2, ul_1, ul_eq, ul_k, ul_j, ul_b, pH_g, pH_gr, pH_r, cl3, ea, eac]
    refine a_if_ne dX11_readType_131 (tgt := 136) (by decide) (fun c131 => ?_) (fun c131 => ?_)
    · rw [andP_t c131] at hQ
      refine a_aload_n dX11_readType_136 rfl ?_
      refine a_getR (ci := 11) (j := 12) dX11_readType_137 rfl rfl (by decide) rfl fl_11_75 ?_
      refine a_iload_n dX11_readType_140 rfl ?_
      refine a_bipush (v := 6) dX11_readType_141 (by decide) ?_
      refine a_iadd dX11_readType_143 ?_
      refine a_dup2 dX11_readType_144 rfl rfl ?_
      refine a_iaload dX11_readType_145 rfl (by (try rw [ea]); exact vp_in_nI (by omega) (by decide)) ?_
      try simp (disch := first | decide | assumption | omega) only [ui_eq, ui_k, ui_j, ui_b, ui_2, ul_1, ul_eq, ul_k, ul_j, ul_b, pH_g, pH_gr, pH_r, cl3, ea, eac]
      refine a_iconst (v := 1) dX11_readType_146 (by decide) ?_
      refine a_aload_n dX11_readType_147 rfl ?_
      refine a_getI (ci := 11) (j := 15) dX11_readType_148 rfl rfl (by decide) rfl fl_11_117 ?_
      try simp (disch := first | decide | assumption | omega) only [ui_eq, ui_k, ui_j, ui_b, ui_2, ul_1, ul_eq, ul_k, ul_j, ul_b, pH_g, pH_gr, pH_r, cl3, ea, eac]
      refine a_ishl dX11_readType_151 ?_
      refine a_ior dX11_readType_152 ?_
      refine a_iastore dX11_readType_153 rfl (by (try rw [ea]); exact vp_in_nI (by omega) (by decide)) ?_
      refine a_goto dX11_readType_154 (tgt := 110) (by decide) ?_
      simp only [pH_r, eac]
      have hm := landP_ok (h.1 3 1) hI c131
      have hI2 := (landP_PI (h.1 3 1) (but := s.2.2 (a + 6)) hI).r1 (a := a + 6) (v := (landP (h.1 3 1) L (s.2.2 (a + 6)) s).2.2.2 (a + 6) ||| 1 <<< ((landP (h.1 3 1) L (s.2.2 (a + 6)) s).2.1 15 &&& 31)) (by omega)
      have hl := hI.to_le.1
      have hff := hf c115
      exact l11_tyL g hI2 ha5 ha (by omega) (fun z => Nat.lt_of_lt_of_le (show L + 1 < g + 1 + pTo s from hff) (by have := hm.1.2.2 z; unfold pTo at *; simp only [] at *; omega)) hQ
    · rw [andP_f c131] at hQ
      refine a_iconst (v := 0) dX11_readType_134 (by decide) ?_
      exact a_zret dX11_readType_135 rfl rfl hQ
termination_by f
decreasing_by all_goals omega
def ty5 (T : Nat → Int32) (L A : Nat) (s : PSt) : Int32 × PSt := andP (toldP T L (A + 5) 0 99 s) fun s1 => if s1.1 6 = 3 then tyLP T L A 742 s1 else (0, badP 1 s1)
def ty4 (T : Nat → Int32) (L A : Nat) (s : PSt) : Int32 × PSt := andP (toldP T L (A + 4) 0 9 s) (ty5 T L A)
def ty3 (T : Nat → Int32) (L A : Nat) (s : PSt) : Int32 × PSt := andP (toldP T L (A + 3) 0 99 s) (ty4 T L A)
def ty2 (T : Nat → Int32) (L A : Nat) (s : PSt) : Int32 × PSt := andP (toldP T L (A + 2) 1 6 s) (ty3 T L A)
theorem typP_eq (T : Nat → Int32) (L : Nat) (s : PSt) : typP T L s = if s.2.2 3 = 6 then (0, badP 3 s) else andP (kndP T L (7 + 12 * (s.2.2 3).toNatClampNeg) (goP T L s)) (ty2 T L (7 + 12 * (s.2.2 3).toNatClampNeg)) := rfl
theorem l11_ty81 {l : Launch} {G : GG} {h : AH} {Q : Option Value → AH → Prop} {s : PSt} {L : Nat} (hI : PI L s) {a : Nat} (ha5 : 5 ≤ a) (ha : a < 600) (hQ : Q (some (.int (ty5 (h.1 3 1) L a s).1)) (pH h (ty5 (h.1 3 1) L a s).2.1 (ty5 (h.1 3 1) L a s).2.2.1 (ty5 (h.1 3 1) L a s).2.2.2)) : AW l G 4 RX11 cX11_readType 2 (some .boolean) 81 [some (.ref (G.1 3 0)), some (.int (nI a))] [] (pH h s.1 s.2.1 s.2.2) Q := by
  unfold ty5 at hQ
  refine a_aload_n dX11_readType_81 rfl ?_
  refine a_iload_n dX11_readType_82 rfl ?_
  refine a_iconst (v := 5) dX11_readType_83 (by decide) ?_
  refine a_iadd dX11_readType_84 ?_
  refine a_iconst (v := 0) dX11_readType_85 (by decide) ?_
  refine a_bipush (v := 99) dX11_readType_86 (by decide) ?_
  rw [show nI a + 5 = nI (a + 5) from nI_add a 5]
  refine a_cV3i dX11_readType_88 ml_11_124 wv_11_told rfl rfl (by decide) (Nat.le_of_ble_eq_true rfl) (c11_told (a := a + 5) hI (by omega) (fun v _ _ => rv_up hI.rv (by omega)) ⟨rfl, rfl⟩) ?_
  try simp (disch := first | decide | assumption | omega) only [ui_eq, ui_k, ui_j, ui_b, ui_2, ul_1, ul_eq, ul_k, ul_j, ul_b, pH_g, pH_gr]
  refine a_if_ne dX11_readType_91 (tgt := 96) (by decide) (fun c91 => ?_) (fun c91 => ?_)
  · rw [andP_t c91] at hQ
    have hI2 := (told_okM (h.1 3 1) hI (a := a + 5) (by omega) c91).1
    refine a_aload_n dX11_readType_96 rfl ?_
    refine a_getI (ci := 11) (j := 6) dX11_readType_97 rfl rfl (by decide) rfl fl_11_27 ?_
    try simp (disch := first | decide | assumption | omega) only [ui_eq, ui_k, ui_j, ui_b, ui_2, ul_1, ul_eq, ul_k, ul_j, ul_b, pH_g, pH_gr]
    refine a_iconst (v := 3) dX11_readType_100 (by decide) ?_
    refine a_icmp_eq dX11_readType_101 (tgt := 110) (by decide) (fun c101 => ?_) (fun c101 => ?_)
    · rw [if_pos c101] at hQ
      exact l11_tyL 742 hI2 ha5 ha (by decide) (fun _ => by have := hI.2.1; omega) hQ
    · rw [if_neg c101] at hQ
      refine a_aload_n dX11_readType_104 rfl ?_
      refine a_iconst (v := 1) dX11_readType_105 (by decide) ?_
      refine a_cV1i dX11_readType_106 ml_11_103 wv_11_bad rfl rfl (by decide) (Nat.le_of_ble_eq_true rfl) (c11_bad ⟨rfl, rfl⟩) ?_
      try simp (disch := first | decide | assumption | omega) only [ui_eq, ui_k, ui_j, ui_b, ui_2, ul_1, ul_eq, ul_k, ul_j, ul_b, pH_g, pH_gr]
      exact a_zret dX11_readType_109 rfl rfl hQ
  · rw [andP_f c91] at hQ
    refine a_iconst (v := 0) dX11_readType_94 (by decide) ?_
    exact a_zret dX11_readType_95 rfl rfl hQ
theorem l11_ty68 {l : Launch} {G : GG} {h : AH} {Q : Option Value → AH → Prop} {s : PSt} {L : Nat} (hI : PI L s) {a : Nat} (ha5 : 5 ≤ a) (ha : a < 600) (hQ : Q (some (.int (ty4 (h.1 3 1) L a s).1)) (pH h (ty4 (h.1 3 1) L a s).2.1 (ty4 (h.1 3 1) L a s).2.2.1 (ty4 (h.1 3 1) L a s).2.2.2)) : AW l G 4 RX11 cX11_readType 2 (some .boolean) 68 [some (.ref (G.1 3 0)), some (.int (nI a))] [] (pH h s.1 s.2.1 s.2.2) Q := by
  unfold ty4 at hQ
  refine a_aload_n dX11_readType_68 rfl ?_
  refine a_iload_n dX11_readType_69 rfl ?_
  refine a_iconst (v := 4) dX11_readType_70 (by decide) ?_
  refine a_iadd dX11_readType_71 ?_
  refine a_iconst (v := 0) dX11_readType_72 (by decide) ?_
  refine a_bipush (v := 9) dX11_readType_73 (by decide) ?_
  rw [show nI a + 4 = nI (a + 4) from nI_add a 4]
  refine a_cV3i dX11_readType_75 ml_11_124 wv_11_told rfl rfl (by decide) (Nat.le_of_ble_eq_true rfl) (c11_told (a := a + 4) hI (by omega) (fun v _ _ => rv_up hI.rv (by omega)) ⟨rfl, rfl⟩) ?_
  try simp (disch := first | decide | assumption | omega) only [ui_eq, ui_k, ui_j, ui_b, ui_2, ul_1, ul_eq, ul_k, ul_j, ul_b, pH_g, pH_gr]
  refine a_if_eq dX11_readType_78 (tgt := 94) (by decide) (fun c78 => ?_) (fun c78 => ?_)
  · rw [andP_f c78] at hQ
    refine a_iconst (v := 0) dX11_readType_94 (by decide) ?_
    exact a_zret dX11_readType_95 rfl rfl hQ
  · rw [andP_t c78] at hQ
    have hI2 := (told_okM (h.1 3 1) hI (a := a + 4) (by omega) c78).1
    exact l11_ty81 hI2 ha5 ha hQ
theorem l11_ty55 {l : Launch} {G : GG} {h : AH} {Q : Option Value → AH → Prop} {s : PSt} {L : Nat} (hI : PI L s) {a : Nat} (ha5 : 5 ≤ a) (ha : a < 600) (hQ : Q (some (.int (ty3 (h.1 3 1) L a s).1)) (pH h (ty3 (h.1 3 1) L a s).2.1 (ty3 (h.1 3 1) L a s).2.2.1 (ty3 (h.1 3 1) L a s).2.2.2)) : AW l G 4 RX11 cX11_readType 2 (some .boolean) 55 [some (.ref (G.1 3 0)), some (.int (nI a))] [] (pH h s.1 s.2.1 s.2.2) Q := by
  unfold ty3 at hQ
  refine a_aload_n dX11_readType_55 rfl ?_
  refine a_iload_n dX11_readType_56 rfl ?_
  refine a_iconst (v := 3) dX11_readType_57 (by decide) ?_
  refine a_iadd dX11_readType_58 ?_
  refine a_iconst (v := 0) dX11_readType_59 (by decide) ?_
  refine a_bipush (v := 99) dX11_readType_60 (by decide) ?_
  rw [show nI a + 3 = nI (a + 3) from nI_add a 3]
  refine a_cV3i dX11_readType_62 ml_11_124 wv_11_told rfl rfl (by decide) (Nat.le_of_ble_eq_true rfl) (c11_told (a := a + 3) hI (by omega) (fun v _ _ => rv_up hI.rv (by omega)) ⟨rfl, rfl⟩) ?_
  try simp (disch := first | decide | assumption | omega) only [ui_eq, ui_k, ui_j, ui_b, ui_2, ul_1, ul_eq, ul_k, ul_j, ul_b, pH_g, pH_gr]
  refine a_if_eq dX11_readType_65 (tgt := 94) (by decide) (fun c65 => ?_) (fun c65 => ?_)
  · rw [andP_f c65] at hQ
    refine a_iconst (v := 0) dX11_readType_94 (by decide) ?_
    exact a_zret dX11_readType_95 rfl rfl hQ
  · rw [andP_t c65] at hQ
    have hI2 := (told_okM (h.1 3 1) hI (a := a + 3) (by omega) c65).1
    exact l11_ty68 hI2 ha5 ha hQ
theorem l11_ty42 {l : Launch} {G : GG} {h : AH} {Q : Option Value → AH → Prop} {s : PSt} {L : Nat} (hI : PI L s) {a : Nat} (ha5 : 5 ≤ a) (ha : a < 600) (hQ : Q (some (.int (ty2 (h.1 3 1) L a s).1)) (pH h (ty2 (h.1 3 1) L a s).2.1 (ty2 (h.1 3 1) L a s).2.2.1 (ty2 (h.1 3 1) L a s).2.2.2)) : AW l G 4 RX11 cX11_readType 2 (some .boolean) 42 [some (.ref (G.1 3 0)), some (.int (nI a))] [] (pH h s.1 s.2.1 s.2.2) Q := by
  unfold ty2 at hQ
  refine a_aload_n dX11_readType_42 rfl ?_
  refine a_iload_n dX11_readType_43 rfl ?_
  refine a_iconst (v := 2) dX11_readType_44 (by decide) ?_
  refine a_iadd dX11_readType_45 ?_
  refine a_iconst (v := 1) dX11_readType_46 (by decide) ?_
  refine a_bipush (v := 6) dX11_readType_47 (by decide) ?_
  rw [show nI a + 2 = nI (a + 2) from nI_add a 2]
  refine a_cV3i dX11_readType_49 ml_11_124 wv_11_told rfl rfl (by decide) (Nat.le_of_ble_eq_true rfl) (c11_told (a := a + 2) hI (by omega) (fun v _ _ => rv_up hI.rv (by omega)) ⟨rfl, rfl⟩) ?_
  try simp (disch := first | decide | assumption | omega) only [ui_eq, ui_k, ui_j, ui_b, ui_2, ul_1, ul_eq, ul_k, ul_j, ul_b, pH_g, pH_gr]
  refine a_if_eq dX11_readType_52 (tgt := 94) (by decide) (fun c52 => ?_) (fun c52 => ?_)
  · rw [andP_f c52] at hQ
    refine a_iconst (v := 0) dX11_readType_94 (by decide) ?_
    exact a_zret dX11_readType_95 rfl rfl hQ
  · rw [andP_t c52] at hQ
    have hI2 := (told_okM (h.1 3 1) hI (a := a + 2) (by omega) c52).1
    exact l11_ty55 hI2 ha5 ha hQ
theorem c11_readType {l : Launch} {G : GG} {h : AH} {Q : Option Value → AH → Prop} {s : PSt} {L : Nat} (hI : PI L s) (hQ : Q (some (.int (typP (h.1 3 1) L s).1)) (pH h (typP (h.1 3 1) L s).2.1 (typP (h.1 3 1) L s).2.2.1 (typP (h.1 3 1) L s).2.2.2)) : Ct l G 4 yX11_readType cX11_readType 2 (some .boolean) [.ref (G.1 3 0)] (pH h s.1 s.2.1 s.2.2) Q := by
  refine Ct.of (by decide) (Nat.le_of_ble_eq_true rfl) ?_
  show AW l G 4 RX11 cX11_readType 2 (some .boolean) 0 [some (.ref (G.1 3 0))] [] (pH h s.1 s.2.1 s.2.2) Q
  have hI1 := hI.go (h.1 3 1)
  obtain ⟨-, -, ⟨np, hnp6, hnp⟩, -⟩ := id hI.rv
  have hnpc : (s.2.2 3).toNatClampNeg = np := by rw [hnp]; exact nI_clamp (by omega)
  rw [typP_eq, hnpc] at hQ
  refine a_aload_n dX11_readType_0 rfl ?_
  refine a_getR (ci := 11) (j := 12) dX11_readType_1 rfl rfl (by decide) rfl fl_11_75 ?_
  refine a_iconst (v := 3) dX11_readType_4 (by decide) ?_
  refine a_iaload dX11_readType_5 rfl (by rw [vp_in_iff]; decide) ?_
  try simp (disch := first | decide | assumption | omega) only [ui_eq, ui_k, ui_j, ui_b, ui_2, ul_1, ul_eq, ul_k, ul_j, ul_b, pH_g, pH_gr, cl3, goP_r, hnp]
  refine a_bipush (v := 6) dX11_readType_6 (by decide) ?_
  refine a_icmp_ne dX11_readType_8 (tgt := 17) (by decide) (fun c8 => ?_) (fun c8 => ?_)
  · have hn6 : ¬ np = 6 := fun z => c8 (by rw [z]; rfl)
    rw [if_neg (by rw [hnp]; exact c8)] at hQ
    refine a_aload_n dX11_readType_17 rfl ?_
    refine a_cV0v dX11_readType_18 ml_11_110 wv_11_go rfl rfl (by decide) (Nat.le_of_ble_eq_true rfl) (c11_goP hI ⟨rfl, rfl⟩) ?_
    try simp (disch := first | decide | assumption | omega) only [ui_eq, ui_k, ui_j, ui_b, ui_2, ul_1, ul_eq, ul_k, ul_j, ul_b, pH_g, pH_gr, cl3, goP_r, hnp]
    refine a_bipush (v := 7) dX11_readType_21 (by decide) ?_
    refine a_bipush (v := 12) dX11_readType_23 (by decide) ?_
    refine a_aload_n dX11_readType_25 rfl ?_
    refine a_getR (ci := 11) (j := 12) dX11_readType_26 rfl rfl (by decide) rfl fl_11_75 ?_
    refine a_iconst (v := 3) dX11_readType_29 (by decide) ?_
    refine a_iaload dX11_readType_30 rfl (by rw [vp_in_iff]; decide) ?_
    try simp (disch := first | decide | assumption | omega) only [ui_eq, ui_k, ui_j, ui_b, ui_2, ul_1, ul_eq, ul_k, ul_j, ul_b, pH_g, pH_gr, cl3, goP_r, hnp]
    refine a_imul dX11_readType_31 ?_
    refine a_iadd dX11_readType_32 ?_
    rw [ixY0]
    refine a_istore_n dX11_readType_33 (by decide) rfl ?_
    dsimp only [lset]
    refine a_aload_n dX11_readType_34 rfl ?_
    refine a_iload_n dX11_readType_35 rfl ?_
    refine a_cV1i dX11_readType_36 ml_11_134 wv_11_readKind rfl rfl (by decide) (Nat.le_of_ble_eq_true rfl) (c11_readKind (a := 7 + 12 * np) hI1 (by omega) (by omega) ⟨rfl, rfl⟩) ?_
    try simp (disch := first | decide | assumption | omega) only [ui_eq, ui_k, ui_j, ui_b, ui_2, ul_1, ul_eq, ul_k, ul_j, ul_b, pH_g, pH_gr, cl3, goP_r, hnp]
    refine a_if_eq dX11_readType_39 (tgt := 94) (by decide) (fun c39 => ?_) (fun c39 => ?_)
    · rw [andP_f c39] at hQ
      refine a_iconst (v := 0) dX11_readType_94 (by decide) ?_
      exact a_zret dX11_readType_95 rfl rfl hQ
    · rw [andP_t c39] at hQ
      obtain ⟨hI2, -⟩ := kndP_ok (h.1 3 1) hI1 (by omega) c39
      exact l11_ty42 hI2 (by omega) (by omega) hQ
  · rw [if_pos (by rw [hnp]; exact c8)] at hQ
    refine a_aload_n dX11_readType_11 rfl ?_
    refine a_iconst (v := 3) dX11_readType_12 (by decide) ?_
    refine a_cV1i dX11_readType_13 ml_11_103 wv_11_bad rfl rfl (by decide) (Nat.le_of_ble_eq_true rfl) (c11_bad ⟨rfl, rfl⟩) ?_
    try simp (disch := first | decide | assumption | omega) only [ui_eq, ui_k, ui_j, ui_b, ui_2, ul_1, ul_eq, ul_k, ul_j, ul_b, pH_g, pH_gr, cl3, goP_r, hnp]
    exact a_zret dX11_readType_16 rfl rfl hQ
theorem c11_readLorry {l : Launch} {G : GG} {h : AH} {Q : Option Value → AH → Prop} {s : PSt} {L : Nat} (hI : PI L s) (hQ : Q (some (.int (lorP (h.1 3 1) L s).1)) (pH h (lorP (h.1 3 1) L s).2.1 (lorP (h.1 3 1) L s).2.2.1 (lorP (h.1 3 1) L s).2.2.2)) : Ct l G 3 yX11_readLorry cX11_readLorry 2 (some .boolean) [.ref (G.1 3 0)] (pH h s.1 s.2.1 s.2.2) Q := by
  refine Ct.of (by decide) (Nat.le_of_ble_eq_true rfl) ?_
  show AW l G 3 RX11 cX11_readLorry 2 (some .boolean) 0 [some (.ref (G.1 3 0))] [] (pH h s.1 s.2.1 s.2.2) Q
  have hI1 := hI.go (h.1 3 1)
  obtain ⟨-, -, -, ⟨nq, hnq8, hnq⟩⟩ := id hI.rv
  have hnqc : (s.2.2 4).toNatClampNeg = nq := by rw [hnq]; exact nI_clamp (by omega)
  have hac : (nI (79 + 3 * nq)).toNatClampNeg = 79 + 3 * nq := nI_clamp (by omega)
  rw [lorP, hnqc] at hQ
  refine a_aload_n dX11_readLorry_0 rfl ?_
  refine a_getR (ci := 11) (j := 12) dX11_readLorry_1 rfl rfl (by decide) rfl fl_11_75 ?_
  refine a_iconst (v := 4) dX11_readLorry_4 (by decide) ?_
  refine a_iaload dX11_readLorry_5 rfl (by rw [vp_in_iff]; decide) ?_
  try simp (disch := first | decide | assumption | omega) only [ui_eq, ui_k, ui_j, ui_b, ui_2, ul_1, ul_eq, ul_k, ul_j, ul_b, pH_g, pH_gr, pH_r, cl4, goP_r, hnq, hac]
  refine a_bipush (v := 8) dX11_readLorry_6 (by decide) ?_
  refine a_icmp_ne dX11_readLorry_8 (tgt := 17) (by decide) (fun c8 => ?_) (fun c8 => ?_)
  · have hn6 : ¬ nq = 8 := fun z => c8 (by rw [z]; rfl)
    rw [if_neg (by rw [hnq]; exact c8)] at hQ
    refine a_aload_n dX11_readLorry_17 rfl ?_
    refine a_cV0v dX11_readLorry_18 ml_11_110 wv_11_go rfl rfl (by decide) (Nat.le_of_ble_eq_true rfl) (c11_goP hI ⟨rfl, rfl⟩) ?_
    try simp (disch := first | decide | assumption | omega) only [ui_eq, ui_k, ui_j, ui_b, ui_2, ul_1, ul_eq, ul_k, ul_j, ul_b, pH_g, pH_gr, pH_r, cl4, goP_r, hnq, hac]
    refine a_bipush (v := 79) dX11_readLorry_21 (by decide) ?_
    refine a_iconst (v := 3) dX11_readLorry_23 (by decide) ?_
    refine a_aload_n dX11_readLorry_24 rfl ?_
    refine a_getR (ci := 11) (j := 12) dX11_readLorry_25 rfl rfl (by decide) rfl fl_11_75 ?_
    refine a_iconst (v := 4) dX11_readLorry_28 (by decide) ?_
    refine a_iaload dX11_readLorry_29 rfl (by rw [vp_in_iff]; decide) ?_
    try simp (disch := first | decide | assumption | omega) only [ui_eq, ui_k, ui_j, ui_b, ui_2, ul_1, ul_eq, ul_k, ul_j, ul_b, pH_g, pH_gr, pH_r, cl4, goP_r, hnq, hac]
    refine a_imul dX11_readLorry_30 ?_
    refine a_iadd dX11_readLorry_31 ?_
    rw [ixL0]
    refine a_istore_n dX11_readLorry_32 (by decide) rfl ?_
    dsimp only [lset]
    refine a_aload_n dX11_readLorry_33 rfl ?_
    refine a_iconst (v := 0) dX11_readLorry_34 (by decide) ?_
    refine a_cV1i dX11_readLorry_35 ml_11_127 wv_11_land rfl rfl (by decide) (Nat.le_of_ble_eq_true rfl) (c11_land hI1 ⟨rfl, rfl⟩) ?_
    try simp (disch := first | decide | assumption | omega) only [ui_eq, ui_k, ui_j, ui_b, ui_2, ul_1, ul_eq, ul_k, ul_j, ul_b, pH_g, pH_gr, pH_r, cl4, goP_r, hnq, hac]
    refine a_if_ne dX11_readLorry_38 (tgt := 43) (by decide) (fun c38 => ?_) (fun c38 => ?_)
    · rw [andP_t c38] at hQ
      have hI3 := (landP_PI (h.1 3 1) (but := 0) hI1).r1 (a := 79 + 3 * nq) (v := (landP (h.1 3 1) L 0 (goP (h.1 3 1) L s)).2.1 15) (by omega)
      refine a_aload_n dX11_readLorry_43 rfl ?_
      refine a_getR (ci := 11) (j := 12) dX11_readLorry_44 rfl rfl (by decide) rfl fl_11_75 ?_
      refine a_iload_n dX11_readLorry_47 rfl ?_
      refine a_aload_n dX11_readLorry_48 rfl ?_
      refine a_getI (ci := 11) (j := 15) dX11_readLorry_49 rfl rfl (by decide) rfl fl_11_117 ?_
      try simp (disch := first | decide | assumption | omega) only [ui_eq, ui_k, ui_j, ui_b, ui_2, ul_1, ul_eq, ul_k, ul_j, ul_b, pH_g, pH_gr, pH_r, cl4, goP_r, hnq, hac]
      refine a_iastore dX11_readLorry_52 rfl (vp_in_nI (by omega) (by decide)) ?_
      refine a_aload_n dX11_readLorry_53 rfl ?_
      refine a_iload_n dX11_readLorry_54 rfl ?_
      refine a_iconst (v := 1) dX11_readLorry_55 (by decide) ?_
      refine a_iadd dX11_readLorry_56 ?_
      refine a_iconst (v := 1) dX11_readLorry_57 (by decide) ?_
      refine a_bipush (v := 6) dX11_readLorry_58 (by decide) ?_
      rw [hac, pH_r, show nI (79 + 3 * nq) + 1 = nI (79 + 3 * nq + 1) from nI_add _ 1]
      refine a_cV3i dX11_readLorry_60 ml_11_124 wv_11_told rfl rfl (by decide) (Nat.le_of_ble_eq_true rfl) (c11_told (a := 79 + 3 * nq + 1) hI3 (by omega) (fun v _ _ => rv_up hI3.rv (by omega)) ⟨rfl, rfl⟩) ?_
      try simp (disch := first | decide | assumption | omega) only [ui_eq, ui_k, ui_j, ui_b, ui_2, ul_1, ul_eq, ul_k, ul_j, ul_b, pH_g, pH_gr, pH_r, cl4, goP_r, hnq, hac]
      refine a_if_ne dX11_readLorry_63 (tgt := 68) (by decide) (fun c63 => ?_) (fun c63 => ?_)
      · rw [andP_t c63] at hQ
        refine a_aload_n dX11_readLorry_68 rfl ?_
        refine a_getR (ci := 11) (j := 12) dX11_readLorry_69 rfl rfl (by decide) rfl fl_11_75 ?_
        refine a_iconst (v := 4) dX11_readLorry_72 (by decide) ?_
        refine a_dup2 dX11_readLorry_73 rfl rfl ?_
        refine a_iaload dX11_readLorry_74 rfl (by rw [vp_in_iff]; decide) ?_
        try simp (disch := first | decide | assumption | omega) only [ui_eq, ui_k, ui_j, ui_b, ui_2, ul_1, ul_eq, ul_k, ul_j, ul_b, pH_g, pH_gr, pH_r, cl4, goP_r, hnq, hac]
        refine a_iconst (v := 1) dX11_readLorry_75 (by decide) ?_
        refine a_iadd dX11_readLorry_76 ?_
        refine a_iastore dX11_readLorry_77 rfl (by rw [vp_in_iff]; decide) ?_
        refine a_iconst (v := 1) dX11_readLorry_78 (by decide) ?_
        exact a_zret dX11_readLorry_79 rfl rfl (by
  simp only [pH_r, cl4]
  exact hQ)
      · rw [andP_f c63] at hQ
        refine a_iconst (v := 0) dX11_readLorry_66 (by decide) ?_
        exact a_zret dX11_readLorry_67 rfl rfl hQ
    · rw [andP_f c38] at hQ
      refine a_iconst (v := 0) dX11_readLorry_41 (by decide) ?_
      exact a_zret dX11_readLorry_42 rfl rfl hQ
  · rw [if_pos (by rw [hnq]; exact c8)] at hQ
    refine a_aload_n dX11_readLorry_11 rfl ?_
    refine a_iconst (v := 3) dX11_readLorry_12 (by decide) ?_
    refine a_cV1i dX11_readLorry_13 ml_11_103 wv_11_bad rfl rfl (by decide) (Nat.le_of_ble_eq_true rfl) (c11_bad ⟨rfl, rfl⟩) ?_
    try simp (disch := first | decide | assumption | omega) only [ui_eq, ui_k, ui_j, ui_b, ui_2, ul_1, ul_eq, ul_k, ul_j, ul_b, pH_g, pH_gr, pH_r, cl4, goP_r, hnq, hac]
    exact a_zret dX11_readLorry_16 rfl rfl hQ
theorem c11_readLine {l : Launch} {G : GG} {h : AH} {Q : Option Value → AH → Prop} {s : PSt} {L : Nat} (hI : PI L s) {v : Int32} {b : Bool} (hvb : b = decide (¬ v = 0)) (hQ : Q (some (.int (linP (h.1 3 1) L b s).1)) (pH h (linP (h.1 3 1) L b s).2.1 (linP (h.1 3 1) L b s).2.2.1 (linP (h.1 3 1) L b s).2.2.2)) : Ct l G 5 yX11_readLine cX11_readLine 2 (some .boolean) [.ref (G.1 3 0), .int v] (pH h s.1 s.2.1 s.2.2) Q := by
  refine Ct.of (by decide) (Nat.le_of_ble_eq_true rfl) ?_
  show AW l G 5 RX11 cX11_readLine 2 (some .boolean) 0 [some (.ref (G.1 3 0)), some (.int v)] [] (pH h s.1 s.2.1 s.2.2) Q
  subst hvb
  rw [linP] at hQ
  refine a_iload_n dX11_readLine_0 rfl ?_
  refine a_if_eq dX11_readLine_1 (tgt := 9) (by decide) (fun c1 => ?_) (fun c1 => ?_)
  · rw [if_neg (by simp [c1])] at hQ
    refine a_aload_n dX11_readLine_9 rfl ?_
    refine a_bipush (v := 98) dX11_readLine_10 (by decide) ?_
    refine a_bipush (v := 111) dX11_readLine_12 (by decide) ?_
    refine a_bipush (v := 114) dX11_readLine_14 (by decide) ?_
    refine a_bipush (v := 100) dX11_readLine_16 (by decide) ?_
    refine a_bipush (v := 101) dX11_readLine_18 (by decide) ?_
    refine a_bipush (v := 114) dX11_readLine_20 (by decide) ?_
    refine a_cS6l dX11_readLine_22 ml_11_130 ws_11_six (by decide) (Nat.le_of_ble_eq_true rfl) (c11_six ⟨rfl, rfl⟩) ?_
    refine a_cV1i dX11_readLine_25 ml_11_120 wv_11_isWord rfl rfl (by decide) (Nat.le_of_ble_eq_true rfl) (c11_isWord ⟨rfl, rfl⟩) ?_
    refine a_if_eq dX11_readLine_28 (tgt := 36) (by decide) (fun c28 => ?_) (fun c28 => ?_)
    · rw [if_pos c28] at hQ
      refine a_aload_n dX11_readLine_36 rfl ?_
      refine a_bipush (v := 116) dX11_readLine_37 (by decide) ?_
      refine a_bipush (v := 121) dX11_readLine_39 (by decide) ?_
      refine a_bipush (v := 112) dX11_readLine_41 (by decide) ?_
      refine a_bipush (v := 101) dX11_readLine_43 (by decide) ?_
      refine a_cS4l dX11_readLine_45 ml_11_52 ws_11_four (by decide) (Nat.le_of_ble_eq_true rfl) (c11_four ⟨rfl, rfl⟩) ?_
      refine a_cV1i dX11_readLine_48 ml_11_120 wv_11_isWord rfl rfl (by decide) (Nat.le_of_ble_eq_true rfl) (c11_isWord ⟨rfl, rfl⟩) ?_
      refine a_if_eq dX11_readLine_51 (tgt := 59) (by decide) (fun c51 => ?_) (fun c51 => ?_)
      · rw [if_pos c51] at hQ
        refine a_aload_n dX11_readLine_59 rfl ?_
        refine a_bipush (v := 108) dX11_readLine_60 (by decide) ?_
        refine a_bipush (v := 111) dX11_readLine_62 (by decide) ?_
        refine a_bipush (v := 114) dX11_readLine_64 (by decide) ?_
        refine a_bipush (v := 114) dX11_readLine_66 (by decide) ?_
        refine a_bipush (v := 121) dX11_readLine_68 (by decide) ?_
        refine a_cS5l dX11_readLine_70 ml_11_56 ws_11_five (by decide) (Nat.le_of_ble_eq_true rfl) (c11_five ⟨rfl, rfl⟩) ?_
        refine a_cV1i dX11_readLine_73 ml_11_120 wv_11_isWord rfl rfl (by decide) (Nat.le_of_ble_eq_true rfl) (c11_isWord ⟨rfl, rfl⟩) ?_
        refine a_if_eq dX11_readLine_76 (tgt := 86) (by decide) (fun c76 => ?_) (fun c76 => ?_)
        · rw [if_pos c76] at hQ
          refine a_aload_n dX11_readLine_86 rfl ?_
          refine a_iconst (v := 1) dX11_readLine_87 (by decide) ?_
          refine a_cV1i dX11_readLine_88 ml_11_103 wv_11_bad rfl rfl (by decide) (Nat.le_of_ble_eq_true rfl) (c11_bad ⟨rfl, rfl⟩) ?_
          exact a_zret dX11_readLine_91 rfl (by first | rfl | exact nar_01 (lorP_01 _ _ _)) hQ
        · rw [if_neg c76] at hQ
          refine a_aload_n dX11_readLine_79 rfl ?_
          refine a_cV0i dX11_readLine_80 ml_11_147 wv_11_readLorry rfl rfl (by decide) (Nat.le_of_ble_eq_true rfl) (c11_readLorry hI ⟨rfl, rfl⟩) ?_
          refine a_goto dX11_readLine_83 (tgt := 91) (by decide) ?_
          exact a_zret dX11_readLine_91 rfl (by first | rfl | exact nar_01 (lorP_01 _ _ _)) hQ
      · rw [if_neg c51] at hQ
        refine a_aload_n dX11_readLine_54 rfl ?_
        refine a_cV0i dX11_readLine_55 ml_11_144 wv_11_readType rfl rfl (by decide) (Nat.le_of_ble_eq_true rfl) (c11_readType hI ⟨rfl, rfl⟩) ?_
        exact a_zret dX11_readLine_58 rfl (nar_01 (typP_01 _ _ _)) hQ
    · rw [if_neg c28] at hQ
      refine a_aload_n dX11_readLine_31 rfl ?_
      refine a_cV0i dX11_readLine_32 ml_11_141 wv_11_readBorder rfl rfl (by decide) (Nat.le_of_ble_eq_true rfl) (c11_readBorder hI ⟨rfl, rfl⟩) ?_
      exact a_zret dX11_readLine_35 rfl (nar_01 (bordP_01 _ _ _)) hQ
  · rw [if_pos (by simp [c1])] at hQ
    refine a_aload_n dX11_readLine_4 rfl ?_
    refine a_cV0i dX11_readLine_5 ml_11_137 wv_11_readLands rfl rfl (by decide) (Nat.le_of_ble_eq_true rfl) (c11_readLands hI ⟨rfl, rfl⟩) ?_
    exact a_zret dX11_readLine_8 rfl (nar_01 (lndsP_01 _ _ _)) hQ
theorem c11_readEnd {l : Launch} {G : GG} {h : AH} {Q : Option Value → AH → Prop} {s : PSt} {L : Nat} (hI : PI L s) (hQ : Q (some (.int (endP (h.1 3 1) L s).1)) (pH h (endP (h.1 3 1) L s).2.1 (endP (h.1 3 1) L s).2.2.1 (endP (h.1 3 1) L s).2.2.2)) : Ct l G 2 yX11_readEnd cX11_readEnd 1 (some .boolean) [.ref (G.1 3 0)] (pH h s.1 s.2.1 s.2.2) Q := by
  refine Ct.of (by decide) (Nat.le_of_ble_eq_true rfl) ?_
  show AW l G 2 RX11 cX11_readEnd 1 (some .boolean) 0 [some (.ref (G.1 3 0))] [] (pH h s.1 s.2.1 s.2.2) Q
  rw [endP] at hQ
  refine a_aload_n dX11_readEnd_0 rfl ?_
  refine a_getI (ci := 11) (j := 6) dX11_readEnd_1 rfl rfl (by decide) rfl fl_11_27 ?_
  try simp (disch := first | decide | assumption | omega) only [ui_eq, ui_k, ui_j, ui_b, ui_2, ul_1, ul_eq, ul_k, ul_j, ul_b, pH_g, pH_gr]
  refine a_iconst (v := 4) dX11_readEnd_4 (by decide) ?_
  refine a_icmp_eq dX11_readEnd_5 (tgt := 14) (by decide) (fun c5 => ?_) (fun c5 => ?_)
  · rw [if_pos c5] at hQ
    refine a_aload_n dX11_readEnd_14 rfl ?_
    refine a_cV0v dX11_readEnd_15 ml_11_110 wv_11_go rfl rfl (by decide) (Nat.le_of_ble_eq_true rfl) (c11_goP hI ⟨rfl, rfl⟩) ?_
    try simp (disch := first | decide | assumption | omega) only [ui_eq, ui_k, ui_j, ui_b, ui_2, ul_1, ul_eq, ul_k, ul_j, ul_b, pH_g, pH_gr]
    refine a_iconst (v := 1) dX11_readEnd_18 (by decide) ?_
    exact a_zret dX11_readEnd_19 rfl rfl hQ
  · rw [if_neg c5] at hQ
    refine a_aload_n dX11_readEnd_8 rfl ?_
    refine a_iconst (v := 1) dX11_readEnd_9 (by decide) ?_
    refine a_cV1i dX11_readEnd_10 ml_11_103 wv_11_bad rfl rfl (by decide) (Nat.le_of_ble_eq_true rfl) (c11_bad ⟨rfl, rfl⟩) ?_
    try simp (disch := first | decide | assumption | omega) only [ui_eq, ui_k, ui_j, ui_b, ui_2, ul_1, ul_eq, ul_k, ul_j, ul_b, pH_g, pH_gr]
    exact a_zret dX11_readEnd_13 rfl rfl hQ
