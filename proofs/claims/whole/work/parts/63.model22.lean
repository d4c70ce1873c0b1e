theorem ixT2c {t : Nat} (h : t < 40) : (nI (111 + 13 * t + 2)).toNatClampNeg = 111 + 13 * t + 2 := nI_clamp (by omega)
theorem ixT3c {t : Nat} (h : t < 40) : (nI (111 + 13 * t + 3)).toNatClampNeg = 111 + 13 * t + 3 := nI_clamp (by omega)
theorem ixT4c {t : Nat} (h : t < 40) : (nI (111 + 13 * t + 4)).toNatClampNeg = 111 + 13 * t + 4 := nI_clamp (by omega)
theorem ixT5c {t : Nat} (h : t < 40) : (nI (111 + 13 * t + 5)).toNatClampNeg = 111 + 13 * t + 5 := nI_clamp (by omega)
theorem ixT6c {t : Nat} (h : t < 40) : (nI (111 + 13 * t + 6)).toNatClampNeg = 111 + 13 * t + 6 := nI_clamp (by omega)
theorem ixL2c {t : Nat} (h : t < 8) : (nI (79 + 3 * t + 2)).toNatClampNeg = 79 + 3 * t + 2 := nI_clamp (by omega)
theorem ixY7c {t : Nat} (h : t < 6) : (nI (7 + 12 * t + 7)).toNatClampNeg = 7 + 12 * t + 7 := nI_clamp (by omega)
theorem ixY8c {t : Nat} (h : t < 6) : (nI (7 + 12 * t + 8)).toNatClampNeg = 7 + 12 * t + 8 := nI_clamp (by omega)
/-- a trip comes home -/
def hm3 (N : Nat → Int32) (t : Nat) (la : Int32) : Nat → Int32 := upd (upd (upd N (111 + 13 * t + 2) 2) (111 + 13 * t + 5) (N 6)) (111 + 13 * t + 6) la
def hm4 (N : Nat → Int32) (t q : Nat) (la : Int32) : Nat → Int32 := if la = 0 then hm3 N t la else upd (hm3 N t la) (79 + 3 * q + 2) (N (79 + 3 * q + 2) + 1)
def hm5 (N : Nat → Int32) (t q k : Nat) (la : Int32) : Nat → Int32 := if mY N k 0 = 0 then (if la = 0 then upd (hm4 N t q la) (7 + 12 * k + 7) (N (7 + 12 * k + 7) + 1) else upd (hm4 N t q la) (7 + 12 * k + 8) (N (7 + 12 * k + 8) + 1)) else hm4 N t q la
def hmD (N : Nat → Int32) (t : Nat) : Int32 := N 6 - mT N t 4
def hmK (N : Nat → Int32) (t : Nat) : Nat := (mT N t 3).toNatClampNeg
def hmL (N : Nat → Int32) (t : Nat) : Int32 := if hmD N t ≤ mY N (hmK N t) 5 then 0 else 1
def hmT (N : Nat → Int32) (nq nt : Nat) (x : Int32) : Int32 := if hasI (nI nq) x = 0 then -1 else tOG N x nt 0
def mHome (h : AH) (nq nt sm : Nat) (x : Int32) : Int32 × AH := if hmT (h.1 3 2) nq nt x = -1 then (0, ui (ui h 3 0 0 0) 3 0 0 1) else
  if mT (h.1 3 2) (hmT (h.1 3 2) nq nt x).toNatClampNeg 2 = 1 then (hmD (h.1 3 2) (hmT (h.1 3 2) nq nt x).toNatClampNeg, acH h sm (hm5 (h.1 3 2) (hmT (h.1 3 2) nq nt x).toNatClampNeg x.toNatClampNeg (hmK (h.1 3 2) (hmT (h.1 3 2) nq nt x).toNatClampNeg) (hmL (h.1 3 2) (hmT (h.1 3 2) nq nt x).toNatClampNeg))) else (0, ui (ui h 3 0 0 0) 3 0 0 1)
theorem l11_hm43 {l : Launch} {G : GG} {h : AH} {Q : Option Value → AH → Prop} {nl np nq nt sm : Nat} (hW : WM h nl np nq nt sm) {q t k : Nat} (hq : q < nq) (ht : t < nt) (hk : k < 6) (hk3 : mT (h.1 3 2) t 3 = nI k) (hQ : Q (some (.int (hmD (h.1 3 2) t))) (acH h sm (hm5 (h.1 3 2) t q k (hmL (h.1 3 2) t)))) : AW l G 2 RX11 cX11_home 6 (some .int) 43 [some (.ref (G.1 3 0)), some (.int (nI q)), some (.int (nI t))] [] (ui h 3 0 0 0) Q := by
  have hW0 := hW.th (v := 0)
  obtain ⟨hnl, hl8, hnp, hp6, hnq, hq8, hnt, ht40, hsm, hsm10, hz, hT⟩ := id hW0
  obtain ⟨gnl, -, gnp, -, gnq, -, gnt, -, gsm, -, gz, gT⟩ := id hW
  have ht4 : t < 40 := by omega
  have hq8b : q < 8 := by omega
  have ek : hmK (h.1 3 2) t = k := by unfold hmK; rw [hk3]; exact nI_clamp (by omega)
  have hk3j : h.1 3 2 (111 + 13 * t + 3) = nI k := hk3
  rw [hmL, ek] at hQ
  refine a_aload_n dX11_home_43 rfl ?_
  refine a_cV0v dX11_home_44 ml_11_259 wv_11_snap rfl rfl (by decide) (Nat.le_of_ble_eq_true rfl) (c11_snapH hsm hsm10 ⟨rfl, rfl⟩) ?_
  try simp (disch := first | decide | assumption | omega) only [ui_eq, ui_k, ui_j, ui_b, ui_2, ul_1, ul_eq, ul_k, ul_j, ul_b, N_k, gnl, gnp, gnq, gnt, gsm, cl0, cl1, cl2, cl3, cl4, cl5, cl6, cl7, cl8, cl9, cl10, acH_0, acG, acGj, acU, up_eq, up_ne, hk3j, ixT2, ixT3, ixT4, ixT5, ixT6, ixL2, ixY7, ixY8, ixT2c, ixT3c, ixT4c, ixT5c, ixT6c, ixL2c, ixY7c, ixY8c]
  refine a_aload_n dX11_home_47 rfl ?_
  refine a_getR (ci := 11) (j := 11) dX11_home_48 rfl rfl (by decide) rfl fl_11_72 ?_
  refine a_bipush (v := 6) dX11_home_51 (by decide) ?_
  refine a_iaload dX11_home_53 rfl (by rw [vp_in_iff]; decide) ?_
  try simp (disch := first | decide | assumption | omega) only [ui_eq, ui_k, ui_j, ui_b, ui_2, ul_1, ul_eq, ul_k, ul_j, ul_b, N_k, gnl, gnp, gnq, gnt, gsm, cl0, cl1, cl2, cl3, cl4, cl5, cl6, cl7, cl8, cl9, cl10, acH_0, acG, acGj, acU, up_eq, up_ne, hk3j, ixT2, ixT3, ixT4, ixT5, ixT6, ixL2, ixY7, ixY8, ixT2c, ixT3c, ixT4c, ixT5c, ixT6c, ixL2c, ixY7c, ixY8c]
  refine a_aload_n dX11_home_54 rfl ?_
  refine a_iload_n dX11_home_55 rfl ?_
  refine a_iconst (v := 4) dX11_home_56 (by decide) ?_
  refine a_cV2i dX11_home_57 ml_11_160 wv_11_its rfl rfl (by decide) (Nat.le_of_ble_eq_true rfl) (c11_its (t := t) (w := 4) (by omega) (by decide) ⟨rfl, rfl⟩) ?_
  try simp (disch := first | decide | assumption | omega) only [ui_eq, ui_k, ui_j, ui_b, ui_2, ul_1, ul_eq, ul_k, ul_j, ul_b, N_k, gnl, gnp, gnq, gnt, gsm, cl0, cl1, cl2, cl3, cl4, cl5, cl6, cl7, cl8, cl9, cl10, acH_0, acG, acGj, acU, up_eq, up_ne, hk3j, ixT2, ixT3, ixT4, ixT5, ixT6, ixL2, ixY7, ixY8, ixT2c, ixT3c, ixT4c, ixT5c, ixT6c, ixL2c, ixY7c, ixY8c]
  refine a_isub dX11_home_60 ?_
  refine a_istore_n dX11_home_61 (by decide) rfl ?_
  dsimp only [lset]
  refine a_aload_n dX11_home_62 rfl ?_
  refine a_iload_n dX11_home_63 rfl ?_
  refine a_iconst (v := 3) dX11_home_64 (by decide) ?_
  refine a_cV2i dX11_home_65 ml_11_160 wv_11_its rfl rfl (by decide) (Nat.le_of_ble_eq_true rfl) (c11_its (t := t) (w := 3) (by omega) (by decide) ⟨rfl, rfl⟩) ?_
  try simp (disch := first | decide | assumption | omega) only [ui_eq, ui_k, ui_j, ui_b, ui_2, ul_1, ul_eq, ul_k, ul_j, ul_b, N_k, gnl, gnp, gnq, gnt, gsm, cl0, cl1, cl2, cl3, cl4, cl5, cl6, cl7, cl8, cl9, cl10, acH_0, acG, acGj, acU, up_eq, up_ne, hk3j, ixT2, ixT3, ixT4, ixT5, ixT6, ixL2, ixY7, ixY8, ixT2c, ixT3c, ixT4c, ixT5c, ixT6c, ixL2c, ixY7c, ixY8c]
  refine a_istore dX11_home_68 (by decide) rfl ?_
  dsimp only [lset]
  refine a_iload_n dX11_home_70 rfl ?_
  refine a_aload_n dX11_home_71 rfl ?_
  refine a_iload dX11_home_72 rfl ?_
  refine a_iconst (v := 5) dX11_home_74 (by decide) ?_
  refine a_cV2i dX11_home_75 ml_11_167 wv_11_typed rfl rfl (by decide) (Nat.le_of_ble_eq_true rfl) (c11_typed (t := k) (w := 5) hk (by decide) ⟨rfl, rfl⟩) ?_
  try simp (disch := first | decide | assumption | omega) only [ui_eq, ui_k, ui_j, ui_b, ui_2, ul_1, ul_eq, ul_k, ul_j, ul_b, N_k, gnl, gnp, gnq, gnt, gsm, cl0, cl1, cl2, cl3, cl4, cl5, cl6, cl7, cl8, cl9, cl10, acH_0, acG, acGj, acU, up_eq, up_ne, hk3j, ixT2, ixT3, ixT4, ixT5, ixT6, ixL2, ixY7, ixY8, ixT2c, ixT3c, ixT4c, ixT5c, ixT6c, ixL2c, ixY7c, ixY8c]
  refine a_icmp_le dX11_home_78 (tgt := 85) (by decide) (fun c78 => ?_) (fun c78 => ?_)
  · rw [if_pos (show hmD (h.1 3 2) t ≤ mY (h.1 3 2) k 5 from c78)] at hQ
    refine a_iconst (v := 0) dX11_home_85 (by decide) ?_
    refine a_istore dX11_home_86 (by decide) rfl ?_
    dsimp only [lset]
    refine a_aload_n dX11_home_88 rfl ?_
    refine a_getR (ci := 11) (j := 11) dX11_home_89 rfl rfl (by decide) rfl fl_11_72 ?_
    refine a_bipush (v := 111) dX11_home_92 (by decide) ?_
    refine a_bipush (v := 13) dX11_home_94 (by decide) ?_
    refine a_iload_n dX11_home_96 rfl ?_
    refine a_imul dX11_home_97 ?_
    refine a_iadd dX11_home_98 ?_
    refine a_iconst (v := 2) dX11_home_99 (by decide) ?_
    refine a_iadd dX11_home_100 ?_
    refine a_iconst (v := 2) dX11_home_101 (by decide) ?_
    refine a_iastore dX11_home_102 rfl (by (first | rw [ixT2] | rw [ixT3] | rw [ixT4] | rw [ixT5] | rw [ixT6] | rw [ixL2] | rw [ixY7] | rw [ixY8] | skip); exact vp_in_nI (by omega) (by decide)) ?_
    refine a_aload_n dX11_home_103 rfl ?_
    refine a_getR (ci := 11) (j := 11) dX11_home_104 rfl rfl (by decide) rfl fl_11_72 ?_
    refine a_bipush (v := 111) dX11_home_107 (by decide) ?_
    refine a_bipush (v := 13) dX11_home_109 (by decide) ?_
    refine a_iload_n dX11_home_111 rfl ?_
    refine a_imul dX11_home_112 ?_
    refine a_iadd dX11_home_113 ?_
    refine a_iconst (v := 5) dX11_home_114 (by decide) ?_
    refine a_iadd dX11_home_115 ?_
    refine a_aload_n dX11_home_116 rfl ?_
    refine a_getR (ci := 11) (j := 11) dX11_home_117 rfl rfl (by decide) rfl fl_11_72 ?_
    refine a_bipush (v := 6) dX11_home_120 (by decide) ?_
    refine a_iaload dX11_home_122 rfl (by rw [vp_in_iff]; decide) ?_
    try simp (disch := first | decide | assumption | omega) only [ui_eq, ui_k, ui_j, ui_b, ui_2, ul_1, ul_eq, ul_k, ul_j, ul_b, N_k, gnl, gnp, gnq, gnt, gsm, cl0, cl1, cl2, cl3, cl4, cl5, cl6, cl7, cl8, cl9, cl10, acH_0, acG, acGj, acU, up_eq, up_ne, hk3j, ixT2, ixT3, ixT4, ixT5, ixT6, ixL2, ixY7, ixY8, ixT2c, ixT3c, ixT4c, ixT5c, ixT6c, ixL2c, ixY7c, ixY8c]
    refine a_iastore dX11_home_123 rfl (by (first | rw [ixT2] | rw [ixT3] | rw [ixT4] | rw [ixT5] | rw [ixT6] | rw [ixL2] | rw [ixY7] | rw [ixY8] | skip); exact vp_in_nI (by omega) (by decide)) ?_
    refine a_aload_n dX11_home_124 rfl ?_
    refine a_getR (ci := 11) (j := 11) dX11_home_125 rfl rfl (by decide) rfl fl_11_72 ?_
    refine a_bipush (v := 111) dX11_home_128 (by decide) ?_
    refine a_bipush (v := 13) dX11_home_130 (by decide) ?_
    refine a_iload_n dX11_home_132 rfl ?_
    refine a_imul dX11_home_133 ?_
    refine a_iadd dX11_home_134 ?_
    refine a_bipush (v := 6) dX11_home_135 (by decide) ?_
    refine a_iadd dX11_home_137 ?_
    refine a_iload dX11_home_138 rfl ?_
    refine a_if_eq dX11_home_140 (tgt := 147) (by decide) (fun c140 => ?_) (fun c140 => ?_)
    · refine a_iconst (v := 0) dX11_home_147 (by decide) ?_
      refine a_iastore dX11_home_148 rfl (by (first | rw [ixT2] | rw [ixT3] | rw [ixT4] | rw [ixT5] | rw [ixT6] | rw [ixL2] | rw [ixY7] | rw [ixY8] | skip); exact vp_in_nI (by omega) (by decide)) ?_
      refine a_iload dX11_home_149 rfl ?_
      refine a_if_eq dX11_home_151 (tgt := 171) (by decide) (fun c151 => ?_) (fun c151 => ?_)
      · refine a_aload_n dX11_home_171 rfl ?_
        refine a_iload dX11_home_172 rfl ?_
        refine a_iconst (v := 0) dX11_home_174 (by decide) ?_
        refine a_cV2i dX11_home_175 ml_11_167 wv_11_typed rfl rfl (by decide) (Nat.le_of_ble_eq_true rfl) (c11_typed (t := k) (w := 0) hk (by decide) ⟨rfl, rfl⟩) ?_
        try simp (disch := first | decide | assumption | omega) only [ui_eq, ui_k, ui_j, ui_b, ui_2, ul_1, ul_eq, ul_k, ul_j, ul_b, N_k, gnl, gnp, gnq, gnt, gsm, cl0, cl1, cl2, cl3, cl4, cl5, cl6, cl7, cl8, cl9, cl10, acH_0, acG, acGj, acU, up_eq, up_ne, hk3j, ixT2, ixT3, ixT4, ixT5, ixT6, ixL2, ixY7, ixY8, ixT2c, ixT3c, ixT4c, ixT5c, ixT6c, ixL2c, ixY7c, ixY8c]
        refine a_if_ne dX11_home_178 (tgt := 211) (by decide) (fun c178 => ?_) (fun c178 => ?_)
        · refine a_iload_n dX11_home_211 rfl ?_
          exact a_iret dX11_home_212 rfl (by
  try simp (disch := omega) only [ixT2, ixT3, ixT4, ixT5, ixT6, ixL2, ixY7, ixY8, ixT2c, ixT3c, ixT4c, ixT5c, ixT6c, ixL2c, ixY7c, ixY8c, acU, acGj, up_eq, up_ne]
  first
    | (simp only [hm5, hm4, hm3, mY, c78, c140, c151, c178, if_true, if_false, show ¬ (1 : Int32) = 0 by decide] at hQ; exact hQ))
        · refine a_aload_n dX11_home_181 rfl ?_
          refine a_getR (ci := 11) (j := 11) dX11_home_182 rfl rfl (by decide) rfl fl_11_72 ?_
          refine a_bipush (v := 7) dX11_home_185 (by decide) ?_
          refine a_bipush (v := 12) dX11_home_187 (by decide) ?_
          refine a_iload dX11_home_189 rfl ?_
          refine a_imul dX11_home_191 ?_
          refine a_iadd dX11_home_192 ?_
          refine a_iload dX11_home_193 rfl ?_
          refine a_if_eq dX11_home_195 (tgt := 203) (by decide) (fun c195 => ?_) (fun c195 => ?_)
          · refine a_bipush (v := 7) dX11_home_203 (by decide) ?_
            refine a_iadd dX11_home_205 ?_
            refine a_dup2 dX11_home_206 rfl rfl ?_
            refine a_iaload dX11_home_207 rfl (by (first | rw [ixT2] | rw [ixT3] | rw [ixT4] | rw [ixT5] | rw [ixT6] | rw [ixL2] | rw [ixY7] | rw [ixY8] | skip); exact vp_in_nI (by omega) (by decide)) ?_
            try simp (disch := first | decide | assumption | omega) only [ui_eq, ui_k, ui_j, ui_b, ui_2, ul_1, ul_eq, ul_k, ul_j, ul_b, N_k, gnl, gnp, gnq, gnt, gsm, cl0, cl1, cl2, cl3, cl4, cl5, cl6, cl7, cl8, cl9, cl10, acH_0, acG, acGj, acU, up_eq, up_ne, hk3j, ixT2, ixT3, ixT4, ixT5, ixT6, ixL2, ixY7, ixY8, ixT2c, ixT3c, ixT4c, ixT5c, ixT6c, ixL2c, ixY7c, ixY8c]
            refine a_iconst (v := 1) dX11_home_208 (by decide) ?_
            refine a_iadd dX11_home_209 ?_
            refine a_iastore dX11_home_210 rfl (by (first | rw [ixT2] | rw [ixT3] | rw [ixT4] | rw [ixT5] | rw [ixT6] | rw [ixL2] | rw [ixY7] | rw [ixY8] | skip); exact vp_in_nI (by omega) (by decide)) ?_
            refine a_iload_n dX11_home_211 rfl ?_
            exact a_iret dX11_home_212 rfl (by
  try simp (disch := omega) only [ixT2, ixT3, ixT4, ixT5, ixT6, ixL2, ixY7, ixY8, ixT2c, ixT3c, ixT4c, ixT5c, ixT6c, ixL2c, ixY7c, ixY8c, acU, acGj, up_eq, up_ne]
  first
    | (simp only [hm5, hm4, hm3, mY, c78, c140, c151, c178, c195, if_true, if_false, show ¬ (1 : Int32) = 0 by decide] at hQ; exact hQ))
          · exact absurd rfl c195
      · exact absurd rfl c151
    · exact absurd rfl c140
  · rw [if_neg (show ¬ hmD (h.1 3 2) t ≤ mY (h.1 3 2) k 5 from c78)] at hQ
    refine a_iconst (v := 1) dX11_home_81 (by decide) ?_
    refine a_goto dX11_home_82 (tgt := 86) (by decide) ?_
    refine a_istore dX11_home_86 (by decide) rfl ?_
    dsimp only [lset]
    refine a_aload_n dX11_home_88 rfl ?_
    refine a_getR (ci := 11) (j := 11) dX11_home_89 rfl rfl (by decide) rfl fl_11_72 ?_
    refine a_bipush (v := 111) dX11_home_92 (by decide) ?_
    refine a_bipush (v := 13) dX11_home_94 (by decide) ?_
    refine a_iload_n dX11_home_96 rfl ?_
    refine a_imul dX11_home_97 ?_
    refine a_iadd dX11_home_98 ?_
    refine a_iconst (v := 2) dX11_home_99 (by decide) ?_
    refine a_iadd dX11_home_100 ?_
    refine a_iconst (v := 2) dX11_home_101 (by decide) ?_
    refine a_iastore dX11_home_102 rfl (by (first | rw [ixT2] | rw [ixT3] | rw [ixT4] | rw [ixT5] | rw [ixT6] | rw [ixL2] | rw [ixY7] | rw [ixY8] | skip); exact vp_in_nI (by omega) (by decide)) ?_
    refine a_aload_n dX11_home_103 rfl ?_
    refine a_getR (ci := 11) (j := 11) dX11_home_104 rfl rfl (by decide) rfl fl_11_72 ?_
    refine a_bipush (v := 111) dX11_home_107 (by decide) ?_
    refine a_bipush (v := 13) dX11_home_109 (by decide) ?_
    refine a_iload_n dX11_home_111 rfl ?_
    refine a_imul dX11_home_112 ?_
    refine a_iadd dX11_home_113 ?_
    refine a_iconst (v := 5) dX11_home_114 (by decide) ?_
    refine a_iadd dX11_home_115 ?_
    refine a_aload_n dX11_home_116 rfl ?_
    refine a_getR (ci := 11) (j := 11) dX11_home_117 rfl rfl (by decide) rfl fl_11_72 ?_
    refine a_bipush (v := 6) dX11_home_120 (by decide) ?_
    refine a_iaload dX11_home_122 rfl (by rw [vp_in_iff]; decide) ?_
    try simp (disch := first | decide | assumption | omega) only [ui_eq, ui_k, ui_j, ui_b, ui_2, ul_1, ul_eq, ul_k, ul_j, ul_b, N_k, gnl, gnp, gnq, gnt, gsm, cl0, cl1, cl2, cl3, cl4, cl5, cl6, cl7, cl8, cl9, cl10, acH_0, acG, acGj, acU, up_eq, up_ne, hk3j, ixT2, ixT3, ixT4, ixT5, ixT6, ixL2, ixY7, ixY8, ixT2c, ixT3c, ixT4c, ixT5c, ixT6c, ixL2c, ixY7c, ixY8c]
    refine a_iastore dX11_home_123 rfl (by (first | rw [ixT2] | rw [ixT3] | rw [ixT4] | rw [ixT5] | rw [ixT6] | rw [ixL2] | rw [ixY7] | rw [ixY8] | skip); exact vp_in_nI (by omega) (by decide)) ?_
    refine a_aload_n dX11_home_124 rfl ?_
    refine a_getR (ci := 11) (j := 11) dX11_home_125 rfl rfl (by decide) rfl fl_11_72 ?_
    refine a_bipush (v := 111) dX11_home_128 (by decide) ?_
    refine a_bipush (v := 13) dX11_home_130 (by decide) ?_
    refine a_iload_n dX11_home_132 rfl ?_
    refine a_imul dX11_home_133 ?_
    refine a_iadd dX11_home_134 ?_
    refine a_bipush (v := 6) dX11_home_135 (by decide) ?_
    refine a_iadd dX11_home_137 ?_
    refine a_iload dX11_home_138 rfl ?_
    refine a_if_eq dX11_home_140 (tgt := 147) (by decide) (fun c140v2 => ?_) (fun c140v2 => ?_)
    · exact absurd c140v2 (by decide)
    · refine a_iconst (v := 1) dX11_home_143 (by decide) ?_
      refine a_goto dX11_home_144 (tgt := 148) (by decide) ?_
      refine a_iastore dX11_home_148 rfl (by (first | rw [ixT2] | rw [ixT3] | rw [ixT4] | rw [ixT5] | rw [ixT6] | rw [ixL2] | rw [ixY7] | rw [ixY8] | skip); exact vp_in_nI (by omega) (by decide)) ?_
      refine a_iload dX11_home_149 rfl ?_
      refine a_if_eq dX11_home_151 (tgt := 171) (by decide) (fun c151v2 => ?_) (fun c151v2 => ?_)
      · exact absurd c151v2 (by decide)
      · refine a_aload_n dX11_home_154 rfl ?_
        refine a_getR (ci := 11) (j := 11) dX11_home_155 rfl rfl (by decide) rfl fl_11_72 ?_
        refine a_bipush (v := 79) dX11_home_158 (by decide) ?_
        refine a_iconst (v := 3) dX11_home_160 (by decide) ?_
        refine a_iload_n dX11_home_161 rfl ?_
        refine a_imul dX11_home_162 ?_
        refine a_iadd dX11_home_163 ?_
        refine a_iconst (v := 2) dX11_home_164 (by decide) ?_
        refine a_iadd dX11_home_165 ?_
        refine a_dup2 dX11_home_166 rfl rfl ?_
        refine a_iaload dX11_home_167 rfl (by (first | rw [ixT2] | rw [ixT3] | rw [ixT4] | rw [ixT5] | rw [ixT6] | rw [ixL2] | rw [ixY7] | rw [ixY8] | skip); exact vp_in_nI (by omega) (by decide)) ?_
        try simp (disch := first | decide | assumption | omega) only [ui_eq, ui_k, ui_j, ui_b, ui_2, ul_1, ul_eq, ul_k, ul_j, ul_b, N_k, gnl, gnp, gnq, gnt, gsm, cl0, cl1, cl2, cl3, cl4, cl5, cl6, cl7, cl8, cl9, cl10, acH_0, acG, acGj, acU, up_eq, up_ne, hk3j, ixT2, ixT3, ixT4, ixT5, ixT6, ixL2, ixY7, ixY8, ixT2c, ixT3c, ixT4c, ixT5c, ixT6c, ixL2c, ixY7c, ixY8c]
        refine a_iconst (v := 1) dX11_home_168 (by decide) ?_
        refine a_iadd dX11_home_169 ?_
        refine a_iastore dX11_home_170 rfl (by (first | rw [ixT2] | rw [ixT3] | rw [ixT4] | rw [ixT5] | rw [ixT6] | rw [ixL2] | rw [ixY7] | rw [ixY8] | skip); exact vp_in_nI (by omega) (by decide)) ?_
        refine a_aload_n dX11_home_171 rfl ?_
        refine a_iload dX11_home_172 rfl ?_
        refine a_iconst (v := 0) dX11_home_174 (by decide) ?_
        refine a_cV2i dX11_home_175 ml_11_167 wv_11_typed rfl rfl (by decide) (Nat.le_of_ble_eq_true rfl) (c11_typed (t := k) (w := 0) hk (by decide) ⟨rfl, rfl⟩) ?_
        try simp (disch := first | decide | assumption | omega) only [ui_eq, ui_k, ui_j, ui_b, ui_2, ul_1, ul_eq, ul_k, ul_j, ul_b, N_k, gnl, gnp, gnq, gnt, gsm, cl0, cl1, cl2, cl3, cl4, cl5, cl6, cl7, cl8, cl9, cl10, acH_0, acG, acGj, acU, up_eq, up_ne, hk3j, ixT2, ixT3, ixT4, ixT5, ixT6, ixL2, ixY7, ixY8, ixT2c, ixT3c, ixT4c, ixT5c, ixT6c, ixL2c, ixY7c, ixY8c]
        refine a_if_ne dX11_home_178 (tgt := 211) (by decide) (fun c178v2 => ?_) (fun c178v2 => ?_)
        · refine a_iload_n dX11_home_211 rfl ?_
          exact a_iret dX11_home_212 rfl (by
  try simp (disch := omega) only [ixT2, ixT3, ixT4, ixT5, ixT6, ixL2, ixY7, ixY8, ixT2c, ixT3c, ixT4c, ixT5c, ixT6c, ixL2c, ixY7c, ixY8c, acU, acGj, up_eq, up_ne]
  first
    | (simp only [hm5, hm4, hm3, mY, c78, c140v2, c151v2, c178v2, if_true, if_false, show ¬ (1 : Int32) = 0 by decide] at hQ; exact hQ))
        · refine a_aload_n dX11_home_181 rfl ?_
          refine a_getR (ci := 11) (j := 11) dX11_home_182 rfl rfl (by decide) rfl fl_11_72 ?_
          refine a_bipush (v := 7) dX11_home_185 (by decide) ?_
          refine a_bipush (v := 12) dX11_home_187 (by decide) ?_
          refine a_iload dX11_home_189 rfl ?_
          refine a_imul dX11_home_191 ?_
          refine a_iadd dX11_home_192 ?_
          refine a_iload dX11_home_193 rfl ?_
          refine a_if_eq dX11_home_195 (tgt := 203) (by decide) (fun c195v2 => ?_) (fun c195v2 => ?_)
          · exact absurd c195v2 (by decide)
          · refine a_bipush (v := 8) dX11_home_198 (by decide) ?_
            refine a_goto dX11_home_200 (tgt := 205) (by decide) ?_
            refine a_iadd dX11_home_205 ?_
            refine a_dup2 dX11_home_206 rfl rfl ?_
            refine a_iaload dX11_home_207 rfl (by (first | rw [ixT2] | rw [ixT3] | rw [ixT4] | rw [ixT5] | rw [ixT6] | rw [ixL2] | rw [ixY7] | rw [ixY8] | skip); exact vp_in_nI (by omega) (by decide)) ?_
            try simp (disch := first | decide | assumption | omega) only [ui_eq, ui_k, ui_j, ui_b, ui_2, ul_1, ul_eq, ul_k, ul_j, ul_b, N_k, gnl, gnp, gnq, gnt, gsm, cl0, cl1, cl2, cl3, cl4, cl5, cl6, cl7, cl8, cl9, cl10, acH_0, acG, acGj, acU, up_eq, up_ne, hk3j, ixT2, ixT3, ixT4, ixT5, ixT6, ixL2, ixY7, ixY8, ixT2c, ixT3c, ixT4c, ixT5c, ixT6c, ixL2c, ixY7c, ixY8c]
            refine a_iconst (v := 1) dX11_home_208 (by decide) ?_
            refine a_iadd dX11_home_209 ?_
            refine a_iastore dX11_home_210 rfl (by (first | rw [ixT2] | rw [ixT3] | rw [ixT4] | rw [ixT5] | rw [ixT6] | rw [ixL2] | rw [ixY7] | rw [ixY8] | skip); exact vp_in_nI (by omega) (by decide)) ?_
            refine a_iload_n dX11_home_211 rfl ?_
            exact a_iret dX11_home_212 rfl (by
  try simp (disch := omega) only [ixT2, ixT3, ixT4, ixT5, ixT6, ixL2, ixY7, ixY8, ixT2c, ixT3c, ixT4c, ixT5c, ixT6c, ixL2c, ixY7c, ixY8c, acU, acGj, up_eq, up_ne]
  first
    | (simp only [hm5, hm4, hm3, mY, c78, c140v2, c151v2, c178v2, c195v2, if_true, if_false, show ¬ (1 : Int32) = 0 by decide] at hQ; exact hQ))
theorem c11_home {l : Launch} {G : GG} {h : AH} {Q : Option Value → AH → Prop} {nl np nq nt sm : Nat} (hW : WM h nl np nq nt sm) {x : Int32} (hQ : Q (some (.int (mHome h nq nt sm x).1)) (mHome h nq nt sm x).2) : Ct l G 2 yX11_home cX11_home 6 (some .int) [.ref (G.1 3 0), .int x] h Q := by
  refine Ct.of (by decide) (Nat.le_of_ble_eq_true rfl) ?_
  show AW l G 2 RX11 cX11_home 6 (some .int) 0 [some (.ref (G.1 3 0)), some (.int x)] [] h Q
  have hW0 := hW.th (v := 0)
  obtain ⟨hnl, hl8, hnp, hp6, hnq, hq8, hnt, ht40, hsm, hsm10, hz, hT⟩ := id hW0
  obtain ⟨gnl, -, gnp, -, gnq, -, gnt, -, gsm, -, gz, gT⟩ := id hW
  refine a_aload_n dX11_home_0 rfl ?_
  refine a_iconst (v := 0) dX11_home_1 (by decide) ?_
  refine a_putI (ci := 11) (j := 0) dX11_home_2 rfl rfl (by decide) (by decide) rfl fl_11_1 ?_
  refine a_aload_n dX11_home_5 rfl ?_
  refine a_iload_n dX11_home_6 rfl ?_
  refine a_cV1i dX11_home_7 ml_11_195 wv_11_isLorry rfl rfl (by decide) (Nat.le_of_ble_eq_true rfl) (c11_isLorry hnq (by omega) ⟨rfl, rfl⟩) ?_
  try simp (disch := first | decide | assumption | omega) only [ui_eq, ui_k, ui_j, ui_b, ui_2, ul_1, ul_eq, ul_k, ul_j, ul_b, N_k, gnl, gnp, gnq, gnt, gsm, cl0, cl1, cl2, cl3, cl4, cl5, cl6, cl7, cl8, cl9, cl10]
  refine a_if_eq dX11_home_10 (tgt := 21) (by decide) (fun c10 => ?_) (fun c10 => ?_)
  · have eT : hmT (h.1 3 2) nq nt x = -1 := if_pos c10
    refine a_iconst (v := (-1)) dX11_home_21 (by decide) ?_
    refine a_istore_n dX11_home_22 (by decide) rfl ?_
    dsimp only [lset]
    refine a_iload_n dX11_home_23 rfl ?_
    refine a_iconst (v := (-1)) dX11_home_24 (by decide) ?_
    refine a_icmp_eq dX11_home_25 (tgt := 38) (by decide) (fun c25 => ?_) (fun c25 => ?_)
    · rw [mHome, if_pos eT] at hQ
      refine a_aload_n dX11_home_38 rfl ?_
      refine a_cV0i dX11_home_39 ml_11_198 wv_11_refuse rfl rfl (by decide) (Nat.le_of_ble_eq_true rfl) (c11_refuse ⟨rfl, rfl⟩) ?_
      try simp (disch := first | decide | assumption | omega) only [ui_eq, ui_k, ui_j, ui_b, ui_2, ul_1, ul_eq, ul_k, ul_j, ul_b, N_k, gnl, gnp, gnq, gnt, gsm, cl0, cl1, cl2, cl3, cl4, cl5, cl6, cl7, cl8, cl9, cl10]
      exact a_iret dX11_home_42 rfl hQ
    · exact absurd rfl c25
  · have eT : hmT (h.1 3 2) nq nt x = tOG (h.1 3 2) x nt 0 := if_neg c10
    obtain ⟨q, hq, rfl⟩ := hasI_of (by omega) c10
    have hqc : (nI q).toNatClampNeg = q := nI_clamp (by omega)
    refine a_aload_n dX11_home_13 rfl ?_
    refine a_iload_n dX11_home_14 rfl ?_
    refine a_cV1i dX11_home_15 ml_11_201 wv_11_tripOf rfl rfl (by decide) (Nat.le_of_ble_eq_true rfl) (c11_tripOf hnt ht40 ⟨rfl, rfl⟩) ?_
    try simp (disch := first | decide | assumption | omega) only [ui_eq, ui_k, ui_j, ui_b, ui_2, ul_1, ul_eq, ul_k, ul_j, ul_b, N_k, gnl, gnp, gnq, gnt, gsm, cl0, cl1, cl2, cl3, cl4, cl5, cl6, cl7, cl8, cl9, cl10]
    refine a_goto dX11_home_18 (tgt := 22) (by decide) ?_
    refine a_istore_n dX11_home_22 (by decide) rfl ?_
    dsimp only [lset]
    refine a_iload_n dX11_home_23 rfl ?_
    refine a_iconst (v := (-1)) dX11_home_24 (by decide) ?_
    refine a_icmp_eq dX11_home_25 (tgt := 38) (by decide) (fun c25v2 => ?_) (fun c25v2 => ?_)
    · rw [mHome, eT, if_pos c25v2] at hQ
      refine a_aload_n dX11_home_38 rfl ?_
      refine a_cV0i dX11_home_39 ml_11_198 wv_11_refuse rfl rfl (by decide) (Nat.le_of_ble_eq_true rfl) (c11_refuse ⟨rfl, rfl⟩) ?_
      try simp (disch := first | decide | assumption | omega) only [ui_eq, ui_k, ui_j, ui_b, ui_2, ul_1, ul_eq, ul_k, ul_j, ul_b, N_k, gnl, gnp, gnq, gnt, gsm, cl0, cl1, cl2, cl3, cl4, cl5, cl6, cl7, cl8, cl9, cl10]
      exact a_iret dX11_home_42 rfl hQ
    · obtain ⟨u, -, hu, hue, -, -⟩ := (tOG_c (h.1 3 2) (nI q) nt 0).resolve_left c25v2
      rw [Nat.zero_add] at hu
      have huc : (nI u).toNatClampNeg = u := nI_clamp (by omega)
      rw [mHome, eT, if_neg c25v2, hue, huc] at hQ
      rw [hue]
      refine a_aload_n dX11_home_28 rfl ?_
      refine a_iload_n dX11_home_29 rfl ?_
      refine a_iconst (v := 2) dX11_home_30 (by decide) ?_
      refine a_cV2i dX11_home_31 ml_11_160 wv_11_its rfl rfl (by decide) (Nat.le_of_ble_eq_true rfl) (c11_its (t := u) (w := 2) (by omega) (by decide) ⟨rfl, rfl⟩) ?_
      try simp (disch := first | decide | assumption | omega) only [ui_eq, ui_k, ui_j, ui_b, ui_2, ul_1, ul_eq, ul_k, ul_j, ul_b, N_k, gnl, gnp, gnq, gnt, gsm, cl0, cl1, cl2, cl3, cl4, cl5, cl6, cl7, cl8, cl9, cl10]
      refine a_iconst (v := 1) dX11_home_34 (by decide) ?_
      refine a_icmp_eq dX11_home_35 (tgt := 43) (by decide) (fun c35 => ?_) (fun c35 => ?_)
      · have c35m : mT (h.1 3 2) u 2 = 1 := c35
        obtain ⟨k, hk, hk3⟩ := (gT u hu).2.2 c35m
        rw [if_pos c35m, hqc] at hQ
        have ek : hmK (h.1 3 2) u = k := by unfold hmK; rw [hk3]; exact nI_clamp (by omega)
        rw [ek] at hQ
        exact l11_hm43 hW hq hu hk hk3 hQ
      · rw [if_neg (show ¬ mT (h.1 3 2) u 2 = 1 from c35)] at hQ
        refine a_aload_n dX11_home_38 rfl ?_
        refine a_cV0i dX11_home_39 ml_11_198 wv_11_refuse rfl rfl (by decide) (Nat.le_of_ble_eq_true rfl) (c11_refuse ⟨rfl, rfl⟩) ?_
        try simp (disch := first | decide | assumption | omega) only [ui_eq, ui_k, ui_j, ui_b, ui_2, ul_1, ul_eq, ul_k, ul_j, ul_b, N_k, gnl, gnp, gnq, gnt, gsm, cl0, cl1, cl2, cl3, cl4, cl5, cl6, cl7, cl8, cl9, cl10]
        exact a_iret dX11_home_42 rfl hQ
