/-! lorry, home: where they return -/
def lorA (H : Nat → Nat → Int32) (x y : Int32) : Int32 := if y = 0 then H 16 x.toNatClampNeg else if y = 1 then H 17 x.toNatClampNeg else if y = 2 then H 18 x.toNatClampNeg else if y = 3 then H 19 x.toNatClampNeg else H 20 x.toNatClampNeg
theorem c10_lorryR {l : Launch} {G : GG} {h : AH} {Q : Option Value → AH → Prop} {b nl np nq nt ax ak : Nat} (hW : WB h b nl np nq nt ax ak) {x y : Int32} (hx : ¬ hasI (h.1 b 15 5) x = 0) (hy : y = 0 ∨ y = 1 ∨ y = 2 ∨ y = 3 ∨ y = 4) (hQ : Q (some (.int (lorA (h.1 b) x y))) h) : Ct l G 1 yX10_lorry cX10_lorry 4 (some .int) [.ref (G.1 0 0), .int x, .int y] h Q := by
  refine Ct.of (by decide) (Nat.le_of_ble_eq_true rfl) ?_
  show AW l G 1 RX10 cX10_lorry 4 (some .int) 0 [some (.ref (G.1 0 0)), some (.int x), some (.int y)] [] h Q
  obtain ⟨hb, hbk, hnl, hl8, hnp, hp6, hnq, hq8, hnt, ht40, hax, hax10, hak, hak10⟩ := id hW
  have hq : (h.1 b 15 5).toInt ≤ 8 := toNat_le hnq 8 hq8 (by decide)
  refine a_aload_n dX10_lorry_0 rfl ?_
  refine a_getD (ci := 10) (j := 3) dX10_lorry_1 rfl rfl (by decide) rfl fl_10_40 (bb := b) hbk ?_
  refine a_getR (ci := 1) (j := 2) dX10_lorry_4 (kdB hb rfl) rfl (by decide) rfl fl_10_93 ?_
  refine a_astore_n dX10_lorry_7 (by decide) rfl ?_
  refine a_aload_n dX10_lorry_8 rfl ?_
  refine a_iload_n dX10_lorry_9 rfl ?_
  refine a_cV1i dX10_lorry_10 ml_10_172 wv_3_has (kdB hb rfl) rfl (by decide) (Nat.le_of_ble_eq_true rfl) (c3_has hb ⟨rfl, rfl⟩) ?_
  refine a_if_ne dX10_lorry_13 (tgt := 26) (by decide) (fun _ => ?_) (fun c => absurd c hx)
  refine a_iload_n dX10_lorry_26 rfl ?_
  rcases hy with rfl | rfl | rfl | rfl | rfl
  · refine a_tableIn dX10_lorry_27 (off := 33) (by decide) (by decide) (by decide) (tgt := 60) (by decide) ?_
    refine a_aload_n dX10_lorry_60 rfl ?_
    refine a_getR (ci := 3) (j := 0) dX10_lorry_61 (kdB hb rfl) rfl (by decide) rfl fl_10_180 ?_
    refine a_iload_n dX10_lorry_64 rfl ?_
    refine a_iaload dX10_lorry_65 (kdB hb rfl) (hasI_in hx hq) ?_
    exact a_iret dX10_lorry_66 rfl hQ
  · refine a_tableIn dX10_lorry_27 (off := 40) (by decide) (by decide) (by decide) (tgt := 67) (by decide) ?_
    refine a_aload_n dX10_lorry_67 rfl ?_
    refine a_getR (ci := 3) (j := 1) dX10_lorry_68 (kdB hb rfl) rfl (by decide) rfl fl_10_183 ?_
    refine a_iload_n dX10_lorry_71 rfl ?_
    refine a_iaload dX10_lorry_72 (kdB hb rfl) (hasI_in hx hq) ?_
    exact a_iret dX10_lorry_73 rfl hQ
  · refine a_tableIn dX10_lorry_27 (off := 47) (by decide) (by decide) (by decide) (tgt := 74) (by decide) ?_
    refine a_aload_n dX10_lorry_74 rfl ?_
    refine a_getR (ci := 3) (j := 2) dX10_lorry_75 (kdB hb rfl) rfl (by decide) rfl fl_10_184 ?_
    refine a_iload_n dX10_lorry_78 rfl ?_
    refine a_iaload dX10_lorry_79 (kdB hb rfl) (hasI_in hx hq) ?_
    exact a_iret dX10_lorry_80 rfl hQ
  · refine a_tableIn dX10_lorry_27 (off := 54) (by decide) (by decide) (by decide) (tgt := 81) (by decide) ?_
    refine a_aload_n dX10_lorry_81 rfl ?_
    refine a_getR (ci := 3) (j := 3) dX10_lorry_82 (kdB hb rfl) rfl (by decide) rfl fl_10_187 ?_
    refine a_iload_n dX10_lorry_85 rfl ?_
    refine a_iaload dX10_lorry_86 (kdB hb rfl) (hasI_in hx hq) ?_
    exact a_iret dX10_lorry_87 rfl hQ
  · refine a_tableIn dX10_lorry_27 (off := 61) (by decide) (by decide) (by decide) (tgt := 88) (by decide) ?_
    refine a_aload_n dX10_lorry_88 rfl ?_
    refine a_getR (ci := 3) (j := 4) dX10_lorry_89 (kdB hb rfl) rfl (by decide) rfl fl_10_190 ?_
    refine a_iload_n dX10_lorry_92 rfl ?_
    refine a_iaload dX10_lorry_93 (kdB hb rfl) (hasI_in hx hq) ?_
    exact a_iret dX10_lorry_94 rfl hQ
theorem c10_homeR {l : Launch} {G : GG} {h : AH} {Q : Option Value → AH → Prop} {b nl np nq nt ax ak t : Nat} (hW : WB h b nl np nq nt ax ak) {x : Int32} (hx : ¬ hasI (h.1 b 15 5) x = 0) (ho : ¬ isOutF h b x = 0) (ht : h.1 b 18 x.toNatClampNeg = nI t) (htn : t < nt) (hQ : Q (some (.int (h.1 b 0 5 - h.1 b 28 t))) (keepF (finF h b (nI t)) b 2 (nI t) 0)) : Ct l G 3 yX10_home cX10_home 3 (some .int) [.ref (G.1 0 0), .int x] h Q := by
  refine Ct.of (by decide) (Nat.le_of_ble_eq_true rfl) ?_
  show AW l G 3 RX10 cX10_home 3 (some .int) 0 [some (.ref (G.1 0 0)), some (.int x)] [] h Q
  obtain ⟨hb, hbk, hnl, hl8, hnp, hp6, hnq, hq8, hnt, ht40, hax, hax10, hak, hak10⟩ := id hW
  have hp : (h.1 b 3 11).toInt ≤ 6 := toNat_le hnp 6 hp6 (by decide)
  have hq : (h.1 b 15 5).toInt ≤ 8 := toNat_le hnq 8 hq8 (by decide)
  have ht4 : (h.1 b 21 9).toInt ≤ 40 := toNat_le hnt 40 ht40 (by decide)
  have hb0 : (0 : Nat) ≠ b := isB0' hb
  have hb1 : b ≠ 0 := isB0 hb
  refine a_aload_n dX10_home_0 rfl ?_
  refine a_getD (ci := 10) (j := 3) dX10_home_1 rfl rfl (by decide) rfl fl_10_40 (bb := b) hbk ?_
  refine a_getR (ci := 1) (j := 2) dX10_home_4 (kdB hb rfl) rfl (by decide) rfl fl_10_93 ?_
  refine a_iload_n dX10_home_7 rfl ?_
  refine a_cV1i dX10_home_8 ml_10_172 wv_3_has (kdB hb rfl) rfl (by decide) (Nat.le_of_ble_eq_true rfl) (c3_has hb ⟨rfl, rfl⟩) ?_
  refine a_if_ne dX10_home_11 (tgt := 24) (by decide) (fun _ => ?_) (fun c => absurd c hx)
  refine a_aload_n dX10_home_24 rfl ?_
  refine a_getD (ci := 10) (j := 3) dX10_home_25 rfl rfl (by decide) rfl fl_10_40 (bb := b) hbk ?_
  refine a_iload_n dX10_home_28 rfl ?_
  refine a_cV1i dX10_home_29 ml_10_285 wv_1_isOut (kdB hb rfl) rfl (by decide) (Nat.le_of_ble_eq_true rfl) (c1_isOut hb ht4 hq ⟨rfl, rfl⟩) ?_
  refine a_if_ne dX10_home_32 (tgt := 46) (by decide) (fun _ => ?_) (fun c => absurd c ho)
  refine a_aload_n dX10_home_46 rfl ?_
  refine a_getD (ci := 10) (j := 3) dX10_home_47 rfl rfl (by decide) rfl fl_10_40 (bb := b) hbk ?_
  refine a_getR (ci := 1) (j := 2) dX10_home_50 (kdB hb rfl) rfl (by decide) rfl fl_10_93 ?_
  refine a_getR (ci := 3) (j := 2) dX10_home_53 (kdB hb rfl) rfl (by decide) rfl fl_10_184 ?_
  refine a_iload_n dX10_home_56 rfl ?_
  refine a_iaload dX10_home_57 (kdB hb rfl) (hasI_in hx hq) ?_
  rw [ht]
  refine a_istore_n dX10_home_58 (by decide) rfl ?_
  refine a_aload_n dX10_home_59 rfl ?_
  refine a_getD (ci := 10) (j := 3) dX10_home_60 rfl rfl (by decide) rfl fl_10_40 (bb := b) hbk ?_
  refine a_iload_n dX10_home_63 rfl ?_
  refine a_cV1v dX10_home_64 ml_10_274 wv_1_finish (kdB hb rfl) rfl (by decide) (Nat.le_of_ble_eq_true rfl) (c1_finish hb hp ht4 hq ⟨rfl, rfl⟩) ?_
  refine a_aload_n dX10_home_67 rfl ?_
  refine a_getD (ci := 10) (j := 3) dX10_home_68 rfl rfl (by decide) rfl fl_10_40 (bb := b) (by first | exact hbk | (simp (disch := first | decide | assumption | omega) only [ui_eq, ui_k, ui_j, ui_b, keepF_blk, finF_blk, keepF_k, finF_k, finF_c]; exact hbk)) ?_
  refine a_getR (ci := 1) (j := 4) dX10_home_71 (kdB hb rfl) rfl (by decide) rfl fl_10_118 ?_
  refine a_iconst (v := 2) dX10_home_74 (by decide) ?_
  refine a_iload_n dX10_home_75 rfl ?_
  refine a_iconst (v := 0) dX10_home_76 (by decide) ?_
  have hax2 : (finF h b (nI t)).1 b 31 3 = nI ax := by rw [finF_k (by omega)]; exact hax
  refine a_cV3v dX10_home_77 ml_10_270 wv_0_keep (kdB hb rfl) rfl (by decide) (Nat.le_of_ble_eq_true rfl) (c0_keep hb (axn hax2 hax10).1 (axn hax2 hax10).2.1 (axn hax2 hax10).2.2 ⟨rfl, rfl⟩) ?_
  refine a_aload_n dX10_home_80 rfl ?_
  refine a_getD (ci := 10) (j := 3) dX10_home_81 rfl rfl (by decide) rfl fl_10_40 (bb := b) (by first | exact hbk | (simp (disch := first | decide | assumption | omega) only [ui_eq, ui_k, ui_j, ui_b, keepF_blk, finF_blk, keepF_k, finF_k, finF_c]; exact hbk)) ?_
  refine a_getI (ci := 1) (j := 5) dX10_home_84 (kdB hb rfl) rfl (by decide) rfl fl_10_74 ?_
  refine a_aload_n dX10_home_87 rfl ?_
  refine a_getD (ci := 10) (j := 3) dX10_home_88 rfl rfl (by decide) rfl fl_10_40 (bb := b) (by first | exact hbk | (simp (disch := first | decide | assumption | omega) only [ui_eq, ui_k, ui_j, ui_b, keepF_blk, finF_blk, keepF_k, finF_k, finF_c]; exact hbk)) ?_
  refine a_getR (ci := 1) (j := 3) dX10_home_91 (kdB hb rfl) rfl (by decide) rfl fl_10_100 ?_
  refine a_getR (ci := 9) (j := 6) dX10_home_94 (kdB hb rfl) rfl (by decide) rfl fl_10_208 ?_
  refine a_iload_n dX10_home_97 rfl ?_
  refine a_iaload dX10_home_98 (kdB hb rfl) (vp_in_nI (by omega) (by decide)) ?_
  rw [nI_clamp (show t < 2 ^ 31 by omega), keepF_c (by omega), keepF_c (by omega), finF_c (Or.inl rfl), finF_c (Or.inr rfl)]
  refine a_isub dX10_home_99 ?_
  exact a_iret dX10_home_100 rfl hQ
section
variable {l : Launch} {G : GG} {h : AH} {B b d nl np nq nt sm ax L : Nat}
/-- a call that returns or throws, then the reference's -/
def RKX (l : Launch) (G : GG) (d : Nat) (y : MethodName) (c : ByteArray) (nL d' : Nat) (y' : MethodName) (c' : ByteArray) (nL' : Nat) (as : List Value) (h : AH) (B : Nat) (TH : Prop) : Prop :=
  (∃ (r : Int32) (h1 : AH), Ct l G d y c nL (some .int) (.ref (G.1 0 0) :: as) h (fun v h' => v = some (.int r) ∧ h' = h1) ∧ ∀ w : Int64, Ct l G d' y' c' nL' (some .int) (.ref (G.1 3 0) :: as) (ul h1 4 0 0 w) (fun v h2 => v = some (.int r) ∧ h2.1 3 0 0 = 0 ∧ h2.2 4 0 0 = w ∧ CPL h2 (B + 9))) ∨
  (TH ∧ Ct l G d' y' c' nL' (some .int) (.ref (G.1 3 0) :: as) h (fun v h2 => (∃ r, v = some (.int r)) ∧ h2.1 3 0 0 = 1 ∧ CPL h2 (B + 9)))
def THL (h : AH) (x y : Int32) : Prop := ∃ b nl np nq nt ax ak, WB h b nl np nq nt ax ak ∧ (hasI (h.1 b 15 5) x = 0 ∨ (¬ hasI (h.1 b 15 5) x = 0 ∧ (y.toInt < 0 ∨ 4 < y.toInt)))
def THH (h : AH) (x : Int32) : Prop := ∃ b nl np nq nt ax ak, WB h b nl np nq nt ax ak ∧ (hasI (h.1 b 15 5) x = 0 ∨ (¬ hasI (h.1 b 15 5) x = 0 ∧ isOutF h b x = 0))
theorem CX.ul4 (hC : CX h b d nl np nq nt sm ax L B) {w : Int64} : CX (ul h 4 0 0 w) b d nl np nq nt sm ax L B := hC
theorem ul4w (h : AH) (w : Int64) : (ul h 4 0 0 w).2 4 0 0 = w := by simp [ul]
theorem i04 (y : Int32) : (y = 0 ∨ y = 1 ∨ y = 2 ∨ y = 3 ∨ y = 4) ∨ (¬ y = 0 ∧ ¬ y = 1 ∧ ¬ y = 2 ∧ ¬ y = 3 ∧ ¬ y = 4 ∧ (y.toInt < 0 ∨ 4 < y.toInt)) := by
  have e0 : (0 : Int32).toInt = 0 := by decide
  have e1 : (1 : Int32).toInt = 1 := by decide
  have e2 : (2 : Int32).toInt = 2 := by decide
  have e3 : (3 : Int32).toInt = 3 := by decide
  have e4 : (4 : Int32).toInt = 4 := by decide
  simp only [← Int32.toInt_inj, e0, e1, e2, e3, e4]
  omega
theorem pair_lorry (hC : CPL h B) (h9 : B + 9 ≤ 9000) {x y : Int32} : RKX l G 1 yX10_lorry cX10_lorry 4 2 yX11_lorry cX11_lorry 3 [.int x, .int y] h B (THL h x y) := by
  obtain ⟨b, d, nl, np, nq, nt, sm, ax, L, hX⟩ := hC
  have hX0 := hX
  obtain ⟨-, -, -, hg, hS, hW, hz, -, -⟩ := hX
  have h40 : nt ≤ 40 := hW.1.2.2.2.2.2.2.2
  have hq8 : nq ≤ 8 := hW.1.2.2.2.2.2.1
  have hWB := hX0.WB
  rcases hasI_cs nq (by omega) x with e | ⟨q, hq, rfl, e⟩
  · refine Or.inr ⟨⟨b, nl, np, nq, nt, ax, _, hWB, Or.inl (by rw [hS.1.2.2.1]; exact e)⟩, ?_⟩
    refine c11_lorry hX0.WM ?_
    unfold mLor
    rw [if_pos e]
    exact ⟨⟨_, rfl⟩, rfl, hX0.thr.thr.cpl h9⟩
  · have e' : ¬ hasI (h.1 b 15 5) (nI q) = 0 := by rw [hS.1.2.2.1]; exact e
    rcases i04 y with hy | ⟨y0, y1, y2, y3, y4, hy⟩
    · refine Or.inl ⟨lorA (h.1 b) (nI q) y, h, c10_lorryR hWB e' hy ⟨rfl, rfl⟩, fun w => ?_⟩
      refine c11_lorry hX0.ul4.WM ?_
      have hc : (nI q).toNatClampNeg = q := nI_clamp (by omega)
      obtain ⟨s16, s17, s18, s19, s20⟩ := hS.2.2.2.1 q hq
      unfold mLor lorA
      rw [if_neg e, hc, s16, s17, s18, s19, s20]
      rcases hy with rfl | rfl | rfl | rfl | rfl
      all_goals exact ⟨rfl, rfl, ul4w h w, hX0.ul4.thr.cpl h9⟩
    · refine Or.inr ⟨⟨b, nl, np, nq, nt, ax, _, hWB, Or.inr ⟨e', hy⟩⟩, ?_⟩
      refine c11_lorry hX0.WM ?_
      unfold mLor
      rw [if_neg e, if_neg y0, if_neg y1, if_neg y2, if_neg y3, if_neg y4]
      exact ⟨⟨_, rfl⟩, rfl, hX0.thr.thr.cpl h9⟩
theorem hz_hm {N : Nat → Int32} (hz : ∀ j, 631 ≤ j → N j = 0) {t q k : Nat} {la : Int32} (ht : t < 40) (hq : q < 8) (hk : k < 6) : ∀ j, 631 ≤ j → hm5 N t q k la j = 0 := fun j hj => by
  unfold hm5 hm4 hm3
  split <;> split <;> (try split) <;> (repeat rw [pk_un (by omega)]) <;> exact hz j hj
theorem pair_home (hC : CPL h B) (h9 : B + 9 ≤ 9000) {x : Int32} : RKX l G 3 yX10_home cX10_home 3 2 yX11_home cX11_home 6 [.int x] h B (THH h x) := by
  obtain ⟨b, d, nl, np, nq, nt, sm, ax, L, hX⟩ := hC
  have hX0 := hX
  obtain ⟨-, -, -, hg, hS, hW, hz, -, -⟩ := hX
  have h40 : nt ≤ 40 := hW.1.2.2.2.2.2.2.2
  have hq8 : nq ≤ 8 := hW.1.2.2.2.2.2.1
  have hp6 : np ≤ 6 := hW.1.2.2.2.1
  have hWB := hX0.WB
  rcases hasI_cs nq (by omega) x with e | ⟨q, hq, rfl, e⟩
  · refine Or.inr ⟨⟨b, nl, np, nq, nt, ax, _, hWB, Or.inl (by rw [hS.1.2.2.1]; exact e)⟩, ?_⟩
    refine c11_home hX0.WM ?_
    have e5 : hmT (h.1 3 2) nq nt x = -1 := by unfold hmT; rw [if_pos e]
    unfold mHome
    rw [if_pos e5]
    exact ⟨⟨_, rfl⟩, rfl, hX0.thr.thr.cpl h9⟩
  · have e' : ¬ hasI (h.1 b 15 5) (nI q) = 0 := by rw [hS.1.2.2.1]; exact e
    have hc : (nI q).toNatClampNeg = q := nI_clamp (by omega)
    have e5 : hmT (h.1 3 2) nq nt (nI q) = tOG (h.1 3 2) (nI q) nt 0 := by unfold hmT; rw [if_neg e]
    rcases out_t hS hW hq with ⟨a, c, dd⟩ | ⟨t, ht, a, c, dd, ee, f⟩
    · refine Or.inr ⟨⟨b, nl, np, nq, nt, ax, _, hWB, Or.inr ⟨e', c⟩⟩, ?_⟩
      refine c11_home hX0.WM ?_
      unfold mHome
      rw [if_pos (e5.trans a)]
      exact ⟨⟨_, rfl⟩, rfl, hX0.thr.thr.cpl h9⟩
    · have ct : (nI t).toNatClampNeg = t := nI_clamp (by omega)
      by_cases g : mT (h.1 3 2) t 2 = 1
      · have hk : (∃ k, k < np ∧ mT (h.1 3 2) t 3 = nI k) ∧ mT (h.1 3 2) t 5 = -1 ∧ mT (h.1 3 2) t 6 = 0 := by
          rcases (hW.2.2.2.2.1 t ht).2.2 with z | z | z
          · rw [z.1] at g; exact absurd g (by decide)
          · exact z.2
          · rw [z.1] at g; exact absurd g (by decide)
        obtain ⟨⟨k, hk, h3⟩, h5, h6⟩ := hk
        have ck : hmK (h.1 3 2) t = k := by unfold hmK; rw [h3]; exact nI_clamp (by omega)
        have hla : hmL (h.1 3 2) t = 0 ∨ hmL (h.1 3 2) t = 1 := by unfold hmL; split; exact Or.inl rfl; exact Or.inr rfl
        have hlt : (if lateF h b (nI t) = 0 then (0 : Int32) else 1) = hmL (h.1 3 2) t := by
          rw [late_t hS hW ht hk h3]
          unfold hmL hmD
          rw [ck]
          split <;> rfl
        have hF : FN (h.1 3 2) (hm5 (h.1 3 2) t q k (hmL (h.1 3 2) t)) t q (hmL (h.1 3 2) t) := home_FN (by omega) (by omega) h3 hla
        have hP : FP (h.1 3 2) np t (hmL (h.1 3 2) t) := Or.inr ⟨g, ⟨k, hk, h3⟩, h5, h6, hla⟩
        obtain ⟨c1, c2⟩ := hX0.act h9 finF_fr (fn_SR hS hW hF hP ht dd hq hlt) ((fn_WN hW hF hP ht).mono (by omega) h9) (fn_LNK hW hF hP ht dd hq) (hz_hm hz (by omega) (by omega) (by omega))
        refine Or.inl ⟨h.1 b 0 5 - h.1 b 28 t, keepF (finF h b (nI t)) b 2 (nI t) 0, c10_homeR hWB e' (by rw [f, if_pos g]; decide) (by rw [hc]; exact c) ht ⟨rfl, rfl⟩, fun w => ?_⟩
        have c2' : (ul (keepF (finF h b (nI t)) b 2 (nI t) 0) 4 0 0 w).1 3 = h.1 3 := c2
        refine c11_home (hX0.WM.fr c2') ?_
        unfold mHome
        rw [c2', e5, a, if_neg (nIm (by omega)), ct, if_pos g, ck, hc]
        refine ⟨?_, rfl, ul4w (keepF (finF h b (nI t)) b 2 (nI t) 0) w, c1⟩
        unfold hmD
        rw [hS.1.2.2.2.2.2.1, (hS.2.2.2.2 t ht).2.2.2.2.2.1]
      · refine Or.inr ⟨⟨b, nl, np, nq, nt, ax, _, hWB, Or.inr ⟨e', by rw [f, if_neg g]⟩⟩, ?_⟩
        refine c11_home hX0.WM ?_
        unfold mHome
        rw [e5, a, if_neg (nIm (by omega)), ct, if_neg g]
        exact ⟨⟨_, rfl⟩, rfl, hX0.thr.thr.cpl h9⟩
end
