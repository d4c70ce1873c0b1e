/-! lorry(), home() throw -/
theorem rmX_ok {d ny : Nat} (hd : d ≤ 1) (hn : ny ≤ 15) : RmOk rmX 0 0 d ny := ⟨by show d < 6; omega, by show 8 + (ny + 11) + 36 * d ≤ 100; omega, Nat.zero_le _, Nat.zero_le _⟩
theorem tc_lorry {l : Launch} {G : GG} {h : AH} {x y : Int32} (hl : l.stackTraces = false) (hT : THL h x y) : TC l G yX10_lorry cX10_lorry 4 (some .int) [.ref (G.1 0 0), .int x, .int y] h := by
  refine TC.of (by decide) (Nat.le_of_ble_eq_true rfl) ?_
  show AG l G rmX (ETh G h) (ZTh G) RX10 cX10_lorry 4 (some .int) 0 0 0 [some (.ref (G.1 0 0)), some (.int x), some (.int y)] [] h ()
  obtain ⟨b, nl, np, nq, nt, ax, ak, hW, hT⟩ := hT
  obtain ⟨hb, hbk, hnl, hl8, hnp, hp6, hnq, hq8, hnt, ht40, hax, hax10, hak, hak10⟩ := id hW
  refine g_aload_n dX10_lorry_0 rfl ?_
  refine g_getD (ci := 10) (j := 3) dX10_lorry_1 rfl rfl (by decide) rfl fl_10_40 (bb := b) hbk ?_
  refine g_getR (ci := 1) (j := 2) dX10_lorry_4 (kdB hb rfl) rfl (by decide) rfl fl_10_93 ?_
  refine g_astore_n dX10_lorry_7 (by decide) rfl ?_
  refine g_aload_n dX10_lorry_8 rfl ?_
  refine g_iload_n dX10_lorry_9 rfl ?_
  refine g_callV (As := [.int x]) (rest := []) dX10_lorry_10 ml_10_172 wv_3_has (kdB hb rfl) rfl (rmX_ok (by decide) (by decide)) (Nat.le_of_ble_eq_true rfl) (c3_has hb (Q := fun v h' => v = some (.int (hasI (h.1 b 15 5) x)) ∧ h' = h) ⟨rfl, rfl⟩) (fun v h' q => ?_)
  obtain ⟨rfl, rfl⟩ := q
  rcases hT with hT | ⟨hx, hy⟩
  · refine g_if_ne dX10_lorry_13 (tgt := 26) (by decide) (fun c => absurd hT c) (fun _ => ?_)
    exact g_throw (i := 7) (by decide) rfl rfl rfl hl dX10_lorry_16 dX10_lorry_19 dX10_lorry_20 dX10_lorry_22 dX10_lorry_25
  · refine g_if_ne dX10_lorry_13 (tgt := 26) (by decide) (fun _ => ?_) (fun c => absurd c hx)
    refine g_iload_n dX10_lorry_26 rfl ?_
    refine g_tableOut dX10_lorry_27 hy (tgt := 95) (by decide) ?_
    exact g_throw (i := 8) (by decide) rfl rfl rfl hl dX10_lorry_95 dX10_lorry_98 dX10_lorry_99 dX10_lorry_101 dX10_lorry_104
theorem tc_home {l : Launch} {G : GG} {h : AH} {x : Int32} (hl : l.stackTraces = false) (hT : THH h x) : TC l G yX10_home cX10_home 3 (some .int) [.ref (G.1 0 0), .int x] h := by
  refine TC.of (by decide) (Nat.le_of_ble_eq_true rfl) ?_
  show AG l G rmX (ETh G h) (ZTh G) RX10 cX10_home 3 (some .int) 0 0 0 [some (.ref (G.1 0 0)), some (.int x)] [] h ()
  obtain ⟨b, nl, np, nq, nt, ax, ak, hW, hT⟩ := hT
  obtain ⟨hb, hbk, hnl, hl8, hnp, hp6, hnq, hq8, hnt, ht40, hax, hax10, hak, hak10⟩ := id hW
  have hq : (h.1 b 15 5).toInt ≤ 8 := toNat_le hnq 8 hq8 (by decide)
  have ht4 : (h.1 b 21 9).toInt ≤ 40 := toNat_le hnt 40 ht40 (by decide)
  refine g_aload_n dX10_home_0 rfl ?_
  refine g_getD (ci := 10) (j := 3) dX10_home_1 rfl rfl (by decide) rfl fl_10_40 (bb := b) hbk ?_
  refine g_getR (ci := 1) (j := 2) dX10_home_4 (kdB hb rfl) rfl (by decide) rfl fl_10_93 ?_
  refine g_iload_n dX10_home_7 rfl ?_
  refine g_callV (As := [.int x]) (rest := []) dX10_home_8 ml_10_172 wv_3_has (kdB hb rfl) rfl (rmX_ok (by decide) (by decide)) (Nat.le_of_ble_eq_true rfl) (c3_has hb (Q := fun v h' => v = some (.int (hasI (h.1 b 15 5) x)) ∧ h' = h) ⟨rfl, rfl⟩) (fun v h' q => ?_)
  obtain ⟨rfl, rfl⟩ := q
  rcases hT with hT | ⟨hx, hy⟩
  · refine g_if_ne dX10_home_11 (tgt := 24) (by decide) (fun c => absurd hT c) (fun _ => ?_)
    exact g_throw (i := 7) (by decide) rfl rfl rfl hl dX10_home_14 dX10_home_17 dX10_home_18 dX10_home_20 dX10_home_23
  · refine g_if_ne dX10_home_11 (tgt := 24) (by decide) (fun _ => ?_) (fun c => absurd c hx)
    refine g_aload_n dX10_home_24 rfl ?_
    refine g_getD (ci := 10) (j := 3) dX10_home_25 rfl rfl (by decide) rfl fl_10_40 (bb := b) hbk ?_
    refine g_iload_n dX10_home_28 rfl ?_
    refine g_callV (As := [.int x]) (rest := []) dX10_home_29 ml_10_285 wv_1_isOut (kdB hb rfl) rfl (rmX_ok (by decide) (by decide)) (Nat.le_of_ble_eq_true rfl) (c1_isOut hb ht4 hq (Q := fun v h'' => v = some (.int (isOutF h' b x)) ∧ h'' = h') ⟨rfl, rfl⟩) (fun v h' q => ?_)
    obtain ⟨rfl, rfl⟩ := q
    refine g_if_ne dX10_home_32 (tgt := 46) (by decide) (fun c => absurd hy c) (fun _ => ?_)
    exact g_throwW (i := 9) (by decide) rfl rfl rfl hl dX10_home_35 dX10_home_38 dX10_home_39 dX10_home_42 dX10_home_45
