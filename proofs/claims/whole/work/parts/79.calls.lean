section
variable {h : AH} {b d nl np nq nt sm ax L B : Nat}
theorem CX.up (hC : CX h b d nl np nq nt sm ax L B) (h9 : B + 9 ≤ 9000) : CX h b d nl np nq nt sm ax L (B + 9) := hC.same (by omega) h9 rfl rfl rfl rfl rfl hC.2.2.2.1 rfl rfl rfl rfl rfl rfl
theorem CX.cpl (hC : CX h b d nl np nq nt sm ax L B) (h9 : B + 9 ≤ 9000) : CPL h (B + 9) := ⟨b, d, nl, np, nq, nt, sm, ax, L, hC.up h9⟩
theorem CX.tape (hC : CX h b d nl np nq nt sm ax L B) {h2 : AH} {L2 : Nat} (e1 : h2.1 1 = h.1 1) (e2 : h2.1 2 = h.1 2) (e00 : h2.1 0 0 = h.1 0 0) (eg : rngG (h2.1 0 11)) (e32 : h2.1 3 2 = h.1 3 2) (e34 : h2.1 3 4 = h.1 3 4) (f8 : h2.1 3 0 8 = h.1 3 0 8) (f14 : h2.1 3 0 14 = h.1 3 0 14)
    (t1 : h2.1 0 1 1 = nI L2) (t2 : h2.1 3 0 2 = nI L2) (t3 : L2 ≤ 740) (t4 : ∀ p, p < L2 → h2.1 3 1 p = h2.1 0 2 p &&& 255) : CX h2 b d nl np nq nt sm ax L2 B := by
  obtain ⟨⟨h1, h2', h3, h4, h5, h6⟩, -, hf, -, hS, hW, hz, ⟨r1, r2, r3, r4, r5⟩, hR⟩ := hC
  have eb : h2.1 b = h.1 b := by rcases h1 with rfl | rfl <;> assumption
  have ed : h2.1 d = h.1 d := by rcases h2' with rfl | rfl <;> assumption
  exact ⟨⟨h1, h2', h3, by rw [e00]; exact h4, by rw [e00]; exact h5, by rw [ed]; exact h6⟩, ⟨t1, t2, t3, t4⟩, by rw [e00, f8]; exact hf, eg, by rw [eb, e32]; exact hS, by rw [e32]; exact hW, by rw [e32]; exact hz, ⟨by rw [eb]; exact r1, r2, by rw [eb]; exact r3, by rw [f14]; exact r4, r5⟩, by rw [eb, e32, e34]; exact hR⟩
theorem WM.fr {h h1 : AH} {nl np nq nt sm : Nat} (hW : WM h nl np nq nt sm) (e : h1.1 3 = h.1 3) : WM h1 nl np nq nt sm := by
  unfold WM
  rw [e]
  exact hW
/-! bytes -/
theorem b_255 : ∀ i, i < 32 → bt 255 i = decide (i < 8) := by decide +kernel
theorem b_ushr (n : Nat) (hn : n < 32) (x : Int32) (i : Nat) : bt (x.toUInt32 >>> ((nI n).toUInt32 &&& Int32.toUInt32 31)).toInt32 i = bt x (n + i) := by
  unfold bt
  show (x.toUInt32 >>> ((nI n).toUInt32 &&& Int32.toUInt32 31)).toBitVec.getLsbD i = _
  rw [UInt32.toBitVec_shiftRight]
  show (x.toBitVec >>> (((nI n).toUInt32 &&& Int32.toUInt32 31).toBitVec % 32).toNat).getLsbD i = _
  rw [s_u n hn, BitVec.getLsbD_ushiftRight]
theorem byt_eq (x : Int32) (n : Nat) (hn : n ≤ 24) : bytM x (nI n) = bytF x (nI n) &&& 255 := by
  unfold bytM bytF
  rw [bp_b]
  refine b_ext (fun i hi => ?_)
  rw [b_and, b_and, b_255 i hi, b_ushr n (by omega), b_sshr n (by omega) x hi]
  by_cases e : i < 8
  · rw [if_pos (by omega)]
  · simp [e]
theorem put_b {x : Int32} {b' k j : Nat} (hn : b' ≠ 0 ∨ (k ≠ 1 ∧ k ≠ 2)) : (putF h x L).1 b' k j = h.1 b' k j := by
  unfold putF
  rcases hn with hn | hn
  · rw [ui_b hn, ui_b hn, ui_b hn, ui_b hn, ui_b hn, ui_b hn, ui_b hn, ui_b hn]
  · rw [ui_k hn.1, ui_k hn.2, ui_k hn.1, ui_k hn.2, ui_k hn.1, ui_k hn.2, ui_k hn.1, ui_k hn.2]
theorem lay_b {x : Int32} {b' k j : Nat} (hn : b' ≠ 3 ∨ (¬ (k = 0 ∧ j = 2) ∧ k ≠ 1)) : (layF h x L).1 b' k j = h.1 b' k j := by
  unfold layF
  rcases hn with hn | ⟨hn, h1⟩
  · rw [ui_b hn, ui_b hn, ui_b hn, ui_b hn, ui_b hn, ui_b hn, ui_b hn, ui_b hn]
  · by_cases e : k = 0
    · have e2 : j ≠ 2 := fun z => hn ⟨e, z⟩
      rw [ui_j e2, ui_k h1, ui_j e2, ui_k h1, ui_j e2, ui_k h1, ui_j e2, ui_k h1]
    · rw [ui_k e, ui_k h1, ui_k e, ui_k h1, ui_k e, ui_k h1, ui_k e, ui_k h1]
theorem put_2 {x : Int32} {p : Nat} : (putF h x L).1 0 2 p = if p = L then bytF x 24 else if p = L + 1 then bytF x 16 else if p = L + 2 then bytF x 8 else if p = L + 3 then bytF x 0 else h.1 0 2 p := by
  unfold putF
  by_cases e0 : p = L
  · subst e0; simp [ui]; rw [if_neg (by omega), if_neg (by omega)]
  · by_cases e1 : p = L + 1
    · subst e1; simp [ui]
    · by_cases e2 : p = L + 2
      · subst e2; simp [ui]
      · by_cases e3 : p = L + 3
        · subst e3; simp [ui]
        · simp [ui, e0, e1, e2, e3]
theorem lay_1 {x : Int32} {p : Nat} : (layF h x L).1 3 1 p = if p = L then bytM x 24 else if p = L + 1 then bytM x 16 else if p = L + 2 then bytM x 8 else if p = L + 3 then bytM x 0 else h.1 3 1 p := by
  unfold layF
  by_cases e0 : p = L
  · subst e0; simp [ui]; rw [if_neg (by omega), if_neg (by omega)]
  · by_cases e1 : p = L + 1
    · subst e1; simp [ui]
    · by_cases e2 : p = L + 2
      · subst e2; simp [ui]
      · by_cases e3 : p = L + 3
        · subst e3; simp [ui]
        · simp [ui, e0, e1, e2, e3]
theorem put_lay {g1 g3 : AH} {x : Int32} (ht : ∀ p, p < L → g3.1 3 1 p = g1.1 0 2 p &&& 255) : ∀ p, p < L + 4 → (layF g3 x L).1 3 1 p = (putF g1 x L).1 0 2 p &&& 255 := fun p hp => by
  rw [put_2, lay_1]
  by_cases e0 : p = L
  · rw [if_pos e0, if_pos e0]; exact byt_eq x 24 (by omega)
  · rw [if_neg e0, if_neg e0]
    by_cases e1 : p = L + 1
    · rw [if_pos e1, if_pos e1]; exact byt_eq x 16 (by omega)
    · rw [if_neg e1, if_neg e1]
      by_cases e2 : p = L + 2
      · rw [if_pos e2, if_pos e2]; exact byt_eq x 8 (by omega)
      · rw [if_neg e2, if_neg e2]
        by_cases e3 : p = L + 3
        · rw [if_pos e3, if_pos e3]; exact byt_eq x 0 (by omega)
        · rw [if_neg e3, if_neg e3, ht p (by omega)]
theorem feed_b {x0 x1 x2 x3 x4 : Int32} {b' k j : Nat} (hn : b' ≠ 0 ∨ (k ≠ 1 ∧ k ≠ 2)) : (feedF h L x0 x1 x2 x3 x4).1 b' k j = h.1 b' k j := by
  unfold feedF
  rw [put_b hn, put_b hn, put_b hn, put_b hn, put_b hn]
theorem mfeed_b {x0 x1 x2 x3 x4 : Int32} {b' k j : Nat} (hn : b' ≠ 3 ∨ (¬ (k = 0 ∧ j = 2) ∧ k ≠ 1 ∧ ¬ (k = 0 ∧ j = 0))) : (mFeed h L x0 x1 x2 x3 x4).1 b' k j = h.1 b' k j := by
  unfold mFeed
  have hn' : b' ≠ 3 ∨ (¬ (k = 0 ∧ j = 2) ∧ k ≠ 1) := by rcases hn with hn | hn; exact Or.inl hn; exact Or.inr ⟨hn.1, hn.2.1⟩
  rw [lay_b hn', lay_b hn', lay_b hn', lay_b hn', lay_b hn']
  rcases hn with hn | hn
  · exact ui_b hn
  · by_cases e : k = 0
    · exact ui_j (fun z => hn.2.2 ⟨e, z⟩)
    · exact ui_k e
variable {l : Launch} {G : GG}
abbrev RK (l : Launch) (G : GG) (dd : Nat) (y : MethodName) (cc : ByteArray) (nL : Nat) (ret : Option FieldType) (av : List Value) (B : Nat) : Option Value → AH → Prop := fun v h1 => ∃ r, v = some (.int r) ∧ Ct l G dd y cc nL ret av h1 (fun v2 h2 => v2 = some (.int r) ∧ CPL h2 (B + 9))
theorem call_feed (hC : CPL h B) (h9 : B + 9 ≤ 9000) {x0 x1 x2 x3 x4 : Int32} : Ct l G 1 yX10_feed cX10_feed 6 (some .int) [.ref (G.1 0 0), .int x0, .int x1, .int x2, .int x3, .int x4] h (RK l G 1 yX11_feed cX11_feed 6 (some .int) [.ref (G.1 3 0), .int x0, .int x1, .int x2, .int x3, .int x4] B) := by
  obtain ⟨b, d, nl, np, nq, nt, sm, ax, L, hX⟩ := hC
  have hX0 := hX
  obtain ⟨-, ⟨l1, l2, l3, l4⟩, -, hg, -⟩ := hX
  refine c10_feed l1 l3 ?_
  by_cases e : L + 20 ≤ 740
  · rw [if_pos e]
    refine ⟨_, rfl, c11_feed (L := L) (by rw [feed_b (Or.inl (by decide))]; exact l2) l3 ?_⟩
    rw [if_pos e]
    refine ⟨rfl, b, d, nl, np, nq, nt, sm, ax, L + 20, CX.tape (hX0.up h9) ?_ ?_ ?_ ?_ ?_ ?_ ?_ ?_ ?_ ?_ e ?_⟩
    · funext k j; rw [mfeed_b (Or.inl (by decide)), feed_b (Or.inl (by decide))]
    · funext k j; rw [mfeed_b (Or.inl (by decide)), feed_b (Or.inl (by decide))]
    · funext j; rw [mfeed_b (Or.inl (by decide)), feed_b (Or.inr ⟨by decide, by decide⟩)]
    · rw [show (mFeed (feedF h L x0 x1 x2 x3 x4) L x0 x1 x2 x3 x4).1 0 11 = h.1 0 11 from funext fun j => by rw [mfeed_b (Or.inl (by decide)), feed_b (Or.inr ⟨by decide, by decide⟩)]]; exact hg
    · funext j; rw [mfeed_b (Or.inr ⟨by omega, by omega, by omega⟩), feed_b (Or.inl (by decide))]
    · funext j; rw [mfeed_b (Or.inr ⟨by omega, by omega, by omega⟩), feed_b (Or.inl (by decide))]
    · rw [mfeed_b (Or.inr ⟨by omega, by omega, by omega⟩), feed_b (Or.inl (by decide))]
    · rw [mfeed_b (Or.inr ⟨by omega, by omega, by omega⟩), feed_b (Or.inl (by decide))]
    · rw [mfeed_b (Or.inl (by decide))]; unfold feedF putF; rw [ui_eq]
    · unfold mFeed layF; rw [ui_eq]
    · intro p hp
      rw [mfeed_b (b' := 0) (Or.inl (by decide))]
      unfold mFeed
      conv => rhs; unfold feedF
      exact put_lay (put_lay (put_lay (put_lay (put_lay (fun p hp => by rw [ui_k (by decide), feed_b (Or.inl (by decide)), l4 p hp]))))) p hp
  · rw [if_neg e]
    refine ⟨_, rfl, c11_feed (L := L) l2 l3 ?_⟩
    rw [if_neg e]
    exact ⟨rfl, hX0.thr.cpl h9⟩
theorem call_end (hC : CPL h B) (h9 : B + 9 ≤ 9000) {x : Int32} : Ct l G 0 yX10_end cX10_end 2 (some .boolean) [.ref (G.1 0 0), .int x] h (RK l G 0 yX11_end cX11_end 2 (some .boolean) [.ref (G.1 3 0), .int x] B) := by
  obtain ⟨b, d, nl, np, nq, nt, sm, ax, L, hX⟩ := hC
  have hX0 := hX
  obtain ⟨-, ⟨l1, l2, l3, l4⟩, -, hg, -⟩ := hX
  refine c10_end ?_
  by_cases e : x < 0
  · rw [if_pos e]
    refine ⟨_, rfl, c11_end ?_⟩
    rw [if_pos e]
    exact ⟨rfl, hX0.thr.cpl h9⟩
  · rw [if_neg e]
    obtain ⟨j, hj, rfl⟩ := nI_of e
    by_cases e2 : nI j ≤ h.1 0 1 1
    · rw [if_pos e2]
      refine ⟨_, rfl, c11_end ?_⟩
      have hj2 : j ≤ L := by rw [l1] at e2; exact (nI_leI hj (by omega)).mp e2
      rw [if_neg e, ui_b (by decide), l2, if_pos (nI_le hj2 (by omega))]
      refine ⟨rfl, b, d, nl, np, nq, nt, sm, ax, j, CX.tape (hX0.up h9) ?_ ?_ ?_ ?_ ?_ ?_ ?_ ?_ ?_ ?_ (by omega) ?_⟩
      · funext k j; rw [ui_b (by decide), ui_b (by decide), ui_b (by decide)]
      · funext k j; rw [ui_b (by decide), ui_b (by decide), ui_b (by decide)]
      · funext j; rw [ui_b (by decide), ui_b (by decide), ui_k (by decide)]
      · rw [show (ui (ui (ui h 0 1 1 (nI j)) 3 0 0 0) 3 0 2 (nI j)).1 0 11 = h.1 0 11 from funext fun j => by rw [ui_b (by decide), ui_b (by decide), ui_k (by decide)]]; exact hg
      · funext j; rw [ui_k (by decide), ui_k (by decide), ui_b (by decide)]
      · funext j; rw [ui_k (by decide), ui_k (by decide), ui_b (by decide)]
      · rw [ui_j (by decide), ui_j (by decide), ui_b (by decide)]
      · rw [ui_j (by decide), ui_j (by decide), ui_b (by decide)]
      · rw [ui_b (by decide), ui_b (by decide), ui_eq]
      · rw [ui_eq]
      · intro p hp
        rw [ui_k (by decide), ui_k (by decide), ui_b (by decide), ui_b (by decide), ui_b (by decide), ui_k (by decide)]
        exact l4 p (by omega)
    · rw [if_neg e2]
      refine ⟨_, rfl, c11_end ?_⟩
      rw [l1, ← l2] at e2
      rw [if_neg e, if_neg e2]
      exact ⟨rfl, hX0.thr.cpl h9⟩
theorem call_fault (hC : CPL h B) (h9 : B + 9 ≤ 9000) : Ct l G 0 yX10_fault cX10_fault 1 (some .int) [.ref (G.1 0 0)] h (RK l G 0 yX11_fault cX11_fault 1 (some .int) [.ref (G.1 3 0)] B) := by
  obtain ⟨b, d, nl, np, nq, nt, sm, ax, L, hX⟩ := hC
  exact c10_fault ⟨_, rfl, c11_fault ⟨by rw [hX.2.2.1], hX.thr.cpl h9⟩⟩
theorem call_now (hC : CPL h B) (h9 : B + 9 ≤ 9000) {x : Int32} : Ct l G 1 yX10_now cX10_now 2 (some .int) [.ref (G.1 0 0), .int x] h (RK l G 2 yX11_now cX11_now 2 (some .int) [.ref (G.1 3 0), .int x] B) := by
  obtain ⟨b, d, nl, np, nq, nt, sm, ax, L, hX⟩ := hC
  have hX0 := hX
  obtain ⟨-, ⟨l1, l2, -, -⟩, -, -, hS, hW, -, ⟨-, -, r3, r4, -⟩, -⟩ := hX
  exact c10_now hX0.WB ⟨_, rfl, c11_now hX0.WM ⟨by rw [q_now rfl hS hW (by rw [r3, r4]) (by rw [l1, l2])], hX0.thr.cpl h9⟩⟩
theorem call_type (hC : CPL h B) (h9 : B + 9 ≤ 9000) {x y : Int32} : Ct l G 4 yX10_type cX10_type 4 (some .int) [.ref (G.1 0 0), .int x, .int y] h (RK l G 5 yX11_type cX11_type 3 (some .int) [.ref (G.1 3 0), .int x, .int y] B) := by
  obtain ⟨b, d, nl, np, nq, nt, sm, ax, L, hX⟩ := hC
  exact c10_type hX.WB ⟨_, rfl, c11_type hX.WM ⟨by rw [q_type hX.2.2.2.2.1 hX.2.2.2.2.2.1], hX.thr.cpl h9⟩⟩
theorem call_ledger (hC : CPL h B) (h9 : B + 9 ≤ 9000) {x y : Int32} : Ct l G 3 yX10_ledger cX10_ledger 4 (some .int) [.ref (G.1 0 0), .int x, .int y] h (RK l G 4 yX11_ledger cX11_ledger 3 (some .int) [.ref (G.1 3 0), .int x, .int y] B) := by
  obtain ⟨b, d, nl, np, nq, nt, sm, ax, L, hX⟩ := hC
  exact c10_ledger hX.WB ⟨_, rfl, c11_ledger hX.WM ⟨by rw [q_ledg hX.2.2.2.2.1 hX.2.2.2.2.2.1], hX.thr.cpl h9⟩⟩
theorem call_trip (hC : CPL h B) (h9 : B + 9 ≤ 9000) {x y : Int32} : Ct l G 1 yX10_trip cX10_trip 4 (some .int) [.ref (G.1 0 0), .int x, .int y] h (RK l G 2 yX11_trip cX11_trip 3 (some .int) [.ref (G.1 3 0), .int x, .int y] B) := by
  obtain ⟨b, d, nl, np, nq, nt, sm, ax, L, hX⟩ := hC
  exact c10_trip hX.WB ⟨_, rfl, c11_trip hX.WM ⟨by rw [q_trip hX.2.2.2.2.1 hX.2.2.2.2.2.1], hX.thr.cpl h9⟩⟩
theorem call_fits (hC : CPL h B) (h9 : B + 9 ≤ 9000) {x y : Int32} : Ct l G 2 yX10_fits cX10_fits 3 (some .boolean) [.ref (G.1 0 0), .int x, .int y] h (RK l G 3 yX11_fits cX11_fits 3 (some .boolean) [.ref (G.1 3 0), .int x, .int y] B) := by
  obtain ⟨b, d, nl, np, nq, nt, sm, ax, L, hX⟩ := hC
  exact c10_fits hX.WB ⟨_, rfl, c11_fits hX.WM ⟨by rw [q_fits hX.2.2.2.2.1 hX.2.2.2.2.2.1], hX.thr.cpl h9⟩⟩
theorem call_lawful (hC : CPL h B) (h9 : B + 9 ≤ 9000) {x y : Int32} : Ct l G 3 yX10_lawful cX10_lawful 3 (some .int) [.ref (G.1 0 0), .int x, .int y] h (RK l G 3 yX11_lawful cX11_lawful 3 (some .int) [.ref (G.1 3 0), .int x, .int y] B) := by
  obtain ⟨b, d, nl, np, nq, nt, sm, ax, L, hX⟩ := hC
  exact c10_lawful hX.WB ⟨_, rfl, c11_lawful hX.WM ⟨by rw [q_law hX.2.2.2.2.1 hX.2.2.2.2.2.1], hX.thr.cpl h9⟩⟩
theorem call_free (hC : CPL h B) (h9 : B + 9 ≤ 9000) {x y : Int32} : Ct l G 4 yX10_free cX10_free 6 (some .int) [.ref (G.1 0 0), .int x, .int y] h (RK l G 5 yX11_free cX11_free 5 (some .int) [.ref (G.1 3 0), .int x, .int y] B) := by
  obtain ⟨b, d, nl, np, nq, nt, sm, ax, L, hX⟩ := hC
  exact c10_free hX.WB ⟨_, rfl, c11_free hX.WM ⟨by rw [q_free hX.2.2.2.2.1 hX.2.2.2.2.2.1], hX.thr.cpl h9⟩⟩
theorem call_shortest (hC : CPL h B) (h9 : B + 9 ≤ 9000) {x y : Int32} : Ct l G 1 yX10_shortest cX10_shortest 8 (some .int) [.ref (G.1 0 0), .int x, .int y] h (RK l G 2 yX11_shortest cX11_shortest 9 (some .int) [.ref (G.1 3 0), .int x, .int y] B) := by
  obtain ⟨b, d, nl, np, nq, nt, sm, ax, L, hX⟩ := hC
  exact c10_shortest hX.WB ⟨_, rfl, c11_shortest hX.WM ⟨by rw [q_short hX.2.2.2.2.1 hX.2.2.2.2.2.1], hX.thr.cpl h9⟩⟩
theorem call_undo (hC : CPL h B) (h9 : B + 9 ≤ 9000) : Ct l G 4 yX10_undo cX10_undo 3 (some .int) [.ref (G.1 0 0)] h (RK l G 0 yX11_undo cX11_undo 2 (some .int) [.ref (G.1 3 0)] B) := by
  obtain ⟨b, d, nl, np, nq, nt, sm, ax, L, hX⟩ := hC
  obtain ⟨a1, ⟨b', d', nl', np', nq', nt', sm', ax', L', a2⟩, a3⟩ := step_undo hX
  exact c10_undo hX.WB ⟨_, rfl, c11_undo a3 hX.2.2.2.2.2.2.2.1.2.2.2.2 ⟨by rw [a1], a2.cpl h9⟩⟩
end
