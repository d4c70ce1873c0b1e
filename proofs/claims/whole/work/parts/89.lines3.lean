section
variable {d L f q n : Nat} {T : Nat → Int32} {h h0 : AH} {s : PSt} {F : Int32 × AH} {K : AH → PSt → Nat → Nat → Prop}
theorem brd_a {r : Nat → Int32} {a c : Nat} (ha : a < 8) (hc : c < 8) (hn : a ≠ c) : brdR r (nI a) (nI c) (103 + a) = r (103 + a) ||| 1 <<< (nI c &&& 31) := by
  unfold brdR
  (try dsimp only)
  rw [nI_clamp (by omega), nI_clamp (by omega), pk_un (by omega), pk_un (by omega), pk_us]
theorem brd_c {r : Nat → Int32} {a c : Nat} (ha : a < 8) (hc : c < 8) (hn : a ≠ c) : brdR r (nI a) (nI c) (103 + c) = r (103 + c) ||| 1 <<< (nI a &&& 31) := by
  unfold brdR
  (try dsimp only)
  rw [nI_clamp (by omega), nI_clamp (by omega), pk_un (by omega), pk_us, pk_un (by omega)]
/-- the class's addBorder -/
theorem addB_n {g : AH} {r : Nat → Int32} {nl a c : Nat} (h1 : g.1 d 1 1 = nI nl) (hl : nl ≤ 8) (ha : a < nl) (hc : c < nl) (hn : a ≠ c) (h2 : ∀ x, x < 8 → g.1 d 2 x = r (103 + x)) (h3 : g.1 d 1 2 = bO r 8) (hs : ∀ a c, a < 8 → c < 8 → bt (r (103 + a)) c = bt (r (103 + c)) a) :
    (∀ k j, k ≠ 2 → ¬ (k = 1 ∧ j = 2) → (addBF g d (nI a) (nI c)).1 d k j = g.1 d k j) ∧ (∀ b k j, b ≠ d → (addBF g d (nI a) (nI c)).1 b k j = g.1 b k j) ∧ (∀ x, x < 8 → (addBF g d (nI a) (nI c)).1 d 2 x = brdR r (nI a) (nI c) (103 + x)) ∧ (addBF g d (nI a) (nI c)).1 d 1 2 = bO (brdR r (nI a) (nI c)) 8 := by
  have ja : (g.1 d 2 a >>> (nI c &&& 31)) &&& 1 = 0 ↔ bt (r (103 + a)) c = false := by rw [h2 a (by omega)]; exact bit_0 (by omega)
  have hj : joinF g d (nI a) (nI c) = if (g.1 d 2 a >>> (nI c &&& 31)) &&& 1 = 0 then 0 else 1 := by
    unfold joinF
    rw [h1, if_neg (by rw [hasI_p ha (by omega)]; decide), if_neg (by rw [hasI_p hc (by omega)]; decide), nI_clamp (by omega)]
  unfold addBF
  rw [h1, if_neg (by rw [hasI_p ha (by omega)]; decide), if_neg (by rw [hasI_p hc (by omega)]; decide), hj, nI_clamp (show a < 2 ^ 31 by omega), nI_clamp (show c < 2 ^ 31 by omega)]
  cases e : bt (r (103 + a)) c with
  | true =>
    have hz : ¬ (g.1 d 2 a >>> (nI c &&& 31)) &&& 1 = 0 := fun z => by rw [ja.mp z] at e; exact absurd e (by decide)
    rw [if_neg hz, if_pos (by decide)]
    have e2 : bt (r (103 + c)) a = true := by rw [← hs a c (by omega) (by omega)]; exact e
    refine ⟨fun _ _ _ _ => rfl, fun _ _ _ _ => rfl, fun x hx => by rw [brd_same (by omega) (by omega) hn e e2 hx]; exact h2 x hx, ?_⟩
    rw [h3, bO_congr (N := r) 8 (fun x hx => brd_same (by omega) (by omega) hn e e2 hx)]
  | false =>
    have e2 : bt (r (103 + c)) a = false := by rw [← hs a c (by omega) (by omega)]; exact e
    rw [if_pos (ja.mpr e), if_neg (by decide)]
    dsimp only
    refine ⟨fun k j hk hk2 => ?_, fun b k j hb => ?_, fun x hx => ?_, ?_⟩
    · have : (ui (ui (ui g d 2 a (g.1 d 2 a ||| 1 <<< (nI c &&& 31))) d 2 c ((ui g d 2 a (g.1 d 2 a ||| 1 <<< (nI c &&& 31))).1 d 2 c ||| 1 <<< (nI a &&& 31))) d 1 2 (g.1 d 1 2 + 1)).1 d k j = (ui (ui g d 2 a (g.1 d 2 a ||| 1 <<< (nI c &&& 31))) d 2 c ((ui g d 2 a (g.1 d 2 a ||| 1 <<< (nI c &&& 31))).1 d 2 c ||| 1 <<< (nI a &&& 31))).1 d k j := by
        by_cases z : k = 1
        · exact ui_j (fun w => hk2 ⟨z, w⟩)
        · exact ui_k z
      rw [this, ui_k hk, ui_k hk]
    · rw [ui_b hb, ui_b hb, ui_b hb]
    · rw [ui_k (by decide)]
      by_cases z : x = c
      · subst z
        rw [ui_eq, ui_j (fun w => hn w.symm), h2 x hx, brd_c (by omega) (by omega) hn]
      · rw [ui_j z]
        by_cases z2 : x = a
        · subst z2
          rw [ui_eq, h2 x hx, brd_a (by omega) (by omega) hn]
        · rw [ui_j z2, h2 x hx, brd_o (by omega) (by omega) (by omega) (by omega) (by omega)]
    · rw [ui_eq, h3, bO_n 8 (by omega), bO_n 8 (by omega), nI_1]
      congr 1
      exact (brd_cnt (by omega) (by omega) hn e e2).symm
theorem sim_border (hd : d ≠ 0) (hK : TKr h L T s q) (hf : 700 ≤ f + q) (hB : LB d n h s q) (hn : ¬ n = 0) (hq : n < 1000) (hw : ¬ wdP s (W6 98 111 114 100 101 114) = 0) : OUT d L T (FIN d L f h) (andP (bordP T L s) (endP T L)) (fun h' s' f' q' => LB d (n + 1) h' s' q' ∧ q < q') := by
  obtain ⟨b0, b6, bq, nl, np, nq, nb, hR, -⟩ := hB
  obtain ⟨⟨r0a, r0b, r0c⟩, hrr, ⟨r2a, r2b, r2c⟩, ⟨r3a, r3b, r3c⟩, ⟨r4a, r4b, r4c⟩, ⟨r5a, r5b, r5c⟩, hTy, hLo, hZ, hC⟩ := hR
  obtain ⟨hk, h6⟩ := wd_kind hK hw
  have hw' : ¬ wdP s (lN (dgc 1)) = 0 := by rw [← w_border]; exact hw
  have hw3 : ¬ wordF h (pS h) 1 = 0 := fun z => hw' ((wd_sim hK (i := 1) (by omega)).1.mp z)
  have hs4 : sortW h = 2 := by
    unfold sortW
    rw [if_pos ((wd_sim hK (i := 0) (by omega)).1.mpr (wd_uni (by omega) (by omega) hw' (by decide))), if_neg hw3]
  have hn0 : ¬ nI n = 0 := nI_ne0 (by omega) (by omega)
  have hiff : ((2 : Int32) = 1 ↔ nI n = 0) := ⟨fun z => absurd z (by decide), fun z => absurd z hn0⟩
  unfold bordP
  by_cases h8 : s.2.2 2 = 28
  · rw [if_pos h8, andP_f rfl]
    refine sim_badx hK hf hk (by rw [h6]; decide) ?_
    unfold tokF
    rw [if_pos b0]
    unfold begF
    rw [hs4, if_neg (by decide), b6, if_pos hiff, if_pos]
    left
    exact ⟨rfl, by rw [r2a, ← r2b, h8]; decide⟩
  · rw [if_neg h8]
    have hb28 : nb < 28 := by
      rcases Nat.lt_or_ge nb 28 with z | z
      · exact z
      · exact absurd (show s.2.2 2 = nI 28 by rw [r2b]; congr 1; omega) h8
    have hbeg : begF h d = (1, begH h 2) := by
      unfold begF
      rw [hs4, if_neg (by decide), b6, if_pos hiff, if_neg]
      · rfl
      · rintro (z | z | z)
        · exact absurd z.2 (by rw [r2a]; exact nI_ge (b := 28) hb28 (by omega))
        · exact absurd z.1 (by decide)
        · exact absurd z.1 (by decide)
    obtain ⟨h1, f1, q1, e1, k1, u1, m1, v1⟩ := sim_beg hK hf hk b0 hbeg
    rw [e1]
    have mean2 : ∀ {g : AH} {fl : Nat} {lb : Int32} {nums : Nat → Int32}, MS h g 2 fl (-1) lb nums → meanF g = (if 2 ≤ nI fl then -1 else 7) := fun hm => by
      unfold meanF
      rw [hm.2.1, hm.2.2.1, if_neg (by decide), if_pos rfl]
    have whol2 : ∀ {g : AH} {fl : Nat} {lb : Int32} {nums : Nat → Int32}, MS h g 2 fl (-1) lb nums → wholF g = if meanF g = -1 then 1 else 0 := fun hm => by
      unfold wholF
      rw [hm.2.1, if_neg (by decide)]
    refine OUT.andP (K := fun h' s' f' q' => ∃ a c lb, a < nl ∧ c < nl ∧ a ≠ c ∧ MS h h' 2 2 (-1) lb (upd (upd (fun _ => 0) 0 (nI a)) 1 (nI c)) ∧ s'.2.2 = brdR s.2.2 (nI a) (nI c) ∧ q < q') ?_ ?_
    · refine OUT.andP (sim_land (nl := nl) hd k1 u1 m1 (by omega) (by decide) (by decide) (by rw [mean2 m1]; rfl) (Or.inl (by rw [whol2 m1, mean2 m1]; rfl)) r0a r0c r0b) ?_
      rintro h2 s2 f2 q2 k2 u2 ⟨a, w1, w2, m2, w3, w5, w4⟩
      have hs2 : s2.2.2 = s.2.2 := w3
      rw [show (0 : Int32) ||| 1 <<< (nI a &&& 31) = 1 <<< (nI a &&& 31) from Int32.zero_or] at m2
      rw [w5]
      refine OUT.andP (sim_land (nl := nl) hd k2 u2 m2 (by omega) (by decide) (by decide) (by rw [mean2 m2]; rfl) (Or.inl (by rw [whol2 m2, mean2 m2]; rfl)) r0a r0c (by rw [hs2]; exact r0b)) ?_
      rintro h3 s3 f3 q3 k3 u3 ⟨c, x1, x2, m3, x3, x5, x4⟩
      refine OUT.ret (x := (s3.1, s3.2.1, brdR s3.2.2 (nI a) (s3.1 15))) k3 u3 ⟨a, c, _, w1, x1, ?_, m3, ?_, by omega⟩
      · intro z
        subst z
        rw [hasB_b (by omega), b_1l (by omega) (by omega)] at x2
        simp at x2
      · show brdR s3.2.2 (nI a) (s3.1 15) = _
        rw [x3, hs2, x5]
    · rintro h4 s4 f4 q4 k4 u4 ⟨a, c, lb, w1, w2, wn, m4, w3, w4⟩
      have hmean : meanF h4 = -1 := by rw [mean2 m4]; rfl
      have n0 : h4.1 0 5 0 = nI a := by rw [m4.2.2.2.2.2.2.2 0 (by omega) (by omega), pk_un (by decide), pk_us]
      have n1 : h4.1 0 5 1 = nI c := by rw [m4.2.2.2.2.2.2.2 1 (by omega) (by omega), pk_us]
      have ed : h4.1 d = h.1 d := m4.1 d hd
      obtain ⟨A1, A2, A3, A4⟩ := addB_n (d := d) (g := h4) (r := s.2.2) (nl := nl) (a := a) (c := c) (by rw [ed]; exact r0a) r0c w1 w2 wn (fun x hx => by rw [ed]; exact r5a x hx) (by rw [ed]; exact r5b) r5c
      have hend : endF h4 d = ui (ui (ui (addBF h4 d (nI a) (nI c)) 0 4 7 (h4.1 0 4 7 + 1)) 0 4 6 (h4.1 0 4 6 + 1)) 0 4 2 0 := by
        unfold endF
        rw [m4.2.1, if_neg (by decide), if_pos rfl, n0, n1]
      refine (sim_end hd k4 u4 m4 (by decide) (by decide) (by rw [whol2 m4, hmean]; decide) (Or.inl hmean) (fun k j hk' => by rw [hend, ui_k (by omega), ui_k (by omega), ui_k (by omega), A2 0 k j hd.symm])).imp ?_
      rintro h5 s5 f5 q5 ⟨hfr, y1, y2⟩
      refine ⟨⟨?_, ?_, by omega, nl, np, nq, nb + 1, ?_, fun z => absurd z (by omega)⟩, by omega⟩
      · rw [hfr.1 0 4 2 (Or.inr (by decide)), hend, ui_eq]
      · rw [hfr.1 0 4 6 (Or.inr (by decide)), hend, ui_j (by decide), ui_eq, m4.2.2.2.2.2.1, b6, nI_1]
      · have hD : ∀ k j, h5.1 d k j = (addBF h4 d (nI a) (nI c)).1 d k j := fun k j => by
          rw [hfr.1 d k j (Or.inl hd), hend, ui_b hd, ui_b hd, ui_b hd]
        have hDn : ∀ k j, k ≠ 2 → ¬ (k = 1 ∧ j = 2) → h5.1 d k j = h.1 d k j := fun k j a1 a2 => by rw [hD, A1 k j a1 a2, ed]
        have hr : s5.2.2 = brdR s.2.2 (nI a) (nI c) := by rw [y1, w3]
        have hb : h5.1 0 4 7 = nI (nb + 1) := by rw [hfr.1 0 4 7 (Or.inr (by decide)), hend, ui_j (by decide), ui_j (by decide), ui_eq, m4.2.2.2.2.2.2.1, r2a, nI_1]
        have hn' : ∀ j, j ≠ 2 → j < 103 → s5.2.2 j = s.2.2 j := fun j a1 a2 => by rw [hr, brd_o (by omega) (by omega) (by omega) (by omega) a1]
        refine ⟨⟨by rw [hDn _ _ (by decide) (by decide)]; exact r0a, by rw [hn' _ (by decide) (by omega)]; exact r0b, r0c⟩, ?_, ⟨hb, by rw [hr, brd_2, r2b, nI_1], by omega⟩, ⟨by rw [hDn _ _ (by decide) (by decide)]; exact r3a, by rw [hn' _ (by decide) (by omega)]; exact r3b, r3c⟩, ⟨by rw [hDn _ _ (by decide) (by decide)]; exact r4a, by rw [hn' _ (by decide) (by omega)]; exact r4b, r4c⟩, ⟨fun x hx => ?_, ?_, fun x y hx hy => ?_⟩, fun k hk' => ?_, fun q' hq' => ?_, ?_, ?_⟩
        · obtain ⟨rr, z1, z2, z3⟩ := hrr
          exact ⟨rr, by rw [hDn _ _ (by decide) (by decide)]; exact z1, by rw [hn' _ (by decide) (by omega)]; exact z2, z3⟩
        · rw [hD, hr]; exact A3 x hx
        · rw [hD, hr]; exact A4
        · rw [hr, brd_bt (by omega) (by omega) wn hx (by omega), brd_bt (by omega) (by omega) wn hy (by omega), r5c x y hx hy]
          by_cases z1 : x = a ∧ y = c
          · have : y = c ∧ x = a := ⟨z1.2, z1.1⟩
            simp [z1, this]
          · by_cases z2 : x = c ∧ y = a
            · have : y = a ∧ x = c := ⟨z2.2, z2.1⟩
              simp [z2, this]
            · have z3 : ¬ (y = a ∧ x = c) := fun w => z2 ⟨w.2, w.1⟩
              have z4 : ¬ (y = c ∧ x = a) := fun w => z1 ⟨w.2, w.1⟩
              simp [z1, z2, z3, z4]
        · exact (hTy k hk').fr (fun c c1 c2 => hDn _ _ (by omega) (by omega)) (fun w hw => hn' _ (by omega) (by omega))
        · unfold mQ
          rw [hn' _ (by omega) (by omega), hn' _ (by omega) (by omega), hDn _ _ (by decide) (by omega), hDn _ _ (by decide) (by omega)]
          exact hLo q' hq'
        · obtain ⟨z1, z2, z3, z4, z5⟩ := hZ
          exact ⟨fun k w a1 a2 a3 => by unfold mY; rw [hn' _ (by omega) (by omega)]; exact z1 k w a1 a2 a3, fun k a1 a2 => by unfold mY; rw [hn' _ (by omega) (by omega)]; exact z2 k a1 a2, fun q' a1 => by unfold mQ; rw [hn' _ (by omega) (by omega)]; exact z3 q' a1, by rw [hn' _ (by omega) (by omega)]; exact z4, by rw [hn' _ (by omega) (by omega)]; exact z5⟩
        · exact hC.fr (fun k j a1 => hDn k j (by omega) (by omega))
/-! a type's line -/
theorem mean3 {g : AH} {fl : Nat} {tk lb : Int32} {nums : Nat → Int32} (hm : MS h g 3 fl tk lb nums) : meanF g = if 7 < 2 + nI fl then 7 else 2 + nI fl := by
  unfold meanF
  rw [hm.2.1, hm.2.2.1, if_neg (by decide), if_neg (by decide), if_neg (by decide)]
theorem whol3 {g : AH} {fl : Nat} {tk lb : Int32} {nums : Nat → Int32} (hm : MS h g 3 fl tk lb nums) : wholF g = if lb = 0 then 0 else 1 := by
  unfold wholF
  rw [hm.2.1, hm.2.2.2.2.1, if_pos rfl]
theorem MS.tk {srt tk lb v : Int32} {fld : Nat} {nums : Nat → Int32} (hm : MS h0 h srt fld tk lb nums) : MS h0 (ui h 0 4 4 v) srt fld v lb nums := by
  obtain ⟨m1, m2, m3, m4, m5, m6, m7, m8⟩ := hm
  exact ⟨fun b' hb => by rw [← m1 b' hb]; funext k j; exact ui_b hb, by rw [ui_j (by decide)]; exact m2, by rw [ui_j (by decide)]; exact m3, ui_eq, by rw [ui_j (by decide)]; exact m5, by rw [ui_j (by decide)]; exact m6, by rw [ui_j (by decide)]; exact m7, fun i h1 h2 => by rw [ui_k (by decide)]; exact m8 i h1 h2⟩
theorem sim_kind {a : Nat} {nums : Nat → Int32} (hK : TKr h L T s q) (hf : 700 ≤ f + q) (hm : MS h0 h 3 0 (-1) 0 nums) : OUT d L T (FIN d L f h) (kndP T L a s) (fun h' s' f' q' => ∃ kd p, (kd = 0 ∨ kd = 1 ∨ kd = 2) ∧ 1 ≤ p ∧ p ≤ 9 ∧ (kd = 0 → p = 1) ∧ MS h0 h' 3 1 kd 0 (upd nums 0 (nI p)) ∧ s'.2.2 a = kd ∧ s'.2.2 (a + 1) = nI p ∧ (∀ j, j ≠ a → j ≠ a + 1 → s'.2.2 j = s.2.2 j) ∧ q < q') := by
  have htok : tokF h d = kindF h := by
    unfold tokF
    rw [if_neg (by rw [hm.2.1]; decide), if_pos ⟨hm.2.1, hm.2.2.2.1⟩]
  unfold kndP
  rw [w_shared, w_multi, w_single]
  by_cases hs : wdP s (lN (dgc 6)) = 0
  · by_cases hmu : wdP s (lN (dgc 5)) = 0
    · by_cases hsi : wdP s (lN (dgc 4)) = 0
      · rw [if_pos ⟨hs, hmu, hsi⟩]
        refine sim_bad1 hK hf (fun hk => ?_) (fun _ z => by rw [hm.2.1] at z; exact absurd z.1 (by decide))
        have hkw : kindW h = -1 := by
          unfold kindW
          rw [if_pos ((wd_sim hK (i := 4) (by omega)).1.mpr hsi), if_pos ((wd_sim hK (i := 5) (by omega)).1.mpr hmu), if_pos ((wd_sim hK (i := 6) (by omega)).1.mpr hs)]
        rw [htok]
        unfold kindF
        rw [hkw, if_pos rfl, ← hm.2.2.2.1, ui_id]
      · rw [if_neg (fun z => hsi z.2.2)]
        unfold kn74
        rw [if_pos hs, if_pos hmu]
        have hk := (wd_kind hK hsi).1
        have hkw : kindW h = 0 := by
          unfold kindW
          rw [if_neg (fun z => hsi ((wd_sim hK (i := 4) (by omega)).1.mp z))]
        have ht : tokF h d = (1, putNF (ui h 0 4 4 0) 1) := by
          rw [htok]
          unfold kindF
          rw [hkw, if_neg (by decide), if_neg (by decide)]
        refine sim_go (s2 := (s.1, s.2.1, upd (upd s.2.2 a 0) (a + 1) 1)) hK hf hk ht (fun k j hk' => by rw [put_k (by omega) (by omega), ui_k (by omega)]) rfl rfl (fun h' f' q' hfr hq => ⟨0, 1, Or.inl rfl, by omega, by omega, fun _ => rfl, (hm.tk.put (by omega) 1).fr hfr, ?_, ?_, fun j j1 j2 => ?_, hq⟩)
        · show upd (upd s.2.2 a 0) (a + 1) 1 a = 0
          rw [pk_un (by omega), pk_us]
        · exact pk_us
        · show upd (upd s.2.2 a 0) (a + 1) 1 j = _
          rw [pk_un j2, pk_un j1]
    · rw [if_neg (fun z => hmu z.2.1)]
      unfold kn74
      rw [if_pos hs, if_neg hmu]
      have hk := (wd_kind hK hmu).1
      have hkw : kindW h = 1 := by
        unfold kindW
        rw [if_pos ((wd_sim hK (i := 4) (by omega)).1.mpr (wd_uni (by omega) (by omega) hmu (by decide))), if_neg (fun z => hmu ((wd_sim hK (i := 5) (by omega)).1.mp z))]
      have ht : tokF h d = (1, putNF (ui h 0 4 4 1) 1) := by
        rw [htok]
        unfold kindF
        rw [hkw, if_neg (by decide), if_neg (by decide)]
      refine sim_go (s2 := (s.1, s.2.1, upd (upd s.2.2 a 1) (a + 1) 1)) hK hf hk ht (fun k j hk' => by rw [put_k (by omega) (by omega), ui_k (by omega)]) rfl rfl (fun h' f' q' hfr hq => ⟨1, 1, Or.inr (Or.inl rfl), by omega, by omega, fun _ => rfl, (hm.tk.put (by omega) 1).fr hfr, ?_, ?_, fun j j1 j2 => ?_, hq⟩)
      · show upd (upd s.2.2 a 1) (a + 1) 1 a = 1
        rw [pk_un (by omega), pk_us]
      · exact pk_us
      · show upd (upd s.2.2 a 1) (a + 1) 1 j = _
        rw [pk_un j2, pk_un j1]
  · rw [if_neg (fun z => hs z.1)]
    unfold kn74
    rw [if_neg hs]
    have hk := (wd_kind hK hs).1
    have hkw : kindW h = 2 := by
      unfold kindW
      rw [if_pos ((wd_sim hK (i := 4) (by omega)).1.mpr (wd_uni (by omega) (by omega) hs (by decide))), if_pos ((wd_sim hK (i := 5) (by omega)).1.mpr (wd_uni (by omega) (by omega) hs (by decide))), if_neg (fun z => hs ((wd_sim hK (i := 6) (by omega)).1.mp z))]
    have ht : tokF h d = (1, ui h 0 4 4 2) := by
      rw [htok]
      unfold kindF
      rw [hkw, if_neg (by decide), if_pos rfl]
    obtain ⟨h1, f1, q1, e1, k1, u1, m1, v1⟩ := (sim_go (K := fun h' s' f' q' => MS h0 h' 3 0 2 0 nums ∧ q < q') (s2 := (s.1, s.2.1, upd (upd s.2.2 a 2) (a + 1) 1)) hK hf hk ht (fun k j hk' => by rw [ui_k (by omega)]) rfl rfl (fun h' f' q' hfr hq => ⟨hm.tk.fr hfr, hq⟩)).one
    rw [e1]
    refine OUT.andP (sim_told (m := 2) k1 u1 m1 (by omega) (by decide) (by decide) (by rw [mean3 m1]; rfl) (by omega) (by rw [whol3 m1]; rfl) rfl rfl) ?_
    rintro h2 s2 f2 q2 k2 u2 ⟨p, w1, w2, m2, w3, -, w4⟩
    obtain ⟨l1, l2⟩ := nl_of (lo := 2) (hi := 9) w1 (by omega) (by omega) w2
    refine OUT.ret k2 u2 ⟨2, p, Or.inr (Or.inr rfl), by omega, l2, fun z => absurd z (by decide), m2, ?_, ?_, fun j j1 j2 => ?_, by omega⟩
    · rw [w3]
      show upd (upd (upd s.2.2 a 2) (a + 1) 1) (a + 1) (nI p) a = 2
      rw [pk_un (by omega), pk_un (by omega), pk_us]
    · rw [w3]; exact pk_us
    · rw [w3]
      show upd (upd (upd s.2.2 a 2) (a + 1) 1) (a + 1) (nI p) j = _
      rw [pk_un j2, pk_un j2, pk_un j1]
theorem sh_ne0 {a : Nat} (ha : a < 32) (x : Int32) : ¬ x ||| 1 <<< (nI a &&& 31) = 0 := by
  rw [Int32.or_comm]
  refine or_ne0 ?_
  rw [bx_0]
  intro z
  have := z a ha
  rw [b_1l ha ha] at this
  simp at this
theorem sim_tyL {a nl : Nat} {kd : Int32} (hd : d ≠ 0) (hkd : ¬ kd = -1) (hl : h0.1 d 1 1 = nI nl) (hl8 : nl ≤ 8) (ha : 7 ≤ a) : ∀ (Fu fld : Nat) (lb : Int32) (nums : Nat → Int32) (h : AH) (s : PSt) (f q : Nat), TKr h L T s q → 700 ≤ f + q → MS h0 h 3 fld kd lb nums → 5 ≤ fld → fld ≤ 5 + q → 742 ≤ Fu + q → s.2.2 (a + 6) = lb → s.2.2 0 = nI nl → (¬ lb = 0 ∨ s.1 6 = 3) →
    OUT d L T (FIN d L f h) (tyLP T L a Fu s) (fun h' s' f' q' => ∃ lb' fld' nums', MS h0 h' 3 fld' kd lb' nums' ∧ (∀ i, i < 5 → nums' i = nums i) ∧ ¬ lb' = 0 ∧ 5 ≤ fld' ∧ s'.2.2 (a + 6) = lb' ∧ s'.2.2 3 = s.2.2 3 + 1 ∧ (∀ j, j ≠ a + 6 → j ≠ 3 → s'.2.2 j = s.2.2 j) ∧ ¬ s'.1 6 = 3 ∧ q ≤ q')
  | 0, fld, lb, nums, h, s, f, q, hK, _, _, _, _, hF, _, _, _ => by
    have := hK.2.1
    omega
  | Fu + 1, fld, lb, nums, h, s, f, q, hK, hf, hm, h5, hfq, hF, hr6, hr0, hor => by
    have hq7 := hK.2.1
    rw [show tyLP T L a (Fu + 1) s = if s.1 6 = 3 then andP (landP T L (s.2.2 (a + 6)) s) (fun s => tyLP T L a Fu (s.1, s.2.1, upd s.2.2 (a + 6) (s.2.2 (a + 6) ||| 1 <<< (s.1 15 &&& 31)))) else (1, s.1, s.2.1, upd s.2.2 3 (s.2.2 3 + 1)) from rfl]
    by_cases h6 : s.1 6 = 3
    · rw [if_pos h6, hr6]
      have hmean : meanF h = 7 := by
        rw [mean3 hm, show (2 : Int32) + nI fld = nI (2 + fld) from nI_add 2 fld]
        by_cases z : fld = 5
        · rw [z]; rfl
        · rw [if_pos (show (7 : Int32) < nI (2 + fld) from nI_lt (a := 7) (by omega) (by omega))]
      refine OUT.andP (sim_land (nl := nl) hd hK hf hm (by omega) (by decide) (fun z => hkd z.2) hmean (Or.inr h6) hl hl8 hr0) ?_
      rintro h2 s2 f2 q2 k2 u2 ⟨n', w1, w2, m2, w3, w5, w4⟩
      have e6 : s2.2.2 (a + 6) = lb := by rw [w3]; exact hr6
      have hlb : s2.2.2 (a + 6) ||| 1 <<< (s2.1 15 &&& 31) = lb ||| 1 <<< (nI n' &&& 31) := by rw [e6, w5]
      refine (sim_tyL hd hkd hl hl8 ha Fu (fld + 1) _ _ h2 (s2.1, s2.2.1, upd s2.2.2 (a + 6) (s2.2.2 (a + 6) ||| 1 <<< (s2.1 15 &&& 31))) f2 q2 k2 u2 m2 (by omega) (by omega) (by omega) (by rw [hlb]; exact pk_us) (show upd s2.2.2 (a + 6) (s2.2.2 (a + 6) ||| 1 <<< (s2.1 15 &&& 31)) 0 = nI nl from by rw [pk_un (by omega), w3]; exact hr0) (Or.inl (sh_ne0 (by omega) _))).imp ?_
      rintro h3 s3 f3 q3 ⟨lb', fld', nums', x1, x2, x3, x4, x5, x6, x7, x8, x9⟩
      refine ⟨lb', fld', nums', x1, fun i hi => by rw [x2 i hi, pk_un (by omega)], x3, x4, x5, ?_, fun j j1 j2 => ?_, x8, by omega⟩
      · rw [x6]
        show upd s2.2.2 (a + 6) (s2.2.2 (a + 6) ||| 1 <<< (s2.1 15 &&& 31)) 3 + 1 = _
        rw [pk_un (by omega), w3]
      · rw [x7 j j1 j2]
        show upd s2.2.2 (a + 6) (s2.2.2 (a + 6) ||| 1 <<< (s2.1 15 &&& 31)) j = _
        rw [pk_un j1, w3]
    · rw [if_neg h6]
      have hlb0 : ¬ lb = 0 := by
        rcases hor with z | z
        · exact z
        · exact absurd z h6
      refine OUT.ret (x := (s.1, s.2.1, upd s.2.2 3 (s.2.2 3 + 1))) hK hf ⟨lb, fld, nums, hm, fun _ _ => rfl, hlb0, h5, ?_, show upd s.2.2 3 (s.2.2 3 + 1) 3 = _ from pk_us, fun j j1 j2 => show upd s.2.2 3 (s.2.2 3 + 1) j = _ from pk_un j2, h6, Nat.le_refl _⟩
      show upd s.2.2 3 (s.2.2 3 + 1) (a + 6) = lb
      rw [pk_un (by omega)]; exact hr6
end
