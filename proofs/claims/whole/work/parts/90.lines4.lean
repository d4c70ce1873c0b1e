section
variable {d L f q n : Nat} {T : Nat → Int32} {h h0 : AH} {s : PSt} {F : Int32 × AH} {K : AH → PSt → Nat → Nat → Prop}
theorem sim_type (hd : d ≠ 0) (hK : TKr h L T s q) (hf : 700 ≤ f + q) (hB : LB d n h s q) (hn : ¬ n = 0) (hq : n < 1000) (hw : ¬ wdP s (W4 116 121 112 101) = 0) : OUT d L T (FIN d L f h) (andP (typP T L s) (endP T L)) (fun h' s' f' q' => LB d (n + 1) h' s' q' ∧ q < q') := by
  obtain ⟨b0, b6, bq, nl, np, nq, nb, hR, -⟩ := hB
  obtain ⟨⟨r0a, r0b, r0c⟩, hrr, ⟨r2a, r2b, r2c⟩, ⟨r3a, r3b, r3c⟩, ⟨r4a, r4b, r4c⟩, ⟨r5a, r5b, r5c⟩, hTy, hLo, hZ, hC⟩ := hR
  obtain ⟨hk, h6⟩ := wd_kind hK hw
  have hw' : ¬ wdP s (lN (dgc 2)) = 0 := by rw [← w_type]; exact hw
  have hw3 : ¬ wordF h (pS h) 2 = 0 := fun z => hw' ((wd_sim hK (i := 2) (by omega)).1.mp z)
  have hs4 : sortW h = 3 := by
    unfold sortW
    rw [if_pos ((wd_sim hK (i := 0) (by omega)).1.mpr (wd_uni (by omega) (by omega) hw' (by decide))), if_pos ((wd_sim hK (i := 1) (by omega)).1.mpr (wd_uni (by omega) (by omega) hw' (by decide))), if_neg hw3]
  have hn0 : ¬ nI n = 0 := nI_ne0 (by omega) (by omega)
  have hiff : ((3 : Int32) = 1 ↔ nI n = 0) := ⟨fun z => absurd z (by decide), fun z => absurd z hn0⟩
  rw [typP_eq]
  by_cases h8 : s.2.2 3 = 6
  · rw [if_pos h8, andP_f rfl]
    refine sim_badx hK hf hk (by rw [h6]; decide) ?_
    unfold tokF
    rw [if_pos b0]
    unfold begF
    rw [hs4, if_neg (by decide), b6, if_pos hiff, if_pos]
    right; left
    exact ⟨rfl, by rw [r3a, ← r3b, h8]; decide⟩
  · rw [if_neg h8]
    have hp6 : np < 6 := by
      rcases Nat.lt_or_ge np 6 with z | z
      · exact z
      · exact absurd (show s.2.2 3 = nI 6 by rw [r3b]; congr 1; omega) h8
    have hbeg : begF h d = (1, begH h 3) := by
      unfold begF
      rw [hs4, if_neg (by decide), b6, if_pos hiff, if_neg]
      · rfl
      · rintro (z | z | z)
        · exact absurd z.1 (by decide)
        · exact absurd z.2 (by rw [r3a]; exact nI_ge (b := 6) hp6 (by omega))
        · exact absurd z.1 (by decide)
    obtain ⟨h1, f1, q1, e1, k1, u1, m1, v1⟩ := sim_beg hK hf hk b0 hbeg
    rw [e1, r3b, nI_clamp (show np < 2 ^ 31 by omega)]
    generalize hA : 7 + 12 * np = A
    refine OUT.andP (K := fun h' s' f' q' => ∃ kd p e c nn st lb fld nums, (kd = 0 ∨ kd = 1 ∨ kd = 2) ∧ (1 ≤ p ∧ p ≤ 9 ∧ (kd = 0 → p = 1)) ∧ c ≤ 99 ∧ nn ≤ 9 ∧ st ≤ 99 ∧ MS h h' 3 fld kd lb nums ∧ 5 ≤ fld ∧ (nums 0 = nI p ∧ nums 1 = nI e ∧ nums 2 = nI c ∧ nums 3 = nI nn ∧ nums 4 = nI st) ∧ ¬ lb = 0 ∧
      (s'.2.2 A = kd ∧ s'.2.2 (A + 1) = nI p ∧ s'.2.2 (A + 2) = nI e ∧ s'.2.2 (A + 3) = nI c ∧ s'.2.2 (A + 4) = nI nn ∧ s'.2.2 (A + 5) = nI st ∧ s'.2.2 (A + 6) = lb ∧ s'.2.2 3 = nI np + 1) ∧ (∀ j, (j < A ∨ A + 7 ≤ j) → j ≠ 3 → s'.2.2 j = s.2.2 j) ∧ ¬ s'.1 6 = 3 ∧ q < q') ?_ ?_
    · refine OUT.andP (sim_kind (a := A) k1 u1 m1) ?_
      rintro h2 s2 f2 q2 k2 u2 ⟨kd, p, g1, g2, g3, g4, m2, g5, g6, g7, g8⟩
      have hkd : ¬ kd = -1 := by rcases g1 with z | z | z <;> rw [z] <;> decide
      unfold ty2
      refine OUT.andP (sim_told (m := 3) k2 u2 m2 (by omega) (by decide) (fun z => hkd z.2) (by rw [mean3 m2]; rfl) (by omega) (by rw [whol3 m2]; rfl) rfl rfl) ?_
      rintro h3 s3 f3 q3 k3 u3 ⟨e, x1, x2, m3, x3, -, x4⟩
      unfold ty3
      refine OUT.andP (sim_told (m := 4) k3 u3 m3 (by omega) (by decide) (fun z => hkd z.2) (by rw [mean3 m3]; rfl) (by omega) (by rw [whol3 m3]; rfl) rfl rfl) ?_
      rintro h4 s4 f4 q4 k4 u4 ⟨c, y1, y2, m4, y3, -, y4⟩
      unfold ty4
      refine OUT.andP (sim_told (m := 5) k4 u4 m4 (by omega) (by decide) (fun z => hkd z.2) (by rw [mean3 m4]; rfl) (by omega) (by rw [whol3 m4]; rfl) rfl rfl) ?_
      rintro h5 s5 f5 q5 k5 u5 ⟨nn, z1, z2, m5, z3, -, z4⟩
      unfold ty5
      refine OUT.andP (sim_told (m := 6) k5 u5 m5 (by omega) (by decide) (fun z => hkd z.2) (by rw [mean3 m5]; rfl) (by omega) (by rw [whol3 m5]; rfl) rfl rfl) ?_
      rintro h6' s6 f6 q6 k6 u6 ⟨st, t1, t2, m6, t3, -, t4⟩
      have hrow : ∀ j, s6.2.2 j = if j = A + 5 then nI st else if j = A + 4 then nI nn else if j = A + 3 then nI c else if j = A + 2 then nI e else s2.2.2 j := fun j => by rw [t3, z3, y3, x3]; rfl
      have h6z : s6.2.2 (A + 6) = 0 := by
        rw [hrow, if_neg (by omega), if_neg (by omega), if_neg (by omega), if_neg (by omega), g7 _ (by omega) (by omega)]
        show s.2.2 (A + 6) = 0
        rw [← hA]
        exact hZ.2.1 np (Nat.le_refl _) hp6
      by_cases h63 : s6.1 6 = 3
      · rw [if_pos h63]
        have hr0 : s6.2.2 0 = nI nl := by
          rw [hrow, if_neg (by omega), if_neg (by omega), if_neg (by omega), if_neg (by omega), g7 _ (by omega) (by omega)]
          exact r0b
        refine (sim_tyL (a := A) (nl := nl) (kd := kd) hd hkd r0a r0c (by omega) 742 5 0 _ h6' s6 f6 q6 k6 u6 m6 (by omega) (by omega) (by omega) h6z hr0 (Or.inr h63)).imp ?_
        rintro h7 s7 f7 q7 ⟨lb, fld, nums, i1, i2, i3, i4, i5, i6, i7, i8, i9⟩
        have hlo4 := nl_of (lo := 0) (hi := 99) y1 (by omega) (by omega) y2
        have hlo5 := nl_of (lo := 0) (hi := 9) z1 (by omega) (by omega) z2
        have hlo6 := nl_of (lo := 0) (hi := 99) t1 (by omega) (by omega) t2
        refine ⟨kd, p, e, c, nn, st, lb, fld, nums, g1, ⟨g2, g3, g4⟩, hlo4.2, hlo5.2, hlo6.2, i1, i4, ⟨?_, ?_, ?_, ?_, ?_⟩, i3, ⟨?_, ?_, ?_, ?_, ?_, ?_, i5, ?_⟩, fun j j1 j2 => ?_, i8, by omega⟩
        · rw [i2 0 (by omega)]; rfl
        · rw [i2 1 (by omega)]; rfl
        · rw [i2 2 (by omega)]; rfl
        · rw [i2 3 (by omega)]; rfl
        · rw [i2 4 (by omega)]; rfl
        · rw [i7 _ (by omega) (by omega), hrow, if_neg (by omega), if_neg (by omega), if_neg (by omega), if_neg (by omega)]; exact g5
        · rw [i7 _ (by omega) (by omega), hrow, if_neg (by omega), if_neg (by omega), if_neg (by omega), if_neg (by omega)]; exact g6
        · rw [i7 _ (by omega) (by omega), hrow, if_neg (by omega), if_neg (by omega), if_neg (by omega), if_pos rfl]
        · rw [i7 _ (by omega) (by omega), hrow, if_neg (by omega), if_neg (by omega), if_pos rfl]
        · rw [i7 _ (by omega) (by omega), hrow, if_neg (by omega), if_pos rfl]
        · rw [i7 _ (by omega) (by omega), hrow, if_pos rfl]
        · rw [i6, hrow, if_neg (by omega), if_neg (by omega), if_neg (by omega), if_neg (by omega), g7 _ (by omega) (by omega)]
          show s.2.2 3 + 1 = _
          rw [r3b]
        · rw [i7 _ (by omega) j2, hrow, if_neg (by omega), if_neg (by omega), if_neg (by omega), if_neg (by omega), g7 _ (by omega) (by omega)]
          rfl
      · rw [if_neg h63]
        exact sim_nonum k6 u6 (by rw [m6.2.1]; decide) (by rw [m6.2.1, m6.2.2.2.1]; exact fun z => hkd z.2) (Or.inl (by rw [whol3 m6]; rfl)) h63
    · rintro h4 s4 f4 q4 k4 u4 ⟨kd, p, e, c, nn, st, lb, fld, nums, g1, ⟨g2, g3, g4⟩, hc99, hn9, hst, m4, hf5, ⟨n0, n1, n2, n3, n4⟩, hlb, ⟨R0, R1, R2, R3, R4, R5, R6', R7⟩, hoth, hno3, hqq⟩
      have hkd : ¬ kd = -1 := by rcases g1 with z | z | z <;> rw [z] <;> decide
      have e3 : h4.1 d 3 11 = nI np := by rw [m4.1 d hd]; exact r3a
      have hnum : ∀ i, i < 5 → h4.1 0 5 i = nums i := fun i hi => m4.2.2.2.2.2.2.2 i (by omega) hi
      have hend : endF h4 d = ui (ui (ui (ui (ui (ui (ui (ui (ui (ui h4 d 4 np kd) d 5 np (nI p)) d 6 np (nI e)) d 7 np (nI c)) d 8 np (nI nn)) d 9 np (nI st)) d 10 np lb) d 3 11 (nI np + 1)) 0 4 6 (h4.1 0 4 6 + 1)) 0 4 2 0 := by
        unfold endF
        rw [m4.2.1, if_neg (by decide), if_neg (by decide), if_neg (by decide)]
        unfold addP
        rw [e3, nI_clamp (by omega), m4.2.2.2.1, m4.2.2.2.2.1, hnum 0 (by omega), hnum 1 (by omega), hnum 2 (by omega), hnum 3 (by omega), hnum 4 (by omega), n0, n1, n2, n3, n4]
      refine (sim_end hd k4 u4 m4 (by decide) (fun z => hkd z.2) (by rw [whol3 m4, if_neg hlb]; decide) (Or.inr hno3) (fun k j hk' => by rw [hend, ui_k (by omega), ui_k (by omega), ui_b hd.symm, ui_b hd.symm, ui_b hd.symm, ui_b hd.symm, ui_b hd.symm, ui_b hd.symm, ui_b hd.symm, ui_b hd.symm])).imp ?_
      rintro h5 s5 f5 q5 ⟨hfr, y1, y2⟩
      refine ⟨⟨?_, ?_, by omega, nl, np + 1, nq, nb, ?_, fun z => absurd z (by omega)⟩, by omega⟩
      · rw [hfr.1 0 4 2 (Or.inr (by decide)), hend, ui_eq]
      · rw [hfr.1 0 4 6 (Or.inr (by decide)), hend, ui_j (by decide), ui_eq, m4.2.2.2.2.2.1, b6, nI_1]
      · have hD : ∀ k j, h5.1 d k j = (ui (ui (ui (ui (ui (ui (ui (ui h4 d 4 np kd) d 5 np (nI p)) d 6 np (nI e)) d 7 np (nI c)) d 8 np (nI nn)) d 9 np (nI st)) d 10 np lb) d 3 11 (nI np + 1)).1 d k j := fun k j => by
          rw [hfr.1 d k j (Or.inl hd), hend, ui_b hd, ui_b hd]
        have hDo : ∀ k j, (k < 4 ∨ 10 < k ∨ j ≠ np) → ¬ (k = 3 ∧ j = 11) → h5.1 d k j = h.1 d k j := fun k j a1 a2 => by
          rw [hD, ← m4.1 d hd]
          by_cases z : k = 3
          · rw [ui_j (fun w => a2 ⟨z, w⟩), ui_k (by omega), ui_k (by omega), ui_k (by omega), ui_k (by omega), ui_k (by omega), ui_k (by omega), ui_k (by omega)]
          · rw [ui_k z]
            by_cases z2 : j = np
            · rw [ui_k (by omega), ui_k (by omega), ui_k (by omega), ui_k (by omega), ui_k (by omega), ui_k (by omega), ui_k (by omega)]
            · rw [ui_j z2, ui_j z2, ui_j z2, ui_j z2, ui_j z2, ui_j z2, ui_j z2]
        have hr : s5.2.2 = s4.2.2 := y1
        have hb : h5.1 0 4 7 = h.1 0 4 7 := by rw [hfr.1 0 4 7 (Or.inr (by decide)), hend, ui_j (by decide), ui_j (by decide), ui_b hd.symm, ui_b hd.symm, ui_b hd.symm, ui_b hd.symm, ui_b hd.symm, ui_b hd.symm, ui_b hd.symm, ui_b hd.symm, m4.2.2.2.2.2.2.1]
        have hn' : ∀ j, (j < A ∨ A + 7 ≤ j) → j ≠ 3 → s5.2.2 j = s.2.2 j := fun j a1 a2 => by rw [hr]; exact hoth j a1 a2
        refine ⟨⟨by rw [hDo _ _ (by omega) (by omega)]; exact r0a, by rw [hn' _ (by omega) (by decide)]; exact r0b, r0c⟩, ?_, ⟨by rw [hb]; exact r2a, by rw [hn' _ (by omega) (by decide)]; exact r2b, r2c⟩, ⟨by rw [hD, ui_eq, nI_1], by rw [hr, R7, nI_1], by omega⟩, ⟨by rw [hDo _ _ (by omega) (by omega)]; exact r4a, by rw [hn' _ (by omega) (by decide)]; exact r4b, r4c⟩, ⟨fun x hx => ?_, ?_, fun x y hx hy => ?_⟩, fun k hk' => ?_, fun q' hq' => ?_, ?_, ?_⟩
        · obtain ⟨rr, z1, z2, z3⟩ := hrr
          exact ⟨rr, by rw [hDo _ _ (by omega) (by omega)]; exact z1, by rw [hn' _ (by omega) (by decide)]; exact z2, z3⟩
        · rw [hDo _ _ (by omega) (by omega), hn' _ (by omega) (by omega)]; exact r5a x hx
        · rw [hDo _ _ (by omega) (by omega), bO_congr (N := s.2.2) 8 (fun a ha => hn' _ (by omega) (by omega))]; exact r5b
        · rw [hn' _ (by omega) (by omega), hn' _ (by omega) (by omega)]; exact r5c x y hx hy
        · by_cases z : k = np
          · subst z
            unfold TYP mY
            rw [hA, hr, show A + 0 = A from rfl, R0, R1, R2, R3, R4, R5, R6']
            refine ⟨⟨?_, ?_, ?_, ?_, ?_, ?_, ?_⟩, g1, p, c, nn, st, rfl, g2, g3, g4, rfl, hc99, rfl, hn9, rfl, hst⟩
            · rw [hD]; simp [ui]
            · rw [hD]; simp [ui]
            · rw [hD]; simp [ui]
            · rw [hD]; simp [ui]
            · rw [hD]; simp [ui]
            · rw [hD]; simp [ui]
            · rw [hD]; simp [ui]
          · exact (hTy k (by omega)).fr (fun c c1 c2 => hDo _ _ (by omega) (by omega)) (fun w hw => hn' _ (by omega) (by omega))
        · unfold mQ
          rw [hn' _ (by omega) (by omega), hn' _ (by omega) (by omega), hDo _ _ (by omega) (by omega), hDo _ _ (by omega) (by omega)]
          exact hLo q' hq'
        · obtain ⟨z1, z2, z3, z4, z5⟩ := hZ
          exact ⟨fun k w a1 a2 a3 => by unfold mY; rw [hn' _ (by omega) (by omega)]; exact z1 k w a1 a2 a3, fun k a1 a2 => by unfold mY; rw [hn' _ (by omega) (by omega)]; exact z2 k (by omega) a2, fun q' a1 => by unfold mQ; rw [hn' _ (by omega) (by omega)]; exact z3 q' a1, by rw [hn' _ (by omega) (by omega)]; exact z4, by rw [hn' _ (by omega) (by omega)]; exact z5⟩
        · exact hC.fr (fun k j a1 => hDo k j (by omega) (by omega))
/-! any line -/
theorem sim_line (hd : d ≠ 0) (hK : TKr h L T s q) (hf : 700 ≤ f + q) (hB : LB d n h s q) (h6 : ¬ s.1 6 = 0) : OUT d L T (FIN d L f h) (andP (linP T L (decide (n = 0)) s) (endP T L)) (fun h' s' f' q' => LB d (n + 1) h' s' q' ∧ q < q') := by
  have hB0 := hB
  obtain ⟨b0, b6, bq, -⟩ := hB
  have hq7 := hK.2.1
  have hend : h.1 0 3 1 = 0 → ¬ (h.1 0 4 2 = 0 ∧ L ≤ 700) := fun hk z => by
    obtain ⟨-, -, -, -, -, hc⟩ := hK
    rcases hc with ⟨-, y⟩ | ⟨-, e, -, -, -, -, hc⟩
    · rcases y with ⟨-, y⟩ | ⟨y, -⟩
      · exact h6 y
      · omega
    · rcases hc with ⟨y, -⟩ | ⟨y, -⟩ | ⟨y, -⟩ | ⟨y, -⟩ <;> rw [y] at hk <;> exact absurd hk (by decide)
  have hbad : (∀ x, sortW h = x → ¬ x = 0 → ¬ (x = 1 ↔ nI n = 0)) → OUT d L T (FIN d L f h) (0, badP 1 s) (fun h' s' f' q' => LB d (n + 1) h' s' q' ∧ q < q') := fun hx => by
    refine sim_bad1 hK hf (fun hk => ?_) hend
    unfold tokF
    rw [if_pos b0]
    unfold begF
    by_cases z : sortW h = 0
    · rw [if_pos z]
    · rw [if_neg z, b6, if_neg (hx _ rfl z)]
  unfold linP
  by_cases hn : n = 0
  · subst hn
    rw [if_pos (by decide)]
    by_cases hw : wdP s (W5 108 97 110 100 115) = 0
    · unfold lndsP
      rw [if_pos hw, andP_f rfl]
      refine hbad (fun x hx hx0 hiff => ?_)
      have h1 : x = 1 := hiff.mpr rfl
      rw [w_lands] at hw
      have hw0 := (wd_sim hK (i := 0) (by omega)).1.mpr hw
      unfold sortW at hx
      rw [if_pos hw0, h1] at hx
      revert hx
      repeat' split
      all_goals decide
    · exact sim_lands hd hK hf hB0 hw
  · rw [if_neg (by simpa using hn)]
    by_cases hw1 : wdP s (W6 98 111 114 100 101 114) = 0
    · rw [if_pos hw1]
      by_cases hw2 : wdP s (W4 116 121 112 101) = 0
      · rw [if_pos hw2]
        by_cases hw3 : wdP s (W5 108 111 114 114 121) = 0
        · rw [if_pos hw3, andP_f rfl]
          refine hbad (fun x hx hx0 hiff => ?_)
          have hn0 : ¬ nI n = 0 := nI_ne0 (by omega) (by omega)
          rw [w_border] at hw1
          rw [w_type] at hw2
          rw [w_lorry] at hw3
          unfold sortW at hx
          rw [if_pos ((wd_sim hK (i := 1) (by omega)).1.mpr hw1), if_pos ((wd_sim hK (i := 2) (by omega)).1.mpr hw2), if_pos ((wd_sim hK (i := 3) (by omega)).1.mpr hw3)] at hx
          by_cases z : wordF h (pS h) 0 = 0
          · rw [if_pos z] at hx; exact hx0 hx.symm
          · rw [if_neg z] at hx; exact hn0 (hiff.mp hx.symm)
        · rw [if_neg hw3]
          exact sim_lorry hd hK hf hB0 hn (by omega) hw3
      · rw [if_neg hw2]
        exact sim_type hd hK hf hB0 hn (by omega) hw2
    · rw [if_neg hw1]
      exact sim_border hd hK hf hB0 hn (by omega) hw1
/-- the whole text -/
theorem sim_text (hd : d ≠ 0) : ∀ Fu n h s f q, TKr h L T s q → 700 ≤ f + q → LB d n h s q → 742 ≤ Fu + q →
    ((txG T L Fu n s).1 = 0 ∧ (FIN d L f h).1 = 0 ∧ (FIN d L f h).2.1 0 4 8 = (txG T L Fu n s).2.2.1 8 ∧ (FIN d L f h).2.1 0 4 9 = (txG T L Fu n s).2.2.1 9) ∨
    ((txG T L Fu n s).1 = 1 ∧ (FIN d L f h).1 = 1 ∧ ∃ q', LB d (txG T L Fu n s).2.1 (FIN d L f h).2 (txG T L Fu n s).2.2 q')
  | 0, n, h, s, f, q, hK, _, _, hF => by
    have := hK.2.1
    omega
  | Fu + 1, n, h, s, f, q, hK, hf, hB, hF => by
    rw [show txG T L (Fu + 1) n s = if s.1 6 = 0 then (1, n, s) else if (linP T L (decide (n = 0)) s).1 = 0 then (0, n, (linP T L (decide (n = 0)) s).2) else
      if (endP T L (linP T L (decide (n = 0)) s).2).1 = 0 then (0, n, (endP T L (linP T L (decide (n = 0)) s).2).2) else txG T L Fu (n + 1) (endP T L (linP T L (decide (n = 0)) s).2).2 from rfl]
    by_cases h6 : s.1 6 = 0
    · rw [if_pos h6]
      right
      have hk : h.1 0 3 1 = 0 ∧ L ≤ 700 := by
        obtain ⟨-, -, -, -, -, hc⟩ := hK
        rcases hc with ⟨z, y⟩ | ⟨-, e, -, -, -, -, hc⟩
        · rcases y with ⟨y, -⟩ | ⟨-, y⟩
          · exact ⟨z, y⟩
          · rw [y] at h6; exact absurd h6 (by decide)
        · rcases hc with ⟨-, y, -⟩ | ⟨-, y, -⟩ | ⟨-, y⟩ | ⟨-, y⟩ <;> rw [y] at h6 <;> exact absurd h6 (by decide)
      have e : FIN d L f h = (1, h) := by rw [FIN_0 hk.1, if_pos ⟨hB.1, hk.2⟩]
      rw [e]
      exact ⟨rfl, rfl, q, hB⟩
    · rw [if_neg h6]
      have ho := sim_line hd hK hf hB h6
      rcases ho with ⟨a, c1, c2, c3⟩ | ⟨a, h', f', q', c1, c2, c3, c4, c5⟩
      · left
        by_cases z : (linP T L (decide (n = 0)) s).1 = 0
        · rw [andP_f z] at c2 c3
          rw [if_pos z]
          exact ⟨rfl, c1, c2, c3⟩
        · rw [andP_t z] at a c2 c3
          rw [if_neg z, if_pos a]
          exact ⟨rfl, c1, c2, c3⟩
      · have z : ¬ (linP T L (decide (n = 0)) s).1 = 0 := fun y => by rw [andP_f y] at a; exact absurd a (show ¬ (0 : Int32) = 1 by decide)
        rw [andP_t z] at a c2 c4
        rw [if_neg z, if_neg (by rw [a]; decide), c1]
        exact sim_text hd Fu (n + 1) h' _ f' q' c2 c3 c4 (by omega)
end
