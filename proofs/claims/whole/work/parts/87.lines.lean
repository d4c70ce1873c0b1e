/-! the books as told so far, by both -/
def TYP (D : Nat → Nat → Int32) (r : Nat → Int32) (k : Nat) : Prop := (D 4 k = mY r k 0 ∧ D 5 k = mY r k 1 ∧ D 6 k = mY r k 2 ∧ D 7 k = mY r k 3 ∧ D 8 k = mY r k 4 ∧ D 9 k = mY r k 5 ∧ D 10 k = mY r k 6) ∧ (mY r k 0 = 0 ∨ mY r k 0 = 1 ∨ mY r k 0 = 2) ∧ ∃ p c n s, mY r k 1 = nI p ∧ 1 ≤ p ∧ p ≤ 9 ∧ (mY r k 0 = 0 → p = 1) ∧ mY r k 3 = nI c ∧ c ≤ 99 ∧ mY r k 4 = nI n ∧ n ≤ 9 ∧ mY r k 5 = nI s ∧ s ≤ 99
def CLD (D : Nat → Nat → Int32) : Prop := (∀ k, k < 6 → D 11 k = 0 ∧ D 12 k = 0 ∧ D 13 k = 0 ∧ D 14 k = 0) ∧ (∀ q, q < 8 → D 18 q = -1 ∧ D 19 q = 0 ∧ D 20 q = 0) ∧ D 21 9 = 0 ∧ D 0 5 = 0 ∧ D 31 4 = 0
def ZR (r : Nat → Int32) (np : Nat) : Prop := (∀ k w, k < 6 → 7 ≤ w → w < 12 → mY r k w = 0) ∧ (∀ k, np ≤ k → k < 6 → mY r k 6 = 0) ∧ (∀ q, q < 8 → mQ r q 2 = 0) ∧ r 5 = 0 ∧ r 6 = 0
def BKR (D : Nat → Nat → Int32) (bl : Int32) (r : Nat → Int32) (nl np nq nb : Nat) : Prop := (D 1 1 = nI nl ∧ r 0 = nI nl ∧ nl ≤ 8) ∧ (∃ rr, D 3 12 = nI rr ∧ r 1 = nI rr ∧ 1 ≤ rr ∧ rr ≤ 9) ∧ (bl = nI nb ∧ r 2 = nI nb ∧ nb ≤ 28) ∧ (D 3 11 = nI np ∧ r 3 = nI np ∧ np ≤ 6) ∧ (D 15 5 = nI nq ∧ r 4 = nI nq ∧ nq ≤ 8) ∧
  ((∀ a, a < 8 → D 2 a = r (103 + a)) ∧ D 1 2 = bO r 8 ∧ ∀ a c, a < 8 → c < 8 → bt (r (103 + a)) c = bt (r (103 + c)) a) ∧ (∀ k, k < np → TYP D r k) ∧ (∀ q, q < nq → D 16 q = mQ r q 0 ∧ D 17 q = mQ r q 1 ∧ ∃ a, a < nl ∧ mQ r q 0 = nI a) ∧ ZR r np ∧ CLD D
/-- ahead of the line n -/
def LB (d n : Nat) (h : AH) (s : PSt) (q : Nat) : Prop := h.1 0 4 2 = 0 ∧ h.1 0 4 6 = nI n ∧ n ≤ q ∧ ∃ nl np nq nb, BKR (h.1 d) (h.1 0 4 7) s.2.2 nl np nq nb ∧ (n = 0 → np = 0 ∧ nq = 0)
section
variable {d L f q n : Nat} {T : Nat → Int32} {h h0 : AH} {s : PSt} {F : Int32 × AH} {K : AH → PSt → Nat → Nat → Prop}
theorem OUT.one {x : PSt} (ho : OUT d L T F (1, x) K) : ∃ h' f' q', F = FIN d L f' h' ∧ TKr h' L T x q' ∧ 700 ≤ f' + q' ∧ K h' x f' q' := by
  rcases ho with ⟨a, -⟩ | ⟨-, h', f', q', c⟩
  · exact absurd a (show ¬ (1 : Int32) = 0 by decide)
  · exact ⟨h', f', q', c⟩
theorem ui_id {b k j : Nat} : ui h b k j (h.1 b k j) = h := by
  refine ah_ext (fun b' k' j' => ?_) rfl
  unfold ui
  dsimp only
  split
  · rename_i z; rw [z.1, z.2.1, z.2.2]
  · rfl
theorem wd_u : ∀ i, i < 7 → ∀ j, j < 7 → lN (dgc i) = lN (dgc j) → i = j := by decide +kernel
theorem wd_uni {i j : Nat} (hi : i < 7) (hj : j < 7) (h1 : ¬ wdP s (lN (dgc i)) = 0) (hn : i ≠ j) : wdP s (lN (dgc j)) = 0 := by
  unfold wdP at *
  by_cases z : s.1 6 = 2
  · rw [if_pos z] at h1 ⊢
    by_cases y : s.2.1 = lN (dgc i)
    · rw [if_neg]
      intro w
      exact hn (wd_u i hi j hj (by rw [← y, w]))
    · rw [if_neg y] at h1; exact absurd rfl h1
  · rw [if_neg z]
/-- the heap behind a line's first word -/
def begH (h : AH) (srt : Int32) : AH := ui (ui (ui (ui h 0 4 2 srt) 0 4 3 0) 0 4 4 (-1)) 0 4 5 0
theorem beg_MS {srt : Int32} : MS h (begH h srt) srt 0 (-1) 0 (fun _ => 0) := by
  unfold begH
  exact ⟨fun b' hb => funext fun k => funext fun j => by rw [ui_b hb, ui_b hb, ui_b hb, ui_b hb], by rw [ui_j (by decide), ui_j (by decide), ui_j (by decide), ui_eq], by rw [ui_j (by decide), ui_j (by decide), ui_eq]; rfl, by rw [ui_j (by decide), ui_eq], ui_eq, by rw [ui_j (by decide), ui_j (by decide), ui_j (by decide), ui_j (by decide)], by rw [ui_j (by decide), ui_j (by decide), ui_j (by decide), ui_j (by decide)], fun i hi => absurd hi (Nat.not_lt_zero _)⟩
theorem wd_kind (hK : TKr h L T s q) {w : Int64} (hw : ¬ wdP s w = 0) : ¬ h.1 0 3 1 = 0 ∧ s.1 6 = 2 := by
  have h6 : s.1 6 = 2 := by
    unfold wdP at hw
    by_cases z : s.1 6 = 2
    · exact z
    · rw [if_neg z] at hw; exact absurd rfl hw
  refine ⟨fun z => ?_, h6⟩
  obtain ⟨-, -, -, -, -, hc⟩ := hK
  rcases hc with ⟨-, y⟩ | ⟨-, e, -, -, -, -, hc⟩
  · rcases y with ⟨-, y⟩ | ⟨-, y⟩ <;> rw [y] at h6 <;> exact absurd h6 (by decide)
  · rcases hc with ⟨y, -⟩ | ⟨y, -⟩ | ⟨y, -⟩ | ⟨y, -⟩ <;> rw [y] at z <;> exact absurd z (by decide)
/-- a line's first word: of a sort that may come -/
theorem sim_beg {srt : Int32} (hK : TKr h L T s q) (hf : 700 ≤ f + q) (hk : ¬ h.1 0 3 1 = 0) (h0' : h.1 0 4 2 = 0) (hs : begF h d = (1, begH h srt)) : ∃ h' f' q', FIN d L f h = FIN d L f' h' ∧ TKr h' L T (goP T L s) q' ∧ 700 ≤ f' + q' ∧ MS h h' srt 0 (-1) 0 (fun _ => 0) ∧ q < q' := by
  have htok : tokF h d = (1, begH h srt) := by unfold tokF; rw [if_pos h0', hs]
  have := sim_go (K := fun h' s' f' q' => MS h h' srt 0 (-1) 0 (fun _ => 0) ∧ q < q') hK hf hk htok (fun k j hk' => by unfold begH; rw [ui_k (by omega), ui_k (by omega), ui_k (by omega), ui_k (by omega)]) rfl rfl (fun h' f' q' hfr hq => ⟨beg_MS.fr hfr, hq⟩)
  obtain ⟨h', f', q', c1, c2, c3, c4, c5⟩ := this.one
  exact ⟨h', f', q', c1, c2, c3, c4, c5⟩
theorem nl_of {lo hi : Nat} (hn : n < 100) (hl : hi < 1000) (hlo : lo < 1000) (h : ¬ isInF (nI n) (nI lo) (nI hi) = 0) : lo ≤ n ∧ n ≤ hi := by
  constructor
  · rcases Nat.lt_or_ge n lo with z | z
    · exact absurd (isIn_lo (nI_ltU z (by omega))) h
    · exact z
  · rcases Nat.lt_or_ge hi n with z | z
    · exact absurd (isIn_hi (nI_ltU z (by omega))) h
    · exact z
/-! the first line -/
theorem sim_lands (hd : d ≠ 0) (hK : TKr h L T s q) (hf : 700 ≤ f + q) (hB : LB d 0 h s q) (hw : ¬ wdP s (W5 108 97 110 100 115) = 0) : OUT d L T (FIN d L f h) (andP (lndsP T L s) (endP T L)) (fun h' s' f' q' => LB d 1 h' s' q' ∧ q < q') := by
  obtain ⟨b0, b6, -, nl, np, nq, nb, hR, hn0⟩ := hB
  obtain ⟨rfl, rfl⟩ := hn0 rfl
  obtain ⟨⟨r0a, r0b, r0c⟩, -, ⟨r2a, r2b, r2c⟩, ⟨r3a, r3b, r3c⟩, ⟨r4a, r4b, r4c⟩, ⟨r5a, r5b, r5c⟩, -, -, hZ, hC⟩ := hR
  obtain ⟨hk, h6⟩ := wd_kind hK hw
  have hw0 : ¬ wordF h (pS h) 0 = 0 := fun z => hw (by rw [w_lands]; exact (wd_sim hK (i := 0) (by omega)).1.mp z)
  have hs1 : sortW h = 1 := by unfold sortW; rw [if_neg hw0]
  have hbeg : begF h d = (1, begH h 1) := by
    unfold begF
    rw [hs1, if_neg (by decide), b6, if_pos ⟨fun _ => rfl, fun _ => rfl⟩, if_neg]
    · rfl
    · rintro (z | z | z) <;> exact absurd z.1 (by decide)
  obtain ⟨h1, f1, q1, e1, k1, u1, m1, v1⟩ := sim_beg hK hf hk b0 hbeg
  rw [e1]
  unfold lndsP
  rw [if_neg hw]
  have mean1 : ∀ {g : AH} {fl : Nat} {nums : Nat → Int32}, MS h g 1 fl (-1) 0 nums → meanF g = (if nI fl = 0 then 0 else if nI fl = 1 then 1 else -1) := fun hm => by
    unfold meanF
    rw [hm.2.1, hm.2.2.1, if_pos rfl]
  have whol1 : ∀ {g : AH} {fl : Nat} {nums : Nat → Int32}, MS h g 1 fl (-1) 0 nums → wholF g = if meanF g = -1 then 1 else 0 := fun hm => by
    unfold wholF
    rw [hm.2.1, if_neg (by decide)]
  refine OUT.andP (K := fun h' s' f' q' => ∃ v0 v1, v0 < 100 ∧ v1 < 100 ∧ ¬ isInF (nI v0) 1 8 = 0 ∧ ¬ isInF (nI v1) 1 9 = 0 ∧ MS h h' 1 2 (-1) 0 (upd (upd (fun _ => 0) 0 (nI v0)) 1 (nI v1)) ∧ s'.2.2 = upd (upd s.2.2 0 (nI v0)) 1 (nI v1) ∧ q < q') ?_ ?_
  · refine OUT.andP (sim_told (m := 0) k1 u1 m1 (by omega) (by decide) (by decide) (by rw [mean1 m1]; rfl) (by omega) (by rw [whol1 m1, mean1 m1]; rfl) rfl rfl) ?_
    rintro h2 s2 f2 q2 k2 u2 ⟨v0, w1, w2, m2, w3, -, w4⟩
    refine OUT.andP (sim_told (m := 1) k2 u2 m2 (by omega) (by decide) (by decide) (by rw [mean1 m2]; rfl) (by omega) (by rw [whol1 m2, mean1 m2]; rfl) rfl rfl) ?_
    rintro h3 s3 f3 q3 k3 u3 ⟨v1', x1, x2, m3, x3, -, x4⟩
    refine OUT.ret k3 u3 ⟨v0, v1', w1, x1, w2, x2, m3, ?_, by omega⟩
    rw [x3, w3]; rfl
  · rintro h4 s4 f4 q4 k4 u4 ⟨v0, v1', w1, x1, w2, x2, m4, w3, w4⟩
    have hmean : meanF h4 = -1 := by rw [mean1 m4]; rfl
    have hend : endF h4 d = ui (ui (ui (ui h4 d 1 1 (h4.1 0 5 0)) d 3 12 (h4.1 0 5 1)) 0 4 6 (h4.1 0 4 6 + 1)) 0 4 2 0 := by
      unfold endF
      rw [m4.2.1, if_pos rfl]
    refine (sim_end hd k4 u4 m4 (by decide) (by decide) (by rw [whol1 m4, hmean]; decide) (Or.inl hmean) (fun k j hk' => by rw [hend, ui_k (by omega), ui_k (by omega), ui_b hd.symm, ui_b hd.symm])).imp ?_
    rintro h5 s5 f5 q5 ⟨hfr, y1, y2⟩
    refine ⟨⟨?_, ?_, by omega, v0, 0, 0, nb, ?_, fun z => absurd z (by decide)⟩, by omega⟩
    · rw [hfr.1 0 4 2 (Or.inr (by decide)), hend, ui_eq]
    · rw [hfr.1 0 4 6 (Or.inr (by decide)), hend, ui_j (by decide), ui_eq, m4.2.2.2.2.2.1, b6]; rfl
    · have hD : ∀ k j, h5.1 d k j = if k = 3 ∧ j = 12 then nI v1' else if k = 1 ∧ j = 1 then nI v0 else h.1 d k j := fun k j => by
        rw [hfr.1 d k j (Or.inl hd), hend, ui_b hd, ui_b hd]
        have n0 : h4.1 0 5 0 = nI v0 := by rw [m4.2.2.2.2.2.2.2 0 (by omega) (by omega), pk_un (by decide), pk_us]
        have n1 : h4.1 0 5 1 = nI v1' := by rw [m4.2.2.2.2.2.2.2 1 (by omega) (by omega), pk_us]
        rw [n0, n1, ← m4.1 d hd]
        unfold ui
        dsimp only
        by_cases z : k = 3 ∧ j = 12
        · rw [if_pos ⟨rfl, z⟩, if_pos z]
        · rw [if_neg (fun y => z y.2), if_neg z]
          by_cases z2 : k = 1 ∧ j = 1
          · rw [if_pos ⟨rfl, z2⟩, if_pos z2]
          · rw [if_neg (fun y => z2 y.2), if_neg z2]
      have hr : ∀ j, s5.2.2 j = if j = 1 then nI v1' else if j = 0 then nI v0 else s.2.2 j := fun j => by rw [y1, w3]; rfl
      obtain ⟨l1, l2⟩ := nl_of (lo := 1) (hi := 8) w1 (by omega) (by omega) w2
      obtain ⟨l3, l4⟩ := nl_of (lo := 1) (hi := 9) x1 (by omega) (by omega) x2
      have hb : h5.1 0 4 7 = h.1 0 4 7 := by rw [hfr.1 0 4 7 (Or.inr (by decide)), hend, ui_j (by decide), ui_j (by decide), ui_b hd.symm, ui_b hd.symm, m4.2.2.2.2.2.2.1]
      have hn : ∀ j, 2 ≤ j → s5.2.2 j = s.2.2 j := fun j hj => by rw [hr, if_neg (by omega), if_neg (by omega)]
      refine ⟨⟨by rw [hD]; rfl, by rw [hr]; rfl, l2⟩, ⟨v1', by rw [hD]; rfl, by rw [hr]; rfl, l3, l4⟩, ⟨by rw [hb]; exact r2a, by rw [hn 2 (by omega)]; exact r2b, r2c⟩, ⟨by rw [hD]; exact r3a, by rw [hn 3 (by omega)]; exact r3b, r3c⟩, ⟨by rw [hD]; exact r4a, by rw [hn 4 (by omega)]; exact r4b, r4c⟩, ⟨fun a ha => ?_, ?_, fun a c ha hc => ?_⟩, fun k hk' => absurd hk' (Nat.not_lt_zero _), fun q' hq' => absurd hq' (Nat.not_lt_zero _), ?_, ?_⟩
      · rw [hD, if_neg (by omega), if_neg (by omega), hn _ (by omega)]; exact r5a a ha
      · rw [hD, if_neg (by omega), if_neg (by omega), bO_congr (N := s.2.2) 8 (fun a ha => hn _ (by omega))]; exact r5b
      · rw [hn _ (by omega), hn _ (by omega)]; exact r5c a c ha hc
      · obtain ⟨z1, z2, z3, z4, z5⟩ := hZ
        exact ⟨fun k w a1 a2 a3 => by unfold mY; rw [hn _ (by omega)]; exact z1 k w a1 a2 a3, fun k a1 a2 => by unfold mY; rw [hn _ (by omega)]; exact z2 k a1 a2, fun q' a1 => by unfold mQ; rw [hn _ (by omega)]; exact z3 q' a1, by rw [hn _ (by omega)]; exact z4, by rw [hn _ (by omega)]; exact z5⟩
      · obtain ⟨z1, z2, z3, z4, z5⟩ := hC
        refine ⟨fun k a1 => ?_, fun q' a1 => ?_, by rw [hD, if_neg (by omega), if_neg (by omega)]; exact z3, by rw [hD, if_neg (by omega), if_neg (by omega)]; exact z4, by rw [hD, if_neg (by omega), if_neg (by omega)]; exact z5⟩
        · rw [hD, if_neg (by omega), if_neg (by omega), hD, if_neg (by omega), if_neg (by omega), hD, if_neg (by omega), if_neg (by omega), hD, if_neg (by omega), if_neg (by omega)]; exact z1 k a1
        · rw [hD, if_neg (by omega), if_neg (by omega), hD, if_neg (by omega), if_neg (by omega), hD, if_neg (by omega), if_neg (by omega)]; exact z2 q' a1
end
