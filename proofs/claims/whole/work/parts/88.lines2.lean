section
variable {d L f q n : Nat} {T : Nat → Int32} {h h0 : AH} {s : PSt} {F : Int32 × AH} {K : AH → PSt → Nat → Nat → Prop}
theorem CLD.fr {D D' : Nat → Nat → Int32} (hC : CLD D) (e : ∀ k j, k = 0 ∨ k = 11 ∨ k = 12 ∨ k = 13 ∨ k = 14 ∨ k = 18 ∨ k = 19 ∨ k = 20 ∨ k = 21 ∨ k = 31 → D' k j = D k j) : CLD D' := by
  obtain ⟨z1, z2, z3, z4, z5⟩ := hC
  exact ⟨fun k a => by rw [e 11 k (by omega), e 12 k (by omega), e 13 k (by omega), e 14 k (by omega)]; exact z1 k a, fun q' a => by rw [e 18 q' (by omega), e 19 q' (by omega), e 20 q' (by omega)]; exact z2 q' a, by rw [e 21 9 (by omega)]; exact z3, by rw [e 0 5 (by omega)]; exact z4, by rw [e 31 4 (by omega)]; exact z5⟩
theorem TYP.fr {D D' : Nat → Nat → Int32} {r r' : Nat → Int32} {k : Nat} (hT : TYP D r k) (e : ∀ c, c < 11 → 4 ≤ c → D' c k = D c k) (er : ∀ w, w < 7 → mY r' k w = mY r k w) : TYP D' r' k := by
  unfold TYP
  rw [e 4 (by omega) (by omega), e 5 (by omega) (by omega), e 6 (by omega) (by omega), e 7 (by omega) (by omega), e 8 (by omega) (by omega), e 9 (by omega) (by omega), e 10 (by omega) (by omega), er 0 (by omega), er 1 (by omega), er 2 (by omega), er 3 (by omega), er 4 (by omega), er 5 (by omega), er 6 (by omega)]
  exact hT
/-! a lorry's line -/
theorem sim_lorry (hd : d ≠ 0) (hK : TKr h L T s q) (hf : 700 ≤ f + q) (hB : LB d n h s q) (hn : ¬ n = 0) (hq : n < 1000) (hw : ¬ wdP s (W5 108 111 114 114 121) = 0) : OUT d L T (FIN d L f h) (andP (lorP T L s) (endP T L)) (fun h' s' f' q' => LB d (n + 1) h' s' q' ∧ q < q') := by
  obtain ⟨b0, b6, bq, nl, np, nq, nb, hR, -⟩ := hB
  obtain ⟨⟨r0a, r0b, r0c⟩, hrr, ⟨r2a, r2b, r2c⟩, ⟨r3a, r3b, r3c⟩, ⟨r4a, r4b, r4c⟩, ⟨r5a, r5b, r5c⟩, hTy, hLo, hZ, hC⟩ := hR
  obtain ⟨hk, h6⟩ := wd_kind hK hw
  have hw' : ¬ wdP s (lN (dgc 3)) = 0 := by rw [← w_lorry]; exact hw
  have hw3 : ¬ wordF h (pS h) 3 = 0 := fun z => hw' ((wd_sim hK (i := 3) (by omega)).1.mp z)
  have hs4 : sortW h = 4 := by
    unfold sortW
    rw [if_pos ((wd_sim hK (i := 0) (by omega)).1.mpr (wd_uni (by omega) (by omega) hw' (by decide))), if_pos ((wd_sim hK (i := 1) (by omega)).1.mpr (wd_uni (by omega) (by omega) hw' (by decide))), if_pos ((wd_sim hK (i := 2) (by omega)).1.mpr (wd_uni (by omega) (by omega) hw' (by decide))), if_neg hw3]
  have hn0 : ¬ nI n = 0 := nI_ne0 (by omega) (by omega)
  have hiff : ((4 : Int32) = 1 ↔ nI n = 0) := ⟨fun z => absurd z (by decide), fun z => absurd z hn0⟩
  unfold lorP
  by_cases h8 : s.2.2 4 = 8
  · rw [if_pos h8, andP_f rfl]
    refine sim_badx hK hf hk (by rw [h6]; decide) ?_
    have hq8 : nq = 8 := nI_inj (b := 8) (by omega) (by omega) (by rw [← r4b]; exact h8)
    unfold tokF
    rw [if_pos b0]
    unfold begF
    rw [hs4, if_neg (by decide), b6, if_pos hiff, if_pos]
    right; right
    exact ⟨rfl, by rw [r4a, hq8]; decide⟩
  · rw [if_neg h8]
    have hq8 : nq < 8 := by
      rcases Nat.lt_or_ge nq 8 with z | z
      · exact z
      · exact absurd (show s.2.2 4 = nI 8 by rw [r4b]; congr 1; omega) h8
    have hbeg : begF h d = (1, begH h 4) := by
      unfold begF
      rw [hs4, if_neg (by decide), b6, if_pos hiff, if_neg]
      · rfl
      · rintro (z | z | z)
        · exact absurd z.1 (by decide)
        · exact absurd z.1 (by decide)
        · exact z.2 (by rw [r4a]; exact nI_ltU (b := 8) hq8 (by omega))
    obtain ⟨h1, f1, q1, e1, k1, u1, m1, v1⟩ := sim_beg hK hf hk b0 hbeg
    rw [e1, r4b, nI_clamp (show nq < 2 ^ 31 by omega)]
    have mean4 : ∀ {g : AH} {fl : Nat} {lb : Int32} {nums : Nat → Int32}, MS h g 4 fl (-1) lb nums → meanF g = (if nI fl = 0 then 7 else if nI fl = 1 then 3 else -1) := fun hm => by
      unfold meanF
      rw [hm.2.1, hm.2.2.1, if_neg (by decide), if_neg (by decide), if_pos rfl]
    have whol4 : ∀ {g : AH} {fl : Nat} {lb : Int32} {nums : Nat → Int32}, MS h g 4 fl (-1) lb nums → wholF g = if meanF g = -1 then 1 else 0 := fun hm => by
      unfold wholF
      rw [hm.2.1, if_neg (by decide)]
    refine OUT.andP (K := fun h' s' f' q' => ∃ v0 v1 lb, v0 < nl ∧ MS h h' 4 2 (-1) lb (upd (upd (fun _ => 0) 0 (nI v0)) 1 (nI v1)) ∧ s'.2.2 = upd (upd (upd s.2.2 (79 + 3 * nq) (nI v0)) (79 + 3 * nq + 1) (nI v1)) 4 (nI nq + 1) ∧ q < q') ?_ ?_
    · refine OUT.andP (sim_land (nl := nl) hd k1 u1 m1 (by omega) (by decide) (by decide) (by rw [mean4 m1]; rfl) (Or.inl (by rw [whol4 m1, mean4 m1]; rfl)) r0a r0c r0b) ?_
      rintro h2 s2 f2 q2 k2 u2 ⟨v0, w1, w2, m2, w3, w5, w4⟩
      refine OUT.andP (sim_told (s := (s2.1, s2.2.1, upd s2.2.2 (79 + 3 * nq) (s2.1 15))) (m := 3) k2 u2 m2 (by omega) (by decide) (by decide) (by rw [mean4 m2]; rfl) (by omega) (by rw [whol4 m2, mean4 m2]; rfl) rfl rfl) ?_
      rintro h3 s3 f3 q3 k3 u3 ⟨v1', x1, x2, m3, x3, -, x4⟩
      refine OUT.ret (x := (s3.1, s3.2.1, upd s3.2.2 4 (s3.2.2 4 + 1))) k3 u3 ⟨v0, v1', _, w1, m3, ?_, by omega⟩
      show upd s3.2.2 4 (s3.2.2 4 + 1) = _
      have hs2 : s2.2.2 = s.2.2 := w3
      rw [x3]
      dsimp only
      rw [hs2, w5, pk_un (show 4 ≠ 79 + 3 * nq + 1 by omega), pk_un (show 4 ≠ 79 + 3 * nq by omega), r4b]
    · rintro h4 s4 f4 q4 k4 u4 ⟨v0, v1', lb, w1, m4, w3, w4⟩
      have hmean : meanF h4 = -1 := by rw [mean4 m4]; rfl
      have n0 : h4.1 0 5 0 = nI v0 := by rw [m4.2.2.2.2.2.2.2 0 (by omega) (by omega), pk_un (by decide), pk_us]
      have n1 : h4.1 0 5 1 = nI v1' := by rw [m4.2.2.2.2.2.2.2 1 (by omega) (by omega), pk_us]
      have e15 : h4.1 d 15 5 = nI nq := by rw [m4.1 d hd]; exact r4a
      have hend : endF h4 d = ui (ui (ui (ui (ui h4 d 16 nq (nI v0)) d 17 nq (nI v1')) d 15 5 (nI nq + 1)) 0 4 6 (h4.1 0 4 6 + 1)) 0 4 2 0 := by
        unfold endF
        rw [m4.2.1, if_neg (by decide), if_neg (by decide), if_pos rfl]
        unfold addQ
        rw [e15, nI_clamp (by omega), n0, n1]
      refine (sim_end hd k4 u4 m4 (by decide) (by decide) (by rw [whol4 m4, hmean]; decide) (Or.inl hmean) (fun k j hk' => by rw [hend, ui_k (by omega), ui_k (by omega), ui_b hd.symm, ui_b hd.symm, ui_b hd.symm])).imp ?_
      rintro h5 s5 f5 q5 ⟨hfr, y1, y2⟩
      refine ⟨⟨?_, ?_, by omega, nl, np, nq + 1, nb, ?_, fun z => absurd z (by omega)⟩, by omega⟩
      · rw [hfr.1 0 4 2 (Or.inr (by decide)), hend, ui_eq]
      · rw [hfr.1 0 4 6 (Or.inr (by decide)), hend, ui_j (by decide), ui_eq, m4.2.2.2.2.2.1, b6, nI_1]
      · have hD : ∀ k j, h5.1 d k j = if k = 15 ∧ j = 5 then nI (nq + 1) else if k = 17 ∧ j = nq then nI v1' else if k = 16 ∧ j = nq then nI v0 else h.1 d k j := fun k j => by
          rw [hfr.1 d k j (Or.inl hd), hend, ui_b hd, ui_b hd, nI_1, ← m4.1 d hd]
          unfold ui
          dsimp only
          simp only [true_and]
        have hr : ∀ j, s5.2.2 j = if j = 4 then nI (nq + 1) else if j = 79 + 3 * nq + 1 then nI v1' else if j = 79 + 3 * nq then nI v0 else s.2.2 j := fun j => by rw [y1, w3, nI_1]; rfl
        have hb : h5.1 0 4 7 = h.1 0 4 7 := by rw [hfr.1 0 4 7 (Or.inr (by decide)), hend, ui_j (by decide), ui_j (by decide), ui_b hd.symm, ui_b hd.symm, ui_b hd.symm, m4.2.2.2.2.2.2.1]
        have hn' : ∀ j, j ≠ 4 → (j < 79 + 3 * nq ∨ 79 + 3 * nq + 2 ≤ j) → s5.2.2 j = s.2.2 j := fun j a1 a2 => by rw [hr, if_neg a1, if_neg (by omega), if_neg (by omega)]
        have hDn : ∀ k j, k ≠ 15 → k ≠ 16 → k ≠ 17 → h5.1 d k j = h.1 d k j := fun k j a1 a2 a3 => by rw [hD, if_neg (fun z => a1 z.1), if_neg (fun z => a3 z.1), if_neg (fun z => a2 z.1)]
        refine ⟨⟨by rw [hDn _ _ (by decide) (by decide) (by decide)]; exact r0a, by rw [hn' _ (by decide) (by omega)]; exact r0b, r0c⟩, ?_, ⟨by rw [hb]; exact r2a, by rw [hn' _ (by decide) (by omega)]; exact r2b, r2c⟩, ⟨by rw [hDn _ _ (by decide) (by decide) (by decide)]; exact r3a, by rw [hn' _ (by decide) (by omega)]; exact r3b, r3c⟩, ⟨by rw [hD]; rfl, by rw [hr]; rfl, by omega⟩, ⟨fun a ha => ?_, ?_, fun a c ha hc => ?_⟩, fun k hk' => ?_, fun q' hq' => ?_, ?_, ?_⟩
        · obtain ⟨rr, z1, z2, z3⟩ := hrr
          exact ⟨rr, by rw [hDn _ _ (by decide) (by decide) (by decide)]; exact z1, by rw [hn' _ (by decide) (by omega)]; exact z2, z3⟩
        · rw [hDn _ _ (by decide) (by decide) (by decide), hn' _ (by omega) (by omega)]; exact r5a a ha
        · rw [hDn _ _ (by decide) (by decide) (by decide), bO_congr (N := s.2.2) 8 (fun a ha => hn' _ (by omega) (by omega))]; exact r5b
        · rw [hn' _ (by omega) (by omega), hn' _ (by omega) (by omega)]; exact r5c a c ha hc
        · exact (hTy k hk').fr (fun c c1 c2 => hDn _ _ (by omega) (by omega) (by omega)) (fun w hw => hn' _ (by omega) (by omega))
        · unfold mQ
          by_cases z : q' = nq
          · subst z
            refine ⟨?_, ?_, v0, w1, ?_⟩
            · rw [hD, if_neg (by omega), if_neg (by omega), if_pos ⟨rfl, rfl⟩, hr, if_neg (by omega), if_neg (by omega), if_pos (by omega)]
            · rw [hD, if_neg (by omega), if_pos ⟨rfl, rfl⟩, hr, if_neg (by omega), if_pos (by omega)]
            · rw [hr, if_neg (by omega), if_neg (by omega), if_pos (by omega)]
          · rw [hn' _ (by omega) (by omega), hn' _ (by omega) (by omega), hD, if_neg (by omega), if_neg (by omega), if_neg (by omega), hD, if_neg (by omega), if_neg (by omega), if_neg (by omega)]
            exact hLo q' (by omega)
        · obtain ⟨z1, z2, z3, z4, z5⟩ := hZ
          exact ⟨fun k w a1 a2 a3 => by unfold mY; rw [hn' _ (by omega) (by omega)]; exact z1 k w a1 a2 a3, fun k a1 a2 => by unfold mY; rw [hn' _ (by omega) (by omega)]; exact z2 k a1 a2, fun q' a1 => by unfold mQ; rw [hn' _ (by omega) (by omega)]; exact z3 q' a1, by rw [hn' _ (by omega) (by omega)]; exact z4, by rw [hn' _ (by omega) (by omega)]; exact z5⟩
        · exact hC.fr (fun k j a1 => hDn k j (by omega) (by omega) (by omega))
/-! a border's line -/
def bN (r : Nat → Int32) : Nat := sN (fun a => sN (fun c => if bt (r (103 + a)) c = true then 1 else 0) a) 8
theorem bI_n {r : Nat → Int32} {a : Nat} (acc : Nat) : ∀ c, c ≤ 32 → bI r a (nI acc) c = nI (acc + sN (fun c => if bt (r (103 + a)) c = true then 1 else 0) c)
  | 0, _ => rfl
  | c + 1, hc => by
    rw [show bI r a (nI acc) (c + 1) = if hasB (r (103 + a)) (nI c) = 0 then bI r a (nI acc) c else bI r a (nI acc) c + 1 from rfl, bI_n acc c (by omega), show sN (fun c => if bt (r (103 + a)) c = true then 1 else 0) (c + 1) = sN (fun c => if bt (r (103 + a)) c = true then 1 else 0) c + (if bt (r (103 + a)) c = true then 1 else 0) from rfl]
    by_cases e : bt (r (103 + a)) c = true
    · rw [if_pos e, if_neg (fun z => by rw [(hasB_b (by omega)).mp z] at e; exact absurd e (by decide)), nI_1, Nat.add_assoc]
    · rw [if_neg e, if_pos ((hasB_b (by omega)).mpr (by simpa using e))]; rfl
theorem bO_n {r : Nat → Int32} : ∀ n, n ≤ 32 → bO r n = nI (sN (fun a => sN (fun c => if bt (r (103 + a)) c = true then 1 else 0) a) n)
  | 0, _ => rfl
  | n + 1, hn => by
    rw [show bO r (n + 1) = bI r n (bO r n) n from rfl, bO_n n (by omega), bI_n _ n (by omega)]
    rfl
theorem brd_o {r : Nat → Int32} {a c j : Nat} (ha : a < 8) (hc : c < 8) (hj : ¬ j = 103 + a) (hj2 : ¬ j = 103 + c) (h2 : ¬ j = 2) : brdR r (nI a) (nI c) j = r j := by
  unfold brdR
  (try dsimp only)
  rw [nI_clamp (by omega), nI_clamp (by omega), pk_un h2, pk_un hj2, pk_un hj]
theorem brd_2 {r : Nat → Int32} {a c : Nat} : brdR r (nI a) (nI c) 2 = r 2 + 1 := by unfold brdR; exact pk_us
theorem brd_bt {r : Nat → Int32} {a c x y : Nat} (ha : a < 8) (hc : c < 8) (hn : a ≠ c) (hx : x < 8) (hy : y < 32) : bt (brdR r (nI a) (nI c) (103 + x)) y = (bt (r (103 + x)) y || decide (x = a ∧ y = c) || decide (x = c ∧ y = a)) := by
  by_cases z : x = a
  · subst z
    have e : brdR r (nI x) (nI c) (103 + x) = r (103 + x) ||| 1 <<< (nI c &&& 31) := by
      unfold brdR
      (try dsimp only)
      rw [nI_clamp (by omega), nI_clamp (by omega), pk_un (by omega), pk_un (by omega), pk_us]
    rw [e, b_or, b_1l (by omega) hy]
    by_cases y1 : c = y
    · subst y1; simp
    · have : ¬ y = c := fun w => y1 w.symm
      simp [y1, this, hn]
  · by_cases z2 : x = c
    · subst z2
      have e : brdR r (nI a) (nI x) (103 + x) = r (103 + x) ||| 1 <<< (nI a &&& 31) := by
        unfold brdR
        (try dsimp only)
        rw [nI_clamp (by omega), nI_clamp (by omega), pk_un (by omega), pk_us, pk_un (by omega)]
      rw [e, b_or, b_1l (by omega) hy]
      by_cases y1 : a = y
      · subst y1; simp
      · have : ¬ y = a := fun w => y1 w.symm
        simp [y1, this, z]
    · rw [brd_o ha hc (by omega) (by omega) (by omega)]
      simp [z, z2]
theorem brd_same {r : Nat → Int32} {a c : Nat} (ha : a < 8) (hc : c < 8) (hn : a ≠ c) (h1 : bt (r (103 + a)) c = true) (h2 : bt (r (103 + c)) a = true) {x : Nat} (hx : x < 8) : brdR r (nI a) (nI c) (103 + x) = r (103 + x) := by
  refine b_ext (fun y hy => ?_)
  rw [brd_bt ha hc hn hx hy]
  by_cases z : x = a ∧ y = c
  · rw [z.1, z.2, h1]; rfl
  · by_cases z2 : x = c ∧ y = a
    · rw [z2.1, z2.2, h2]; rfl
    · simp [z, z2]
theorem brd_cnt {r : Nat → Int32} {a c : Nat} (ha : a < 8) (hc : c < 8) (hn : a ≠ c) (h1 : bt (r (103 + a)) c = false) (h2 : bt (r (103 + c)) a = false) : bN (brdR r (nI a) (nI c)) = bN r + 1 := by
  have key : ∀ M m, M < 8 → m < M → (M = a ∧ m = c ∨ M = c ∧ m = a) → bN (brdR r (nI a) (nI c)) = bN r + 1 := fun M m hM hm hor => by
    have hb : ∀ x y, x < 8 → y < x → (bt (brdR r (nI a) (nI c) (103 + x)) y = if x = M ∧ y = m then true else bt (r (103 + x)) y) := fun x y hx hy => by
      rw [brd_bt ha hc hn hx (by omega)]
      by_cases z : x = M ∧ y = m
      · rw [if_pos z]
        rcases hor with w | w
        · have : x = a ∧ y = c := by omega
          simp [this]
        · have : x = c ∧ y = a := by omega
          simp [this]
      · rw [if_neg z]
        have z1 : ¬ (x = a ∧ y = c) := by omega
        have z2 : ¬ (x = c ∧ y = a) := by omega
        simp [z1, z2]
    have hM0 : bt (r (103 + M)) m = false := by
      rcases hor with w | w
      · rw [w.1, w.2]; exact h1
      · rw [w.1, w.2]; exact h2
    have inner := sN_upd (f := fun y => if bt (r (103 + M)) y = true then 1 else 0) (g := fun y => if bt (brdR r (nI a) (nI c) (103 + M)) y = true then 1 else 0) (t := m) (n := M) hm (fun y hy hne => by
      (try dsimp only)
      rw [hb M y hM hy, if_neg (show ¬ (M = M ∧ y = m) from fun w => hne w.2)])
    have outer := sN_upd (f := fun x => sN (fun y => if bt (r (103 + x)) y = true then 1 else 0) x) (g := fun x => sN (fun y => if bt (brdR r (nI a) (nI c) (103 + x)) y = true then 1 else 0) x) (t := M) (n := 8) hM (fun x hx hne => sN_congr (fun y hy => by
      (try dsimp only)
      rw [hb x y hx hy, if_neg (show ¬ (x = M ∧ y = m) from fun w => hne w.1)]))
    (try dsimp only at inner)
    rw [hb M m hM hm, if_pos (show M = M ∧ m = m from ⟨rfl, rfl⟩), hM0, if_pos rfl, if_neg (show ¬ false = true by decide)] at inner
    (try dsimp only at outer)
    unfold bN
    omega
  rcases Nat.lt_or_ge a c with z | z
  · exact key c a hc z (Or.inr ⟨rfl, rfl⟩)
  · exact key a c ha (by omega) (Or.inl ⟨rfl, rfl⟩)
end
