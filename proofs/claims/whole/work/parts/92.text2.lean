section
variable {h : AH} {b d L : Nat}
theorem clr_o {b' k j : Nat} (hb : b' ≠ d) : (clearB h d).1 b' k j = h.1 b' k j := by
  unfold clearB clearQ clrQ clearP clrP clearL clrL
  simp [ui, hb]
theorem clr_31 {k j : Nat} (hk : 31 ≤ k) (hn : ¬ (k = 31 ∧ j = 4)) : (clearB h d).1 d k j = h.1 d k j := by
  have h0 : k ≠ 0 := by omega
  have h1 : k ≠ 1 := by omega
  have h2 : k ≠ 2 := by omega
  have h3 : k ≠ 3 := by omega
  have h11 : k ≠ 11 := by omega
  have h12 : k ≠ 12 := by omega
  have h13 : k ≠ 13 := by omega
  have h14 : k ≠ 14 := by omega
  have h15 : k ≠ 15 := by omega
  have h18 : k ≠ 18 := by omega
  have h19 : k ≠ 19 := by omega
  have h20 : k ≠ 20 := by omega
  have h21 : k ≠ 21 := by omega
  unfold clearB clearQ clrQ clearP clrP clearL clrL
  simp [ui, h0, h1, h2, h3, h11, h12, h13, h14, h15, h18, h19, h20, h21, hn]
theorem clr_B {r : Nat → Int32} (hr : ∀ j, j < 631 → r j = if j = 1 then 1 else 0) : BKR ((clearB h d).1 d) 0 r 0 0 0 0 := by
  have hr0 : ∀ j, j < 631 → j ≠ 1 → r j = 0 := fun j h1 h2 => by rw [hr j h1, if_neg h2]
  refine ⟨⟨?_, hr0 0 (by omega) (by omega), by omega⟩, ⟨1, ?_, ?_, by omega, by omega⟩, ⟨rfl, hr0 2 (by omega) (by omega), by omega⟩, ⟨?_, hr0 3 (by omega) (by omega), by omega⟩, ⟨?_, hr0 4 (by omega) (by omega), by omega⟩, ⟨fun a ha => ?_, ?_, fun a c ha hc => ?_⟩, fun k hk => absurd hk (Nat.not_lt_zero _), fun q hq => absurd hq (Nat.not_lt_zero _), ⟨fun k w a1 a2 a3 => hr0 _ (by omega) (by omega), fun k a1 a2 => hr0 _ (by omega) (by omega), fun q a1 => hr0 _ (by omega) (by omega), hr0 5 (by omega) (by omega), hr0 6 (by omega) (by omega)⟩, ⟨fun k hk => ?_, fun q hq => ?_, ?_, ?_, ?_⟩⟩
  · unfold clearB clearQ clrQ clearP clrP clearL clrL; simp [ui]; rfl
  · unfold clearB clearQ clrQ clearP clrP clearL clrL; simp [ui]; rfl
  · rw [hr 1 (by omega)]; rfl
  · unfold clearB clearQ clrQ clearP clrP clearL clrL; simp [ui]; rfl
  · unfold clearB clearQ clrQ clearP clrP clearL clrL; simp [ui]; rfl
  · rw [hr0 _ (by omega) (by omega)]
    unfold clearB clearQ clrQ clearP clrP clearL clrL; simp [ui, ha]
  · rw [bO_n 8 (by omega), show sN (fun a => sN (fun c => if bt (r (103 + a)) c = true then 1 else 0) a) 8 = 0 from sN_0 (fun a ha => sN_0 (fun c hc => by (try dsimp only); rw [hr0 _ (by omega) (by omega), b_0]; rfl))]
    unfold clearB clearQ clrQ clearP clrP clearL clrL; simp [ui]; rfl
  · rw [hr0 _ (by omega) (by omega), hr0 _ (by omega) (by omega), b_0, b_0]
  · unfold clearB clearQ clrQ clearP clrP clearL clrL; simp [ui, hk]
  · unfold clearB clearQ clrQ clearP clrP clearL clrL; simp [ui, hq]
  · unfold clearB clearQ clrQ clearP clrP clearL clrL; simp [ui]
  · unfold clearB clearQ clrQ clearP clrP clearL clrL; simp [ui]
  · unfold clearB clearQ clrQ clearP clrP clearL clrL; simp [ui]
/-- the class's reading of a whole text against the reference's -/
theorem sim_read (hd : d ≠ 0) {T o r : Nat → Int32} {w : Int64} (h1 : h.1 0 1 1 = nI L) (hL : L ≤ 740) (hT : ∀ p, p < L → tpF h p = T p) :
    ((txR T L o w r).1 = 0 ∧ (textR h d L).1 = 0 ∧ (textR h d L).2.1 0 4 8 = (txR T L o w r).2.2.1 8 ∧ (textR h d L).2.1 0 4 9 = (txR T L o w r).2.2.1 9) ∨
    ((txR T L o w r).1 = 1 ∧ (textR h d L).1 = 1 ∧ (textR h d L).2.1 0 4 8 = 0 ∧ ∃ q', LB d (txR T L o w r).2.1 (textR h d L).2 (txR T L o w r).2.2 q') := by
  have e : textR h d L = FIN d L 700 (rd0 (clearB h d) L) := rfl
  have hd' : (0 : Nat) ≠ d := hd.symm
  let g := ui (ui (ui (ui (ui (clearB h d) 0 4 2 0) 0 4 6 0) 0 4 7 0) 0 4 8 0) 0 3 3 0
  have hg : rd0 (clearB h d) L = advF g L 0 := rfl
  have hgk : ∀ k j, k ≠ 3 → k ≠ 4 → g.1 0 k j = h.1 0 k j := fun k j a1 a2 => by
    show (ui (ui (ui (ui (ui (clearB h d) 0 4 2 0) 0 4 6 0) 0 4 7 0) 0 4 8 0) 0 3 3 0).1 0 k j = _
    rw [ui_k a1, ui_k a2, ui_k a2, ui_k a2, ui_k a2, clr_o hd']
  obtain ⟨q, hq, hK⟩ := adv_sim (h := g) (L := L) (e := 0) (T := T) (s := tx0 L o w r) (by rw [hgk 1 1 (by decide) (by decide)]; exact h1) hL (fun p hp => by rw [tpF_fr (hgk 1 1 (by decide) (by decide)) (fun j => hgk 2 j (by decide) (by decide))]; exact hT p hp) (by omega) (by show upd (upd (upd (upd (upd o 0 0) 2 0) 3 (nI L)) 4 0) 8 0 4 = nI 0; rw [pk_un (by decide), pk_us]; rfl) (by show upd (upd (upd (upd (upd o 0 0) 2 0) 3 (nI L)) 4 0) 8 0 3 = nI L; rw [pk_un (by decide), pk_un (by decide), pk_us])
  have hfa := advF_fr (h := g) (L := L) (p := 0)
  have h4 : ∀ j, (advF g L 0).1 0 4 j = g.1 0 4 j := fun j => hfa.1 0 4 j (Or.inr (by decide))
  have hD : (advF g L 0).1 d = (clearB h d).1 d := by
    funext k j
    rw [hfa.1 d k j (Or.inl hd)]
    show (ui (ui (ui (ui (ui (clearB h d) 0 4 2 0) 0 4 6 0) 0 4 7 0) 0 4 8 0) 0 3 3 0).1 d k j = _
    rw [ui_b hd, ui_b hd, ui_b hd, ui_b hd, ui_b hd]
  have hLB : LB d 0 (advF g L 0) (goP T L (tx0 L o w r)) q := by
    refine ⟨?_, ?_, by omega, 0, 0, 0, 0, ?_, fun _ => ⟨rfl, rfl⟩⟩
    · rw [h4]; show (ui (ui (ui (ui (ui (clearB h d) 0 4 2 0) 0 4 6 0) 0 4 7 0) 0 4 8 0) 0 3 3 0).1 0 4 2 = 0
      rw [ui_k (by decide), ui_j (by decide), ui_j (by decide), ui_j (by decide), ui_eq]
    · rw [h4]; show (ui (ui (ui (ui (ui (clearB h d) 0 4 2 0) 0 4 6 0) 0 4 7 0) 0 4 8 0) 0 3 3 0).1 0 4 6 = nI 0
      rw [ui_k (by decide), ui_j (by decide), ui_j (by decide), ui_eq]; rfl
    · have e7 : (advF g L 0).1 0 4 7 = 0 := by
        rw [h4]; show (ui (ui (ui (ui (ui (clearB h d) 0 4 2 0) 0 4 6 0) 0 4 7 0) 0 4 8 0) 0 3 3 0).1 0 4 7 = 0
        rw [ui_k (by decide), ui_j (by decide), ui_eq]
      rw [hD, e7]
      refine clr_B (fun j hj => ?_)
      show upd (zr 631 r) 1 1 j = _
      by_cases z : j = 1
      · rw [z, pk_us, if_pos rfl]
      · rw [pk_un z, if_neg z]; exact if_pos hj
  have hst := sim_text hd 742 0 (advF g L 0) (goP T L (tx0 L o w r)) 700 q hK (by omega) hLB (by omega)
  rw [e, hg]
  rcases hst with c | ⟨c1, c2, q', c3⟩
  · exact Or.inl c
  · refine Or.inr ⟨c1, c2, ?_, q', c3⟩
    rw [FIN_8 hd c2, h4]
    show (ui (ui (ui (ui (ui (clearB h d) 0 4 2 0) 0 4 6 0) 0 4 7 0) 0 4 8 0) 0 3 3 0).1 0 4 8 = 0
    rw [ui_k (by decide), ui_eq]
theorem LB_SR {n q : Nat} {g : AH} {s : PSt} {N : Nat → Int32} {B : Nat} (hB : LB d n g s q) (hB9 : B ≤ 9000) (hN : ∀ j, j < 631 → N j = s.2.2 j) : ∃ nl np nq, SR (g.1 d) N nl np nq 0 ∧ WN N nl np nq 0 B := by
  obtain ⟨-, -, -, nl, np, nq, nb, ⟨⟨r0a, r0b, r0c⟩, ⟨rr, rra, rrb, rrc, rrd⟩, -, ⟨r3a, r3b, r3c⟩, ⟨r4a, r4b, r4c⟩, ⟨r5a, r5b, -⟩, hTy, hLo, ⟨z1, z2, z3, z4, z5⟩, ⟨c1, c2, c3, c4, c5⟩⟩, -⟩ := hB
  have hY : ∀ k w, k < 6 → w < 12 → mY N k w = mY s.2.2 k w := fun k w a1 a2 => hN _ (by omega)
  have hQ : ∀ q w, q < 8 → w < 3 → mQ N q w = mQ s.2.2 q w := fun q w a1 a2 => hN _ (by omega)
  refine ⟨nl, np, nq, ⟨⟨r0a, r3a, r4a, c3, by rw [hN 1 (by omega), rra, rrb], by rw [hN 6 (by omega), c4, z5], by rw [r5b]; exact (bO_congr 8 (fun a ha => hN _ (by omega))).symm⟩, fun a ha => by rw [hN _ (by omega)]; exact r5a a ha, fun k hk => ?_, fun q hq => ?_, fun t ht => absurd ht (Nat.not_lt_zero _)⟩, ⟨by rw [hN 0 (by omega), r0b], r0c, by rw [hN 3 (by omega), r3b], r3c, by rw [hN 4 (by omega), r4b], r4c, by rw [hN 5 (by omega), z4]; rfl, by omega⟩, ⟨rr, rrc, rrd, by rw [hN 1 (by omega), rrb], fun k hk => ?_⟩, ⟨0, by omega, by rw [hN 6 (by omega), z5]; rfl⟩, fun q hq => ?_, fun t ht => absurd ht (Nat.not_lt_zero _), fun t t' ht => absurd ht (Nat.not_lt_zero _), hB9⟩
  · obtain ⟨⟨t4, t5, t6, t7, t8, t9, t10⟩, -⟩ := hTy k hk
    obtain ⟨d11, d12, d13, d14⟩ := c1 k (by omega)
    rw [hY k 0 (by omega) (by omega), hY k 1 (by omega) (by omega), hY k 2 (by omega) (by omega), hY k 3 (by omega) (by omega), hY k 4 (by omega) (by omega), hY k 5 (by omega) (by omega), hY k 6 (by omega) (by omega), hY k 7 (by omega) (by omega), hY k 8 (by omega) (by omega), hY k 9 (by omega) (by omega), z1 k 7 (by omega) (by omega) (by omega), z1 k 8 (by omega) (by omega) (by omega), z1 k 9 (by omega) (by omega) (by omega)]
    exact ⟨t4, t5, t6, t7, t8, t9, t10, d11, d12, d13, d14⟩
  · obtain ⟨u1, u2, -⟩ := hLo q hq
    obtain ⟨e1, e2, e3⟩ := c2 q (by omega)
    rw [hQ q 0 (by omega) (by omega), hQ q 1 (by omega) (by omega), hQ q 2 (by omega) (by omega), z3 q (by omega)]
    exact ⟨u1, u2, e1, e2, e3⟩
  · obtain ⟨-, kd, p, c, nn, st, x1, x2, x3, x4, x5, x6, x7, x8, x9, x10⟩ := hTy k hk
    refine ⟨p, c, nn, st, 0, 0, 0, by rw [hY k 0 (by omega) (by omega)]; exact kd, by rw [hY k 1 (by omega) (by omega)]; exact x1, x2, x3, by rw [hY k 0 (by omega) (by omega)]; exact x4, by rw [hY k 3 (by omega) (by omega)]; exact x5, x6, by rw [hY k 4 (by omega) (by omega)]; exact x7, x8, by rw [hY k 5 (by omega) (by omega)]; exact x9, x10, by rw [hY k 7 (by omega) (by omega), z1 k 7 (by omega) (by omega) (by omega)]; rfl, by rw [hY k 8 (by omega) (by omega), z1 k 8 (by omega) (by omega) (by omega)]; rfl, by rw [hY k 9 (by omega) (by omega), z1 k 9 (by omega) (by omega) (by omega)]; rfl, by rw [hY k 10 (by omega) (by omega), z1 k 10 (by omega) (by omega) (by omega), Nat.zero_div]; rfl, by omega, by rw [Nat.zero_div]; omega, Nat.zero_le _⟩
  · obtain ⟨-, -, a, u1, u2⟩ := hLo q hq
    exact ⟨a, u1, by rw [hQ q 0 (by omega) (by omega)]; exact u2⟩
end
theorem pH_b {h : AH} {o r : Nat → Int32} {w : Int64} {b' : Nat} (hb : b' ≠ 3) : (pH h o w r).1 b' = h.1 b' := funext fun k => funext fun j => by
  show (if b' = 3 ∧ k = 0 then _ else if b' = 3 ∧ k = 3 then _ else h.1 b' k j) = _
  rw [if_neg (fun z => hb z.1), if_neg (fun z => hb z.1)]
theorem pH_2 {h : AH} {o r : Nat → Int32} {w : Int64} : (pH h o w r).1 3 2 = h.1 3 2 := rfl
theorem call_text {h : AH} {B : Nat} {l : Launch} {G : GG} (hC : CPL h B) (h9 : B + 9 ≤ 9000) : Ct l G 9 yX10_text cX10_text 3 (some .int) [.ref (G.1 0 0)] h (RK l G 6 yX11_text cX11_text 3 (some .int) [.ref (G.1 3 0)] B) := by
  obtain ⟨b, d, nl, np, nq, nt, sm, ax, L, hX⟩ := hC
  have hX0 := hX
  obtain ⟨hb3, hb0, hd3, hd0⟩ := hX0.b3
  obtain ⟨⟨i1, i2, i3, i4, i5, dx, dx10, edx⟩, ⟨l1, l2, l3, l4⟩, hf, hg, hS, hW, hz, ⟨r1, r2, r3, r4, r5⟩, hR⟩ := hX
  have eb : (h.1 0 0 3).toNatClampNeg = b := by rw [i4]; rcases i1 with rfl | rfl <;> exact nI_clamp (by omega)
  have ed : (h.1 0 0 4).toNatClampNeg = d := by rw [i5]; rcases i2 with rfl | rfl <;> exact nI_clamp (by omega)
  have hT : ∀ p, p < L → tpF h p = h.1 3 1 p := fun p hp => by
    unfold tpF atF
    rw [l1, if_neg (nI_pos (by omega)), if_neg (nI_ge hp (by omega)), if_neg (show ¬ (740 : Int32) ≤ nI p from nI_ge (b := 740) (by omega) (by omega)), nI_clamp (by omega), l4 p hp]
  have hfr : frR (textR h d L).2 (clearB h d) d := by
    have e : textR h d L = FIN d L 700 (rd0 (clearB h d) L) := rfl
    rw [e]
    refine (FIN_fr hd0).tr ?_
    unfold rd0
    exact (advF_fr2 hd0).tr ((((((frR.rf.u0 hd0 (by omega)).u0 hd0 (by omega)).u0 hd0 (by omega)).u0 hd0 (by omega)).u0 hd0 (by omega)))
  have h3 : (textR h d L).2.1 3 = h.1 3 := funext fun k => funext fun j => by
    rw [hfr 3 k j (Or.inl ⟨by decide, fun z => hd3 z.symm⟩), clr_o (fun z => hd3 z.symm)]
  have hbb : (textR h d L).2.1 b = h.1 b := funext fun k => funext fun j => by
    rw [hfr b k j (Or.inl ⟨hb0, i3⟩), clr_o i3]
  have h0k : ∀ k, k ≠ 3 → k ≠ 4 → k ≠ 5 → (textR h d L).2.1 0 k = h.1 0 k := fun k a1 a2 a3 => funext fun j => by
    rw [hfr 0 k j (Or.inr (Or.inr ⟨rfl, a1, a2, a3⟩)), clr_o hd0.symm]
  have hdn : (textR h d L).2.1 d 31 3 = nI dx := by
    rw [hfr d 31 3 (Or.inr (Or.inl ⟨rfl, by omega⟩)), clr_31 (by omega) (by omega)]; exact edx
  have tH3 : (textH h d L).1 3 = h.1 3 := by
    unfold textH
    rw [← h3]; funext k j; rw [ui_b (by decide), ui_b (by decide)]
  have tHb : ∀ b', b' ≠ 0 → (textH h d L).1 b' = (textR h d L).2.1 b' := fun b' hb' => by
    unfold textH
    funext k j; rw [ui_b hb', ui_b hb']
  have tH0 : ∀ k j, k ≠ 0 → k ≠ 1 → (textH h d L).1 0 k j = (textR h d L).2.1 0 k j := fun k j a1 a2 => by
    unfold textH
    rw [ui_k a1, ui_k a2]
  have tH00 : ∀ j, j ≠ 5 → (textH h d L).1 0 0 j = h.1 0 0 j := fun j hj => by
    unfold textH
    rw [ui_j hj, ui_k (by decide), h0k 0 (by decide) (by decide) (by decide)]
  have tH5 : (textH h d L).1 0 0 5 = (textR h d L).2.1 0 4 8 := by unfold textH; rw [ui_eq]
  have tH1 : (textH h d L).1 0 1 1 = 0 := by unfold textH; rw [ui_k (by decide), ui_eq]
  have tHg : rngG ((textH h d L).1 0 11) := by
    rw [show (textH h d L).1 0 11 = h.1 0 11 from funext fun j => by rw [tH0 11 j (by decide) (by decide), h0k 11 (by decide) (by decide) (by decide)]]
    exact hg
  have hsim := sim_read (h := h) (d := d) (L := L) hd0 (T := h.1 3 1) (o := h.1 3 0) (w := (textF h b d L).2.2 3 0 10) (r := h.1 3 3) l1 l3 hT
  have hok := tx_o (T := h.1 3 1) (L := L) 742 0 (goP (h.1 3 1) L (tx0 L (h.1 3 0) ((textF h b d L).2.2 3 0 10) (h.1 3 3)))
  have ho : ∀ j, j ≠ 4 → j ≠ 5 → j ≠ 6 → j ≠ 7 → j ≠ 8 → j ≠ 9 → j ≠ 15 → (txR (h.1 3 1) L (h.1 3 0) ((textF h b d L).2.2 3 0 10) (h.1 3 3)).2.2.1 j = (tx0 L (h.1 3 0) ((textF h b d L).2.2 3 0 10) (h.1 3 3)).1 j := fun j a1 a2 a3 a4 a5 a6 a7 => (hok.1 j a1 a2 a3 a4 a5 a6 a7).trans (goP_o a1 a2 a3 a4)
  have ho2 : (txR (h.1 3 1) L (h.1 3 0) ((textF h b d L).2.2 3 0 10) (h.1 3 3)).2.2.1 2 = 0 := by
    rw [ho 2 (by decide) (by decide) (by decide) (by decide) (by decide) (by decide) (by decide)]
    show upd (upd (upd (upd (upd (h.1 3 0) 0 0) 2 0) 3 (nI L)) 4 0) 8 0 2 = 0
    rw [pk_un (by decide), pk_un (by decide), pk_un (by decide), pk_us]
  have ho14 : (txR (h.1 3 1) L (h.1 3 0) ((textF h b d L).2.2 3 0 10) (h.1 3 3)).2.2.1 14 = h.1 3 0 14 := by
    rw [ho 14 (by decide) (by decide) (by decide) (by decide) (by decide) (by decide) (by decide)]
    show upd (upd (upd (upd (upd (h.1 3 0) 0 0) 2 0) 3 (nI L)) 4 0) 8 0 14 = _
    rw [pk_un (by decide), pk_un (by decide), pk_un (by decide), pk_un (by decide), pk_un (by decide)]
  have ho8 : (txR (h.1 3 1) L (h.1 3 0) ((textF h b d L).2.2 3 0 10) (h.1 3 3)).1 = 1 → (txR (h.1 3 1) L (h.1 3 0) ((textF h b d L).2.2 3 0 10) (h.1 3 3)).2.2.1 8 = 0 := fun z => by
    have y : ¬ (txG (h.1 3 1) L 742 0 (goP (h.1 3 1) L (tx0 L (h.1 3 0) ((textF h b d L).2.2 3 0 10) (h.1 3 3)))).1 = 0 := by
      show ¬ (txR (h.1 3 1) L (h.1 3 0) ((textF h b d L).2.2 3 0 10) (h.1 3 3)).1 = 0
      rw [z]; decide
    refine (hok.2 y).trans ?_
    rw [goP_o (by decide) (by decide) (by decide) (by decide)]
    show upd (upd (upd (upd (upd (h.1 3 0) 0 0) 2 0) 3 (nI L)) 4 0) 8 0 8 = 0
    exact pk_us
  refine c10_text i1 i2 eb ed l1 l3 ⟨_, rfl, ?_⟩
  have hF3 : (textF h b d L).2.1 3 = h.1 3 := by
    unfold textF
    split
    · exact tH3
    · rw [← tH3]; funext k j; show (ui (ui (textH h d L) 0 0 4 (nI b)) 0 0 3 (nI d)).1 3 k j = _; rw [ui_b (by decide), ui_b (by decide)]
  refine c11_text (L := L) (by rw [hF3]; exact l2) l3 ?_
  unfold mText
  rw [hF3]
  generalize hRR : txR (h.1 3 1) L (h.1 3 0) ((textF h b d L).2.2 3 0 10) (h.1 3 3) = R at *
  unfold mTextX
  rcases hsim with ⟨c1, c2, c3, c4⟩ | ⟨c1, c2, c3, q', c4⟩
  · have eF : textF h b d L = (-1 - (textR h d L).2.1 0 4 9, textH h d L) := by unfold textF; rw [if_pos c2]
    rw [if_pos c1, eF]
    refine ⟨by rw [c4], b, d, nl, np, nq, nt, sm, ax, 0, ⟨i1, i2, i3, ?_, ?_, dx, dx10, ?_⟩, ⟨?_, ho2, by omega, fun p hp => absurd hp (Nat.not_lt_zero _)⟩, ?_, ?_, ?_, ?_, ?_, ⟨?_, r2, ?_, ?_, r5⟩, ?_⟩
    · rw [pH_b (by decide), tH00 3 (by decide)]; exact i4
    · rw [pH_b (by decide), tH00 4 (by decide)]; exact i5
    · rw [pH_b hd3, tHb d hd0]; exact hdn
    · rw [pH_b (by decide), tH1]; rfl
    · rw [pH_b (by decide), tH5, c3]; rfl
    · rw [pH_b (by decide)]; exact tHg
    · rw [pH_b hb3, tHb b hb0, hbb]
      show SR (h.1 b) ((textH h d L).1 3 2) nl np nq nt
      rw [tH3]; exact hS
    · show WN ((textH h d L).1 3 2) nl np nq nt (B + 9)
      rw [tH3]; exact hW.mono (by omega) h9
    · show ∀ j, 631 ≤ j → (textH h d L).1 3 2 j = 0
      rw [tH3]; exact hz
    · rw [pH_b hb3, tHb b hb0, hbb]; exact r1
    · rw [pH_b hb3, tHb b hb0, hbb]; exact r3
    · show R.2.2.1 14 = nI sm
      rw [ho14]; exact r4
    · rw [pH_b hb3, tHb b hb0, hbb]
      show RNG (h.1 b) ((textH h d L).1 3 4) ((textH h d L).1 3 2) nl np nq sm ax (B + 9)
      rw [tH3]; exact hR.mono (by omega) h9
  · have eF : textF h b d L = ((textR h d L).2.1 0 4 6, ui (ui (textH h d L) 0 0 4 (nI b)) 0 0 3 (nI d)) := by unfold textF; rw [if_neg (by rw [c2]; decide)]
    rw [if_neg (by rw [c1]; decide), eF]
    have h1b : ∀ b', b' ≠ 0 → (ui (ui (textH h d L) 0 0 4 (nI b)) 0 0 3 (nI d)).1 b' = (textR h d L).2.1 b' := fun b' hb' => by
      rw [← tHb b' hb']; funext k j; rw [ui_b hb', ui_b hb']
    have h2b : ∀ b', b' ≠ 3 → ∀ (N' : Nat → Int32), (setI (ui (ui (textH h d L) 0 0 4 (nI b)) 0 0 3 (nI d)) 3 2 N').1 b' = (ui (ui (textH h d L) 0 0 4 (nI b)) 0 0 3 (nI d)).1 b' := fun b' hb' N' => by
      funext k; exact setI_b hb'
    have hH3 : (ui (ui (textH h d L) 0 0 4 (nI b)) 0 0 3 (nI d)).1 3 = h.1 3 := by rw [h1b 3 (by decide), h3]
    obtain ⟨nl', np', nq', s1, s2⟩ := LB_SR (N := cpR 631 R.2.2.2.2 (h.1 3 2)) (B := B + 9) c4 h9 (fun j hj => if_pos hj)
    have hline : (textR h d L).2.1 0 4 6 = nI R.2.1 := c4.2.1
    have h314 : (textR h d L).2.1 d 31 4 = 0 := by
      obtain ⟨-, -, -, _, _, _, _, ⟨-, -, -, -, -, -, -, -, -, ⟨-, -, -, -, z⟩⟩, -⟩ := c4
      exact z
    refine ⟨by rw [hline], d, b, nl', np', nq', 0, 0, dx, 0, ⟨i2, i1, i3.symm, ?_, ?_, ax, r2, ?_⟩, ⟨?_, ?_, by omega, fun p hp => absurd hp (Nat.not_lt_zero _)⟩, ?_, ?_, ?_, ?_, ?_, ⟨?_, dx10, ?_, ?_, by omega⟩, fun i hi => absurd hi (Nat.not_lt_zero _)⟩
    · rw [pH_b (by decide), h2b 0 (by decide), ui_eq]
    · rw [pH_b (by decide), h2b 0 (by decide), ui_j (by decide), ui_eq]
    · rw [pH_b hb3, h2b b hb3, h1b b hb0, hbb]; exact r1
    · rw [pH_b (by decide), h2b 0 (by decide), ui_k (by decide), ui_k (by decide), tH1]; rfl
    · show upd R.2.2.1 14 0 2 = nI 0
      rw [pk_un (by decide), ho2]; rfl
    · rw [pH_b (by decide), h2b 0 (by decide), ui_j (by decide), ui_j (by decide), tH5, c3]
      show (0 : Int32) = upd R.2.2.1 14 0 8
      rw [pk_un (by decide), ho8 c1]
    · rw [pH_b (by decide), h2b 0 (by decide), show (ui (ui (textH h d L) 0 0 4 (nI b)) 0 0 3 (nI d)).1 0 11 = (textH h d L).1 0 11 from funext fun j => by rw [ui_k (by decide), ui_k (by decide)]]
      exact tHg
    · rw [pH_b hd3, h2b d hd3, h1b d hd0, pH_2, setI_f, hH3]; exact s1
    · rw [pH_2, setI_f, hH3]; exact s2
    · intro j hj
      rw [pH_2, setI_f, hH3]
      exact (if_neg (by omega)).trans (hz j hj)
    · rw [pH_b hd3, h2b d hd3, h1b d hd0]; exact hdn
    · rw [pH_b hd3, h2b d hd3, h1b d hd0, h314]; rfl
    · show upd R.2.2.1 14 0 14 = nI 0
      rw [pk_us]; rfl
