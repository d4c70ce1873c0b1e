/-! THE COUPLING of class and reference -/
def rowS (S : Nat → Int32) (i : Nat) : Nat → Int32 := fun j => if j < 631 then S (631 * i + j) else 0
def sl (ax sm i : Nat) : Nat := (ax + 10 - sm + i) % 10
def nxt (S N : Nat → Int32) (sm i : Nat) : Nat → Int32 := if i + 1 < sm then rowS S (i + 1) else N
def RNG (H : Nat → Nat → Int32) (S N : Nat → Int32) (nl np nq sm ax B : Nat) : Prop := ∀ i, i < sm → WN (rowS S i) nl np nq (cT (rowS S i)) B ∧ LNK nl np nq (H 32 (sl ax sm i)) (H 33 (sl ax sm i)) (H 34 (sl ax sm i)) (rowS S i) (nxt S N sm i)
def CX (h : AH) (b d nl np nq nt sm ax L B : Nat) : Prop :=
  (isB b ∧ isB d ∧ b ≠ d ∧ h.1 0 0 3 = nI b ∧ h.1 0 0 4 = nI d ∧ ∃ dx, dx < 10 ∧ h.1 d 31 3 = nI dx) ∧
  (h.1 0 1 1 = nI L ∧ h.1 3 0 2 = nI L ∧ L ≤ 740 ∧ ∀ p, p < L → h.1 3 1 p = h.1 0 2 p &&& 255) ∧
  h.1 0 0 5 = h.1 3 0 8 ∧ rngG (h.1 0 11) ∧
  SR (h.1 b) (h.1 3 2) nl np nq nt ∧ WN (h.1 3 2) nl np nq nt B ∧ (∀ j, 631 ≤ j → h.1 3 2 j = 0) ∧
  (h.1 b 31 3 = nI ax ∧ ax < 10 ∧ h.1 b 31 4 = nI sm ∧ h.1 3 0 14 = nI sm ∧ sm ≤ 10) ∧ RNG (h.1 b) (h.1 3 4) (h.1 3 2) nl np nq sm ax B
def CPL (h : AH) (B : Nat) : Prop := ∃ b d nl np nq nt sm ax L, CX h b d nl np nq nt sm ax L B
section
variable {h : AH} {b d nl np nq nt sm ax L B : Nat}
theorem CX.WB (hC : CX h b d nl np nq nt sm ax L B) : WB h b nl np nq nt ax sm := by
  obtain ⟨⟨h1, h2, h3, h4, h5, -⟩, -, -, -, hS, hW, -, ⟨r1, r2, r3, r4, r5⟩, -⟩ := hC
  refine ⟨h1, ?_, hS.1.1, hW.1.2.1, hS.1.2.1, hW.1.2.2.2.1, hS.1.2.2.1, hW.1.2.2.2.2.2.1, hS.1.2.2.2.1, hW.1.2.2.2.2.2.2.2, r1, r2, r3, r5⟩
  rw [h4]
  rcases h1 with rfl | rfl <;> exact nI_clamp (by omega)
theorem CX.WM (hC : CX h b d nl np nq nt sm ax L B) : WM h nl np nq nt sm := by
  obtain ⟨-, -, -, -, hS, hW, -, ⟨r1, r2, r3, r4, r5⟩, -⟩ := hC
  exact ⟨hW.1.1, hW.1.2.1, hW.1.2.2.1, hW.1.2.2.2.1, hW.1.2.2.2.2.1, hW.1.2.2.2.2.2.1, hW.1.2.2.2.2.2.2.1, hW.1.2.2.2.2.2.2.2, r4, r5, fun k hk => hW.pl hk, hW.TW⟩
theorem CX.b3 (hC : CX h b d nl np nq nt sm ax L B) : b ≠ 3 ∧ b ≠ 0 ∧ d ≠ 3 ∧ d ≠ 0 := by
  obtain ⟨⟨h1, h2, -⟩, -⟩ := hC
  rcases h1 with rfl | rfl <;> rcases h2 with rfl | rfl <;> decide
theorem RNG.mono {H : Nat → Nat → Int32} {S N : Nat → Int32} {B2 : Nat} (h : RNG H S N nl np nq sm ax B) (hB : B ≤ B2) (h9 : B2 ≤ 9000) : RNG H S N nl np nq sm ax B2 := fun i hi => ⟨(h i hi).1.mono hB h9, (h i hi).2⟩
/-- what only tells leaves the coupling as it is -/
theorem CX.same (hC : CX h b d nl np nq nt sm ax L B) {h2 : AH} {B2 : Nat} (hB : B ≤ B2) (h9 : B2 ≤ 9000) (e1 : h2.1 1 = h.1 1) (e2 : h2.1 2 = h.1 2) (e00 : h2.1 0 0 = h.1 0 0) (e01 : h2.1 0 1 = h.1 0 1) (e02 : h2.1 0 2 = h.1 0 2) (eg : rngG (h2.1 0 11)) (e31 : h2.1 3 1 = h.1 3 1) (e32 : h2.1 3 2 = h.1 3 2) (e34 : h2.1 3 4 = h.1 3 4) (f2 : h2.1 3 0 2 = h.1 3 0 2) (f8 : h2.1 3 0 8 = h.1 3 0 8) (f14 : h2.1 3 0 14 = h.1 3 0 14) : CX h2 b d nl np nq nt sm ax L B2 := by
  obtain ⟨⟨h1, h2', h3, h4, h5, h6⟩, ⟨l1, l2, l3, l4⟩, hf, -, hS, hW, hz, ⟨r1, r2, r3, r4, r5⟩, hR⟩ := hC
  have eb : h2.1 b = h.1 b := by rcases h1 with rfl | rfl <;> assumption
  have ed : h2.1 d = h.1 d := by rcases h2' with rfl | rfl <;> assumption
  refine ⟨⟨h1, h2', h3, by rw [e00]; exact h4, by rw [e00]; exact h5, by rw [ed]; exact h6⟩, ⟨by rw [e01]; exact l1, by rw [f2]; exact l2, l3, by rw [e31, e02]; exact l4⟩, by rw [e00, f8]; exact hf, eg, by rw [eb, e32]; exact hS, by rw [e32]; exact hW.mono hB h9, by rw [e32]; exact hz, ⟨by rw [eb]; exact r1, r2, by rw [eb]; exact r3, by rw [f14]; exact r4, r5⟩, by rw [eb, e32, e34]; exact hR.mono hB h9⟩
theorem CX.thr (hC : CX h b d nl np nq nt sm ax L B) {v : Int32} : CX (ui h 3 0 0 v) b d nl np nq nt sm ax L B := by
  refine hC.same (Nat.le_refl _) hC.2.2.2.2.2.1.2.2.2.2.2.2 ?_ ?_ ?_ ?_ ?_ ?_ ?_ ?_ ?_ ?_ ?_ ?_
  · funext k j; exact ui_b (by decide)
  · funext k j; exact ui_b (by decide)
  · funext j; exact ui_b (by decide)
  · funext j; exact ui_b (by decide)
  · funext j; exact ui_b (by decide)
  · rw [show (ui h 3 0 0 v).1 0 11 = h.1 0 11 from funext fun j => ui_b (by decide)]; exact hC.2.2.2.1
  · funext j; exact ui_k (by decide)
  · funext j; exact ui_k (by decide)
  · funext j; exact ui_k (by decide)
  · exact ui_j (by decide)
  · exact ui_j (by decide)
  · exact ui_j (by decide)
/-! a new act -/
theorem rowS_sn {S N : Nat → Int32} (hz : ∀ j, 631 ≤ j → N j = 0) (hs : sm ≤ 10) {i : Nat} (hi : i < snapM sm) : rowS (snapS S N sm) i = if i + 1 = snapM sm then N else rowS S (if sm = 10 then i + 1 else i) := by
  unfold snapM snapS at *
  funext j
  by_cases e : sm = 10
  · rw [if_pos e] at hi ⊢
    rw [if_pos e, if_pos e]
    unfold rowS puS shS
    by_cases c : j < 631
    · rw [if_pos c]
      by_cases c2 : i + 1 = 10
      · rw [if_pos c2, if_pos (by omega), show 631 * i + j - 631 * 9 = j by omega]
      · rw [if_neg c2, if_neg (by omega), if_pos (by omega), if_pos c, show 631 * i + j + 631 = 631 * (i + 1) + j by omega]
    · rw [if_neg c]
      by_cases c2 : i + 1 = 10
      · rw [if_pos c2, hz j (by omega)]
      · rw [if_neg c2, if_neg c]
  · rw [if_neg e] at hi ⊢
    rw [if_neg e, if_neg e]
    unfold rowS puS
    by_cases c : j < 631
    · rw [if_pos c]
      by_cases c2 : i + 1 = sm + 1
      · rw [if_pos c2, if_pos (by omega), show 631 * i + j - 631 * sm = j by omega]
      · rw [if_neg c2, if_neg (by omega), if_pos c]
    · rw [if_neg c]
      by_cases c2 : i + 1 = sm + 1
      · rw [if_pos c2, hz j (by omega)]
      · rw [if_neg c2, if_neg c]
theorem RNG.push {H H' : Nat → Nat → Int32} {S N N' : Nat → Int32} {kd wh am : Int32} (hR : RNG H S N nl np nq sm ax B) (hs : sm ≤ 10) (hax : ax < 10) (hz : ∀ j, 631 ≤ j → N j = 0) (hW : WN N nl np nq nt B) (hL : LNK nl np nq kd wh am N N')
    (h32 : ∀ j, H' 32 j = if j = ax then kd else H 32 j) (h33 : ∀ j, H' 33 j = if j = ax then wh else H 33 j) (h34 : ∀ j, H' 34 j = if j = ax then am else H 34 j) : RNG H' (snapS S N sm) N' nl np nq (snapM sm) ((ax + 1) % 10) B := by
  intro i hi
  rw [rowS_sn hz hs hi]
  by_cases e : i + 1 = snapM sm
  · have hsl : sl ((ax + 1) % 10) (snapM sm) i = ax := by
      unfold sl snapM at *
      by_cases c : sm = 10
      · rw [if_pos c] at e ⊢; omega
      · rw [if_neg c] at e ⊢; omega
    rw [if_pos e, hsl, h32, h33, h34, if_pos rfl, if_pos rfl, if_pos rfl, hW.ct, show nxt (snapS S N sm) N' (snapM sm) i = N' from if_neg (by omega)]
    exact ⟨hW, hL⟩
  · rw [if_neg e]
    have hi2 : (if sm = 10 then i + 1 else i) < sm := by
      unfold snapM at *
      by_cases c : sm = 10
      · rw [if_pos c] at *; omega
      · rw [if_neg c] at *; omega
    obtain ⟨a1, a2⟩ := hR _ hi2
    refine ⟨a1, ?_⟩
    have hsl : sl ((ax + 1) % 10) (snapM sm) i = sl ax sm (if sm = 10 then i + 1 else i) := by
      unfold sl snapM at *
      by_cases c : sm = 10
      · rw [if_pos c] at *; rw [if_pos c]; omega
      · rw [if_neg c] at *; rw [if_neg c]; omega
    have hne : ¬ sl ax sm (if sm = 10 then i + 1 else i) = ax := by
      unfold sl snapM at *
      by_cases c : sm = 10
      · rw [if_pos c] at *; omega
      · rw [if_neg c] at *; omega
    have hnx : nxt (snapS S N sm) N' (snapM sm) i = nxt S N sm (if sm = 10 then i + 1 else i) := by
      unfold nxt
      rw [if_pos (by omega), rowS_sn hz hs (by omega)]
      by_cases c2 : i + 1 + 1 = snapM sm
      · rw [if_pos c2, if_neg]
        unfold snapM at c2
        by_cases c : sm = 10
        · rw [if_pos c] at c2 ⊢; omega
        · rw [if_neg c] at c2 ⊢; omega
      · rw [if_neg c2]
        have : (if sm = 10 then i + 1 else i) + 1 < sm := by
          unfold snapM at *
          by_cases c : sm = 10
          · rw [if_pos c] at *; omega
          · rw [if_neg c] at *; omega
        rw [if_pos this]
        by_cases c : sm = 10
        · rw [if_pos c, if_pos c]
        · rw [if_neg c, if_neg c]
    rw [hsl, h32, h33, h34, if_neg hne, if_neg hne, if_neg hne, hnx]
    exact a2
theorem keep_cells {g : AH} {kd wh am : Int32} (h3 : g.1 b 31 3 = nI ax) (h4 : g.1 b 31 4 = nI sm) (hax : ax < 10) (hs : sm ≤ 10) :
    (keepF g b kd wh am).1 b 31 3 = nI ((ax + 1) % 10) ∧ (keepF g b kd wh am).1 b 31 4 = nI (snapM sm) ∧ (∀ j, (keepF g b kd wh am).1 b 32 j = if j = ax then kd else g.1 b 32 j) ∧ (∀ j, (keepF g b kd wh am).1 b 33 j = if j = ax then wh else g.1 b 33 j) ∧ (∀ j, (keepF g b kd wh am).1 b 34 j = if j = ax then am else g.1 b 34 j) := by
  unfold keepF
  rw [h3, h4, nI_clamp (by omega), nI_1, nI_1, show nI (ax + 1) - nI (ax + 1) / 10 * 10 = nI ((ax + 1) % 10) from pk_rem (d := 10) (by omega) (by omega) (by omega)]
  refine ⟨by simp [ui], ?_, fun j => ?_, fun j => ?_, fun j => ?_⟩
  · rw [ui_eq]
    unfold snapM
    by_cases c : sm = 10
    · subst c; rfl
    · rw [if_neg c, if_neg (show ¬ (10 : Int32) < nI (sm + 1) from nI_nlt (b := sm + 1) (a := 10) (by omega) (by omega))]
  · rw [ui_k (by omega), ui_k (by omega), ui_k (by omega), ui_k (by omega)]
    by_cases c : j = ax
    · subst c; rw [ui_eq, if_pos rfl]
    · rw [ui_j c, if_neg c]
  · rw [ui_k (by omega), ui_k (by omega), ui_k (by omega)]
    by_cases c : j = ax
    · subst c; rw [ui_eq, if_pos rfl]
    · rw [ui_j c, if_neg c, ui_k (by omega)]
  · rw [ui_k (by omega), ui_k (by omega)]
    by_cases c : j = ax
    · subst c; rw [ui_eq, if_pos rfl]
    · rw [ui_j c, if_neg c, ui_k (by omega), ui_k (by omega)]
/-- an act of both -/
theorem CX.push (hC : CX h b d nl np nq nt sm ax L B) {g h2 : AH} {N' : Nat → Int32} {kd wh am : Int32} {nt' B2 : Nat} (hB : B ≤ B2) (h9 : B2 ≤ 9000)
    (gk : ∀ k, 31 ≤ k → g.1 b k = h.1 b k) (gd : g.1 d = h.1 d) (g0 : g.1 0 0 = h.1 0 0) (g1 : g.1 0 1 = h.1 0 1) (g2 : g.1 0 2 = h.1 0 2) (gg : rngG (g.1 0 11))
    (hS : SR (g.1 b) N' nl np nq nt') (hW : WN N' nl np nq nt' B2) (hL : LNK nl np nq kd wh am (h.1 3 2) N') (hz : ∀ j, 631 ≤ j → N' j = 0)
    (e : ∀ b', b' ≠ 3 → h2.1 b' = (keepF g b kd wh am).1 b') (e31 : h2.1 3 1 = h.1 3 1) (e32 : h2.1 3 2 = N') (e34 : h2.1 3 4 = snapS (h.1 3 4) (h.1 3 2) sm) (f2 : h2.1 3 0 2 = h.1 3 0 2) (f8 : h2.1 3 0 8 = h.1 3 0 8) (f14 : h2.1 3 0 14 = nI (snapM sm)) : CX h2 b d nl np nq nt' (snapM sm) ((ax + 1) % 10) L B2 := by
  obtain ⟨hb3, hb0, hd3, hd0⟩ := hC.b3
  obtain ⟨⟨h1, h2', h3, h4, h5, h6⟩, ⟨l1, l2, l3, l4⟩, hf, -, -, hW1, hz1, ⟨r1, r2, r3, r4, r5⟩, hR⟩ := hC
  have k0 : h2.1 0 = g.1 0 := by rw [e 0 (by decide), keepF_b hb0.symm]
  have kd' : h2.1 d = h.1 d := by rw [e d hd3, keepF_b h3.symm, gd]
  obtain ⟨c3, c4, c32, c33, c34⟩ := keep_cells (g := g) (b := b) (kd := kd) (wh := wh) (am := am) (ax := ax) (sm := sm) (by rw [gk 31 (by omega)]; exact r1) (by rw [gk 31 (by omega)]; exact r3) r2 r5
  refine ⟨⟨h1, h2', h3, by rw [k0, g0]; exact h4, by rw [k0, g0]; exact h5, by rw [kd']; exact h6⟩, ⟨by rw [k0, g1]; exact l1, by rw [f2]; exact l2, l3, by rw [e31, k0, g2]; exact l4⟩, by rw [k0, g0, f8]; exact hf, by rw [k0]; exact gg, by rw [e b hb3, e32]; exact keepF_S hS, by rw [e32]; exact hW, by rw [e32]; exact hz, ⟨by rw [e b hb3]; exact c3, by omega, by rw [e b hb3]; exact c4, f14, by unfold snapM; split <;> omega⟩, ?_⟩
  rw [e b hb3, e32, e34]
  exact (hR.mono hB h9).push r5 r2 hz1 (hW1.mono hB h9) hL (fun j => by rw [c32, gk 32 (by omega)]) (fun j => by rw [c33, gk 33 (by omega)]) (fun j => by rw [c34, gk 34 (by omega)])
end
/-! undo -/
def frU (h2 h : AH) (b : Nat) : Prop := (∀ b' k j, (b' ≠ b ∨ 31 ≤ k) → h2.1 b' k j = h.1 b' k j) ∧ h2.2 = h.2
theorem frU.rf {h : AH} {b : Nat} : frU h h b := ⟨fun _ _ _ _ => rfl, rfl⟩
theorem frU.ui {h2 h : AH} {b k j : Nat} {v : Int32} (hf : frU h2 h b) (hk : k < 31) : frU (ui h2 b k j v) h b := ⟨fun b' k' j' hn => by
  rw [← hf.1 b' k' j' hn]
  rcases hn with hn | hn
  · exact ui_b hn
  · exact ui_k (by omega), hf.2⟩
theorem giveF_fr {h2 h : AH} {b : Nat} {x la t : Int32} (hf : frU h2 h b) : frU (giveF h2 b x la t) h b := by
  unfold giveF
  split
  · exact hf
  · dsimp only
    split
    · split
      · exact (hf.ui (by omega)).ui (by omega)
      · exact (hf.ui (by omega)).ui (by omega)
    · exact hf.ui (by omega)
theorem waitF_fr {h2 h : AH} {b : Nat} {x : Int32} (hf : frU h2 h b) : frU (waitF h2 b x) h b := by
  unfold waitF
  split
  · exact hf
  · split
    · exact hf
    · exact (((hf.ui (by omega)).ui (by omega)).ui (by omega)).ui (by omega)
theorem callF_fr {h : AH} {b : Nat} {x : Int32} : ∀ n, frU (callF h b x n) h b
  | 0 => frU.rf
  | n + 1 => by
    show frU (if (x >>> (nI n &&& 31)) &&& 1 = 0 then callF h b x n else if isOutF (callF h b x n) b (nI n) = 0 then callF h b x n else waitF (callF h b x n) b ((callF h b x n).1 b 18 n)) h b
    split
    · exact callF_fr n
    · split
      · exact callF_fr n
      · exact waitF_fr (callF_fr n)
theorem undoF_fr {h : AH} {b n : Nat} {act wh am : Int32} : frU (undoF h b act wh am n) h b := by
  unfold undoF
  split
  · unfold tbTripF
    split
    · exact frU.rf
    · split
      · exact frU.rf
      · exact (frU.rf.ui (by omega)).ui (by omega)
  · split
    · exact callF_fr n
    · split
      · unfold reopF
        split
        · exact frU.rf
        · split
          · exact frU.rf
          · exact (((giveF_fr (((frU.rf.ui (by omega)).ui (by omega)).ui (by omega))).ui (by omega)).ui (by omega)).ui (by omega)
      · split
        · unfold tbMisF
          split
          · exact frU.rf
          · exact frU.rf.ui (by omega)
        · split
          · unfold moveF
            split
            · exact frU.rf
            · exact (frU.rf.ui (by omega)).ui (by omega)
          · exact frU.rf.ui (by omega)
theorem takeX_n {ax : Nat} (h : ax < 10) : takeX (nI ax) = nI ((ax + 9) % 10) := by
  unfold takeX
  rcases Nat.lt_or_ge 0 ax with c | c
  · rw [if_pos (show (0 : Int32) < nI ax from nI_lt (a := 0) c (by omega)), show nI ax + 10 = nI (ax + 9 + 1) from nI_add ax 10, nI_pred, show nI (ax + 9) - nI (ax + 9) / 10 * 10 = nI ((ax + 9) % 10) from pk_rem (d := 10) (by omega) (by omega) (by omega)]
  · obtain rfl : ax = 0 := by omega
    rfl
theorem step_undo {h : AH} {b d nl np nq nt sm ax L B : Nat} (hC : CX h b d nl np nq nt sm ax L B) : (undF h b nq).1 = (mUndo (undF h b nq).2 sm).1 ∧ CPL (mUndo (undF h b nq).2 sm).2 B ∧ (undF h b nq).2.1 3 0 14 = nI sm := by
  have hC0 := hC
  obtain ⟨hb3, hb0, hd3, hd0⟩ := hC.b3
  obtain ⟨⟨h1, h2', h3, h4, h5, h6⟩, ⟨l1, l2, l3, l4⟩, hf, hg, hS, hW1, hz1, ⟨r1, r2, r3, r4, r5⟩, hR⟩ := hC
  unfold undF mUndo
  rcases Nat.lt_or_ge 0 sm with c | c
  · rw [r3, if_pos (show (0 : Int32) < nI sm from nI_lt (a := 0) c (by omega)), if_neg (by omega)]
    have hx : undS h b = (ax + 9) % 10 := by unfold undS; rw [r1, takeX_n r2, nI_clamp (by omega)]
    have hsl : sl ax sm (sm - 1) = (ax + 9) % 10 := by unfold sl; omega
    have hfr : frU (undH h b nq) (takeF h b) b := undoF_fr
    have hT3 : ∀ k j, (undH h b nq).1 3 k j = h.1 3 k j := fun k j => by rw [hfr.1 3 k j (Or.inl hb3.symm)]; unfold takeF; rw [ui_b hb3.symm, ui_b hb3.symm]
    have hT3' : (undH h b nq).1 3 = h.1 3 := funext fun k => funext fun j => hT3 k j
    have hT0 : (undH h b nq).1 0 = h.1 0 := funext fun k => funext fun j => by rw [hfr.1 0 k j (Or.inl hb0.symm)]; unfold takeF; rw [ui_b hb0.symm, ui_b hb0.symm]
    have hTd : (undH h b nq).1 d = h.1 d := funext fun k => funext fun j => by rw [hfr.1 d k j (Or.inl h3.symm)]; unfold takeF; rw [ui_b h3.symm, ui_b h3.symm]
    have hTb : ∀ k j, 31 ≤ k → (undH h b nq).1 b k j = (takeF h b).1 b k j := fun k j hk => hfr.1 b k j (Or.inr hk)
    have h314 : (undH h b nq).1 b 31 4 = nI (sm - 1) := by
      rw [hTb 31 4 (by omega)]; unfold takeF; rw [ui_eq, r3]
      rw [show nI sm = nI (sm - 1 + 1) by congr 1; omega, nI_pred]
    have h313 : (undH h b nq).1 b 31 3 = nI ((ax + 9) % 10) := by
      rw [hTb 31 3 (by omega)]; unfold takeF; rw [ui_j (by omega), ui_eq, r1, takeX_n r2]
    have hgt : ∀ k, 32 ≤ k → (undH h b nq).1 b k = h.1 b k := fun k hk => funext fun j => by rw [hTb k j (by omega)]; unfold takeF; rw [ui_k (by omega), ui_k (by omega)]
    have hrow : cpN 631 (sm - 1) ((undH h b nq).1 3 2) ((undH h b nq).1 3 4) = rowS (h.1 3 4) (sm - 1) := by
      rw [hT3']
      funext j
      unfold cpN rowS
      by_cases z : j < 631
      · rw [if_pos z, if_pos z]
      · rw [if_neg z, if_neg z, hz1 j (by omega)]
    obtain ⟨w1, w2⟩ := hR (sm - 1) (by omega)
    have hnx : nxt (h.1 3 4) (h.1 3 2) sm (sm - 1) = h.1 3 2 := if_neg (by omega)
    rw [hnx, hsl] at w2
    have hS1 : SR ((takeF h b).1 b) (h.1 3 2) nl np nq (cT (h.1 3 2)) := by
      rw [hW1.ct]
      exact hS.cells (fun k hk => funext fun j => by unfold takeF; rw [ui_k (by omega), ui_k (by omega)])
    have hS2 : SR ((undH h b nq).1 b) (rowS (h.1 3 4) (sm - 1)) nl np nq (cT (rowS (h.1 3 4) (sm - 1))) := by
      unfold undH
      rw [hx]
      exact w2 (takeF h b) b hS1
    refine ⟨by rw [h314], ?_, by rw [hT3]; exact r4⟩
    dsimp only
    rw [hrow]
    have hN3 : ∀ (s : Int32) b', b' ≠ 3 → (nH (ui (undH h b nq) 3 0 0 0) (rowS (h.1 3 4) (sm - 1)) ((undH h b nq).1 3 4) s).1 b' = (undH h b nq).1 b' := fun s b' hb' => funext fun k => funext fun j => by
      show (if b' = 3 then _ else (ui (undH h b nq) 3 0 0 0).1 b' k j) = _
      rw [if_neg hb', ui_b hb']
    refine ⟨b, d, nl, np, nq, cT (rowS (h.1 3 4) (sm - 1)), sm - 1, (ax + 9) % 10, L, ⟨h1, h2', h3, ?_, ?_, ?_⟩, ⟨?_, ?_, l3, ?_⟩, ?_, ?_, ?_, w1, ?_, ⟨?_, by omega, ?_, rfl, by omega⟩, ?_⟩
    · rw [hN3 _ 0 (by decide), hT0]; exact h4
    · rw [hN3 _ 0 (by decide), hT0]; exact h5
    · rw [hN3 _ d hd3, hTd]; exact h6
    · rw [hN3 _ 0 (by decide), hT0]; exact l1
    · rw [← l2]; show (ui (undH h b nq) 3 0 0 0).1 3 0 2 = _; rw [ui_j (by decide), hT3]
    · intro p hp
      rw [hN3 _ 0 (by decide), hT0, ← l4 p hp]
      show (ui (undH h b nq) 3 0 0 0).1 3 1 p = _; rw [ui_k (by decide), hT3]
    · rw [hN3 _ 0 (by decide), hT0, hf]
      show _ = (ui (undH h b nq) 3 0 0 0).1 3 0 8
      rw [ui_j (by decide), hT3]
    · rw [hN3 _ 0 (by decide), hT0]; exact hg
    · rw [hN3 _ b hb3]; exact hS2
    · intro j hj
      show rowS (h.1 3 4) (sm - 1) j = 0
      exact if_neg (by omega)
    · rw [hN3 _ b hb3]; exact h313
    · rw [hN3 _ b hb3]; exact h314
    · rw [hN3 _ b hb3]
      show RNG _ ((undH h b nq).1 3 4) (rowS (h.1 3 4) (sm - 1)) _ _ _ _ _ _
      rw [hT3']
      intro i hi
      obtain ⟨a1, a2⟩ := hR i (by omega)
      refine ⟨a1, ?_⟩
      have e1 : sl ((ax + 9) % 10) (sm - 1) i = sl ax sm i := by unfold sl; omega
      have e2 : nxt (h.1 3 4) (rowS (h.1 3 4) (sm - 1)) (sm - 1) i = nxt (h.1 3 4) (h.1 3 2) sm i := by
        unfold nxt
        rw [if_pos (show i + 1 < sm by omega)]
        by_cases z : i + 1 < sm - 1
        · rw [if_pos z]
        · rw [if_neg z, show sm - 1 = i + 1 by omega]
      rw [e1, e2, hgt 32 (by omega), hgt 33 (by omega), hgt 34 (by omega)]
      exact a2
  · obtain rfl : sm = 0 := by omega
    rw [r3, if_neg (show ¬ (0 : Int32) < nI 0 from by decide), if_pos rfl]
    exact ⟨rfl, ⟨b, d, nl, np, nq, nt, 0, ax, L, hC0.thr⟩, r4⟩
