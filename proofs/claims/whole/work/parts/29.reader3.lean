theorem sortW_c (h : AH) : sortW h = 0 ∨ sortW h = 1 ∨ sortW h = 2 ∨ sortW h = 3 ∨ sortW h = 4 := by
  unfold sortW
  repeat' split
  all_goals simp
theorem beg_RJ {h : AH} {b : Nat} (hj : RJ h b) (h1 : ¬ (begF h b).1 = 0) : RJ (begF h b).2 b := by
  obtain ⟨j1, ⟨j2, j3, j4⟩, ⟨j5, j6, j7⟩, j8, j9⟩ := hj
  unfold begF at h1 ⊢
  by_cases a1 : sortW h = 0
  · simp [a1] at h1
  rw [if_neg a1] at h1 ⊢
  by_cases a2 : (sortW h = 1 ↔ h.1 0 4 6 = 0)
  · rw [if_pos a2] at h1 ⊢
    by_cases a3 : (sortW h = 2 ∧ 28 ≤ h.1 0 4 7) ∨ (sortW h = 3 ∧ 6 ≤ h.1 b 3 11) ∨ (sortW h = 4 ∧ ¬ h.1 b 15 5 < 8)
    · rw [if_pos a3] at h1
      exact absurd rfl h1
    · rw [if_neg a3]
      simp only [RJ]
      simp (disch := decide) only [ui_eq, ui_k, ui_j]
      refine ⟨j1, ⟨j2, j3, fun q => ?_⟩, ⟨j5, j6, fun q => ?_⟩, sortW_c h, fun _ => Or.inl (by trivial)⟩
      · exact toInt_nle (n := 6) (fun z => a3 (Or.inr (Or.inl ⟨q, z⟩)))
      · exact toInt_lt' (n := 8) (Decidable.byContradiction fun z => a3 (Or.inr (Or.inr ⟨q, z⟩)))
  · rw [if_neg a2] at h1
    exact absurd rfl h1
theorem putNF_f {h : AH} {x : Int32} {b k j : Nat} (h1 : k ≠ 4) (h2 : k ≠ 5) : (putNF h x).1 b k j = h.1 b k j := by
  unfold putNF
  rw [ui_k h1]
  split
  · rfl
  · split
    · rfl
    · rw [ui_k h2]
theorem putNF_4 {h : AH} {x : Int32} {b j : Nat} (hj : j ≠ 3) : (putNF h x).1 b 4 j = h.1 b 4 j := by
  unfold putNF
  rw [ui_j hj]
  split
  · rfl
  · split
    · rfl
    · rw [ui_k (by decide)]
theorem kind_RJ {h : AH} {b : Nat} (hj : RJ h b) (hs : h.1 0 4 2 = 3) (h1 : ¬ (kindF h).1 = 0) : RJ (kindF h).2 b := by
  obtain ⟨j1, j2, j3, j8, j9⟩ := hj
  unfold kindF at h1 ⊢
  by_cases a1 : kindW h = -1
  · rw [if_pos a1] at h1
    exact absurd rfl h1
  rw [if_neg a1] at h1 ⊢
  by_cases a2 : kindW h = 2
  · rw [if_pos a2]
    simp only [RJ]
    simp (disch := decide) only [ui_eq, ui_k, ui_j]
    exact ⟨j1, j2, j3, j8, fun q => absurd (hs.symm.trans q) (by decide)⟩
  · rw [if_neg a2]
    simp only [RJ]
    simp (disch := decide) only [putNF_f, putNF_4, ui_eq, ui_k, ui_j]
    exact ⟨j1, j2, j3, j8, fun q => absurd (hs.symm.trans q) (by decide)⟩
theorem whol_1 {h : AH} (h1 : h.1 0 4 2 = 1) (h2 : ¬ wholF h = 0) : ¬ h.1 0 4 3 = 0 := by
  intro q
  apply h2
  unfold wholF meanF
  rw [h1, q]
  rw [if_neg (by decide), if_pos rfl, if_pos rfl, if_neg (by decide)]
theorem end_RJ {h : AH} {b : Nat} (hb : isB b) (hj : RJ h b) (hs0 : ¬ h.1 0 4 2 = 0) (hw : ¬ wholF h = 0) : RJ (endF h b) b := by
  have hb0 := isB0' hb
  have hb1 := isB0 hb
  obtain ⟨j1, ⟨j2, j3, j4⟩, ⟨j5, j6, j7⟩, j8, j9⟩ := hj
  unfold endF
  simp only [RJ]
  simp (disch := decide) only [ui_eq, ui_k, ui_j]
  have z0 : ∀ P : Prop, (0 : Int32) = 3 → P := fun _ q => absurd q (by decide)
  have z1 : ∀ P : Prop, (0 : Int32) = 4 → P := fun _ q => absurd q (by decide)
  have z2 : ∀ P : Prop, (0 : Int32) = 1 → P := fun _ q => absurd q (by decide)
  rcases j8 with q | q | q | q | q
  · exact absurd q hs0
  · rw [q]
    simp only [if_true]
    simp (disch := first | decide | assumption) only [ui_eq, ui_k, ui_j, ui_b]
    have hf := whol_1 q hw
    exact ⟨(j9 q).resolve_left hf, ⟨j2, j3, z0 _⟩, ⟨j5, j6, z1 _⟩, Or.inl (by trivial), z2 _⟩
  · rw [q]
    simp only [show ¬ (2 : Int32) = 1 from by decide, if_true, if_false]
    simp (disch := first | decide | assumption) only [ui_eq, ui_k, ui_j, ui_b]
    have e1 : ∀ k j, k ≠ 2 → k ≠ 1 → (addBF h b (h.1 0 5 0) (h.1 0 5 1)).1 b k j = h.1 b k j := by
      intro k j h1 h2
      unfold addBF
      repeat' split
      · rfl
      · rfl
      · rfl
      · simp only []
        rw [ui_k h2, ui_k h1, ui_k h1]
    have e2 : (addBF h b (h.1 0 5 0) (h.1 0 5 1)).1 b 1 1 = h.1 b 1 1 := by
      unfold addBF
      repeat' split
      · rfl
      · rfl
      · rfl
      · simp only []
        rw [ui_j (by decide), ui_k (by decide), ui_k (by decide)]
    rw [e1 3 11 (by decide) (by decide), e1 15 5 (by decide) (by decide), e2]
    exact ⟨j1, ⟨j2, j3, z0 _⟩, ⟨j5, j6, z1 _⟩, Or.inl (by trivial), z2 _⟩
  · rw [q]
    simp only [show ¬ (3 : Int32) = 1 from by decide, show ¬ (3 : Int32) = 2 from by decide, show ¬ (3 : Int32) = 4 from by decide, if_false]
    have e1 : (addP h b (h.1 0 4 4) (h.1 0 4 5)).1 b 3 11 = h.1 b 3 11 + 1 := by unfold addP; rw [ui_eq]
    have e2 : (addP h b (h.1 0 4 4) (h.1 0 4 5)).1 b 1 1 = h.1 b 1 1 := by unfold addP; simp (disch := decide) only [ui_k]
    have e3 : (addP h b (h.1 0 4 4) (h.1 0 4 5)).1 b 15 5 = h.1 b 15 5 := by unfold addP; simp (disch := decide) only [ui_k]
    have h6 := j4 q
    rw [e1, e2, e3, add1_toInt (by omega) (by omega)]
    exact ⟨j1, ⟨by omega, by omega, z0 _⟩, ⟨j5, j6, z1 _⟩, Or.inl (by trivial), z2 _⟩
  · rw [q]
    simp only [show ¬ (4 : Int32) = 1 from by decide, show ¬ (4 : Int32) = 2 from by decide, if_true, if_false]
    have e1 : (addQ h b (h.1 0 5 0) (h.1 0 5 1)).1 b 15 5 = h.1 b 15 5 + 1 := by unfold addQ; rw [ui_eq]
    have e2 : (addQ h b (h.1 0 5 0) (h.1 0 5 1)).1 b 1 1 = h.1 b 1 1 := by unfold addQ; simp (disch := decide) only [ui_k]
    have e3 : (addQ h b (h.1 0 5 0) (h.1 0 5 1)).1 b 3 11 = h.1 b 3 11 := by unfold addQ; simp (disch := decide) only [ui_k]
    have h6 := j7 q
    rw [e1, e2, e3, add1_toInt (by omega) (by omega)]
    exact ⟨j1, ⟨j2, j3, z0 _⟩, ⟨by omega, by omega, z1 _⟩, Or.inl (by trivial), z2 _⟩
theorem num_RJ {h : AH} {b : Nat} (hj : RJ h b) (hs0 : ¬ h.1 0 4 2 = 0) (h1 : ¬ (numF h b).1 = 0) : RJ (numF h b).2 b := by
  obtain ⟨j1, j2, j3, j8, j9⟩ := hj
  unfold numF at h1 ⊢
  by_cases a1 : h.1 0 3 1 = 2
  · rw [if_pos a1] at h1 ⊢
    by_cases a2 : meanF h = -1
    · rw [if_pos a2] at h1
      exact absurd rfl h1
    rw [if_neg a2] at h1 ⊢
    by_cases a3 : meanF h = 7
    · rw [if_pos a3] at h1 ⊢
      by_cases a4 : hasI (h.1 b 1 1) (h.1 0 3 4) = 0
      · rw [if_pos a4] at h1
        exact absurd rfl h1
      rw [if_neg a4] at h1 ⊢
      by_cases a5 : (h.1 0 4 5 >>> (h.1 0 3 4 &&& 31)) &&& 1 = 0
      · rw [if_pos a5]
        simp only [RJ]
        simp (disch := decide) only [putNF_f, putNF_4, ui_eq, ui_k, ui_j]
        refine ⟨j1, j2, j3, j8, fun q => ?_⟩
        exfalso
        unfold meanF at a3
        rw [q] at a3
        simp only [if_true] at a3
        split at a3
        · exact absurd a3 (by decide)
        · split at a3
          · exact absurd a3 (by decide)
          · exact absurd a3 (by decide)
      · rw [if_neg a5] at h1
        exact absurd rfl h1
    · rw [if_neg a3] at h1 ⊢
      by_cases a4 : rangF (meanF h) (h.1 0 3 4) = 0
      · rw [if_pos a4] at h1
        exact absurd rfl h1
      rw [if_neg a4]
      simp only [RJ]
      simp (disch := decide) only [putNF_f, putNF_4, ui_eq, ui_k, ui_j]
      refine ⟨j1, j2, j3, j8, fun q => Or.inr ?_⟩
      have hm : meanF h = (if h.1 0 4 3 = 0 then 0 else if h.1 0 4 3 = 1 then 1 else -1) := by
        unfold meanF
        rw [if_pos q]
      unfold putNF
      rw [ui_k (by decide)]
      by_cases f0 : h.1 0 4 3 = 0
      · rw [f0]
        simp only [show ¬ (0 : Int32) < 0 from by decide, show ¬ (5 : Int32) ≤ 0 from by decide, if_false, show (0 : Int32).toNatClampNeg = 0 from by decide]
        rw [ui_eq]
        rw [hm, if_pos f0] at a4
        unfold rangF at a4
        simp only [show ¬ (0 : Int32) < 0 from by decide, show ¬ (7 : Int32) ≤ 0 from by decide, if_false, show (0 : Int32).toNatClampNeg = 0 from by decide] at a4
        split at a4
        · exact absurd rfl a4
        · split at a4
          · exact absurd rfl a4
          · rename_i n1 n2
            rw [Int32.lt_iff_toInt_lt] at n2
            have : (mstV.getD 0 0).toInt = 8 := by decide
            omega
      · by_cases f1 : h.1 0 4 3 = 1
        · rw [f1]
          simp only [show ¬ (1 : Int32) < 0 from by decide, show ¬ (5 : Int32) ≤ 1 from by decide, if_false, show (1 : Int32).toNatClampNeg = 1 from by decide]
          rw [ui_j (by decide)]
          exact (j9 q).resolve_left f0
        · rw [hm, if_neg f0, if_neg f1] at a2
          exact absurd rfl a2
  · rw [if_neg a1] at h1
    exact absurd rfl h1
theorem tok_RJ {h : AH} {b : Nat} (hb : isB b) (hj : RJ h b) (h1 : ¬ (tokF h b).1 = 0) : RJ (tokF h b).2 b := by
  unfold tokF at h1 ⊢
  by_cases a1 : h.1 0 4 2 = 0
  · rw [if_pos a1] at h1 ⊢
    exact beg_RJ hj h1
  rw [if_neg a1] at h1 ⊢
  by_cases a2 : h.1 0 4 2 = 3 ∧ h.1 0 4 4 = -1
  · rw [if_pos a2] at h1 ⊢
    exact kind_RJ hj a2.1 h1
  rw [if_neg a2] at h1 ⊢
  by_cases a3 : h.1 0 3 1 = 3 ∧ ¬ wholF h = 0
  · rw [if_pos a3]
    exact end_RJ hb hj a1 a3.2
  rw [if_neg a3] at h1 ⊢
  exact num_RJ hj a1 h1
theorem refF_0 {h : AH} {x : Int32} {b k j : Nat} (hk : k ≠ 4) : (refF h x).1 b k j = h.1 b k j := by
  unfold refF
  rw [ui_k hk, ui_k hk]
/-- the cells of the office but the reader's own stay -/
theorem tokF_0 {h : AH} {b k j : Nat} (hb : isB b) (h4 : k ≠ 4) (h5 : k ≠ 5) : (tokF h b).2.1 0 k j = h.1 0 k j := by
  have hb0 := isB0' hb
  unfold tokF begF kindF numF endF
  repeat' split
  all_goals first
    | rfl
    | (simp (disch := first | decide | assumption) only [refF_0, putNF_f, ui_k, ui_b, addBF_0, addQ_0, addP_0]; done)
def RI (h : AH) (b L : Nat) : Prop := h.1 0 1 1 = nI L ∧ L ≤ 740 ∧ (h.1 0 3 2 = nI (pS h) ∧ pS h ≤ 740) ∧ (∃ q, q ≤ 740 ∧ h.1 0 3 3 = nI q) ∧ RJ h b
theorem advF_k {h : AH} {L p b k j : Nat} (hk : k ≠ 3) : (advF h L p).1 b k j = h.1 b k j := by
  unfold advF runF
  simp only []
  repeat' split
  all_goals simp (disch := first | decide | assumption) only [ui_k]
theorem advF_b {h : AH} {L p b k j : Nat} (hk : b ≠ 0) : (advF h L p).1 b k j = h.1 b k j := by
  unfold advF runF
  simp only []
  repeat' split
  all_goals simp (disch := first | decide | assumption) only [ui_b]
theorem adv_RI {h : AH} {b L p : Nat} (hL : h.1 0 1 1 = nI L) (h740 : L ≤ 740) (hp : p ≤ 740) (hb : isB b) (hj : RJ h b) : RI (advF h L p) b L := by
  have hb1 := isB0 hb
  have hq := skG_le (tpF h) (L - p) p
  have hll := limF_le L
  have hs : (advF h L p).1 0 3 2 = nI (skG (tpF h) (L - p) p) ∨ (advF h L p).1 0 3 2 = nI (limF L) := by
    unfold advF runF
    simp only []
    repeat' split
    all_goals simp (disch := first | decide | assumption) only [ui_k, ui_eq, ui_j]
    all_goals first | exact Or.inl (by trivial) | exact Or.inr rfl | (left; trivial) | (right; trivial) | simp
  have hbh : ∃ q, q ≤ 740 ∧ (advF h L p).1 0 3 3 = nI q := by
    unfold advF runF
    simp only []
    have hr : ∀ t : Nat → Int32, (runG t (L - skG (tpF h) (L - p) p) (0, 0, 0, skG (tpF h) (L - p) p)).2.2.2 ≤ skG (tpF h) (L - p) p + (L - skG (tpF h) (L - p) p) := fun t => runG_le t _ _
    repeat' split
    all_goals simp (disch := first | decide | assumption) only [ui_k, ui_eq, ui_j]
    all_goals first
      | (refine ⟨_, ?_, rfl⟩; omega)
      | (refine ⟨_, ?_, rfl⟩; have := hr (tpF (ui h 0 3 2 (nI (skG (tpF h) (L - p) p)))); omega)
  refine ⟨by rw [advF_k (by decide)]; exact hL, h740, ?_, hbh, ?_⟩
  · rcases hs with e | e
    · have e2 : pS (advF h L p) = skG (tpF h) (L - p) p := by rw [pS, e]; exact nI_clamp (by omega)
      rw [e2]
      exact ⟨e, by omega⟩
    · have e2 : pS (advF h L p) = limF L := by rw [pS, e]; exact nI_clamp (by omega)
      rw [e2]
      exact ⟨e, by omega⟩
  · unfold RJ at *
    simp (disch := first | decide | assumption) only [advF_k, advF_b]
    exact hj
