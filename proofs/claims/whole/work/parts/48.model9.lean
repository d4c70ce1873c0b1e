theorem badP_r (x : Int32) (s : PSt) : (badP x s).2 = s.2 := rfl
theorem landP_r (T : Nat → Int32) (L : Nat) (but : Int32) (s : PSt) : (landP T L but s).2.2.2 = s.2.2 := by
  unfold landP
  repeat' split
  all_goals rfl
theorem nI_inj {a b : Nat} (ha : a < 2 ^ 31) (hb : b < 2 ^ 31) (h : nI a = nI b) : a = b := by
  have := congrArg Int32.toNatClampNeg h
  rw [nI_clamp ha, nI_clamp hb] at this
  exact this
theorem told_okM (T : Nat → Int32) {L a : Nat} {lo hi : Int32} {s : PSt} (h : PI L s) (ha : a ≠ 0 ∧ a ≠ 2 ∧ a ≠ 3 ∧ a ≠ 4) (h1 : ¬ (toldP T L a lo hi s).1 = 0) : PI L (toldP T L a lo hi s).2 ∧ Mo s (toldP T L a lo hi s).2 :=
  ⟨toldP_PI T h ha, toldP_Mo T h (fun _ _ _ => rv_up h.rv ha) h1⟩
theorem toldP_r3 (T : Nat → Int32) {L a : Nat} {lo hi : Int32} {s : PSt} {k : Nat} (hk : k ≠ a) : (toldP T L a lo hi s).2.2.2 k = s.2.2 k := by
  unfold toldP
  repeat' split
  · rfl
  · exact up_ne hk
  · rfl
theorem lndsP_ok (T : Nat → Int32) {L : Nat} {s : PSt} (h : PI L s) (h1 : ¬ (lndsP T L s).1 = 0) : PI L (lndsP T L s).2 ∧ Mo s (lndsP T L s).2 := by
  unfold lndsP at h1 ⊢
  split at h1
  · exact absurd rfl h1
  rename_i c0
  rw [if_neg c0]
  obtain ⟨g1, g2, -⟩ := goP_all T h
  by_cases c1 : (toldP T L 0 1 8 (goP T L s)).1 = 0
  · rw [andP_f c1] at h1; exact absurd rfl h1
  rw [andP_t c1] at h1 ⊢
  have i1 := told0_PI T g1
  have m1 := toldP_Mo T g1 (fun v _ z => rv_0 g1.rv z) c1
  by_cases c2 : (toldP T L 1 1 9 (toldP T L 0 1 8 (goP T L s)).2).1 = 0
  · rw [andP_f c2] at h1; exact absurd rfl h1
  rw [andP_t c2]
  obtain ⟨i2, m2⟩ := told_okM T i1 (by decide) c2
  exact ⟨i2, (g2.tr m1).tr m2⟩
theorem Mo_same {s a b : PSt} (h : Mo s a) (h4 : b.1 = a.1) : Mo s b := by
  unfold Mo pTo at *
  rw [h4]
  exact h
theorem brdR_rv {r : Nat → Int32} {x y : Int32} (h : RV r) (h28 : ¬ r 2 = 28) : RV (brdR r x y) := by
  obtain ⟨h0, ⟨n, hn, hn2⟩, h3, h4⟩ := h
  unfold RV brdR
  have hn28 : n ≠ 28 := fun z => h28 (by rw [hn2, z]; rfl)
  rw [up_ne (by decide), up_ne (by omega), up_ne (by omega), up_eq, up_ne (by decide), up_ne (by omega), up_ne (by omega), up_ne (by decide), up_ne (by omega), up_ne (by omega)]
  exact ⟨h0, ⟨n + 1, by omega, by rw [hn2, nI_1]⟩, h3, h4⟩
theorem bordP_ok (T : Nat → Int32) {L : Nat} {s : PSt} (h : PI L s) (h1 : ¬ (bordP T L s).1 = 0) : PI L (bordP T L s).2 ∧ Mo s (bordP T L s).2 := by
  unfold bordP at h1 ⊢
  split at h1
  · exact absurd rfl h1
  rename_i c0
  rw [if_neg c0]
  obtain ⟨g1, g2, -⟩ := goP_all T h
  by_cases c1 : (landP T L 0 (goP T L s)).1 = 0
  · rw [andP_f c1] at h1; exact absurd rfl h1
  rw [andP_t c1] at h1 ⊢
  have i1 := landP_PI T (but := 0) g1
  have m1 := (landP_ok T g1 c1).1
  have r1 := landP_r T L 0 (goP T L s)
  revert h1 i1 m1 r1
  generalize (landP T L 0 (goP T L s)).2 = s1
  intro h1 i1 m1 r1
  by_cases c2 : (landP T L (1 <<< (s1.1 15 &&& 31)) s1).1 = 0
  · rw [andP_f c2] at h1; exact absurd rfl h1
  rw [andP_t c2]
  have i2 := landP_PI T (but := 1 <<< (s1.1 15 &&& 31)) i1
  have m2 := (landP_ok T i1 c2).1
  have r2 := landP_r T L (1 <<< (s1.1 15 &&& 31)) s1
  refine ⟨i2.r (brdR_rv i2.rv ?_), Mo_same ((g2.tr m1).tr m2) rfl⟩
  rw [r2, r1]
  exact c0
theorem kndP_ok (T : Nat → Int32) {L a : Nat} {s : PSt} (h : PI L s) (ha : 5 ≤ a) (h1 : ¬ (kndP T L a s).1 = 0) : PI L (kndP T L a s).2 ∧ Mo s (kndP T L a s).2 ∧ (kndP T L a s).2.2.2 3 = s.2.2 3 := by
  unfold kndP at h1 ⊢
  split at h1
  · exact absurd rfl h1
  rename_i c0
  rw [if_neg c0]
  have hI1 : ∀ v w, PI L (s.1, s.2.1, upd (upd s.2.2 a v) (a + 1) w) := fun v w => h.r (rv_up (rv_up h.rv (by omega)) (by omega))
  have e3 : ∀ v w, upd (upd s.2.2 a v) (a + 1) w 3 = s.2.2 3 := fun v w => by rw [up_ne (by omega), up_ne (by omega)]
  unfold kn74 at h1 ⊢
  split at h1
  · rename_i cx
    rw [if_pos cx]
    obtain ⟨g1, g2, -⟩ := goP_all T (hI1 (if wdP s (W5 109 117 108 116 105) = 0 then 0 else 1) 1)
    exact ⟨g1, g2, e3 _ _⟩
  · rename_i cx
    rw [if_neg cx]
    obtain ⟨g1, g2, -⟩ := goP_all T (hI1 2 1)
    by_cases c1 : (toldP T L (a + 1) 2 9 (goP T L (s.1, s.2.1, upd (upd s.2.2 a 2) (a + 1) 1))).1 = 0
    · rw [andP_f c1] at h1; exact absurd rfl h1
    rw [andP_t c1]
    obtain ⟨i1, m1⟩ := told_okM T g1 (by omega) c1
    exact ⟨i1, Mo.tr (b := goP T L (s.1, s.2.1, upd (upd s.2.2 a 2) (a + 1) 1)) g2 m1, (toldP_r3 T (by omega)).trans (e3 _ _)⟩
theorem rv_3 {r : Nat → Int32} (h : RV r) (h6 : ¬ r 3 = 6) : RV (upd r 3 (r 3 + 1)) := by
  obtain ⟨h0, h2, ⟨n, hn, hn2⟩, h4⟩ := h
  have hn6 : n ≠ 6 := fun z => h6 (by rw [hn2, z]; rfl)
  unfold RV
  rw [up_ne (by decide), up_ne (by decide), up_eq, up_ne (by decide)]
  exact ⟨h0, h2, ⟨n + 1, by omega, by rw [hn2, nI_1]⟩, h4⟩
theorem rv_4 {r : Nat → Int32} (h : RV r) (h6 : ¬ r 4 = 8) : RV (upd r 4 (r 4 + 1)) := by
  obtain ⟨h0, h2, h3, ⟨n, hn, hn2⟩⟩ := h
  have hn6 : n ≠ 8 := fun z => h6 (by rw [hn2, z]; rfl)
  unfold RV
  rw [up_ne (by decide), up_ne (by decide), up_ne (by decide), up_eq]
  exact ⟨h0, h2, h3, ⟨n + 1, by omega, by rw [hn2, nI_1]⟩⟩
theorem tyLP_ok (T : Nat → Int32) {L a : Nat} (ha : 5 ≤ a) (f : Nat) : ∀ {s : PSt}, PI L s → ¬ s.2.2 3 = 6 → ¬ (tyLP T L a f s).1 = 0 → PI L (tyLP T L a f s).2 ∧ (Mo s (tyLP T L a f s).2 ∨ (tyLP T L a f s).2.1 = s.1) := by
  induction f with
  | zero => intro s _ _ h1; exact absurd rfl h1
  | succ f ih =>
    intro s h h6 h1
    unfold tyLP at h1 ⊢
    by_cases c : s.1 6 = 3
    · rw [if_pos c] at h1 ⊢
      by_cases c1 : (landP T L (s.2.2 (a + 6)) s).1 = 0
      · rw [andP_f c1] at h1; exact absurd rfl h1
      rw [andP_t c1] at h1 ⊢
      have i1 := landP_PI T (but := s.2.2 (a + 6)) h
      have m1 := (landP_ok T h c1).1
      have r1 := landP_r T L (s.2.2 (a + 6)) s
      revert h1 i1 m1 r1
      generalize (landP T L (s.2.2 (a + 6)) s).2 = s1
      intro h1 i1 m1 r1
      obtain ⟨j1, j2⟩ := ih (s := (s1.1, s1.2.1, upd s1.2.2 (a + 6) (s1.2.2 (a + 6) ||| 1 <<< (s1.1 15 &&& 31)))) (i1.r1 (by omega)) (by show ¬ upd s1.2.2 (a + 6) (s1.2.2 (a + 6) ||| 1 <<< (s1.1 15 &&& 31)) 3 = 6; rw [up_ne (by omega), r1]; exact h6) h1
      refine ⟨j1, Or.inl ?_⟩
      rcases j2 with j2 | j2
      · exact m1.tr (Mo_same (s := s1) (a := (tyLP T L a f (s1.1, s1.2.1, upd s1.2.2 (a + 6) (s1.2.2 (a + 6) ||| 1 <<< (s1.1 15 &&& 31)))).2) j2 rfl)
      · exact Mo_same m1 j2
    · rw [if_neg c]
      exact ⟨h.r (rv_3 h.rv h6), Or.inr rfl⟩
theorem typP_ok (T : Nat → Int32) {L : Nat} {s : PSt} (h : PI L s) (h1 : ¬ (typP T L s).1 = 0) : PI L (typP T L s).2 ∧ Mo s (typP T L s).2 := by
  unfold typP at h1 ⊢
  split at h1
  · exact absurd rfl h1
  rename_i c0
  rw [if_neg c0]
  revert h1
  generalize hA : 7 + 12 * (s.2.2 3).toNatClampNeg = A
  intro h1
  obtain ⟨g1, g2, -⟩ := goP_all T h
  by_cases c1 : (kndP T L A (goP T L s)).1 = 0
  · rw [andP_f c1] at h1; exact absurd rfl h1
  rw [andP_t c1] at h1 ⊢
  obtain ⟨i1, m1, r1⟩ := kndP_ok T g1 (by omega) c1
  replace m1 := g2.tr m1
  have r1' : (kndP T L A (goP T L s)).2.2.2 3 = s.2.2 3 := r1
  clear r1 c1
  revert h1 i1 m1 r1'
  generalize (kndP T L A (goP T L s)).2 = s1
  intro h1 i1 m1 r1
  by_cases c2 : (toldP T L (A + 2) 1 6 s1).1 = 0
  · rw [andP_f c2] at h1; exact absurd rfl h1
  rw [andP_t c2] at h1 ⊢
  obtain ⟨i2, m2⟩ := told_okM T i1 (by omega) c2
  replace m2 := m1.tr m2
  have r2 := (toldP_r3 T (L := L) (a := A + 2) (lo := 1) (hi := 6) (s := s1) (k := 3) (by omega)).trans r1
  clear c2
  revert h1 i2 m2 r2
  generalize (toldP T L (A + 2) 1 6 s1).2 = s2
  intro h1 i2 m2 r2
  by_cases c3 : (toldP T L (A + 3) 0 99 s2).1 = 0
  · rw [andP_f c3] at h1; exact absurd rfl h1
  rw [andP_t c3] at h1 ⊢
  obtain ⟨i3, m3⟩ := told_okM T i2 (by omega) c3
  replace m3 := m2.tr m3
  have r3 := (toldP_r3 T (L := L) (a := A + 3) (lo := 0) (hi := 99) (s := s2) (k := 3) (by omega)).trans r2
  clear c3
  revert h1 i3 m3 r3
  generalize (toldP T L (A + 3) 0 99 s2).2 = s3
  intro h1 i3 m3 r3
  by_cases c4 : (toldP T L (A + 4) 0 9 s3).1 = 0
  · rw [andP_f c4] at h1; exact absurd rfl h1
  rw [andP_t c4] at h1 ⊢
  obtain ⟨i4, m4⟩ := told_okM T i3 (by omega) c4
  replace m4 := m3.tr m4
  have r4 := (toldP_r3 T (L := L) (a := A + 4) (lo := 0) (hi := 9) (s := s3) (k := 3) (by omega)).trans r3
  clear c4
  revert h1 i4 m4 r4
  generalize (toldP T L (A + 4) 0 9 s3).2 = s4
  intro h1 i4 m4 r4
  by_cases c5 : (toldP T L (A + 5) 0 99 s4).1 = 0
  · rw [andP_f c5] at h1; exact absurd rfl h1
  rw [andP_t c5] at h1 ⊢
  obtain ⟨i5, m5⟩ := told_okM T i4 (by omega) c5
  replace m5 := m4.tr m5
  have r5 := (toldP_r3 T (L := L) (a := A + 5) (lo := 0) (hi := 99) (s := s4) (k := 3) (by omega)).trans r4
  clear c5
  revert h1 i5 m5 r5
  generalize (toldP T L (A + 5) 0 99 s4).2 = s5
  intro h1 i5 m5 r5
  split at h1
  · rename_i c6
    rw [if_pos c6]
    obtain ⟨j1, j2⟩ := tyLP_ok T (L := L) (a := A) (by omega) 742 i5 (by rw [r5]; exact c0) h1
    refine ⟨j1, ?_⟩
    rcases j2 with j2 | j2
    · exact m5.tr j2
    · exact Mo_same m5 j2
  · exact absurd rfl h1
theorem lorP_ok (T : Nat → Int32) {L : Nat} {s : PSt} (h : PI L s) (h1 : ¬ (lorP T L s).1 = 0) : PI L (lorP T L s).2 ∧ Mo s (lorP T L s).2 := by
  unfold lorP at h1 ⊢
  split at h1
  · exact absurd rfl h1
  rename_i c0
  rw [if_neg c0]
  obtain ⟨g1, g2, -⟩ := goP_all T h
  by_cases c1 : (landP T L 0 (goP T L s)).1 = 0
  · rw [andP_f c1] at h1; exact absurd rfl h1
  rw [andP_t c1] at h1 ⊢
  have i1 := landP_PI T (but := 0) g1
  have m1 := g2.tr (landP_ok T g1 c1).1
  have r1 := landP_r T L 0 (goP T L s)
  revert h1 i1 m1 r1
  generalize hA : 79 + 3 * (s.2.2 4).toNatClampNeg = A
  generalize (landP T L 0 (goP T L s)).2 = s1
  intro h1 i1 m1 r1
  by_cases c2 : (toldP T L (A + 1) 1 6 (s1.1, s1.2.1, upd s1.2.2 A (s1.1 15))).1 = 0
  · rw [andP_f c2] at h1; exact absurd rfl h1
  rw [andP_t c2]
  obtain ⟨i2, m2⟩ := told_okM T (i1.r1 (a := A) (v := s1.1 15) (by omega)) (by omega) c2
  refine ⟨i2.r (rv_4 i2.rv ?_), Mo_same (m1.tr m2) rfl⟩
  rw [toldP_r3 T (by omega)]
  show ¬ upd s1.2.2 A (s1.1 15) 4 = 8
  rw [up_ne (by omega), r1]
  exact c0
theorem linP_ok (T : Nat → Int32) {L : Nat} {b : Bool} {s : PSt} (h : PI L s) (h1 : ¬ (linP T L b s).1 = 0) : PI L (linP T L b s).2 ∧ Mo s (linP T L b s).2 := by
  unfold linP at h1 ⊢
  split at h1
  · rename_i c
    rw [if_pos c]
    exact lndsP_ok T h h1
  · rename_i c
    rw [if_neg c]
    split at h1
    · rename_i c2
      rw [if_pos c2]
      split at h1
      · rename_i c3
        rw [if_pos c3]
        split at h1
        · exact absurd rfl h1
        · rename_i c4
          rw [if_neg c4]
          exact lorP_ok T h h1
      · rename_i c3
        rw [if_neg c3]
        exact typP_ok T h h1
    · rename_i c2
      rw [if_neg c2]
      exact bordP_ok T h h1
theorem andP_01 {r : Int32 × PSt} {f : PSt → Int32 × PSt} (hf : ∀ s, (f s).1 = 0 ∨ (f s).1 = 1) : (andP r f).1 = 0 ∨ (andP r f).1 = 1 := by
  unfold andP
  split
  · exact Or.inl rfl
  · exact hf _
