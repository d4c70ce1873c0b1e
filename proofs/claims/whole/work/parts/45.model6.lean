abbrev PSt : Type := (Nat → Int32) × Int64 × (Nat → Int32)
def goP (T : Nat → Int32) (L : Nat) (s : PSt) : PSt := ((goS T L (s.1 4).toNatClampNeg s.1 s.2.1).1, (goS T L (s.1 4).toNatClampNeg s.1 s.2.1).2, s.2.2)
def badP (x : Int32) (s : PSt) : PSt := (upd (upd s.1 8 (if s.1 6 = 1 then 1 else x)) 9 (s.1 5), s.2)
def wdP (s : PSt) (w : Int64) : Int32 := if s.1 6 = 2 then (if s.2.1 = w then 1 else 0) else 0
def andP (r : Int32 × PSt) (f : PSt → Int32 × PSt) : Int32 × PSt := if r.1 = 0 then (0, r.2) else f r.2
theorem andP_f {r : Int32 × PSt} {f : PSt → Int32 × PSt} (h : r.1 = 0) : andP r f = (0, r.2) := if_pos h
theorem andP_t {r : Int32 × PSt} {f : PSt → Int32 × PSt} (h : ¬ r.1 = 0) : andP r f = f r.2 := if_neg h
def toldP (T : Nat → Int32) (L a : Nat) (lo hi : Int32) (s : PSt) : Int32 × PSt :=
  if s.1 6 = 3 then (if isInF (s.1 7) lo hi = 0 then (0, badP 2 s) else (1, goP T L (s.1, s.2.1, upd s.2.2 a (s.1 7)))) else (0, badP 1 s)
def landP (T : Nat → Int32) (L : Nat) (but : Int32) (s : PSt) : Int32 × PSt :=
  if s.1 6 = 3 then (if s.2.2 0 ≤ s.1 7 then (0, badP 2 s) else if hasB but (s.1 7) = 0 then (1, goP T L (upd s.1 15 (s.1 7), s.2)) else (0, badP 2 s)) else (0, badP 1 s)
def W4 (a b c d : Int32) : Int64 := 27 * (27 * (27 * (a.toInt64 - 96) + b.toInt64 - 96) + c.toInt64 - 96) + d.toInt64 - 96
def W5 (a b c d e : Int32) : Int64 := 27 * W4 a b c d + e.toInt64 - 96
def W6 (a b c d e f : Int32) : Int64 := 27 * W5 a b c d e + f.toInt64 - 96
def lndsP (T : Nat → Int32) (L : Nat) (s : PSt) : Int32 × PSt := if wdP s (W5 108 97 110 100 115) = 0 then (0, badP 1 s) else
  andP (toldP T L 0 1 8 (goP T L s)) fun s => andP (toldP T L 1 1 9 s) fun s => (1, s)
def brdR (r : Nat → Int32) (a g : Int32) : Nat → Int32 :=
  let r1 := upd r (103 + a.toNatClampNeg) (r (103 + a.toNatClampNeg) ||| 1 <<< (g &&& 31))
  let r2 := upd r1 (103 + g.toNatClampNeg) (r1 (103 + g.toNatClampNeg) ||| 1 <<< (a &&& 31))
  upd r2 2 (r 2 + 1)
def bordP (T : Nat → Int32) (L : Nat) (s : PSt) : Int32 × PSt := if s.2.2 2 = 28 then (0, badP 3 s) else
  andP (landP T L 0 (goP T L s)) fun s1 => andP (landP T L (1 <<< (s1.1 15 &&& 31)) s1) fun s2 => (1, s2.1, s2.2.1, brdR s2.2.2 (s1.1 15) (s2.1 15))
def kn74 (T : Nat → Int32) (L a : Nat) (x y : Int32) (s : PSt) : Int32 × PSt := if x = 0 then (1, goP T L (s.1, s.2.1, upd (upd s.2.2 a (if y = 0 then 0 else 1)) (a + 1) 1)) else
  andP (toldP T L (a + 1) 2 9 (goP T L (s.1, s.2.1, upd (upd s.2.2 a 2) (a + 1) 1))) fun s => (1, s)
def kndP (T : Nat → Int32) (L a : Nat) (s : PSt) : Int32 × PSt :=
  if wdP s (W6 115 104 97 114 101 100) = 0 ∧ wdP s (W5 109 117 108 116 105) = 0 ∧ wdP s (W6 115 105 110 103 108 101) = 0 then (0, badP 1 s) else
  kn74 T L a (wdP s (W6 115 104 97 114 101 100)) (wdP s (W5 109 117 108 116 105)) s
def tyLP (T : Nat → Int32) (L a : Nat) : Nat → PSt → Int32 × PSt
  | 0, s => (0, s)
  | f + 1, s => if s.1 6 = 3 then andP (landP T L (s.2.2 (a + 6)) s) fun s => tyLP T L a f (s.1, s.2.1, upd s.2.2 (a + 6) (s.2.2 (a + 6) ||| 1 <<< (s.1 15 &&& 31)))
      else (1, s.1, s.2.1, upd s.2.2 3 (s.2.2 3 + 1))
def typP (T : Nat → Int32) (L : Nat) (s : PSt) : Int32 × PSt := if s.2.2 3 = 6 then (0, badP 3 s) else
  andP (kndP T L (7 + 12 * (s.2.2 3).toNatClampNeg) (goP T L s)) fun s1 =>
  andP (toldP T L (7 + 12 * (s.2.2 3).toNatClampNeg + 2) 1 6 s1) fun s1 => andP (toldP T L (7 + 12 * (s.2.2 3).toNatClampNeg + 3) 0 99 s1) fun s1 =>
  andP (toldP T L (7 + 12 * (s.2.2 3).toNatClampNeg + 4) 0 9 s1) fun s1 => andP (toldP T L (7 + 12 * (s.2.2 3).toNatClampNeg + 5) 0 99 s1) fun s1 =>
  if s1.1 6 = 3 then tyLP T L (7 + 12 * (s.2.2 3).toNatClampNeg) 742 s1 else (0, badP 1 s1)
def lorP (T : Nat → Int32) (L : Nat) (s : PSt) : Int32 × PSt := if s.2.2 4 = 8 then (0, badP 3 s) else
  andP (landP T L 0 (goP T L s)) fun s1 =>
  andP (toldP T L (79 + 3 * (s.2.2 4).toNatClampNeg + 1) 1 6 (s1.1, s1.2.1, upd s1.2.2 (79 + 3 * (s.2.2 4).toNatClampNeg) (s1.1 15))) fun s1 => (1, s1.1, s1.2.1, upd s1.2.2 4 (s1.2.2 4 + 1))
def linP (T : Nat → Int32) (L : Nat) (first : Bool) (s : PSt) : Int32 × PSt :=
  if first then lndsP T L s else if wdP s (W6 98 111 114 100 101 114) = 0 then (if wdP s (W4 116 121 112 101) = 0 then (if wdP s (W5 108 111 114 114 121) = 0 then (0, badP 1 s) else lorP T L s) else typP T L s) else bordP T L s
def endP (T : Nat → Int32) (L : Nat) (s : PSt) : Int32 × PSt := if s.1 6 = 4 then (1, goP T L s) else (0, badP 1 s)
/-- what stands while a text is read -/
def RV (r : Nat → Int32) : Prop := (∃ n, n ≤ 8 ∧ r 0 = nI n) ∧ (∃ n, n ≤ 28 ∧ r 2 = nI n) ∧ (∃ n, n ≤ 6 ∧ r 3 = nI n) ∧ (∃ n, n ≤ 8 ∧ r 4 = nI n)
def PI (L : Nat) (s : PSt) : Prop := s.1 3 = nI L ∧ L ≤ 740 ∧ (∃ p, p ≤ L ∧ s.1 4 = nI p) ∧ (s.1 6 = 3 → ∃ n, n < 100 ∧ s.1 7 = nI n) ∧ RV s.2.2
def pTo (s : PSt) : Nat := (s.1 4).toNatClampNeg
def Mo (s s2 : PSt) : Prop := pTo s ≤ pTo s2 ∧ (s2.1 6 = 4 → pTo s < pTo s2) ∧ (s2.1 6 = 3 → pTo s < pTo s2)
theorem Mo.tr {a b c : PSt} (h1 : Mo a b) (h2 : Mo b c) : Mo a c := ⟨Nat.le_trans h1.1 h2.1, fun z => Nat.lt_of_le_of_lt h1.1 (h2.2.1 z), fun z => Nat.lt_of_le_of_lt h1.1 (h2.2.2 z)⟩
theorem digF_of {x : Int32} (h : ¬ digF x = 0) : ∃ c, 48 ≤ c ∧ c ≤ 57 ∧ x = nI c := by
  unfold digF at h
  split at h
  · exact absurd rfl h
  · split at h
    · exact absurd rfl h
    · rename_i h1 h2
      rw [Int32.lt_iff_toInt_lt] at h1 h2
      have e1 : (48 : Int32).toInt = 48 := by decide
      have e2 : (57 : Int32).toInt = 57 := by decide
      refine ⟨x.toInt.toNat, by omega, by omega, ?_⟩
      apply Int32.toInt_inj.mp
      rw [nI_toInt (by omega)]
      omega
theorem dig_step {n c : Nat} (hc : 48 ≤ c) : 10 * nI n + nI c - 48 = nI (10 * n + c - 48) := by
  rw [show (10 : Int32) = nI 10 from rfl, pk_mul, nI_add]
  exact pk_sub (a := 10 * n + c) (b := 48) (by omega)
def numI (q : Nat) (s : M4) : Prop := ¬ s.1 = 0 → ∀ k, s.2.2.2 = q + k → k ≤ 2 → ∃ n, n < 10 ^ k ∧ s.2.2.1 = nI n
theorem rnM_num (T : Nat → Int32) (q : Nat) (f : Nat) : ∀ s : M4, q ≤ s.2.2.2 → numI q s → numI q (rnM T q 0 f s) := by
  induction f with
  | zero => intro s _ h; exact h
  | succ f ih =>
    intro s hq hs
    unfold rnM
    split
    · exact hs
    · rename_i hc
      refine ih _ (by show q ≤ s.2.2.2 + 1; omega) ?_
      intro hg k hk hk2
      simp only [] at hg hk ⊢
      split at hg
      · exact absurd rfl hg
      · rename_i hg0
        split at hg
        · rename_i hl
          have hd : ¬ digF (T s.2.2.2) = 0 := fun z => hc ⟨hl, z⟩
          obtain ⟨c, h1, h2, h3⟩ := digF_of hd
          cases k with
          | zero => omega
          | succ k =>
            obtain ⟨n, hn, hn2⟩ := hs hg0 k (by omega) (by omega)
            rw [if_pos (by omega), hn2, h3, dig_step h1]
            refine ⟨_, ?_, rfl⟩
            rw [Nat.pow_succ]
            omega
        · exact absurd rfl hg
theorem rnR_lt (T : Nat → Int32) {L q : Nat} (h : q < L) (hc : ¬ (letF (T q) = 0 ∧ digF (T q) = 0)) : q < (rnR T L q).2.2.2 ∧ (rnR T L q).2.2.2 ≤ L := by
  unfold rnR
  rw [show L - q = (L - (q + 1)) + 1 by omega, rnM, if_neg hc]
  refine ⟨Nat.lt_of_lt_of_le ?_ (rnM_le T q (letF (T q)) (L - (q + 1)) _).1, Nat.le_trans (rnM_le T q (letF (T q)) (L - (q + 1)) _).2 ?_⟩
  · show q < q + 1
    omega
  · show q + 1 + (L - (q + 1)) ≤ L
    omega
theorem goP_all (T : Nat → Int32) {L : Nat} {s : PSt} (h : PI L s) : PI L (goP T L s) ∧ Mo s (goP T L s) ∧ (goP T L s).1 15 = s.1 15 := by
  obtain ⟨h1, h2, ⟨p, hp, hp4⟩, h4, h5⟩ := h
  have hpc : (s.1 4).toNatClampNeg = p := by rw [hp4]; exact nI_clamp (by omega)
  have hpt : pTo s = p := hpc
  have hq1 := skG_le T (L - p) p
  have hq2 := skG_ge T (L - p) p
  unfold goP
  rw [hpc]
  unfold goS
  by_cases c1 : 700 < L ∧ 700 ≤ skG T (L - p) p
  · rw [if_pos c1]
    refine ⟨⟨?_, h2, ⟨skG T (L - p) p, by omega, ?_⟩, ?_, h5⟩, ⟨?_, ?_, ?_⟩, ?_⟩
    all_goals simp (disch := decide) only [Mo, pTo, up_eq, up_ne]
    · exact h1
    · intro z; exact absurd z (by decide)
    · rw [nI_clamp (by omega), hpc]; omega
    · intro z; exact absurd z (by decide)
    · intro z; exact absurd z (by decide)
  rw [if_neg c1]
  unfold goT
  by_cases c2 : L ≤ skG T (L - p) p
  · rw [if_pos c2]
    refine ⟨⟨?_, h2, ⟨skG T (L - p) p, by omega, ?_⟩, ?_, h5⟩, ⟨?_, ?_, ?_⟩, ?_⟩
    all_goals simp (disch := decide) only [Mo, pTo, up_eq, up_ne]
    · exact h1
    · intro z; exact absurd z (by decide)
    · rw [nI_clamp (by omega), hpc]; omega
    · intro z; exact absurd z (by decide)
    · intro z; exact absurd z (by decide)
  rw [if_neg c2]
  by_cases c3 : letF (T (skG T (L - p) p)) = 0 ∧ digF (T (skG T (L - p) p)) = 0
  · rw [if_pos c3]
    refine ⟨⟨?_, h2, ⟨skG T (L - p) p + 1, by omega, ?_⟩, ?_, h5⟩, ⟨?_, ?_, ?_⟩, ?_⟩
    all_goals simp (disch := decide) only [Mo, pTo, up_eq, up_ne]
    · exact h1
    · intro z; split at z <;> exact absurd z (by decide)
    · rw [nI_clamp (by omega), hpc]; omega
    · intro _; rw [nI_clamp (by omega), hpc]; omega
    · intro _; rw [nI_clamp (by omega), hpc]; omega
  rw [if_neg c3]
  have hr := rnR_lt T (L := L) (q := skG T (L - p) p) (by omega) c3
  refine ⟨⟨?_, h2, ⟨(rnR T L (skG T (L - p) p)).2.2.2, by omega, ?_⟩, ?_, h5⟩, ⟨?_, ?_, ?_⟩, ?_⟩
  all_goals simp (disch := decide) only [Mo, pTo, up_eq, up_ne]
  · exact h1
  · intro z
    unfold rnS at z
    split at z
    · exact absurd z (by decide)
    · rename_i z1
      split at z
      · rename_i z2
        split at z
        · rename_i z3
          unfold rnR at z1 z3 hr ⊢
          rw [z2] at z1 z3 hr ⊢
          obtain ⟨n, hn, hn2⟩ := rnM_num T (skG T (L - p) p) (L - skG T (L - p) p) (1, 0, 0, skG T (L - p) p) (Nat.le_refl _) (fun _ k hk _ => ⟨0, Nat.pow_pos (by decide), rfl⟩) z1 _ (show _ = skG T (L - p) p + (_ - skG T (L - p) p) by omega) z3
          exact ⟨n, Nat.lt_of_lt_of_le hn (Nat.pow_le_pow_right (by decide) z3), hn2⟩
        · exact absurd z (by decide)
      · exact absurd z (by decide)
  · rw [nI_clamp (by omega), hpc]; omega
  · intro _; rw [nI_clamp (by omega), hpc]; omega
  · intro _; rw [nI_clamp (by omega), hpc]; omega
theorem lg_eq0 {x y : Int64} : lg_cmp x y = 0 ↔ x = y := by
  unfold lg_cmp
  by_cases h1 : y < x
  · rw [if_pos h1]
    exact ⟨fun z => absurd z (by decide), fun z => absurd h1 (by rw [z]; exact Int64.lt_irrefl)⟩
  · rw [if_neg h1]
    by_cases h2 : x = y
    · simp [h2]
    · simp [h2]
theorem badP_PI {L : Nat} {s : PSt} {x : Int32} (h : PI L s) : PI L (badP x s) := by
  obtain ⟨h1, h2, h3, h4, h5⟩ := h
  unfold badP
  refine ⟨?_, h2, ?_, ?_, h5⟩
  all_goals simp (disch := decide) only [up_ne]
  · exact h1
  · exact h3
  · exact h4
theorem PI.r {L : Nat} {s : PSt} {r : Nat → Int32} (h : PI L s) (hr : RV r) : PI L (s.1, s.2.1, r) := ⟨h.1, h.2.1, h.2.2.1, h.2.2.2.1, hr⟩
theorem PI.r1 {L a : Nat} {s : PSt} {v : Int32} (h : PI L s) (ha : a ≠ 0 ∧ a ≠ 2 ∧ a ≠ 3 ∧ a ≠ 4) : PI L (s.1, s.2.1, upd s.2.2 a v) := by
  refine h.r ?_
  obtain ⟨-, -, -, -, h0, h2, h3, h4⟩ := h
  obtain ⟨a0, a2, a3, a4⟩ := ha
  unfold RV
  rw [up_ne (Ne.symm a0), up_ne (Ne.symm a2), up_ne (Ne.symm a3), up_ne (Ne.symm a4)]
  exact ⟨h0, h2, h3, h4⟩
theorem PI.o {L : Nat} {s : PSt} {v : Int32} (h : PI L s) : PI L (upd s.1 15 v, s.2) := by
  obtain ⟨h1, h2, h3, h4, h5⟩ := h
  refine ⟨?_, h2, ?_, ?_, h5⟩
  all_goals simp (disch := decide) only [up_ne]
  · exact h1
  · exact h3
  · exact h4
theorem toldP_PI (T : Nat → Int32) {L a : Nat} {lo hi : Int32} {s : PSt} (h : PI L s) (ha : a ≠ 0 ∧ a ≠ 2 ∧ a ≠ 3 ∧ a ≠ 4) : PI L (toldP T L a lo hi s).2 := by
  unfold toldP
  split
  · split
    · exact badP_PI h
    · exact (goP_all T (h.r1 ha)).1
  · exact badP_PI h
theorem told0_PI (T : Nat → Int32) {L : Nat} {s : PSt} (h : PI L s) : PI L (toldP T L 0 1 8 s).2 := by
  unfold toldP
  split
  · split
    · exact badP_PI h
    · rename_i c
      refine (goP_all T (h.r ?_)).1
      obtain ⟨-, -, -, -, h0, h2, h3, h4⟩ := h
      obtain ⟨n, -, hn, hn2⟩ := isIn_of (a := 1) (b := 8) (by decide) (by decide) c
      unfold RV
      rw [up_eq, up_ne (by decide), up_ne (by decide), up_ne (by decide)]
      exact ⟨⟨n, hn, hn2⟩, h2, h3, h4⟩
  · exact badP_PI h
theorem toldP_Mo (T : Nat → Int32) {L a : Nat} {lo hi : Int32} {s : PSt} (h : PI L s) (hr : ∀ v, s.1 7 = v → isInF v lo hi ≠ 0 → RV (upd s.2.2 a v)) (h1 : ¬ (toldP T L a lo hi s).1 = 0) : Mo s (toldP T L a lo hi s).2 := by
  unfold toldP at h1 ⊢
  by_cases c1 : s.1 6 = 3
  · rw [if_pos c1] at h1 ⊢
    by_cases c2 : isInF (s.1 7) lo hi = 0
    · rw [if_pos c2] at h1
      exact absurd rfl h1
    · rw [if_neg c2]
      exact (goP_all T (h.r (hr _ rfl c2))).2.1
  · rw [if_neg c1] at h1
    exact absurd rfl h1
theorem landP_PI (T : Nat → Int32) {L : Nat} {but : Int32} {s : PSt} (h : PI L s) : PI L (landP T L but s).2 := by
  unfold landP
  split
  · split
    · exact badP_PI h
    · split
      · exact (goP_all T h.o).1
      · exact badP_PI h
  · exact badP_PI h
theorem landP_ok (T : Nat → Int32) {L : Nat} {but : Int32} {s : PSt} (h : PI L s) (h1 : ¬ (landP T L but s).1 = 0) : Mo s (landP T L but s).2 ∧ ∃ g, g < 8 ∧ (landP T L but s).2.1 15 = nI g := by
  unfold landP at h1 ⊢
  by_cases c1 : s.1 6 = 3
  · rw [if_pos c1] at h1 ⊢
    by_cases c2 : s.2.2 0 ≤ s.1 7
    · rw [if_pos c2] at h1
      exact absurd rfl h1
    · rw [if_neg c2] at h1 ⊢
      by_cases c3 : hasB but (s.1 7) = 0
      · rw [if_pos c3]
        obtain ⟨g1, g2, g3⟩ := goP_all T (h.o (v := s.1 7))
        refine ⟨?_, ?_⟩
        · unfold Mo pTo at g2 ⊢
          simp (disch := decide) only [up_ne] at g2
          exact g2
        · obtain ⟨n, hn, hn2⟩ := h.2.2.2.1 c1
          obtain ⟨m, hm, hm2⟩ := h.2.2.2.2.1
          rw [hm2, hn2] at c2
          have := lt_of_nle c2 (by omega) (by omega)
          refine ⟨n, by omega, ?_⟩
          rw [← hn2]
          exact g3.trans (show upd s.1 15 (s.1 7) 15 = s.1 7 from up_eq)
      · rw [if_neg c3] at h1
        exact absurd rfl h1
  · rw [if_neg c1] at h1
    exact absurd rfl h1
theorem toldP_01 (T : Nat → Int32) (L a : Nat) (lo hi : Int32) (s : PSt) : (toldP T L a lo hi s).1 = 0 ∨ (toldP T L a lo hi s).1 = 1 := by
  unfold toldP
  repeat' split
  all_goals first | exact Or.inl rfl | exact Or.inr rfl
theorem landP_01 (T : Nat → Int32) (L : Nat) (but : Int32) (s : PSt) : (landP T L but s).1 = 0 ∨ (landP T L but s).1 = 1 := by
  unfold landP
  repeat' split
  all_goals first | exact Or.inl rfl | exact Or.inr rfl
theorem wdP_01 (s : PSt) (w : Int64) : wdP s w = 0 ∨ wdP s w = 1 := by
  unfold wdP
  repeat' split
  all_goals first | exact Or.inl rfl | exact Or.inr rfl

