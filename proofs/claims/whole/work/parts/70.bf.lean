/-! THE CLASS'S PLANNER: chains converge -/
theorem i64_add {a b : Int64} (h1 : -9223372036854775808 ≤ a.toInt + b.toInt) (h2 : a.toInt + b.toInt < 9223372036854775808) : (a + b).toInt = a.toInt + b.toInt := by
  rw [Int64.toInt_add]
  exact Int.bmod_eq_of_le (by omega) (by omega)
theorem i64_sub {a b : Int64} (h1 : -9223372036854775808 ≤ a.toInt - b.toInt) (h2 : a.toInt - b.toInt < 9223372036854775808) : (a - b).toInt = a.toInt - b.toInt := by
  rw [Int64.toInt_sub]
  exact Int.bmod_eq_of_le (by omega) (by omega)
def FARz : Int := 5764801000000
theorem FARc_z : FARc.toInt = FARz := by decide +kernel
theorem far_lt {x : Int64} : x < FARc ↔ x.toInt < FARz := by rw [Int64.lt_iff_toInt_lt, FARc_z]
def pz (P : Nat → Int64) (k c : Nat) : Int := (P (k * 7 + c)).toInt
def RX (P : Nat → Int64) (G : Nat → Nat) (d : Nat → Int64) (j : Nat) : Prop := ∀ c, c < 7 → pz P j c < FARz → (d c).toInt ≤ (d (G j)).toInt - pz P j (G j) + pz P j c
theorem sum_z {a b c : Int64} (h1 : -48000000000 ≤ a.toInt) (h2 : a.toInt ≤ FARz) (h3 : 0 ≤ b.toInt) (h4 : b.toInt ≤ FARz) (h5 : 0 ≤ c.toInt) (h6 : c.toInt ≤ FARz) : (a - b + c).toInt = a.toInt - b.toInt + c.toInt := by
  unfold FARz at *
  have e : (a - b).toInt = a.toInt - b.toInt := i64_sub (by omega) (by omega)
  rw [i64_add (by omega) (by omega), e]
theorem pushG_s {P : Nat → Int64} {k fr : Nat} {s : T3} {c : Nat} : pushG P k fr s (c + 1) = if ¬ P (k * 7 + c) < FARc then pushG P k fr s c else
      if ¬ (pushG P k fr s c).1 fr - P (k * 7 + fr) + P (k * 7 + c) < (pushG P k fr s c).1 c then pushG P k fr s c else
      (vp_updL (pushG P k fr s c).1 c ((pushG P k fr s c).1 fr - P (k * 7 + fr) + P (k * 7 + c)), upd (pushG P k fr s c).2.1 c (nI k), 1) := rfl
theorem updL_eq {f : Nat → Int64} {k : Nat} {x : Int64} : vp_updL f k x k = x := by simp [vp_updL]
theorem updL_ne {f : Nat → Int64} {k j : Nat} {x : Int64} (h : j ≠ k) : vp_updL f k x j = f j := by simp [vp_updL, h]
theorem pushG_B {P : Nat → Int64} {k fr : Nat} {d : Nat → Int64} {m : Nat → Int32} (hf : fr < 7) (hP : ∀ c, c < 7 → 0 ≤ pz P k c ∧ pz P k c ≤ FARz) (hb1 : -48000000000 ≤ (d fr).toInt) (hb2 : (d fr).toInt ≤ FARz) : ∀ c, c ≤ 7 →
    (pushG P k fr (d, m, 0) c).1 fr = d fr ∧ (∀ x, ((pushG P k fr (d, m, 0) c).1 x).toInt ≤ (d x).toInt) ∧ (∀ x, x < c → pz P k x < FARz → ((pushG P k fr (d, m, 0) c).1 x).toInt ≤ (d fr).toInt - pz P k fr + pz P k x) ∧ ((pushG P k fr (d, m, 0) c).2.2 = 0 → (pushG P k fr (d, m, 0) c).1 = d) := by
  intro c
  induction c with
  | zero => intro _; exact ⟨rfl, fun x => Int.le_refl _, fun x hx => absurd hx (by omega), fun _ => rfl⟩
  | succ c ih =>
    intro hc
    obtain ⟨h1, h2, h3, h4⟩ := ih (by omega)
    have hs : ((pushG P k fr (d, m, 0) c).1 fr - P (k * 7 + fr) + P (k * 7 + c)).toInt = (d fr).toInt - pz P k fr + pz P k c := by
      rw [h1]
      exact sum_z hb1 hb2 (hP fr hf).1 (hP fr hf).2 (hP c (by omega)).1 (hP c (by omega)).2
    rw [pushG_s]
    generalize pushG P k fr (d, m, 0) c = r at *
    by_cases q1 : P (k * 7 + c) < FARc
    · rw [if_neg (not_not_intro q1)]
      by_cases q2 : r.1 fr - P (k * 7 + fr) + P (k * 7 + c) < r.1 c
      · rw [if_neg (not_not_intro q2)]
        have q3 := Int64.lt_iff_toInt_lt.mp q2
        have hne : fr ≠ c := by
          intro e
          subst e
          rw [hs, h1] at q3
          omega
        refine ⟨(updL_ne hne).trans h1, fun x => ?_, fun x hx hp => ?_, fun q => absurd q (show ¬ (1 : Int32) = 0 by decide)⟩
        · show (vp_updL r.1 c _ x).toInt ≤ _
          by_cases e : x = c
          · subst e
            rw [updL_eq]
            have := h2 x
            omega
          · rw [updL_ne e]
            exact h2 x
        · show (vp_updL r.1 c _ x).toInt ≤ _
          by_cases e : x = c
          · subst e
            rw [updL_eq, hs]
            exact Int.le_refl _
          · rw [updL_ne e]
            exact h3 x (by omega) hp
      · rw [if_pos q2]
        refine ⟨h1, h2, fun x hx hp => ?_, h4⟩
        by_cases e : x = c
        · subst e
          rw [Int64.lt_iff_toInt_lt, hs] at q2
          omega
        · exact h3 x (by omega) hp
    · rw [if_pos q1]
      refine ⟨h1, h2, fun x hx hp => ?_, h4⟩
      by_cases e : x = c
      · subst e
        exact absurd (far_lt.mpr hp) q1
      · exact h3 x (by omega) hp
theorem pushG_J {P : Nat → Int64} {k fr : Nat} {d : Nat → Int64} {m : Nat → Int32} {J : (Nat → Int64) → (Nat → Int32) → Prop} (hf : fr < 7) (hP : ∀ c, c < 7 → 0 ≤ pz P k c ∧ pz P k c ≤ FARz) (hb1 : -48000000000 ≤ (d fr).toInt) (hb2 : (d fr).toInt ≤ FARz)
    (hJ : ∀ d' m' c v, J d' m' → d' fr = d fr → c < 7 → pz P k c < FARz → (d fr).toInt - pz P k fr + pz P k c < (d' c).toInt → v.toInt = (d fr).toInt - pz P k fr + pz P k c → J (vp_updL d' c v) (upd m' c (nI k))) (h0 : J d m) : ∀ c, c ≤ 7 → J (pushG P k fr (d, m, 0) c).1 (pushG P k fr (d, m, 0) c).2.1 := by
  intro c
  induction c with
  | zero => intro _; exact h0
  | succ c ih =>
    intro hc
    have h1 := (pushG_B (P := P) (k := k) (m := m) hf hP hb1 hb2 c (by omega)).1
    have hi := ih (by omega)
    have hs : ((pushG P k fr (d, m, 0) c).1 fr - P (k * 7 + fr) + P (k * 7 + c)).toInt = (d fr).toInt - pz P k fr + pz P k c := by
      rw [h1]
      exact sum_z hb1 hb2 (hP fr hf).1 (hP fr hf).2 (hP c (by omega)).1 (hP c (by omega)).2
    rw [pushG_s]
    generalize pushG P k fr (d, m, 0) c = r at *
    by_cases q1 : P (k * 7 + c) < FARc
    · rw [if_neg (not_not_intro q1)]
      by_cases q2 : r.1 fr - P (k * 7 + fr) + P (k * 7 + c) < r.1 c
      · rw [if_neg (not_not_intro q2)]
        have q3 := Int64.lt_iff_toInt_lt.mp q2
        rw [hs] at q3
        exact hJ r.1 r.2.1 c _ hi h1 (by omega) (far_lt.mp q1) q3 hs
      · rw [if_pos q2]
        exact hi
    · rw [if_pos q1]
      exact hi
/-- the class's plan for nc trips, with potentials that show that it is best -/
def GX (P : Nat → Int64) (g : Nat → Int32) (G : Nat → Nat) (nc : Nat) (π : Nat → Int) : Prop :=
  (∀ k, k ≤ nc → (∀ c, c < 7 → 0 ≤ pz P k c ∧ pz P k c ≤ FARz ∧ (pz P k c < FARz → pz P k c ≤ 6000000000)) ∧ pz P k 6 < FARz) ∧
  (∀ j, j < nc → g j = nI (G j) ∧ G j < 7 ∧ pz P j (G j) < FARz ∧ ∀ c, c < 7 → pz P j c < FARz → pz P j (G j) + π (G j) ≤ pz P j c + π c) ∧
  (∀ c, c < 7 → 0 ≤ π c ∧ π c ≤ 48000000000)
def CI (P : Nat → Int64) (G : Nat → Nat) (nc : Nat) (π : Nat → Int) (d : Nat → Int64) (m : Nat → Int32) (τ : Nat → Nat) : Prop :=
  (∀ c, c < 7 → 0 ≤ (d c).toInt + π c ∧ (d c).toInt ≤ FARz ∧ (d c).toInt ≤ pz P nc c) ∧
  (∀ c, c < 7 → (m c = nI nc ∧ (d c).toInt = pz P nc c) ∨ ∃ j, j < nc ∧ m c = nI j ∧ pz P j c < FARz ∧ (d (G j)).toInt < FARz ∧ (d (G j)).toInt - pz P j (G j) + pz P j c ≤ (d c).toInt ∧ ((d (G j)).toInt - pz P j (G j) + pz P j c = (d c).toInt → τ (G j) < τ c))
theorem sN_ge {f : Nat → Nat} {t : Nat} : ∀ {n : Nat}, t < n → f t ≤ sN f n
  | 0, h => absurd h (by omega)
  | n + 1, h => by
    rw [sN]
    by_cases e : t = n
    · subst e
      omega
    · have := sN_ge (f := f) (t := t) (n := n) (by omega)
      omega
theorem CI.up {P : Nat → Int64} {g : Nat → Int32} {G : Nat → Nat} {nc : Nat} {π : Nat → Int} {d : Nat → Int64} {m : Nat → Int32} {τ : Nat → Nat} (hX : GX P g G nc π) (h : CI P G nc π d m τ) {k c : Nat} {v : Int64} (hk : k < nc) (hc : c < 7) (hp : pz P k c < FARz) (hf : (d (G k)).toInt < FARz) (hs : (d (G k)).toInt - pz P k (G k) + pz P k c < (d c).toInt) (hv : v.toInt = (d (G k)).toInt - pz P k (G k) + pz P k c) : ∃ τ', CI P G nc π (vp_updL d c v) (upd m c (nI k)) τ' := by
  obtain ⟨hgk, hG7, hpk, hred⟩ := hX.2.1 k hk
  have hr := hred c hc hp
  have hne : G k ≠ c := by
    intro e
    rw [e] at hs
    omega
  refine ⟨fun x => if x = c then sN τ 7 + 1 else τ x, fun x hx => ?_, fun x hx => ?_⟩
  · by_cases e : x = c
    · subst e
      rw [updL_eq, hv]
      have a1 := h.1 (G k) hG7
      have a2 := h.1 x hx
      exact ⟨by omega, by omega, by omega⟩
    · rw [updL_ne e]
      exact h.1 x hx
  · by_cases e : x = c
    · subst e
      refine Or.inr ⟨k, hk, up_eq, hp, ?_, ?_, fun _ => ?_⟩
      · rw [updL_ne hne]
        exact hf
      · rw [updL_ne hne, updL_eq, hv]
        exact Int.le_refl _
      · show (if G k = x then sN τ 7 + 1 else τ (G k)) < (if x = x then sN τ 7 + 1 else τ x)
        rw [if_neg hne, if_pos rfl]
        have := sN_ge (f := τ) hG7
        omega
    · rw [updL_ne e, up_ne e]
      rcases h.2 x hx with h1 | ⟨j, hj, hm, h1, h2, h3, h4⟩
      · exact Or.inl h1
      · refine Or.inr ⟨j, hj, hm, h1, ?_⟩
        by_cases e2 : G j = c
        · rw [e2] at h2 h3 h4 ⊢
          rw [updL_eq]
          exact ⟨by omega, by omega, fun q => absurd q (by omega)⟩
        · rw [updL_ne e2]
          refine ⟨h2, h3, fun q => ?_⟩
          show (if G j = c then sN τ 7 + 1 else τ (G j)) < (if x = c then sN τ 7 + 1 else τ x)
          rw [if_neg e2, if_neg e]
          exact h4 q
def RIz (P : Nat → Int64) (G : Nat → Nat) (nc : Nat) (π : Nat → Int) (S : Nat → Bool) (x0 : Nat) (M : Int) (d : Nat → Int64) : Prop :=
  (∀ c, c < 7 → S c = true → (d c).toInt + π c ≤ M ∧ (d c).toInt < FARz) ∧
  (∀ c, c < 7 → S c = false → (d c).toInt < FARz → M ≤ (d c).toInt + π c) ∧
  (∀ j, j < nc → S (G j) = true → RX P G d j) ∧
  (x0 < 7 ∧ S x0 = false ∧ (d x0).toInt + π x0 = M ∧ (d x0).toInt < FARz)
theorem RX.up {P : Nat → Int64} {G : Nat → Nat} {d : Nat → Int64} {j c : Nat} {v : Int64} (h : RX P G d j) (hn : G j ≠ c) (hv : v.toInt ≤ (d c).toInt) : RX P G (vp_updL d c v) j := by
  intro x hx hp
  rw [updL_ne hn]
  have := h x hx hp
  by_cases e : x = c
  · subst e
    rw [updL_eq]
    omega
  · rw [updL_ne e]
    exact this
theorem RIz.up {P : Nat → Int64} {g : Nat → Int32} {G : Nat → Nat} {nc : Nat} {π : Nat → Int} {d : Nat → Int64} {S : Nat → Bool} {x0 : Nat} {M : Int} (hX : GX P g G nc π) (h : RIz P G nc π S x0 M d) {k c : Nat} {v : Int64} (hk : k < nc) (hc : c < 7) (hp : pz P k c < FARz) (hf : (d (G k)).toInt < FARz) (hs : (d (G k)).toInt - pz P k (G k) + pz P k c < (d c).toInt) (hv : v.toInt = (d (G k)).toInt - pz P k (G k) + pz P k c) : RIz P G nc π S x0 M (vp_updL d c v) ∧ c ≠ x0 ∧ S c = false := by
  obtain ⟨hgk, hG7, hpk, hred⟩ := hX.2.1 k hk
  have hr := hred c hc hp
  obtain ⟨i1, i2, i3, i4, i5, i6, i7⟩ := h
  have hS : S (G k) = false := by
    cases e : S (G k) with
    | false => rfl
    | true => exact absurd (i3 k hk e c hc hp) (by omega)
  have hM := i2 (G k) hG7 hS hf
  have hSc : S c = false := by
    cases e : S c with
    | false => rfl
    | true => exact absurd (i1 c hc e).1 (by omega)
  have hx : c ≠ x0 := by
    intro e
    subst e
    omega
  refine ⟨⟨fun x hx1 hx2 => ?_, fun x hx1 hx2 hx3 => ?_, fun j hj hjs => ?_, i4, i5, ?_⟩, hx, hSc⟩
  · have e : x ≠ c := fun e => by rw [e, hSc] at hx2; cases hx2
    rw [updL_ne e]
    exact i1 x hx1 hx2
  · by_cases e : x = c
    · subst e
      rw [updL_eq]
      omega
    · rw [updL_ne e] at hx3 ⊢
      exact i2 x hx1 hx2 hx3
  · refine RX.up (i3 j hj hjs) (fun e => ?_) (by omega)
    rw [e, hSc] at hjs
    cases hjs
  · rw [updL_ne (Ne.symm hx)]
    exact ⟨i6, i7⟩
/-- one trip's push, told in whole numbers -/
theorem pushF_X {P : Nat → Int64} {g : Nat → Int32} {G : Nat → Nat} {nc : Nat} {π : Nat → Int} {d : Nat → Int64} {m : Nat → Int32} {τ : Nat → Nat} (hX : GX P g G nc π) (h : CI P G nc π d m τ) {k : Nat} (hk : k < nc) {J : (Nat → Int64) → (Nat → Int32) → Prop}
    (hJ : ∀ d' m' c v, J d' m' → c < 7 → pz P k c < FARz → (d' (G k)).toInt < FARz → (d' (G k)).toInt - pz P k (G k) + pz P k c < (d' c).toInt → v.toInt = (d' (G k)).toInt - pz P k (G k) + pz P k c → J (vp_updL d' c v) (upd m' c (nI k))) (h0 : J d m) :
    J (pushF P k (g k) d m).1 (pushF P k (g k) d m).2.1 ∧ ((pushF P k (g k) d m).1 (G k)).toInt = (d (G k)).toInt ∧ ((d (G k)).toInt < FARz → RX P G (pushF P k (g k) d m).1 k) ∧ ((pushF P k (g k) d m).2.2 = 0 → (pushF P k (g k) d m).1 = d) ∧ (∀ x, ((pushF P k (g k) d m).1 x).toInt ≤ (d x).toInt) := by
  obtain ⟨hgk, hG7, hpk, hred⟩ := hX.2.1 k hk
  have hP : ∀ c, c < 7 → 0 ≤ pz P k c ∧ pz P k c ≤ FARz := fun c hc => ⟨((hX.1 k (by omega)).1 c hc).1, ((hX.1 k (by omega)).1 c hc).2.1⟩
  have hc1 := h.1 (G k) hG7
  have hpi := hX.2.2 (G k) hG7
  have hb1 : -48000000000 ≤ (d (G k)).toInt := by omega
  have e1 : ¬ g k < 0 := by rw [hgk]; exact nI_pos (by omega)
  have e2 : (g k).toNatClampNeg = G k := by rw [hgk]; exact nI_clamp (by omega)
  unfold pushF
  rw [if_neg e1, e2]
  by_cases q : d (G k) < FARc
  · rw [if_neg (not_not_intro q)]
    have q2 := far_lt.mp q
    obtain ⟨b1, b2, b3, b4⟩ := pushG_B (m := m) hG7 hP hb1 hc1.2.1 7 (Nat.le_refl 7)
    refine ⟨pushG_J (J := J) hG7 hP hb1 hc1.2.1 (fun d' m' c v j1 j2 j3 j4 j5 j6 => ?_) h0 7 (Nat.le_refl 7), by rw [b1], fun _ => ?_, b4, b2⟩
    · rw [← j2] at j5 j6 q2
      exact hJ d' m' c v j1 j3 j4 q2 j5 j6
    · intro c hc hp
      rw [b1]
      exact b3 c hc hp
  · rw [if_pos q]
    exact ⟨h0, rfl, fun q2 => absurd (far_lt.mpr q2) q, fun _ => rfl, fun _ => Int.le_refl _⟩
def FIX (P : Nat → Int64) (G : Nat → Nat) (nc : Nat) (d : Nat → Int64) : Prop := ∀ j, j < nc → (d (G j)).toInt < FARz → RX P G d j
theorem innG_s {P : Nat → Int64} {g : Nat → Int32} {s : T3} {k : Nat} : innG P g s (k + 1) = ((pushF P k (g k) (innG P g s k).1 (innG P g s k).2.1).1, (pushF P k (g k) (innG P g s k).1 (innG P g s k).2.1).2.1, if (pushF P k (g k) (innG P g s k).1 (innG P g s k).2.1).2.2 = 0 then (innG P g s k).2.2 else 1) := rfl
/-- a round: the shape of chains stays, and where nothing changed all is at rest -/
theorem innG_C {P : Nat → Int64} {g : Nat → Int32} {G : Nat → Nat} {nc : Nat} {π : Nat → Int} {d : Nat → Int64} {m : Nat → Int32} (hX : GX P g G nc π) (h : ∃ τ, CI P G nc π d m τ) : ∀ k, k ≤ nc →
    (∃ τ, CI P G nc π (innG P g (d, m, 0) k).1 (innG P g (d, m, 0) k).2.1 τ) ∧ ((innG P g (d, m, 0) k).2.2 = 0 → (innG P g (d, m, 0) k).1 = d ∧ ∀ j, j < k → (d (G j)).toInt < FARz → RX P G d j) := by
  intro k
  induction k with
  | zero => intro _; exact ⟨h, fun _ => ⟨rfl, fun j hj => absurd hj (by omega)⟩⟩
  | succ k ih =>
    intro hk
    obtain ⟨⟨τ, h1⟩, h2⟩ := ih (by omega)
    rw [innG_s]
    generalize innG P g (d, m, 0) k = r at *
    obtain ⟨p1, p2, p3, p4, p5⟩ := pushF_X (J := fun d' m' => ∃ τ, CI P G nc π d' m' τ) hX h1 (show k < nc by omega) (fun d' m' c v ⟨τ, j1⟩ j3 j4 j5 j6 j7 => j1.up hX (by omega) j3 j4 j5 j6 j7) ⟨τ, h1⟩
    refine ⟨p1, fun q => ?_⟩
    show (pushF P k (g k) r.1 r.2.1).1 = d ∧ _
    change (if (pushF P k (g k) r.1 r.2.1).2.2 = 0 then r.2.2 else 1) = 0 at q
    by_cases e : (pushF P k (g k) r.1 r.2.1).2.2 = 0
    · rw [if_pos e] at q
      obtain ⟨a1, a2⟩ := h2 q
      have a3 := p4 e
      rw [a3, a1] at p3
      refine ⟨a3.trans a1, fun j hj hf => ?_⟩
      by_cases ej : j = k
      · subst ej
        exact p3 hf
      · exact a2 j (by omega) hf
    · rw [if_neg e] at q
      exact absurd q (by decide)
theorem innG_F {P : Nat → Int64} {g : Nat → Int32} {G : Nat → Nat} {nc : Nat} {π : Nat → Int} {d : Nat → Int64} {m : Nat → Int32} (hX : GX P g G nc π) (h : ∃ τ, CI P G nc π d m τ) (hF : FIX P G nc d) : ∀ k, k ≤ nc → (innG P g (d, m, 0) k).1 = d := by
  intro k
  induction k with
  | zero => intro _; rfl
  | succ k ih =>
    intro hk
    have h1 := ih (by omega)
    obtain ⟨⟨τ, h2⟩, _⟩ := innG_C hX h k (by omega)
    rw [innG_s]
    generalize innG P g (d, m, 0) k = r at *
    refine (pushF_X (J := fun d' m' => d' = d) hX h2 (show k < nc by omega) (fun d' m' c v j1 j3 j4 j5 j6 j7 => ?_) h1).1
    subst j1
    exact absurd (hF k (by omega) j5 c j3 j4) (by omega)
theorem innG_R {P : Nat → Int64} {g : Nat → Int32} {G : Nat → Nat} {nc : Nat} {π : Nat → Int} {d : Nat → Int64} {m : Nat → Int32} {S : Nat → Bool} {x0 : Nat} {M : Int} (hX : GX P g G nc π) (h : ∃ τ, CI P G nc π d m τ) (hR : RIz P G nc π S x0 M d) : ∀ k, k ≤ nc →
    RIz P G nc π S x0 M (innG P g (d, m, 0) k).1 ∧ ∀ j, j < k → G j = x0 → RX P G (innG P g (d, m, 0) k).1 j := by
  intro k
  induction k with
  | zero => intro _; exact ⟨hR, fun j hj => absurd hj (by omega)⟩
  | succ k ih =>
    intro hk
    have h1 := ih (by omega)
    obtain ⟨⟨τ, h2⟩, _⟩ := innG_C hX h k (by omega)
    rw [innG_s]
    generalize innG P g (d, m, 0) k = r at *
    obtain ⟨p1, p2, p3, p4, p5⟩ := pushF_X (J := fun d' m' => RIz P G nc π S x0 M d' ∧ ∀ j, j < k → G j = x0 → RX P G d' j) hX h2 (show k < nc by omega) (fun d' m' c v j1 j3 j4 j5 j6 j7 => by
      obtain ⟨u1, u2, u3⟩ := j1.1.up hX (by omega) j3 j4 j5 j6 j7
      exact ⟨u1, fun j hj hjx => (j1.2 j hj hjx).up (by rw [hjx]; exact Ne.symm u2) (by omega)⟩) h1
    refine ⟨p1.1, fun j hj hjx => ?_⟩
    by_cases ej : j = k
    · subst ej
      refine p3 ?_
      rw [hjx]
      exact h1.1.2.2.2.2.2.2
    · exact p1.2 j (by omega) hjx
def INV (P : Nat → Int64) (G : Nat → Nat) (nc : Nat) (π : Nat → Int) (S : Nat → Bool) (d : Nat → Int64) : Prop :=
  (∀ c, c < 7 → S c = true → (d c).toInt < FARz ∧ ∀ x, x < 7 → S x = false → (d x).toInt < FARz → (d c).toInt + π c ≤ (d x).toInt + π x) ∧
  (∀ j, j < nc → S (G j) = true → RX P G d j)
theorem argmin (p : Nat → Prop) (f : Nat → Int) : ∀ n, (∀ c, c < n → ¬ p c) ∨ ∃ x, x < n ∧ p x ∧ ∀ c, c < n → p c → f x ≤ f c := by
  intro n
  induction n with
  | zero => exact Or.inl (fun c hc => absurd hc (by omega))
  | succ n ih =>
    by_cases q : p n
    · rcases ih with h | ⟨x, h1, h2, h3⟩
      · exact Or.inr ⟨n, by omega, q, fun c hc hp => by
          by_cases e : c = n
          · rw [e]
            exact Int.le_refl _
          · exact absurd hp (h c (by omega))⟩
      · by_cases q2 : f x ≤ f n
        · exact Or.inr ⟨x, by omega, h2, fun c hc hp => by
            by_cases e : c = n
            · rw [e]
              exact q2
            · exact h3 c (by omega) hp⟩
        · exact Or.inr ⟨n, by omega, q, fun c hc hp => by
            by_cases e : c = n
            · rw [e]
              exact Int.le_refl _
            · have := h3 c (by omega) hp
              omega⟩
    · rcases ih with h | ⟨x, h1, h2, h3⟩
      · exact Or.inl (fun c hc => by
          by_cases e : c = n
          · rw [e]
            exact q
          · exact h c (by omega))
      · exact Or.inr ⟨x, by omega, h2, fun c hc hp => by
          by_cases e : c = n
          · rw [e] at hp
            exact absurd hp q
          · exact h3 c (by omega) hp⟩
def cS (S : Nat → Bool) : Nat := sN (fun c => if S c then 1 else 0) 7
theorem cS_all {S : Nat → Bool} (h : 7 ≤ cS S) : ∀ c, c < 7 → S c = true := by
  intro c hc
  cases e : S c with
  | true => rfl
  | false =>
    have := sN_lt (f := fun c => if S c then 1 else 0) (t := c) (n := 7) (fun i _ => by (try dsimp only); split <;> omega) hc (by simp [e])
    unfold cS at h
    omega
theorem cS_add {S : Nat → Bool} {x : Nat} (hx : x < 7) (h : S x = false) : cS (fun c => S c || c == x) = cS S + 1 := by
  have e := sN_upd (f := fun c => if S c then 1 else 0) (g := fun c => if (S c || c == x) then 1 else 0) (t := x) (n := 7) hx (fun i _ hn => by
    have : (i == x) = false := by simp [hn]
    (try dsimp only)
    rw [this, Bool.or_false])
  have e1 : (if S x then 1 else 0 : Nat) = 0 := by simp [h]
  have e2 : (if (S x || x == x) then 1 else 0 : Nat) = 1 := by simp
  (try dsimp only at e)
  rw [e1, e2] at e
  exact e
theorem rnd_fix {P : Nat → Int64} {g : Nat → Int32} {G : Nat → Nat} {nc : Nat} {π : Nat → Int} (hX : GX P g G nc π) : ∀ (f : Nat) (s : T3), (∃ τ, CI P G nc π s.1 s.2.1 τ) → (s.2.2 = 0 → FIX P G nc s.1) → (FIX P G nc s.1 ∨ ∃ S, INV P G nc π S s.1 ∧ 7 ≤ cS S + f) →
    (∃ τ, CI P G nc π (rndG P g nc f s).1 (rndG P g nc f s).2.1 τ) ∧ FIX P G nc (rndG P g nc f s).1 := by
  intro f
  induction f with
  | zero =>
    intro s hC h0 hS
    refine ⟨hC, ?_⟩
    rcases hS with h | ⟨S, h1, h2⟩
    · exact h
    · intro j hj _
      exact h1.2 j hj (cS_all h2 _ (hX.2.1 j hj).2.1)
  | succ f ih =>
    intro s hC h0 hS
    rw [show rndG P g nc (f + 1) s = if s.2.2 = 0 then s else rndG P g nc f (innG P g (s.1, s.2.1, 0) nc) from rfl]
    by_cases q : s.2.2 = 0
    · rw [if_pos q]
      exact ⟨hC, h0 q⟩
    · rw [if_neg q]
      obtain ⟨c1, c2⟩ := innG_C hX hC nc (Nat.le_refl nc)
      refine ih _ c1 (fun z => ?_) ?_
      · obtain ⟨a1, a2⟩ := c2 z
        rw [a1]
        exact a2
      · have hfx : FIX P G nc s.1 → FIX P G nc (innG P g (s.1, s.2.1, 0) nc).1 := fun z => by
          rw [innG_F hX hC z nc (Nat.le_refl nc)]
          exact z
        rcases hS with h | ⟨S, h1, h2⟩
        · exact Or.inl (hfx h)
        · rcases argmin (fun c => S c = false ∧ (s.1 c).toInt < FARz) (fun c => (s.1 c).toInt + π c) 7 with e | ⟨x0, x1, x2, x3⟩
          · refine Or.inl (hfx (fun j hj hf => h1.2 j hj ?_))
            cases e2 : S (G j) with
            | true => rfl
            | false => exact absurd ⟨e2, hf⟩ (e (G j) (hX.2.1 j hj).2.1)
          · have hR : RIz P G nc π S x0 ((s.1 x0).toInt + π x0) s.1 := ⟨fun c hc hs => ⟨(h1.1 c hc hs).2 x0 x1 x2.1 x2.2, (h1.1 c hc hs).1⟩, fun c hc hs hf => x3 c hc ⟨hs, hf⟩, h1.2, x1, x2.1, rfl, x2.2⟩
            obtain ⟨⟨r1, r2, r3, r4, r5, r6, r7⟩, r8⟩ := innG_R hX hC hR nc (Nat.le_refl nc)
            refine Or.inr ⟨fun c => S c || c == x0, ⟨fun c hc hs => ?_, fun j hj hs => ?_⟩, ?_⟩
            · have hle : ((innG P g (s.1, s.2.1, 0) nc).1 c).toInt + π c ≤ (s.1 x0).toInt + π x0 ∧ ((innG P g (s.1, s.2.1, 0) nc).1 c).toInt < FARz := by
                cases e : S c with
                | true => exact r1 c hc e
                | false =>
                  have e2 : c = x0 := by simpa [e] using hs
                  rw [e2]
                  exact ⟨by omega, r7⟩
              refine ⟨hle.2, fun x hx hxs hxf => ?_⟩
              have e3 : S x = false := by
                cases e : S x with
                | true => simp [e] at hxs
                | false => rfl
              have := r2 x hx e3 hxf
              omega
            · cases e : S (G j) with
              | true => exact r3 j hj e
              | false => exact r8 j hj (by simpa [e] using hs)
            · rw [cS_add x1 x2.1]
              omega
