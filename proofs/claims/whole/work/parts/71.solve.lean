/-! THE CLASS'S PLANNER: each newcomer keeps the plan best -/
theorem initG_d {P : Nat → Int64} {nc : Nat} {d : Nat → Int64} {m : Nat → Int32} (c : Nat) : ∀ j, j < c → (initG P nc d m c).1 j = P (nc * 7 + j) := by
  induction c with
  | zero => intro j hj; omega
  | succ c ih =>
    intro j hj
    rw [show (initG P nc d m (c + 1)).1 = vp_updL (initG P nc d m c).1 c (P (nc * 7 + c)) from rfl]
    by_cases e : j = c
    · subst e
      exact updL_eq
    · rw [updL_ne e]
      exact ih j (by omega)
theorem chain_spec {P : Nat → Int64} {g : Nat → Int32} {G : Nat → Nat} {nc : Nat} {π : Nat → Int} (hX : GX P g G nc π) (d : Nat → Int64) (m : Nat → Int32) : (∃ τ, CI P G nc π (chainF P g nc d m).1 (chainF P g nc d m).2.1 τ) ∧ FIX P G nc (chainF P g nc d m).1 := by
  unfold chainF
  refine rnd_fix hX 7 _ ⟨fun _ => 0, fun c hc => ?_, fun c hc => Or.inl ⟨initG_m 7 c hc, ?_⟩⟩ (fun q => absurd q (show ¬ (1 : Int32) = 0 by decide)) (Or.inr ⟨fun _ => false, ⟨fun c _ h => Bool.noConfusion h, fun j _ h => Bool.noConfusion h⟩, by omega⟩)
  · show 0 ≤ ((initG P nc d m 7).1 c).toInt + π c ∧ ((initG P nc d m 7).1 c).toInt ≤ FARz ∧ ((initG P nc d m 7).1 c).toInt ≤ pz P nc c
    rw [initG_d 7 c hc]
    have h1 := (hX.1 nc (Nat.le_refl nc)).1 c hc
    have h2 := hX.2.2 c hc
    unfold pz at *
    exact ⟨by omega, by omega, Int.le_refl _⟩
  · show ((initG P nc d m 7).1 c).toInt = pz P nc c
    rw [initG_d 7 c hc]
    rfl
theorem chG_spec {L : Nat → Int32} {d : Nat → Int64} : ∀ c, c ≤ 6 → (chG L d c = 6 ∨ (chG L d c < c ∧ ¬ L (chG L d c) ≤ 0)) ∧ (d (chG L d c)).toInt ≤ (d 6).toInt ∧ ∀ x, x < c → ¬ L x ≤ 0 → (d (chG L d c)).toInt ≤ (d x).toInt := by
  intro c
  induction c with
  | zero => intro _; exact ⟨Or.inl rfl, Int.le_refl _, fun x hx => absurd hx (by omega)⟩
  | succ c ih =>
    intro hc
    obtain ⟨h1, h2, h3⟩ := ih (by omega)
    rw [show chG L d (c + 1) = if L c ≤ 0 then chG L d c else if ¬ d c < d (chG L d c) then chG L d c else c from rfl]
    by_cases q1 : L c ≤ 0
    · rw [if_pos q1]
      refine ⟨h1.imp id (fun z => ⟨by omega, z.2⟩), h2, fun x hx hl => ?_⟩
      by_cases e : x = c
      · rw [e] at hl
        exact absurd q1 hl
      · exact h3 x (by omega) hl
    · rw [if_neg q1]
      by_cases q2 : d c < d (chG L d c)
      · rw [if_neg (not_not_intro q2)]
        rw [Int64.lt_iff_toInt_lt] at q2
        refine ⟨Or.inr ⟨by omega, q1⟩, by omega, fun x hx hl => ?_⟩
        by_cases e : x = c
        · rw [e]
          exact Int.le_refl _
        · have := h3 x (by omega) hl
          omega
      · rw [if_pos q2]
        rw [Int64.lt_iff_toInt_lt] at q2
        refine ⟨h1.imp id (fun z => ⟨by omega, z.2⟩), h2, fun x hx hl => ?_⟩
        by_cases e : x = c
        · rw [e]
          omega
        · exact h3 x (by omega) hl
def cntg (g : Nat → Int32) (n c : Nat) : Nat := sN (fun j => if g j = nI c then 1 else 0) n
theorem cntg_upd {g : Nat → Int32} {n c j t : Nat} (hj : j < n) (ht : t < 7) (hc : c < 7) : cntg (upd g j (nI t)) n c + (if g j = nI c then 1 else 0) = cntg g n c + (if c = t then 1 else 0) := by
  have h := sN_upd (f := fun j => if g j = nI c then 1 else 0) (g := fun i => if upd g j (nI t) i = nI c then 1 else 0) (t := j) (n := n) hj (fun i _ hn => by (try dsimp only); rw [up_ne hn])
  (try dsimp only at h)
  rw [up_eq] at h
  have e : (if nI t = nI c then 1 else 0) = (if c = t then 1 else 0 : Nat) := by
    by_cases q : c = t
    · rw [q, if_pos rfl, if_pos rfl]
    · rw [if_neg q, if_neg (fun z => q (nI_inj (by omega) (by omega) z).symm)]
  rw [e] at h
  exact h
theorem moveG_neg {mv : Nat → Int32} {nc : Nat} {g : Nat → Int32} : ∀ f, moveG mv nc f g (-1) = g
  | 0 => rfl
  | f + 1 => by
    rw [show moveG mv nc (f + 1) g (-1) = if (-1 : Int32) < 0 then g else moveG mv nc f (upd g (mv (-1 : Int32).toNatClampNeg).toNatClampNeg (-1)) (if mv (-1 : Int32).toNatClampNeg = nI nc then -1 else g (mv (-1 : Int32).toNatClampNeg).toNatClampNeg) from rfl]
    exact if_pos (by decide)
def rkT (τ : Nat → Nat) (t : Nat) : Nat := sN (fun x => if τ x < τ t then 1 else 0) 7
theorem rkT_lt {τ : Nat → Nat} {s t : Nat} (hs : s < 7) (h : τ s < τ t) : rkT τ s < rkT τ t := by
  have h1 := sN_upd (f := fun x => if τ x < τ s then 1 else 0) (g := fun x => if x = s then 1 else if τ x < τ s then 1 else 0) (t := s) (n := 7) hs (fun i _ hn => by simp [hn])
  have h2 := sN_mono (f := fun x => if x = s then 1 else if τ x < τ s then 1 else 0) (g := fun x => if τ x < τ t then 1 else 0) (n := 7) (fun i _ => by
    (try dsimp only)
    by_cases e : i = s
    · rw [e, if_pos rfl, if_pos h]
      exact Nat.le_refl 1
    · rw [if_neg e]
      by_cases e2 : τ i < τ s
      · rw [if_pos e2, if_pos (by omega)]
        exact Nat.le_refl 1
      · rw [if_neg e2]
        exact Nat.zero_le _)
  simp at h1
  unfold rkT
  omega
theorem rkT_7 {τ : Nat → Nat} {t : Nat} (ht : t < 7) : rkT τ t < 7 := sN_lt (t := t) (fun i _ => by (try dsimp only); split <;> omega) ht (by simp)
theorem move_spec {mv g : Nat → Int32} {G : Nat → Nat} {nc : Nat} {τ : Nat → Nat} {K : Nat → Prop} (hnc : nc < 8) (hm : ∀ c, c < 7 → K c → mv c = nI nc ∨ ∃ j, j < nc ∧ mv c = nI j ∧ τ (G j) < τ c ∧ K (G j) ∧ G j < 7) (hg : ∀ j, j < nc → g j = nI (G j)) :
    ∀ (f t : Nat) (gc : Nat → Int32), t < 7 → K t → rkT τ t < f → (∀ c, c < 7 → K c → τ c ≤ τ t → ∀ j, j < nc → mv c = nI j → gc j = g j) → gc nc = -1 →
    (∀ j, j < nc + 1 → (moveG mv nc f gc (nI t) j = gc j ∧ j ≠ nc) ∨ ∃ c, c < 7 ∧ moveG mv nc f gc (nI t) j = nI c ∧ mv c = nI j ∧ K c) ∧
    (∀ c, c < 7 → cntg (moveG mv nc f gc (nI t)) (nc + 1) c = cntg gc (nc + 1) c + if c = t then 1 else 0) ∧
    (∀ j, nc < j → moveG mv nc f gc (nI t) j = gc j) := by
  intro f
  induction f with
  | zero => intro t gc _ _ h; omega
  | succ f ih =>
    intro t gc ht hK hf hgc hn
    have htc : (nI t).toNatClampNeg = t := nI_clamp (by omega)
    rw [show moveG mv nc (f + 1) gc (nI t) = if nI t < 0 then gc else moveG mv nc f (upd gc (mv (nI t).toNatClampNeg).toNatClampNeg (nI t)) (if mv (nI t).toNatClampNeg = nI nc then -1 else gc (mv (nI t).toNatClampNeg).toNatClampNeg) from rfl, htc, if_neg (nI_pos (by omega))]
    have hcnt : ∀ j, j < nc + 1 → ∀ c, c < 7 → cntg (upd gc j (nI t)) (nc + 1) c + (if gc j = nI c then 1 else 0) = cntg gc (nc + 1) c + (if c = t then 1 else 0) := fun j hj c hc => cntg_upd hj ht hc
    rcases hm t ht hK with e | ⟨j, hj, e, hτ, hKj, hG7⟩
    · rw [e, if_pos rfl, nI_clamp (by omega), moveG_neg]
      refine ⟨fun j hj => ?_, fun c hc => ?_, fun j hj => up_ne (by omega)⟩
      · by_cases e2 : j = nc
        · subst e2
          exact Or.inr ⟨t, ht, up_eq, e, hK⟩
        · exact Or.inl ⟨up_ne e2, e2⟩
      · have := hcnt nc (by omega) c hc
        rw [hn, if_neg (fun z => by
          have z2 := congrArg Int32.toInt z
          rw [nI_toInt (by omega)] at z2
          have : (-1 : Int32).toInt = -1 := by decide
          omega)] at this
        exact this
    · have hne : ¬ nI j = nI nc := fun z => absurd (nI_inj (by omega) (by omega) z) (by omega)
      have hgj : gc j = nI (G j) := (hgc t ht hK (Nat.le_refl _) j hj e).trans (hg j hj)
      rw [e, if_neg hne, nI_clamp (by omega), hgj]
      obtain ⟨i1, i2, i3⟩ := ih (G j) (upd gc j (nI t)) hG7 hKj (by have := rkT_lt hG7 hτ; omega) (fun c hc hKc hle j' hj' hmv => by
        by_cases ej : j' = j
        · subst ej
          rcases hm c hc hKc with e3 | ⟨j2, hj2, e3, hτ2, _⟩
          · rw [e3] at hmv
            exact absurd (nI_inj (by omega) (by omega) hmv) (by omega)
          · rw [e3] at hmv
            have := nI_inj (by omega) (by omega) hmv
            subst this
            omega
        · rw [up_ne ej]
          exact hgc c hc hKc (by omega) j' hj' hmv) (by rw [up_ne (by omega)]; exact hn)
      refine ⟨fun j' hj' => ?_, fun c hc => ?_, fun j' hj' => ?_⟩
      · rcases i1 j' hj' with ⟨a1, a2⟩ | a
        · by_cases ej : j' = j
          · subst ej
            rw [up_eq] at a1
            exact Or.inr ⟨t, ht, a1, e, hK⟩
          · rw [up_ne ej] at a1
            exact Or.inl ⟨a1, a2⟩
        · exact Or.inr a
      · have h1 := hcnt j (by omega) c hc
        have h2 := i2 c hc
        rw [hgj] at h1
        have h3 : (if nI (G j) = nI c then 1 else 0 : Nat) = if c = G j then 1 else 0 := by
          by_cases q : c = G j
          · rw [if_pos q, q, if_pos rfl]
          · rw [if_neg q, if_neg (fun z => q (nI_inj (by omega) (by omega) z).symm)]
        omega
      · rw [i3 j' hj', up_ne (by omega)]
def PHz (P : Nat → Int64) (w : Nat) : Prop := ∀ k, k < w → (∀ c, c < 7 → 0 ≤ pz P k c ∧ pz P k c ≤ FARz ∧ (pz P k c < FARz → pz P k c ≤ 6000000000)) ∧ pz P k 6 < FARz
def SV (P : Nat → Int64) (R : Nat → Int) (nc w : Nat) (L g : Nat → Int32) (G : Nat → Nat) (π : Nat → Int) : Prop :=
  (∀ j, j < nc → g j = nI (G j) ∧ G j < 7 ∧ pz P j (G j) < FARz ∧ ∀ c, c < 7 → pz P j c < FARz → pz P j (G j) + π (G j) ≤ pz P j c + π c) ∧
  (∀ c, c < 7 → 0 ≤ π c ∧ π c ≤ nc * 6000000000) ∧
  (∀ c, c < 7 → (L c).toInt = R c - cntg g nc c ∧ 0 ≤ (L c).toInt ∧ (0 < (L c).toInt → π c = 0)) ∧
  (∀ j, nc ≤ j → j < w → g j = -1)
theorem i32_sub1 {x : Int32} (h : 0 < x.toInt) : (x - 1).toInt = x.toInt - 1 := by
  have e : (x - 1).toInt = (x.toInt - (1 : Int32).toInt).bmod (2 ^ 32) := Int32.toInt_sub x 1
  have h2 := Int32.toInt_lt x
  rw [e, show (1 : Int32).toInt = 1 from by decide]
  exact Int.bmod_eq_of_le (by omega) (by omega)
theorem nle0 {x : Int32} : ¬ x ≤ 0 ↔ 0 < x.toInt := by
  rw [Int32.le_iff_toInt_le]
  have : (0 : Int32).toInt = 0 := by decide
  omega
theorem SV_step {P : Nat → Int64} {R : Nat → Int} {nc w : Nat} {L g : Nat → Int32} (hP : PHz P w) (hw : w ≤ 8) (hnc : nc < w) (hR : R 6 = 8) (h : ∃ G π, SV P R nc w L g G π) (d : Nat → Int64) (m : Nat → Int32) :
    ∃ G π, SV P R (nc + 1) w (upd L (chG L (chainF P g nc d m).1 6) (L (chG L (chainF P g nc d m).1 6) - 1)) (moveG (chainF P g nc d m).2.1 nc 7 g (nI (chG L (chainF P g nc d m).1 6))) G π := by
  obtain ⟨G, π, hG, hπ, hL, hr⟩ := h
  have hX : GX P g G nc π := ⟨fun k hk => hP k (by omega), hG, fun c hc => ⟨(hπ c hc).1, by have := (hπ c hc).2; omega⟩⟩
  obtain ⟨⟨τ, hC⟩, hF⟩ := chain_spec hX d m
  generalize chainF P g nc d m = t at *
  obtain ⟨o1, o2, o3⟩ := chG_spec (L := L) (d := t.1) 6 (Nat.le_refl 6)
  generalize chG L t.1 6 = o at *
  have hgn : g nc = -1 := hr nc (Nat.le_refl nc) hnc
  have ho7 : o < 7 := by rcases o1 with e | e <;> omega
  have hcl : ∀ c, cntg g nc c ≤ nc := fun c => sN_le (fun i _ => by (try dsimp only); split <;> omega)
  have hoL : 0 < (L o).toInt := by
    rcases o1 with e | e
    · subst e
      have h1 := (hL 6 (by omega)).1
      have h2 := hcl 6
      omega
    · exact nle0.mp e.2
  have hπo := (hL o ho7).2.2 hoL
  have hp6 := hP nc hnc
  have hp66 := (hp6.1 6 (by omega)).2.2 hp6.2
  have ht6 := (hC.1 6 (by omega)).2.2
  have hKF : ∀ c, c < 7 → (t.1 c).toInt + π c ≤ (t.1 o).toInt → (t.1 c).toInt < FARz := fun c hc hK => by
    have := (hπ c hc).1
    have := hp6.2
    omega
  have hmv : ∀ c, c < 7 → (t.1 c).toInt + π c ≤ (t.1 o).toInt → (t.2.1 c = nI nc ∧ (t.1 c).toInt = pz P nc c) ∨ ∃ j, j < nc ∧ t.2.1 c = nI j ∧ pz P j c < FARz ∧ (t.1 (G j)).toInt < FARz ∧ (t.1 c).toInt = (t.1 (G j)).toInt - pz P j (G j) + pz P j c ∧ τ (G j) < τ c ∧ (t.1 (G j)).toInt + π (G j) ≤ (t.1 o).toInt := fun c hc hK => by
    rcases hC.2 c hc with e | ⟨j, hj, a1, a2, a3, a4, a5⟩
    · exact Or.inl e
    · have b1 := hF j hj a3 c hc a2
      have b2 := (hG j hj).2.2.2 c hc a2
      exact Or.inr ⟨j, hj, a1, a2, a3, by omega, a5 (by omega), by omega⟩
  obtain ⟨r1, r2, r3⟩ := move_spec (mv := t.2.1) (g := g) (G := G) (nc := nc) (τ := τ) (K := fun c => (t.1 c).toInt + π c ≤ (t.1 o).toInt) (by omega) (fun c hc hK => by
    rcases hmv c hc hK with e | ⟨j, hj, a1, a2, a3, a4, a5, a6⟩
    · exact Or.inl e.1
    · exact Or.inr ⟨j, hj, a1, a5, a6, (hG j hj).2.1⟩) (fun j hj => (hG j hj).1) 7 o g ho7 (by show (t.1 o).toInt + π o ≤ (t.1 o).toInt; omega) (rkT_7 ho7) (fun _ _ _ _ _ _ _ => rfl) hgn
  generalize moveG t.2.1 nc 7 g (nI o) = r at *
  have hD : (t.1 o).toInt < FARz := by have := hp6.2; omega
  have hpi : ∀ c, (t.1 o).toInt - (t.1 c).toInt ≤ (if π c ≤ (t.1 o).toInt - (t.1 c).toInt then (t.1 o).toInt - (t.1 c).toInt else π c) ∧ π c ≤ (if π c ≤ (t.1 o).toInt - (t.1 c).toInt then (t.1 o).toInt - (t.1 c).toInt else π c) := fun c => by split <;> omega
  refine ⟨fun j => (r j).toNatClampNeg, fun c => if π c ≤ (t.1 o).toInt - (t.1 c).toInt then (t.1 o).toInt - (t.1 c).toInt else π c, fun j hj => ?_, fun c hc => ?_, fun c hc => ?_, fun j hj1 hj2 => ?_⟩
  · (try dsimp only)
    rcases r1 j hj with ⟨e1, e2⟩ | ⟨c1, hc1, e1, e2, hK⟩
    · have hj2 : j < nc := by omega
      obtain ⟨g1, g2, g3, g4⟩ := hG j hj2
      rw [e1, g1, nI_clamp (by omega)]
      refine ⟨rfl, g2, g3, fun c hc hp => ?_⟩
      have b1 := hpi c
      have b2 := g4 c hc hp
      by_cases q : π (G j) ≤ (t.1 o).toInt - (t.1 (G j)).toInt
      · rw [if_pos q]
        have b3 := (hπ (G j) g2).1
        have b4 := hF j hj2 (by omega) c hc hp
        omega
      · rw [if_neg q]
        omega
    · rw [e1, nI_clamp (by omega)]
      change (t.1 c1).toInt + π c1 ≤ (t.1 o).toInt at hK
      rw [if_pos (show π c1 ≤ (t.1 o).toInt - (t.1 c1).toInt by omega)]
      rcases hmv c1 hc1 hK with ⟨m1, m2⟩ | ⟨j', hj', m1, m2, m3, m4, m5, m6⟩
      · rw [m1] at e2
        have ej := nI_inj (by omega) (by omega) e2
        subst ej
        refine ⟨rfl, hc1, by have := hKF c1 hc1 hK; omega, fun c hc hp => ?_⟩
        have b1 := hpi c
        have b2 := (hC.1 c hc).2.2
        omega
      · rw [m1] at e2
        have ej := nI_inj (by omega) (by omega) e2
        subst ej
        refine ⟨rfl, hc1, m2, fun c hc hp => ?_⟩
        have b1 := hpi c
        have b2 := hF j' hj' m3 c hc hp
        omega
  · (try dsimp only)
    have b1 := hpi c
    have b2 := hπ c hc
    have b3 := (hC.1 c hc).1
    refine ⟨by omega, ?_⟩
    split <;> omega
  · (try dsimp only)
    have b1 := hL c hc
    have b2 := r2 c hc
    have b3 : cntg g (nc + 1) c = cntg g nc c := by
      show sN _ (nc + 1) = _
      rw [sN, hgn, if_neg (fun z => by
        have z2 := congrArg Int32.toInt z
        rw [nI_toInt (by omega)] at z2
        have : (-1 : Int32).toInt = -1 := by decide
        omega)]
      rfl
    by_cases e : c = o
    · subst e
      rw [up_eq, i32_sub1 hoL]
      rw [if_pos rfl] at b2
      refine ⟨by omega, by omega, fun z => ?_⟩
      split <;> omega
    · rw [up_ne e]
      rw [if_neg e] at b2
      refine ⟨by omega, b1.2.1, fun z => ?_⟩
      have b4 := b1.2.2 z
      have b5 : (t.1 o).toInt ≤ (t.1 c).toInt := by
        by_cases e6 : c = 6
        · rw [e6]
          exact o2
        · exact o3 c (by omega) (nle0.mpr z)
      split <;> omega
  · rw [r3 j (by omega)]
    exact hr j (by omega) hj2
theorem SV_all {P : Nat → Int64} {R : Nat → Int} {w : Nat} {s0 : S4} (hP : PHz P w) (hw : w ≤ 8) (hR : R 6 = 8) (hL : ∀ c, c < 7 → (s0.1 c).toInt = R c ∧ 0 ≤ R c) (hg : ∀ j, j < w → s0.2.1 j = -1) : ∀ k, k ≤ w → ∃ G π, SV P R k w (solG P s0 k).1 (solG P s0 k).2.1 G π := by
  intro k
  induction k with
  | zero =>
    intro _
    refine ⟨fun _ => 0, fun _ => 0, fun j hj => absurd hj (by omega), fun c _ => ⟨Int.le_refl 0, by show (0 : Int) ≤ _; omega⟩, fun c hc => ?_, fun j _ hj => hg j hj⟩
    have := hL c hc
    exact ⟨by show (s0.1 c).toInt = R c - ((0 : Nat) : Int); omega, by show 0 ≤ (s0.1 c).toInt; omega, fun _ => rfl⟩
  | succ k ih =>
    intro hk
    exact SV_step hP hw (by omega) hR (ih (by omega)) (solG P s0 k).2.2.1 (solG P s0 k).2.2.2
/-- the class's plan is the cheapest of all -/
theorem SV_opt {P : Nat → Int64} {R : Nat → Int} {w : Nat} {L g : Nat → Int32} {G : Nat → Nat} {π : Nat → Int} (hP : PHz P w) (h : SV P R w w L g G π) {b : Nat → Nat} (hb : ∀ j, j < w → b j < 7 ∧ pz P j (b j) < FARz) (hl : ∀ c, c < 7 → (lod b w c : Int) ≤ R c) : sN (fun j => (pz P j (G j)).toNat) w ≤ sN (fun j => (pz P j (b j)).toNat) w := by
  obtain ⟨hG, hπ, hL, hr⟩ := h
  refine cert (p := fun i c => (pz P i c).toNat) (q := fun c => (π c).toNat) (K := 7) (fun i hi => (hG i hi).2.1) (fun i hi => (hb i hi).1) (fun i hi => ?_) (fun k hk => ?_)
  · (try dsimp only)
    have h1 := (hG i hi).2.2.2 (b i) (hb i hi).1 (hb i hi).2
    have h2 := ((hP i hi).1 (b i) (hb i hi).1).1
    have h3 := ((hP i hi).1 (G i) (hG i hi).2.1).1
    have h4 := (hπ (b i) (hb i hi).1).1
    have h5 := (hπ (G i) (hG i hi).2.1).1
    omega
  · (try dsimp only)
    by_cases q : 0 < (L k).toInt
    · rw [(hL k hk).2.2 q]
      simp
    · refine Nat.mul_le_mul_left _ ?_
      have h1 := hL k hk
      have h2 := hl k hk
      have h3 : lod G w k = cntg g w k := by
        refine (sN_congr (fun i hi => ?_)).symm
        (try dsimp only)
        rw [(hG i hi).1]
        by_cases e : G i = k
        · rw [if_pos e, e, if_pos rfl]
        · rw [if_neg e, if_neg (fun z => e (nI_inj (by have := (hG i hi).2.1; omega) (by omega) z))]
      omega
