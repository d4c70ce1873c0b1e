/-! THE TEXT: tokens of class and reference -/
def dg (x : Nat → Nat) : Nat → Nat
  | 0 => 0
  | n + 1 => 27 * dg x n + x n
theorem dg_inj {x y : Nat → Nat} : ∀ n m, (∀ i, i < n → 1 ≤ x i ∧ x i ≤ 26) → (∀ i, i < m → 1 ≤ y i ∧ y i ≤ 26) → dg x n = dg y m → n = m ∧ ∀ i, i < n → x i = y i
  | 0, 0, _, _, _ => ⟨rfl, fun i hi => absurd hi (Nat.not_lt_zero _)⟩
  | 0, m + 1, _, hy, e => by
    have := hy m (by omega)
    rw [show dg x 0 = 0 from rfl, show dg y (m + 1) = 27 * dg y m + y m from rfl] at e
    omega
  | n + 1, 0, hx, _, e => by
    have := hx n (by omega)
    rw [show dg y 0 = 0 from rfl, show dg x (n + 1) = 27 * dg x n + x n from rfl] at e
    omega
  | n + 1, m + 1, hx, hy, e => by
    have h1 := hx n (by omega)
    have h2 := hy m (by omega)
    rw [show dg x (n + 1) = 27 * dg x n + x n from rfl, show dg y (m + 1) = 27 * dg y m + y m from rfl] at e
    have e1 : x n = y m := by omega
    obtain ⟨a, c⟩ := dg_inj n m (fun i hi => hx i (by omega)) (fun i hi => hy i (by omega)) (by omega)
    subst a
    refine ⟨rfl, fun i hi => ?_⟩
    by_cases z : i = n
    · rw [z]; exact e1
    · exact c i (by omega)
theorem dg_lt {x : Nat → Nat} : ∀ n, (∀ i, i < n → x i ≤ 26) → dg x n < 27 ^ n
  | 0, _ => Nat.one_pos
  | n + 1, h => by
    have := dg_lt n (fun i hi => h i (by omega))
    have := h n (by omega)
    show 27 * dg x n + x n < 27 ^ (n + 1)
    rw [Nat.pow_succ]
    omega
theorem dg_congr {x y : Nat → Nat} : ∀ n, (∀ i, i < n → x i = y i) → dg x n = dg y n
  | 0, _ => rfl
  | n + 1, h => by
    show 27 * dg x n + x n = 27 * dg y n + y n
    rw [dg_congr n (fun i hi => h i (by omega)), h n (by omega)]
theorem letF_of {x : Int32} (h : ¬ letF x = 0) : ∃ c, 97 ≤ c ∧ c ≤ 122 ∧ x = nI c := by
  unfold letF at h
  split at h
  · exact absurd rfl h
  · rename_i h1
    split at h
    · exact absurd rfl h
    · rename_i h2
      obtain ⟨c, hc, rfl⟩ := nI_of (x := x) (fun z => h1 (Int32.lt_trans z (by decide)))
      refine ⟨c, ?_, ?_, rfl⟩
      · rcases Nat.lt_or_ge c 97 with z | z
        · exact absurd (show nI c < nI 97 from nI_ltU z (by omega)) h1
        · exact z
      · rcases Nat.lt_or_ge 122 c with z | z
        · exact absurd (show nI 122 < nI c from nI_ltU z hc) h2
        · exact z
def INVR (T : Nat → Int32) (q k : Nat) (lt : Int32) (s1 : R4) (s2 : M4) : Prop := s1.2.2.2 = q + k ∧ s2.2.2.2 = q + k ∧ ∃ a c, a + c = k ∧ s1.1 = nI a ∧ s1.2.1 = nI c ∧ (¬ s2.1 = 0 ↔ ((lt = 1 ∧ c = 0) ∨ (lt = 0 ∧ a = 0))) ∧
  (c = 0 → (∀ i, i < k → ¬ letF (T (q + i)) = 0) ∧ s2.2.1 = lN (dg (fun i => (T (q + i)).toNatClampNeg - 96) (min k 7))) ∧
  (a = 0 → k ≤ 2 → s1.2.2.1 = s2.2.2.1 ∧ ∃ n, n < 10 ^ k ∧ s2.2.2.1 = nI n) ∧ (1 ≤ k → (lt = 1 → 1 ≤ a) ∧ (lt = 0 → 1 ≤ c))
theorem inv_let {T : Nat → Int32} {q k : Nat} {lt : Int32} {s1 : R4} {s2 : M4} (hlt : lt = letF (T q)) (hk : k ≤ 740) (h : INVR T q k lt s1 s2) (hl : ¬ letF (T (q + k)) = 0) :
    INVR T q (k + 1) lt (s1.1 + 1, s1.2.1, s1.2.2.1, s1.2.2.2 + 1) ((if s2.1 = 0 then 0 else if letF (T s2.2.2.2) = lt then 1 else 0), (if s2.2.2.2 - q < 7 then 27 * s2.2.1 + (T s2.2.2.2).toInt64 - 96 else s2.2.1), (if s2.2.2.2 - q < 2 then 10 * s2.2.2.1 + T s2.2.2.2 - 48 else s2.2.2.1), s2.2.2.2 + 1) := by
  obtain ⟨p1, p2, a, c, e1, e2, e3, e4, e5, e6, e7⟩ := h
  have h1 : letF (T (q + k)) = 1 := (letF_01 _).resolve_left hl
  refine ⟨by rw [← Nat.add_assoc, ← p1], by rw [← Nat.add_assoc, ← p2], a + 1, c, by omega, by show s1.1 + 1 = _; rw [e2, nI_1], e3, ?_, fun hc => ⟨fun i hi => ?_, ?_⟩, fun hc => absurd hc (by omega), fun _ => ⟨fun _ => by omega, fun z => ?_⟩⟩
  · show ¬ (if s2.1 = 0 then (0 : Int32) else if letF (T s2.2.2.2) = lt then 1 else 0) = 0 ↔ _
    rw [p2, h1]
    constructor
    · intro z
      by_cases y : s2.1 = 0
      · rw [if_pos y] at z; exact absurd rfl z
      · rw [if_neg y] at z
        by_cases x : (1 : Int32) = lt
        · rcases e4.mp y with w | w
          · exact Or.inl w
          · rw [← x] at w; exact absurd w.1 (by decide)
        · rw [if_neg x] at z; exact absurd rfl z
    · rintro (z | z)
      · have y := e4.mpr (Or.inl z)
        rw [if_neg y, if_pos z.1.symm]; decide
      · exact absurd z.2 (by omega)
  · by_cases z : i = k
    · rw [z]; exact hl
    · exact (e5 hc).1 i (by omega)
  · show (if s2.2.2.2 - q < 7 then 27 * s2.2.1 + (T s2.2.2.2).toInt64 - 96 else s2.2.1) = _
    rw [p2, show q + k - q = k by omega, (e5 hc).2]
    by_cases z : k < 7
    · obtain ⟨ch, c1, c2, c3⟩ := letF_of hl
      have hd : dg (fun i => (T (q + i)).toNatClampNeg - 96) k < 27 ^ k := dg_lt k (fun i hi => by
        obtain ⟨ch', d1, d2, d3⟩ := letF_of ((e5 hc).1 i hi)
        (try dsimp only)
        rw [d3, nI_clamp (by omega)]; omega)
      rw [if_pos z, show min k 7 = k by omega, show min (k + 1) 7 = k + 1 by omega, c3, nI_l (by omega), show (27 : Int64) = lN 27 by decide +kernel, show (96 : Int64) = lN 96 by decide +kernel, lN_mul, lN_add, lN_sub (by omega)]
      congr 1
      show _ = 27 * dg (fun i => (T (q + i)).toNatClampNeg - 96) k + ((T (q + k)).toNatClampNeg - 96)
      rw [c3, nI_clamp (by omega)]
      omega
    · rw [if_neg z, show min k 7 = 7 by omega, show min (k + 1) 7 = 7 by omega]
  · by_cases y : 1 ≤ k
    · exact (e7 y).2 z
    · have : k = 0 := by omega
      subst this
      rw [hlt] at z
      rw [Nat.add_zero] at h1
      rw [h1] at z; exact absurd z (by decide)
theorem inv_dig {T : Nat → Int32} {q k : Nat} {lt : Int32} {s1 : R4} {s2 : M4} (hlt : lt = letF (T q)) (hk : k ≤ 740) (h : INVR T q k lt s1 s2) (hl : letF (T (q + k)) = 0) (hd : ¬ digF (T (q + k)) = 0) :
    INVR T q (k + 1) lt (s1.1, s1.2.1 + 1, s1.2.2.1 * 10 + T s1.2.2.2 - 48, s1.2.2.2 + 1) ((if s2.1 = 0 then 0 else if letF (T s2.2.2.2) = lt then 1 else 0), (if s2.2.2.2 - q < 7 then 27 * s2.2.1 + (T s2.2.2.2).toInt64 - 96 else s2.2.1), (if s2.2.2.2 - q < 2 then 10 * s2.2.2.1 + T s2.2.2.2 - 48 else s2.2.2.1), s2.2.2.2 + 1) := by
  obtain ⟨p1, p2, a, c, e1, e2, e3, e4, e5, e6, e7⟩ := h
  refine ⟨by rw [← Nat.add_assoc, ← p1], by rw [← Nat.add_assoc, ← p2], a, c + 1, by omega, e2, by show s1.2.1 + 1 = _; rw [e3, nI_1], ?_, fun hc => absurd hc (by omega), fun ha hk2 => ?_, fun _ => ⟨fun z => ?_, fun _ => by omega⟩⟩
  · show ¬ (if s2.1 = 0 then (0 : Int32) else if letF (T s2.2.2.2) = lt then 1 else 0) = 0 ↔ _
    rw [p2, hl]
    constructor
    · intro z
      by_cases y : s2.1 = 0
      · rw [if_pos y] at z; exact absurd rfl z
      · rw [if_neg y] at z
        by_cases x : (0 : Int32) = lt
        · rcases e4.mp y with w | w
          · rw [← x] at w; exact absurd w.1 (by decide)
          · exact Or.inr w
        · rw [if_neg x] at z; exact absurd rfl z
    · rintro (z | z)
      · exact absurd z.2 (by omega)
      · have y := e4.mpr (Or.inr z)
        rw [if_neg y, if_pos z.1.symm]; decide
  · show s1.2.2.1 * 10 + T s1.2.2.2 - 48 = (if s2.2.2.2 - q < 2 then 10 * s2.2.2.1 + T s2.2.2.2 - 48 else s2.2.2.1) ∧ ∃ n, n < 10 ^ (k + 1) ∧ (if s2.2.2.2 - q < 2 then 10 * s2.2.2.1 + T s2.2.2.2 - 48 else s2.2.2.1) = nI n
    obtain ⟨f1, n, f2, f3⟩ := e6 ha (by omega)
    obtain ⟨ch, c1, c2, c3⟩ := digF_of hd
    rw [p1, p2, show q + k - q = k by omega, if_pos (by omega), f1, f3, c3, Int32.mul_comm (nI n) 10, dig_step c1]
    refine ⟨rfl, 10 * n + ch - 48, ?_, rfl⟩
    rw [Nat.pow_succ]
    omega
  · by_cases y : 1 ≤ k
    · exact (e7 y).1 z
    · have : k = 0 := by omega
      subst this
      rw [hlt] at z
      rw [Nat.add_zero] at hl
      rw [hl] at z; exact absurd z (by decide)
theorem run_sim {T t : Nat → Int32} {L q : Nat} {lt : Int32} (hL : L ≤ 740) (hT : ∀ p, p < L → t p = T p) (hlt : lt = letF (T q)) : ∀ f k s1 s2, q + k + f = L → INVR T q k lt s1 s2 → ∃ k', k ≤ k' ∧ q + k' ≤ L ∧ INVR T q k' lt (runG t f s1) (rnM T q lt f s2)
  | 0, k, s1, s2, e, h => ⟨k, Nat.le_refl _, by omega, h⟩
  | f + 1, k, s1, s2, e, h => by
    have p1 := h.1
    have p2 := h.2.1
    rw [show runG t (f + 1) s1 = if letF (t s1.2.2.2) = 0 then (if digF (t s1.2.2.2) = 0 then s1 else runG t f (s1.1, s1.2.1 + 1, s1.2.2.1 * 10 + t s1.2.2.2 - 48, s1.2.2.2 + 1)) else runG t f (s1.1 + 1, s1.2.1, s1.2.2.1, s1.2.2.2 + 1) from rfl,
      show rnM T q lt (f + 1) s2 = if letF (T s2.2.2.2) = 0 ∧ digF (T s2.2.2.2) = 0 then s2 else rnM T q lt f ((if s2.1 = 0 then 0 else if letF (T s2.2.2.2) = lt then 1 else 0), (if s2.2.2.2 - q < 7 then 27 * s2.2.1 + (T s2.2.2.2).toInt64 - 96 else s2.2.1), (if s2.2.2.2 - q < 2 then 10 * s2.2.2.1 + T s2.2.2.2 - 48 else s2.2.2.1), s2.2.2.2 + 1) from rfl]
    have ht : t s1.2.2.2 = T (q + k) := by rw [p1]; exact hT _ (by omega)
    have ht2 : T s2.2.2.2 = T (q + k) := by rw [p2]
    by_cases c1 : letF (T (q + k)) = 0
    · by_cases c2 : digF (T (q + k)) = 0
      · rw [ht, if_pos c1, if_pos c2, ht2, if_pos ⟨c1, c2⟩]
        exact ⟨k, Nat.le_refl _, by omega, h⟩
      · have hi := inv_dig hlt (by omega) h c1 c2
        have e1 : t s1.2.2.2 = T s1.2.2.2 := by rw [ht, p1]
        obtain ⟨k', i1, i2, i3⟩ := run_sim hL hT hlt f (k + 1) _ _ (by omega) hi
        refine ⟨k', by omega, i2, ?_⟩
        rw [e1, p1, if_pos c1, if_neg c2, ht2, if_neg (fun z => c2 z.2)]
        rw [ht2, p1] at i3
        exact i3
    · have hi := inv_let hlt (by omega) h c1
      obtain ⟨k', i1, i2, i3⟩ := run_sim hL hT hlt f (k + 1) _ _ (by omega) hi
      refine ⟨k', by omega, i2, ?_⟩
      rw [ht, if_neg c1, ht2, if_neg (fun z => c1 z.1)]
      rw [ht2] at i3
      exact i3
theorem skG_congr {t T : Nat → Int32} {L : Nat} (hT : ∀ p, p < L → t p = T p) : ∀ f p, p + f ≤ L → skG t f p = skG T f p
  | 0, p, _ => rfl
  | f + 1, p, h => by
    show (if t p = 32 then skG t f (p + 1) else if t p = 10 then skG t f (p + 1) else p) = (if T p = 32 then skG T f (p + 1) else if T p = 10 then skG T f (p + 1) else p)
    rw [skG_congr hT f (p + 1) (by omega), hT p (by omega)]
/-- the same token stands ahead of both -/
def TKr (h : AH) (L : Nat) (T : Nat → Int32) (s : PSt) (q : Nat) : Prop := (h.1 0 1 1 = nI L ∧ L ≤ 740 ∧ ∀ p, p < L → tpF h p = T p) ∧ q ≤ 700 ∧ h.1 0 3 2 = nI q ∧ s.1 5 = nI q ∧ s.1 3 = nI L ∧
  ((h.1 0 3 1 = 0 ∧ ((L ≤ 700 ∧ s.1 6 = 0) ∨ (700 < L ∧ s.1 6 = 1))) ∨
   (q < 700 ∧ ∃ e, q < e ∧ e ≤ L ∧ h.1 0 3 3 = nI e ∧ s.1 4 = nI e ∧
     ((h.1 0 3 1 = 1 ∧ s.1 6 = 2 ∧ (∀ i, i < e - q → ¬ letF (T (q + i)) = 0) ∧ s.2.1 = lN (dg (fun i => (T (q + i)).toNatClampNeg - 96) (min (e - q) 7))) ∨
      (h.1 0 3 1 = 2 ∧ s.1 6 = 3 ∧ ∃ n, n < 100 ∧ h.1 0 3 4 = nI n ∧ s.1 7 = nI n) ∨
      (h.1 0 3 1 = 3 ∧ s.1 6 = 4) ∨ (h.1 0 3 1 = 4 ∧ s.1 6 = 1))))
def frA (h2 h : AH) : Prop := (∀ b k j, (b ≠ 0 ∨ k ≠ 3) → h2.1 b k j = h.1 b k j) ∧ h2.2 = h.2
theorem frA.rf {h : AH} : frA h h := ⟨fun _ _ _ _ => rfl, rfl⟩
theorem frA.ui {h2 h : AH} {j : Nat} {v : Int32} (hf : frA h2 h) : frA (ui h2 0 3 j v) h := ⟨fun b k' j' hn => by
  rw [← hf.1 b k' j' hn]
  rcases hn with hn | hn
  · exact ui_b hn
  · exact ui_k hn, hf.2⟩
theorem advF_fr {h : AH} {L p : Nat} : frA (advF h L p) h := by
  unfold advF
  dsimp only
  split
  · split
    · split
      · exact (frA.rf.ui.ui).ui
      · unfold runF; exact ((frA.rf.ui.ui).ui).ui
    · unfold runF; exact ((frA.rf.ui.ui).ui).ui
  · exact ((frA.rf.ui.ui).ui).ui
theorem tpF_fr {h2 h : AH} (e1 : h2.1 0 1 1 = h.1 0 1 1) (e2 : ∀ j, h2.1 0 2 j = h.1 0 2 j) : tpF h2 = tpF h := by
  funext p
  unfold tpF atF
  rw [e1, e2]
theorem frA.tp {h2 h : AH} (hf : frA h2 h) : tpF h2 = tpF h := tpF_fr (hf.1 0 1 1 (Or.inr (by decide))) (fun j => hf.1 0 2 j (Or.inr (by decide)))
theorem adv_sim {h : AH} {L e : Nat} {T : Nat → Int32} {s : PSt} (h1 : h.1 0 1 1 = nI L) (hL : L ≤ 740) (hT : ∀ p, p < L → tpF h p = T p) (he : e ≤ L) (hs4 : s.1 4 = nI e) (hs3 : s.1 3 = nI L) :
    ∃ q, min e 700 ≤ q ∧ TKr (advF h L e) L T (goP T L s) q := by
  have hf := advF_fr (h := h) (L := L) (p := e)
  have ht1 : (advF h L e).1 0 1 1 = nI L := by rw [hf.1 0 1 1 (Or.inr (by decide)), h1]
  have ht2 : ∀ p, p < L → tpF (advF h L e) p = T p := fun p hp => by rw [hf.tp]; exact hT p hp
  have hsk : skG (tpF h) (L - e) e = skG T (L - e) e := skG_congr hT _ _ (by omega)
  have hge := skG_ge T (L - e) e
  have hle := skG_le T (L - e) e
  unfold goP
  rw [hs4, nI_clamp (by omega)]
  unfold goS
  by_cases hq : skG T (L - e) e < limF L
  · have hq7 : skG T (L - e) e < 700 ∧ skG T (L - e) e < L := by
      unfold limF at hq
      split at hq <;> omega
    refine ⟨skG T (L - e) e, by omega, ⟨ht1, hL, ht2⟩, by omega, ?_⟩
    rw [if_neg (show ¬ (700 < L ∧ 700 ≤ skG T (L - e) e) by omega)]
    unfold goT
    rw [if_neg (show ¬ L ≤ skG T (L - e) e by omega)]
    unfold advF
    dsimp only
    rw [hsk, if_pos hq, hT _ hq7.2]
    generalize skG T (L - e) e = q at *
    by_cases c : letF (T q) = 0 ∧ digF (T q) = 0
    · rw [if_pos c.1, if_pos c.2, if_pos c]
      dsimp only
      refine ⟨by rw [ui_j (by decide), ui_j (by decide), ui_eq], by rw [pk_un (by decide), pk_us], by rw [pk_un (by decide), pk_un (by decide), pk_un (by decide)]; exact hs3, Or.inr ⟨hq7.1, q + 1, by omega, by omega, by rw [ui_j (by decide), ui_eq], by rw [pk_un (by decide), pk_un (by decide), pk_us], ?_⟩⟩
      right; right
      rw [ui_eq, pk_us]
      by_cases z : T q = 59
      · rw [if_pos z, if_pos z]; exact Or.inl ⟨rfl, rfl⟩
      · rw [if_neg z, if_neg z]; exact Or.inr ⟨rfl, rfl⟩
    · have hcl : (if letF (T q) = 0 then (if digF (T q) = 0 then ui (ui (ui h 0 3 2 (nI q)) 0 3 3 (nI (q + 1))) 0 3 1 (if T q = 59 then 3 else 4) else runF (ui h 0 3 2 (nI q)) L q) else runF (ui h 0 3 2 (nI q)) L q) = runF (ui h 0 3 2 (nI q)) L q := by
        by_cases c1 : letF (T q) = 0
        · rw [if_pos c1, if_neg (fun z => c ⟨c1, z⟩)]
        · rw [if_neg c1]
      rw [hcl, if_neg c]
      unfold runF
      rw [show tpF (ui h 0 3 2 (nI q)) = tpF h from (frA.rf.ui).tp]
      have h0 : INVR T q 0 (letF (T q)) (0, 0, 0, q) (1, 0, 0, q) := ⟨rfl, rfl, 0, 0, rfl, rfl, rfl, ⟨fun _ => by
          rcases letF_01 (T q) with z | z
          · exact Or.inr ⟨z, rfl⟩
          · exact Or.inl ⟨z, rfl⟩, fun _ => show ¬ (1 : Int32) = 0 by decide⟩, fun _ => ⟨fun i hi => absurd hi (Nat.not_lt_zero _), show (0 : Int64) = lN 0 by decide +kernel⟩, fun _ _ => ⟨rfl, 0, by decide, rfl⟩, fun z => absurd z (by decide)⟩
      obtain ⟨k, k1, k2, hI⟩ := run_sim (T := T) (t := tpF h) (L := L) (q := q) (lt := letF (T q)) hL hT rfl (L - q) 0 _ _ (by omega) h0
      have hlt := (rnR_lt T hq7.2 c).1
      unfold rnR at hlt ⊢
      generalize runG (tpF h) (L - q) (0, 0, 0, q) = s1 at *
      generalize rnM T q (letF (T q)) (L - q) (1, 0, 0, q) = s2 at *
      obtain ⟨p1, p2, a, cc, e1, e2, e3, e4, e5, e6, e7⟩ := hI
      dsimp only
      refine ⟨by rw [ui_j (by decide), ui_j (by decide), ui_j (by decide), ui_eq], by rw [pk_un (by decide), pk_un (by decide), pk_us], by rw [pk_un (by decide), pk_un (by decide), pk_un (by decide), pk_un (by decide)]; exact hs3, Or.inr ⟨hq7.1, q + k, by omega, k2, by rw [ui_j (by decide), ui_j (by decide), ui_eq, p1], by rw [pk_un (by decide), pk_un (by decide), pk_un (by decide), pk_us, p2], ?_⟩⟩
      have hk1 : 1 ≤ k := by omega
      rw [ui_eq, pk_un (show 6 ≠ 7 by decide), pk_us, pk_us, ui_j (show 4 ≠ 1 by decide), ui_eq]
      unfold runK rnS
      rw [e2, e3, p2, show q + k - q = k by omega]
      by_cases z0 : cc = 0
      · left
        have hl1 : letF (T q) = 1 := (letF_01 _).resolve_left (fun y => by have := (e7 hk1).2 y; omega)
        have hg := e4.mpr (Or.inl ⟨hl1, z0⟩)
        rw [if_pos (show nI cc = 0 from by rw [z0]; rfl), if_neg hg, hl1, if_neg (by decide)]
        exact ⟨rfl, rfl, (e5 z0).1, (e5 z0).2⟩
      · have hc0 : ¬ nI cc = 0 := nI_ne0 (by omega) (by omega)
        rw [if_neg hc0]
        right
        by_cases z1 : a = 0
        · have hl0 : letF (T q) = 0 := by
            rcases letF_01 (T q) with y | y
            · exact y
            · have := (e7 hk1).1 y; omega
          have hg := e4.mpr (Or.inr ⟨hl0, z1⟩)
          rw [if_pos (show nI a = 0 from by rw [z1]; rfl), if_neg hg, if_pos hl0]
          by_cases z2 : k ≤ 2
          · left
            obtain ⟨f1, n, f2, f3⟩ := e6 z1 z2
            rw [if_neg (show ¬ (2 : Int32) < nI cc from nI_nlt (a := 2) (b := cc) (by omega) (by omega)), if_pos z2]
            refine ⟨rfl, rfl, n, ?_, by rw [f1, f3], f3⟩
            have : 10 ^ k ≤ 10 ^ 2 := Nat.pow_le_pow_right (by omega) z2
            omega
          · right; right
            rw [if_pos (show (2 : Int32) < nI cc from nI_lt (a := 2) (by omega) (by omega)), if_neg z2]
            exact ⟨rfl, rfl⟩
        · right; right
          have hg : s2.1 = 0 := by
            by_cases y : s2.1 = 0
            · exact y
            · rcases e4.mp y with w | w <;> omega
          rw [if_neg (nI_ne0 (by omega) (by omega)), if_pos hg]
          exact ⟨rfl, rfl⟩
  · have hlim : limF L = if 700 < L then 700 else L := rfl
    have hcl : advF h L e = ui (ui (ui (ui h 0 3 2 (nI (skG T (L - e) e))) 0 3 2 (nI (limF L))) 0 3 3 (nI (limF L))) 0 3 1 0 := by
      unfold advF
      dsimp only
      rw [hsk, if_neg hq]
    have hst : (advF h L e).1 0 3 2 = nI (limF L) ∧ (advF h L e).1 0 3 1 = 0 := by
      rw [hcl]
      exact ⟨by rw [ui_j (by decide), ui_j (by decide), ui_eq], ui_eq⟩
    by_cases z : 700 < L
    · rw [if_pos z] at hlim
      refine ⟨700, by omega, ⟨ht1, hL, ht2⟩, by omega, ?_⟩
      rw [if_pos (show 700 < L ∧ 700 ≤ skG T (L - e) e by omega), hst.1, hst.2, hlim]
      dsimp only
      exact ⟨rfl, by rw [pk_un (by decide), pk_us]; rfl, by rw [pk_un (by decide), pk_un (by decide), pk_un (by decide)]; exact hs3, Or.inl ⟨rfl, Or.inr ⟨z, pk_us⟩⟩⟩
    · rw [if_neg z] at hlim
      have hqL : skG T (L - e) e = L := by omega
      refine ⟨L, by omega, ⟨ht1, hL, ht2⟩, by omega, ?_⟩
      rw [if_neg (show ¬ (700 < L ∧ 700 ≤ skG T (L - e) e) by omega), hst.1, hst.2, hlim, hqL]
      unfold goT
      rw [if_pos (Nat.le_refl _)]
      dsimp only
      exact ⟨rfl, by rw [pk_un (by decide), pk_us], by rw [pk_un (by decide), pk_un (by decide), pk_un (by decide)]; exact hs3, Or.inl ⟨rfl, Or.inl ⟨by omega, pk_us⟩⟩⟩
/-! words -/
def dgc (i : Nat) : Nat := dg (fun k => (chI i k).toNatClampNeg - 96) (lenS.getD i 0)
theorem ch_ok : ∀ i, i < 7 → lenS.getD i 0 ≤ 6 ∧ ∀ k, k < lenS.getD i 0 → 97 ≤ (chI i k).toNatClampNeg ∧ (chI i k).toNatClampNeg ≤ 122 ∧ chI i k = nI (chI i k).toNatClampNeg := by decide +kernel
theorem wordG_n {t : Nat → Int32} {i p : Nat} : ∀ f k, (wordG t i p f k = 1 ∧ ∀ j, k ≤ j → j < k + f → t (p + j) = chI i j) ∨ (wordG t i p f k = 0 ∧ ¬ ∀ j, k ≤ j → j < k + f → t (p + j) = chI i j)
  | 0, k => Or.inl ⟨rfl, fun j a c => absurd a (by omega)⟩
  | f + 1, k => by
    rw [show wordG t i p (f + 1) k = if t (p + k) = chI i k then wordG t i p f (k + 1) else 0 from rfl]
    by_cases e : t (p + k) = chI i k
    · rw [if_pos e]
      rcases wordG_n (t := t) (i := i) (p := p) f (k + 1) with ⟨a, c⟩ | ⟨a, c⟩
      · refine Or.inl ⟨a, fun j d1 d2 => ?_⟩
        by_cases z : j = k
        · rw [z]; exact e
        · exact c j (by omega) (by omega)
      · exact Or.inr ⟨a, fun z => c (fun j d1 d2 => z j (by omega) (by omega))⟩
    · rw [if_neg e]
      exact Or.inr ⟨rfl, fun z => e (z k (Nat.le_refl _) (by omega))⟩
theorem p27 : 27 ^ 7 ≤ 2 ^ 63 := Nat.le_of_ble_eq_true rfl
theorem wd_sim {h : AH} {L q : Nat} {T : Nat → Int32} {s : PSt} (hK : TKr h L T s q) {i : Nat} (hi : i < 7) : (wordF h (pS h) i = 0 ↔ wdP s (lN (dgc i)) = 0) ∧ (wordF h (pS h) i = 0 ∨ wordF h (pS h) i = 1) := by
  obtain ⟨⟨-, hL, hT⟩, hq, e2, e5, -, hc⟩ := hK
  have hp : pS h = q := by unfold pS; rw [e2, nI_clamp (by omega)]
  unfold wordF wdP
  rw [hp]
  rcases hc with ⟨k0, hc⟩ | ⟨hq7, e, he1, he2, e3, e4, hc⟩
  · rw [k0, if_neg (by decide), if_neg]
    · exact ⟨⟨fun _ => rfl, fun _ => rfl⟩, Or.inl rfl⟩
    · rcases hc with ⟨-, z⟩ | ⟨-, z⟩ <;> rw [z] <;> decide
  · rcases hc with ⟨k1, s6, hl, hw⟩ | ⟨k1, s6, -⟩ | ⟨k1, s6⟩ | ⟨k1, s6⟩
    · rw [k1, if_pos rfl, s6, if_pos rfl, e3, pk_sub (by omega), hw]
      obtain ⟨c1, c2⟩ := ch_ok i hi
      have hdig : ∀ j, j < e - q → ∃ c, 97 ≤ c ∧ c ≤ 122 ∧ T (q + j) = nI c := fun j hj => letF_of (hl j hj)
      have hb1 : ∀ j, j < min (e - q) 7 → 1 ≤ (fun i => (T (q + i)).toNatClampNeg - 96) j ∧ (fun i => (T (q + i)).toNatClampNeg - 96) j ≤ 26 := fun j hj => by
        obtain ⟨c, d1, d2, d3⟩ := hdig j (by omega)
        (try dsimp only)
        rw [d3, nI_clamp (by omega)]; omega
      have hb2 : ∀ j, j < lenS.getD i 0 → 1 ≤ (fun k => (chI i k).toNatClampNeg - 96) j ∧ (fun k => (chI i k).toNatClampNeg - 96) j ≤ 26 := fun j hj => by
        obtain ⟨d1, d2, -⟩ := c2 j hj
        (try dsimp only)
        omega
      have hlt1 : dg (fun i => (T (q + i)).toNatClampNeg - 96) (min (e - q) 7) < 2 ^ 63 := Nat.lt_of_lt_of_le (dg_lt _ (fun j hj => (hb1 j hj).2)) (Nat.le_trans (Nat.pow_le_pow_right (by omega) (show min (e - q) 7 ≤ 7 by omega)) p27)
      have hlt2 : dgc i < 2 ^ 63 := Nat.lt_of_lt_of_le (dg_lt _ (fun j hj => (hb2 j hj).2)) (Nat.le_trans (Nat.pow_le_pow_right (by omega) (show lenS.getD i 0 ≤ 7 by omega)) p27)
      by_cases z : e - q = lenS.getD i 0
      · rw [if_pos (by rw [z])]
        rcases wordG_n (t := tpF h) (i := i) (p := q) (lenS.getD i 0) 0 with ⟨a, c⟩ | ⟨a, c⟩
        · rw [a]
          have : dg (fun i => (T (q + i)).toNatClampNeg - 96) (min (e - q) 7) = dgc i := by
            rw [show min (e - q) 7 = lenS.getD i 0 by omega]
            unfold dgc
            exact dg_congr _ (fun j hj => by (try dsimp only); rw [← hT _ (by omega), c j (by omega) (by omega)])
          rw [this, if_pos rfl]
          exact ⟨⟨fun y => absurd y (by decide), fun y => absurd y (by decide)⟩, Or.inr rfl⟩
        · rw [a, if_neg]
          · exact ⟨⟨fun _ => rfl, fun _ => rfl⟩, Or.inl rfl⟩
          · intro y
            refine c (fun j _ hj => ?_)
            have := (dg_inj _ _ hb1 hb2 ((pk_lEQ hlt1 hlt2).mp y)).2 j (by omega)
            obtain ⟨c', d1, d2, d3⟩ := hdig j (by omega)
            obtain ⟨f1, f2, f3⟩ := c2 j (by omega)
            (try dsimp only at this)
            rw [d3, nI_clamp (by omega)] at this
            rw [hT _ (by omega), d3, f3]
            congr 1
            omega
      · rw [if_neg (fun y => z (nI_inj (by omega) (by omega) y)), if_neg]
        · exact ⟨⟨fun _ => rfl, fun _ => rfl⟩, Or.inl rfl⟩
        · intro y
          have := (dg_inj _ _ hb1 hb2 ((pk_lEQ hlt1 hlt2).mp y)).1
          omega
    · rw [k1, if_neg (by decide), s6, if_neg (by decide)]
      exact ⟨⟨fun _ => rfl, fun _ => rfl⟩, Or.inl rfl⟩
    · rw [k1, if_neg (by decide), s6, if_neg (by decide)]
      exact ⟨⟨fun _ => rfl, fun _ => rfl⟩, Or.inl rfl⟩
    · rw [k1, if_neg (by decide), s6, if_neg (by decide)]
      exact ⟨⟨fun _ => rfl, fun _ => rfl⟩, Or.inl rfl⟩
theorem w_lands : W5 108 97 110 100 115 = lN (dgc 0) := by decide +kernel
theorem w_border : W6 98 111 114 100 101 114 = lN (dgc 1) := by decide +kernel
theorem w_type : W4 116 121 112 101 = lN (dgc 2) := by decide +kernel
theorem w_lorry : W5 108 111 114 114 121 = lN (dgc 3) := by decide +kernel
theorem w_single : W6 115 105 110 103 108 101 = lN (dgc 4) := by decide +kernel
theorem w_multi : W5 109 117 108 116 105 = lN (dgc 5) := by decide +kernel
theorem w_shared : W6 115 104 97 114 101 100 = lN (dgc 6) := by decide +kernel
