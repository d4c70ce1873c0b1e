section
variable {h : AH} {b : Nat} {N : Nat → Int32} {nl np nq nt B : Nat}
theorem drop_FN {t q : Nat} (h3 : mT N t 3 = -1) (h6 : mT N t 6 = 0) : FN N (upd (upd N (111 + 13 * t + 2) 2) (111 + 13 * t + 5) (N 6)) t q 0 := by
  refine ⟨⟨fun j hj => ?_, fun a ha => ?_, fun k w hk hw => ?_, fun q w hq hw => ?_, fun t w ht hw => ?_⟩, ?_, fun t' ht' => ?_, fun q hq => ?_, fun k hk => ?_⟩
  · rw [lo_uT (by omega), lo_uT (by omega)]
  · rw [lo_uT (by omega), lo_uT (by omega)]
  · rw [mY_uT hk (by omega), mY_uT hk (by omega)]
  · rw [mQ_uT hq (by omega), mQ_uT hq (by omega)]
  · rw [mT_uT (by omega) (by omega), mT_uT (by omega) (by omega), if_neg (by omega), if_neg (by omega)]
  · rw [lo_uT (by omega), lo_uT (by omega)]
  · rw [mT_uT (by omega) (by omega), mT_uT (by omega) (by omega), mT_uT (by omega) (by omega), mT_uT (by omega) (by omega), mT_uT (by omega) (by omega), mT_uT (by omega) (by omega), mT_uT (by omega) (by omega), mT_uT (by omega) (by omega), mT_uT (by omega) (by omega), mT_uT (by omega) (by omega)]
    by_cases e : t' = t
    · subst e; simp [h6]
    · simp [e]
  · rw [mQ_uT hq (by omega), mQ_uT hq (by omega)]
    split <;> simp
  · rw [mY_uT hk (by omega), mY_uT hk (by omega), mY_uT hk (by omega), mY_uT hk (by omega), mY_uT hk (by omega), mY_uT hk (by omega), mY_uT hk (by omega), mY_uT hk (by omega), h3, if_neg (fun z => nIm (by omega) z.1), if_neg (fun z => nIm (by omega) z.1)]
    exact ⟨rfl, rfl, rfl, rfl⟩
theorem mT_hm {t q k t' w : Nat} {la : Int32} (hq : q < 8) (hk : k < 6) (hw : w < 13) : mT (hm5 N t q k la) t' w = if t' = t ∧ w = 6 then la else if t' = t ∧ w = 5 then N 6 else if t' = t ∧ w = 2 then 2 else mT N t' w := by
  have h3 : mT (hm3 N t la) t' w = if t' = t ∧ w = 6 then la else if t' = t ∧ w = 5 then N 6 else if t' = t ∧ w = 2 then 2 else mT N t' w := by
    unfold hm3
    rw [mT_uT (by omega) hw, mT_uT (by omega) hw, mT_uT (by omega) hw]
  have h4 : mT (hm4 N t q la) t' w = mT (hm3 N t la) t' w := by
    unfold hm4
    split
    · rfl
    · rw [mT_uQ hq (by omega)]
  rw [← h3, ← h4]
  unfold hm5
  split
  · split
    · rw [mT_uY hk (by omega)]
    · rw [mT_uY hk (by omega)]
  · rfl
theorem mQ_hm {t q k q' w : Nat} {la : Int32} (hq : q < 8) (hk : k < 6) (hq' : q' < 8) (hw : w < 3) : mQ (hm5 N t q k la) q' w = if la = 0 then mQ N q' w else if q' = q ∧ w = 2 then mQ N q 2 + 1 else mQ N q' w := by
  have h3 : mQ (hm3 N t la) q' w = mQ N q' w := by
    unfold hm3
    rw [mQ_uT hq' hw, mQ_uT hq' hw, mQ_uT hq' hw]
  have h4 : mQ (hm4 N t q la) q' w = if la = 0 then mQ N q' w else if q' = q ∧ w = 2 then mQ N q 2 + 1 else mQ N q' w := by
    unfold hm4
    split
    · exact h3
    · rw [mQ_uQ (by omega) hw, h3]; rfl
  rw [← h4]
  unfold hm5
  split
  · split
    · rw [mQ_uY hk (by omega)]
    · rw [mQ_uY hk (by omega)]
  · rfl
theorem mY_hm {t q k k' w : Nat} {la : Int32} (hq : q < 8) (hk : k < 6) (hk' : k' < 6) (hw : w < 12) : mY (hm5 N t q k la) k' w = if mY N k 0 = 0 then (if la = 0 then (if k' = k ∧ w = 7 then mY N k 7 + 1 else mY N k' w) else (if k' = k ∧ w = 8 then mY N k 8 + 1 else mY N k' w)) else mY N k' w := by
  have h3 : mY (hm3 N t la) k' w = mY N k' w := by
    unfold hm3
    rw [mY_uT hk' hw, mY_uT hk' hw, mY_uT hk' hw]
  have h4 : mY (hm4 N t q la) k' w = mY N k' w := by
    unfold hm4
    split
    · exact h3
    · rw [mY_uQ hk' hw, h3]
  unfold hm5
  split
  · split
    · rw [mY_uY (by omega) hw, h4]; rfl
    · rw [mY_uY (by omega) hw, h4]; rfl
  · exact h4
theorem lo_hm {t q k j : Nat} {la : Int32} (hq : q < 8) (hk : k < 6) (hj : j < 7 ∨ (103 ≤ j ∧ j < 111)) : hm5 N t q k la j = N j := by
  have h3 : hm3 N t la j = N j := by
    unfold hm3
    rw [lo_uT (by omega), lo_uT (by omega), lo_uT (by omega)]
  have h4 : hm4 N t q la j = N j := by
    unfold hm4
    split
    · exact h3
    · rw [lo_uQ hq (by omega) (by omega), h3]
  unfold hm5
  split
  · split
    · rw [lo_uY hk (by omega) (by omega), h4]
    · rw [lo_uY hk (by omega) (by omega), h4]
  · exact h4
theorem home_FN {t q k : Nat} {la : Int32} (hq : q < 8) (hk : k < 6) (h3 : mT N t 3 = nI k) (hla : la = 0 ∨ la = 1) : FN N (hm5 N t q k la) t q la := by
  refine ⟨⟨fun j hj => lo_hm hq hk (by omega), fun a ha => lo_hm hq hk (by omega), fun k' w hk' hw => ?_, fun q' w hq' hw => ?_, fun t' w ht hw => ?_⟩, lo_hm hq hk (by omega), fun t' ht' => ?_, fun q' hq' => ?_, fun k' hk' => ?_⟩
  · rw [mY_hm hq hk hk' (by omega), if_neg (show ¬ (k' = k ∧ w = 7) by omega), if_neg (show ¬ (k' = k ∧ w = 8) by omega)]
    simp
  · rw [mQ_hm hq hk hq' (by omega), if_neg (show ¬ (q' = q ∧ w = 2) by omega)]
    simp
  · rw [mT_hm hq hk (by omega), if_neg (by omega), if_neg (by omega), if_neg (by omega)]
  · rw [mT_hm hq hk (by omega), mT_hm hq hk (by omega), mT_hm hq hk (by omega), mT_hm hq hk (by omega), mT_hm hq hk (by omega)]
    by_cases e : t' = t
    · subst e; simp
    · simp [e]
  · rw [mQ_hm hq hk hq' (by omega)]
    by_cases e : q' = q
    · subst e
      rcases hla with rfl | rfl
      · simp
      · simp
    · simp [e]
  · rw [mY_hm hq hk hk' (by omega), mY_hm hq hk hk' (by omega), mY_hm hq hk hk' (by omega), mY_hm hq hk hk' (by omega), h3]
    have hi : nI k' = nI k ↔ k' = k := nI_eq (by omega) (by omega)
    simp only [hi]
    by_cases e : k' = k
    · subst e
      by_cases e2 : mY N k' 0 = 0
      · rcases hla with rfl | rfl
        · simp [e2]
        · simp [e2]
      · simp [e2]
    · simp [e]
/-! ===== ask ===== -/
theorem awG_at {t m : Nat} {row : Int32} : ∀ j i, awG N t m row j i = if 111 + 13 * t + 7 ≤ i ∧ i < 111 + 13 * t + 7 + j then (if i - (111 + 13 * t + 7) < m then wyG row (i - (111 + 13 * t + 7)) else 0) else N i
  | 0, i => by rw [if_neg (by omega)]; rfl
  | j + 1, i => by
    show upd (awG N t m row j) (111 + 13 * t + 7 + j) (if j < m then wyG row j else 0) i = _
    by_cases e : i = 111 + 13 * t + 7 + j
    · rw [e, pk_us, if_pos (show 111 + 13 * t + 7 ≤ 111 + 13 * t + 7 + j ∧ 111 + 13 * t + 7 + j < 111 + 13 * t + 7 + (j + 1) by omega), show 111 + 13 * t + 7 + j - (111 + 13 * t + 7) = j by omega]
    · rw [pk_un e, awG_at j i]
      by_cases e2 : 111 + 13 * t + 7 ≤ i ∧ i < 111 + 13 * t + 7 + j
      · rw [if_pos e2, if_pos (show 111 + 13 * t + 7 ≤ i ∧ i < 111 + 13 * t + 7 + (j + 1) by omega)]
      · rw [if_neg e2, if_neg (by omega)]
theorem lo_ask {t m j : Nat} {x row : Int32} (hj : j < 111) (h5 : j ≠ 5) : askN N t m x row j = N j := by
  unfold askN ask1
  rw [pk_un h5, awG_at, if_neg (by omega), pk_un (by omega), pk_un (by omega), pk_un (by omega), pk_un (by omega), pk_un (by omega), pk_un (by omega), pk_un (by omega)]
theorem n5_ask {t m : Nat} {x row : Int32} : askN N t m x row 5 = nI (t + 1) := pk_us
theorem mT_ask {t m t' w : Nat} {x row : Int32} (hw : w < 13) : mT (askN N t m x row) t' w = if t' = t then (if w < 7 then (if w = 0 then x else if w = 1 then nI m else if w = 2 then 0 else if w = 6 then 0 else -1) else (if w - 7 < m then wyG row (w - 7) else 0)) else mT N t' w := by
  unfold mT askN ask1
  rw [pk_un (by omega), awG_at]
  by_cases e : t' = t
  · subst e
    rw [if_pos rfl]
    by_cases e2 : w < 7
    · rw [if_neg (by omega), if_pos e2]
      obtain rfl | rfl | rfl | rfl | rfl | rfl | rfl : w = 0 ∨ w = 1 ∨ w = 2 ∨ w = 3 ∨ w = 4 ∨ w = 5 ∨ w = 6 := by omega
      · rw [pk_un (by omega), pk_un (by omega), pk_un (by omega), pk_un (by omega), pk_un (by omega), pk_un (by omega), pk_us]; rfl
      · rw [pk_un (by omega), pk_un (by omega), pk_un (by omega), pk_un (by omega), pk_un (by omega), pk_us]; rfl
      · rw [pk_un (by omega), pk_un (by omega), pk_un (by omega), pk_un (by omega), pk_us]; rfl
      · rw [pk_un (by omega), pk_un (by omega), pk_un (by omega), pk_us]; rfl
      · rw [pk_un (by omega), pk_un (by omega), pk_us]; rfl
      · rw [pk_un (by omega), pk_us]; rfl
      · rw [pk_us]; rfl
    · rw [if_pos (by omega), if_neg e2, show 111 + 13 * t' + w - (111 + 13 * t' + 7) = w - 7 by omega]
  · rw [if_neg e, if_neg (by omega), pk_un (by omega), pk_un (by omega), pk_un (by omega), pk_un (by omega), pk_un (by omega), pk_un (by omega), pk_un (by omega)]
theorem mY_ask {t m k w : Nat} {x row : Int32} (hk : k < 6) (hw : w < 12) : mY (askN N t m x row) k w = mY N k w := lo_ask (by omega) (by omega)
theorem mQ_ask {t m q w : Nat} {x row : Int32} (hq : q < 8) (hw : w < 3) : mQ (askN N t m x row) q w = mQ N q w := lo_ask (by omega) (by omega)
theorem lfG_s (row : Int32) : ∀ k, lfG (row / 10) k = lfG row k / 10
  | 0 => rfl
  | k + 1 => by
    show lfG (row / 10) k / 10 = lfG row k / 10 / 10
    rw [lfG_s row k]
theorem divG_lf : ∀ k (row : Int32), divG k row = lfG row k
  | 0, _ => rfl
  | k + 1, row => by
    show divG k (row / 10) = lfG row k / 10
    rw [divG_lf k (row / 10), lfG_s]
/-- the class's row of lands and the reference's -/
theorem rowG_n (hS : SR (h.1 b) N nl np nq nt) (hl : nl ≤ 8) {home row : Int32} {m : Nat} : ∀ n k, 1 ≤ k → k + n = m → ¬ hasI (nI nl) (wyG row (k - 1)) = 0 → ¬ bnG row k = 0 →
    (rowG h b n (wyG row (k - 1)) (bnG row k) (lfG row k) = 0 ∧ ¬ ((∀ j, k ≤ j → j < m → okG N nl home row j) ∧ lfG row m = 0)) ∨
    (rowG h b n (wyG row (k - 1)) (bnG row k) (lfG row k) = bnG row m ∧ ¬ bnG row m = 0 ∧ (∀ j, k ≤ j → j < m → okG N nl home row j) ∧ lfG row m = 0)
  | 0, k, h1, hk, hb, hz => by
    rw [show rowG h b 0 (wyG row (k - 1)) (bnG row k) (lfG row k) = if lfG row k = 0 then bnG row k else 0 from rfl]
    have : k = m := by omega
    subst this
    by_cases e : lfG row k = 0
    · rw [if_pos e]
      exact Or.inr ⟨rfl, hz, fun j a c => absurd a (by omega), e⟩
    · rw [if_neg e]
      exact Or.inl ⟨rfl, fun z => e z.2⟩
  | n + 1, k, h1, hk, hb, hz => by
    have hd : lfG row k - lfG row k / 10 * 10 = wyG row k := rfl
    have hjn : joinF h b (wyG row (k - 1)) (wyG row k) = 0 ↔ (hasI (nI nl) (wyG row k) = 0 ∨ hasB (N (103 + (wyG row (k - 1)).toNatClampNeg)) (wyG row k) = 0) := by
      obtain ⟨a, ha, ea⟩ : ∃ a, a < nl ∧ wyG row (k - 1) = nI a := by
        rcases hasI_cs nl (by omega) (wyG row (k - 1)) with e | ⟨a, ha, e, -⟩
        · exact absurd e hb
        · exact ⟨a, ha, e⟩
      unfold joinF
      rw [hS.1.1, if_neg hb, ea, nI_clamp (by omega), hS.2.1 a (by omega)]
      by_cases e : hasI (nI nl) (wyG row k) = 0
      · rw [if_pos e]; exact ⟨fun _ => Or.inl e, fun _ => rfl⟩
      · rw [if_neg e]
        by_cases e2 : (N (103 + a) >>> (wyG row k &&& 31)) &&& 1 = 0
        · rw [if_pos e2]; exact ⟨fun _ => Or.inr (hasB_0.mpr e2), fun _ => rfl⟩
        · rw [if_neg e2]
          exact ⟨fun z => absurd z (by decide), fun z => by
            rcases z with z | z
            · exact absurd z e
            · exact absurd (hasB_0.mp z) e2⟩
    rw [show rowG h b (n + 1) (wyG row (k - 1)) (bnG row k) (lfG row k) = if joinF h b (wyG row (k - 1)) (wyG row k) = 0 then 0 else if (bnG row k >>> (wyG row k &&& 31)) &&& 1 = 0 then rowG h b n (wyG row k) (bnG row (k + 1)) (lfG row (k + 1)) else 0 from rfl]
    by_cases e : joinF h b (wyG row (k - 1)) (wyG row k) = 0
    · rw [if_pos e]
      refine Or.inl ⟨rfl, fun z => ?_⟩
      obtain ⟨o1, o2, o3, o4⟩ := z.1 k (Nat.le_refl _) (by omega)
      rcases hjn.mp e with z | z
      · exact o1 z
      · exact o4 (by omega) z
    · rw [if_neg e]
      by_cases e2 : (bnG row k >>> (wyG row k &&& 31)) &&& 1 = 0
      · rw [if_pos e2]
        have h1' : ¬ hasI (nI nl) (wyG row k) = 0 := fun z => e (hjn.mpr (Or.inl z))
        have hok : okG N nl home row k := ⟨h1', hasB_0.mpr e2, fun z => absurd z (by omega), fun _ z => e (hjn.mpr (Or.inr z))⟩
        have ih := rowG_n hS hl (home := home) (row := row) (m := m) n (k + 1) (by omega) (by omega) h1' (or_ne0 hz)
        rw [show k + 1 - 1 = k by omega] at ih
        rcases ih with ⟨i1, i2⟩ | ⟨i1, i2, i3, i4⟩
        · exact Or.inl ⟨i1, fun z => i2 ⟨fun j a c => z.1 j (by omega) c, z.2⟩⟩
        · refine Or.inr ⟨i1, i2, fun j a c => ?_, i4⟩
          by_cases z : j = k
          · rw [z]; exact hok
          · exact i3 j (by omega) c
      · rw [if_neg e2]
        refine Or.inl ⟨rfl, fun z => ?_⟩
        obtain ⟨o1, o2, o3, o4⟩ := z.1 k (Nat.le_refl _) (by omega)
        exact e2 (hasB_0.mp o2)
theorem rowF_n (hS : SR (h.1 b) N nl np nq nt) (hl : nl ≤ 8) {a m : Nat} (ha : a < nl) (hm : 2 ≤ m) (row : Int32) :
    (rowF h b (nI a) row m = 0 ∧ ¬ ((∀ j, j < m → okG N nl (nI a) row j) ∧ lfG row m = 0)) ∨
    (rowF h b (nI a) row m = bnG row m ∧ ¬ bnG row m = 0 ∧ (∀ j, j < m → okG N nl (nI a) row j) ∧ lfG row m = 0) := by
  unfold rowF
  rw [show row - row / 10 * 10 = wyG row 0 from rfl]
  by_cases e : wyG row 0 = nI a
  · rw [if_pos e]
    have hb : ¬ hasI (nI nl) (wyG row 0) = 0 := by rw [e, hasI_p ha (by omega)]; decide
    have h1 : bnG row 1 = 1 <<< (nI a &&& 31) := by
      show (0 : Int32) ||| 1 <<< (wyG row 0 &&& 31) = _
      rw [e]
      exact Int32.zero_or
    have hz : ¬ bnG row 1 = 0 := by
      rw [h1, bx_0]
      intro z
      have := z a (by omega)
      rw [b_1l (by omega) (by omega)] at this
      simp at this
    have hk := rowG_n hS hl (home := nI a) (row := row) (m := m) (m - 1) 1 (by omega) (by omega) hb hz
    rw [show 1 - 1 = 0 from rfl, h1, show lfG row 1 = row / 10 from rfl] at hk
    have hok : okG N nl (nI a) row 0 := ⟨hb, by rw [hasB_0]; rw [show bnG row 0 = 0 from rfl]; simp, fun _ => e, fun z => absurd rfl z⟩
    rcases hk with ⟨i1, i2⟩ | ⟨i1, i2, i3, i4⟩
    · exact Or.inl ⟨i1, fun z => i2 ⟨fun j _ c => z.1 j c, z.2⟩⟩
    · refine Or.inr ⟨i1, i2, fun j c => ?_, i4⟩
      by_cases z : j = 0
      · rw [z]; exact hok
      · exact i3 j (by omega) c
  · rw [if_neg e]
    exact Or.inl ⟨rfl, fun z => e ((z.1 0 (by omega)).2.2.1 rfl)⟩
theorem tOG_sn (N : Nat → Int32) (x : Int32) : ∀ f t, t + f < 2 ^ 31 → tOG N x (f + 1) t = if tOG N x f t = -1 then (if mT N (t + f) 0 = x ∧ ¬ mT N (t + f) 2 = 2 then nI (t + f) else -1) else tOG N x f t
  | 0, t, _ => by
    show (if mT N t 0 = x then (if mT N t 2 = 2 then -1 else nI t) else -1) = if (-1 : Int32) = -1 then (if mT N t 0 = x ∧ ¬ mT N t 2 = 2 then nI t else -1) else -1
    by_cases a : mT N t 0 = x <;> by_cases c : mT N t 2 = 2 <;> simp [a, c]
  | f + 1, t, hb => by
    rw [show tOG N x (f + 1 + 1) t = if mT N t 0 = x then (if mT N t 2 = 2 then tOG N x (f + 1) (t + 1) else nI t) else tOG N x (f + 1) (t + 1) from rfl, tOG_sn N x f (t + 1) (by omega),
      show tOG N x (f + 1) t = if mT N t 0 = x then (if mT N t 2 = 2 then tOG N x f (t + 1) else nI t) else tOG N x f (t + 1) from rfl, show t + 1 + f = t + (f + 1) by omega]
    by_cases a : mT N t 0 = x
    · by_cases c : mT N t 2 = 2
      · rw [if_pos a, if_pos c, if_pos a, if_pos c]
      · rw [if_pos a, if_neg c, if_pos a, if_neg c]
        rw [if_neg (nIm (by omega))]
    · rw [if_neg a, if_neg a]
theorem wayG_bn {t m : Nat} {x row : Int32} : ∀ k, k ≤ m → m ≤ 6 → wayG (askN N t m x row) t k = bnG row k
  | 0, _, _ => rfl
  | k + 1, hk, hm => by
    show wayG (askN N t m x row) t k ||| 1 <<< (mT (askN N t m x row) t (7 + k) &&& 31) = bnG row k ||| 1 <<< (wyG row k &&& 31)
    rw [wayG_bn k (by omega) hm, mT_ask (by omega), if_pos rfl, if_neg (by omega), show 7 + k - 7 = k by omega, if_pos (by omega)]
theorem act_ask (hS : SR (h.1 b) N nl np nq nt) (hW : WN N nl np nq nt B) {q m : Nat} {row : Int32} (hq : q < nq) (h2 : 2 ≤ m) (h6 : m ≤ 6) (hr : rowF h b (mQ N q 0) row m = bnG row m) (h0 : wyG row 0 = mQ N q 0) (hno : tOG N (nI q) nt 0 = -1) (hlt : nt < 40) :
    SR ((ui (addT h b (nI q) row (nI m) (rowF h b (h.1 b 16 q) row m)) b 18 q (nI nt)).1 b) (askN N nt m (nI q) row) nl np nq (nt + 1) ∧ WN (askN N nt m (nI q) row) nl np nq (nt + 1) B ∧ LNK nl np nq 0 (nI q) 0 N (askN N nt m (nI q) row) := by
  have hW0 := hW
  obtain ⟨⟨c0, c1, c2, hp6, c4, hq8, c6, h40⟩, ⟨r, r1, r9, er, hY⟩, hd, hQ, hT, hU, hB⟩ := hW
  have hold : ∀ t w, t < nt → w < 13 → mT (askN N nt m (nI q) row) t w = mT N t w := fun t w ht hw => by rw [mT_ask hw, if_neg (by omega)]
  have n0 : mT (askN N nt m (nI q) row) nt 0 = nI q := by rw [mT_ask (by omega)]; simp
  have n1 : mT (askN N nt m (nI q) row) nt 1 = nI m := by rw [mT_ask (by omega)]; simp
  have n2 : mT (askN N nt m (nI q) row) nt 2 = 0 := by rw [mT_ask (by omega)]; simp
  have n3 : mT (askN N nt m (nI q) row) nt 3 = -1 := by rw [mT_ask (by omega)]; simp
  have n4 : mT (askN N nt m (nI q) row) nt 4 = -1 := by rw [mT_ask (by omega)]; simp
  have n5 : mT (askN N nt m (nI q) row) nt 5 = -1 := by rw [mT_ask (by omega)]; simp
  have n6 : mT (askN N nt m (nI q) row) nt 6 = 0 := by rw [mT_ask (by omega)]; simp
  have n7 : ∀ k, k < m → mT (askN N nt m (nI q) row) nt (7 + k) = wyG row k := fun k hk => by rw [mT_ask (by omega), if_pos rfl, if_neg (by omega), show 7 + k - 7 = k by omega, if_pos hk]
  have hcs := cnt_same (N := N) (N' := askN N nt m (nI q) row) (nt := nt) (fun t w ht hw => hold t w ht (by omega))
  have hO : ∀ k, oBG (askN N nt m (nI q) row) (nI k) (nt + 1) = oBG N (nI k) nt := fun k => by
    rw [show oBG (askN N nt m (nI q) row) (nI k) (nt + 1) = if mT (askN N nt m (nI q) row) nt 2 = 1 then (if mT (askN N nt m (nI q) row) nt 3 = nI k then oBG (askN N nt m (nI q) row) (nI k) nt + 1 else oBG (askN N nt m (nI q) row) (nI k) nt) else oBG (askN N nt m (nI q) row) (nI k) nt from rfl, n2, if_neg (by decide)]
    exact (hcs _).1
  have hON : ∀ k, oN (askN N nt m (nI q) row) (nI k) (nt + 1) = oN N (nI k) nt := fun k => by
    rw [show oN (askN N nt m (nI q) row) (nI k) (nt + 1) = oN (askN N nt m (nI q) row) (nI k) nt + (if mT (askN N nt m (nI q) row) nt 2 = 1 ∧ mT (askN N nt m (nI q) row) nt 3 = nI k then 1 else 0) from rfl, n2, if_neg (fun z => absurd z.1 (by decide))]
    exact oN_same (fun t w ht hw => hold t w ht (by omega))
  have hD : ∀ q2, dBG (askN N nt m (nI q) row) (nI q2) (nt + 1) = dBG N (nI q2) nt := fun q2 => by
    rw [show dBG (askN N nt m (nI q) row) (nI q2) (nt + 1) = if mT (askN N nt m (nI q) row) nt 0 = nI q2 then (if mT (askN N nt m (nI q) row) nt 2 = 2 then dBG (askN N nt m (nI q) row) (nI q2) nt + 1 else dBG (askN N nt m (nI q) row) (nI q2) nt) else dBG (askN N nt m (nI q) row) (nI q2) nt from rfl, n2, if_neg (show ¬ (0 : Int32) = 2 by decide)]
    rw [(hcs (nI q2)).2.1]
    split <;> rfl
  have hTO : ∀ q2, q2 < 8 → tOG (askN N nt m (nI q) row) (nI q2) (nt + 1) 0 = if q2 = q then nI nt else tOG N (nI q2) nt 0 := fun q2 hq2 => by
    rw [tOG_sn _ _ _ _ (by omega), (hcs (nI q2)).2.2, Nat.zero_add, n0, n2]
    by_cases z : q2 = q
    · subst z
      rw [hno, if_pos rfl, if_pos ⟨rfl, by decide⟩, if_pos rfl]
    · rw [if_neg z, if_neg (show ¬ (nI q = nI q2 ∧ ¬ (0 : Int32) = 2) from fun w => z (nI_inj (by omega) (by omega) w.1).symm)]
      by_cases z2 : tOG N (nI q2) nt 0 = -1
      · rw [if_pos z2, z2]
      · rw [if_neg z2]
  have hdone : ∀ t, t < nt → mT N t 0 = nI q → mT N t 2 = 2 := by
    rcases tOG_cs (N := N) (nt := nt) (nI q) with ⟨-, z⟩ | ⟨t, z, z2, -⟩
    · exact z
    · rw [hno] at z2; exact absurd z2.symm (nIm (by omega))
  have hadd : addT h b (nI q) row (nI m) (rowF h b (h.1 b 16 q) row m) = ui (ui (ui (ui (ui (ui (ui (ui (ui (ui h b 22 nt (nI q)) b 24 nt row) b 23 nt (nI m)) b 25 nt (bnG row m)) b 26 nt 0) b 27 nt (-1)) b 28 nt (-1)) b 29 nt (-1)) b 30 nt 0) b 21 9 (nI nt + 1) := by
    unfold addT
    rw [hS.1.2.2.2.1, nI_clamp (by omega), (hS.2.2.2.1 q hq).1, hr]
  refine ⟨?_, ?_, ?_⟩
  · rw [hadd]
    obtain ⟨⟨a1, a2, a3, a4, a5, a6, a7⟩, s2, s3, s4, s5⟩ := hS
    refine ⟨⟨?_, ?_, ?_, ?_, ?_, ?_, ?_⟩, fun a ha => ?_, fun k hk => ?_, fun q2 hq2 => ?_, fun t ht => ?_⟩
    · simp [ui, a1]
    · simp [ui, a2]
    · simp [ui, a3]
    · simp [ui, nI_1]
    · rw [lo_ask (by omega) (by omega)]; simp [ui, a5]
    · rw [lo_ask (by omega) (by omega)]; simp [ui, a6]
    · rw [bO_congr (N := N) 8 (fun a ha => lo_ask (by omega) (by omega))]; simp [ui, a7]
    · rw [lo_ask (by omega) (by omega)]; simp [ui, s2 a ha]
    · obtain ⟨t4, t5, t6, t7, t8, t9, t10, t11, t12, t13, t14⟩ := s3 k hk
      rw [mY_ask (by omega) (by omega), mY_ask (by omega) (by omega), mY_ask (by omega) (by omega), mY_ask (by omega) (by omega), mY_ask (by omega) (by omega), mY_ask (by omega) (by omega), mY_ask (by omega) (by omega), mY_ask (by omega) (by omega), mY_ask (by omega) (by omega), mY_ask (by omega) (by omega), hO]
      simp [ui, t4, t5, t6, t7, t8, t9, t10, t11, t12, t13, t14]
    · obtain ⟨t16, t17, t18, t19, t20⟩ := s4 q2 hq2
      rw [mQ_ask (by omega) (by omega), mQ_ask (by omega) (by omega), mQ_ask (by omega) (by omega), hD, hTO q2 (by omega)]
      by_cases z : q2 = q
      · subst z; simp [ui, t16, t17, t19, t20]
      · simp [ui, t16, t17, t18, t19, t20, z]
    · by_cases z : t = nt
      · subst z
        rw [n0, n1, n2, n3, n4, n5, n6]
        have hw : wayM (askN N t m (nI q) row) t = bnG row m := by
          unfold wayM
          rw [n1, nI_clamp (by omega)]
          exact wayG_bn m (Nat.le_refl _) h6
        rw [hw, nI_clamp (show m < 2 ^ 31 by omega)]
        refine ⟨by simp [ui], by simp [ui], by simp [ui], by simp [ui], by simp [ui], by simp [ui], by simp [ui], by simp [ui], fun k hk => ?_⟩
        rw [n7 k hk]
        have e24 : ∀ (g : AH), (ui (ui (ui (ui (ui (ui (ui (ui (ui (ui g b 24 t row) b 23 t (nI m)) b 25 t (bnG row m)) b 26 t 0) b 27 t (-1)) b 28 t (-1)) b 29 t (-1)) b 30 t 0) b 21 9 (nI t + 1)) b 18 q (nI t)).1 b 24 t = row := fun g => by simp [ui]
        rw [e24, divG_lf]
        rfl
      · obtain ⟨t22, t23, t25, t26, t27, t28, t29, t30, td⟩ := s5 t (by omega)
        have ht' : t < nt := by omega
        obtain ⟨m', m6', em'⟩ := hW0.m6 t ht'
        have hw : wayM (askN N nt m (nI q) row) t = wayM N t := by
          unfold wayM
          rw [hold t 1 ht' (by omega), em', nI_clamp (by omega)]
          exact wayG_congr m' m6' (fun w _ hw => hold t w ht' hw)
        rw [hw, hold t 0 ht' (by omega), hold t 1 ht' (by omega), hold t 2 ht' (by omega), hold t 3 ht' (by omega), hold t 4 ht' (by omega), hold t 5 ht' (by omega), hold t 6 ht' (by omega)]
        refine ⟨by simp [ui, z, t22], by simp [ui, z, t23], by simp [ui, z, t25], by simp [ui, z, t26], by simp [ui, z, t27], by simp [ui, z, t28], by simp [ui, z, t29], by simp [ui, z, t30], fun k hk => ?_⟩
        have hk6 : k < 6 := by rw [em', nI_clamp (by omega)] at hk; omega
        rw [hold t (7 + k) ht' (by omega), ← td k hk]
        simp [ui, z]
  · refine ⟨⟨by rw [lo_ask (by omega) (by omega), c0], c1, by rw [lo_ask (by omega) (by omega), c2], hp6, by rw [lo_ask (by omega) (by omega), c4], hq8, n5_ask, by omega⟩, ⟨r, r1, r9, by rw [lo_ask (by omega) (by omega), er], fun k hk => ?_⟩, by rw [lo_ask (by omega) (by omega)]; exact hd, fun q2 hq2 => ?_, fun t ht => ?_, fun t t' e1 e2 e3 e4 e5 => ?_, hB⟩
    · obtain ⟨p, c, n, s, sp, lo, bk, e1, e2, e3, e4, e5, e6, e7, e8, e9, e10, e11, e12, e13, e14, e15, e16, e17, e18⟩ := hY k hk
      have hy : ∀ w, w < 12 → mY (askN N nt m (nI q) row) k w = mY N k w := fun w hw => mY_ask (by omega) hw
      exact ⟨p, c, n, s, sp, lo, bk, by rw [hy 0 (by omega)]; exact e1, by rw [hy 1 (by omega)]; exact e2, e3, e4, by rw [hy 0 (by omega)]; exact e5, by rw [hy 3 (by omega)]; exact e6, e7, by rw [hy 4 (by omega)]; exact e8, e9, by rw [hy 5 (by omega)]; exact e10, e11, by rw [hy 7 (by omega)]; exact e12, by rw [hy 8 (by omega)]; exact e13, by rw [hy 9 (by omega)]; exact e14, by rw [hy 10 (by omega)]; exact e15, e16, e17, by rw [hON]; exact e18⟩
    · rw [mQ_ask (by omega) (by omega)]; exact hQ q2 hq2
    · by_cases z : t = nt
      · subst z
        exact ⟨⟨q, hq, n0, by rw [mQ_ask (by omega) (by omega), ← h0]; exact n7 0 (by omega)⟩, ⟨m, h2, h6, n1⟩, Or.inl ⟨n2, n3, n4, n5, n6⟩⟩
      · have ht' : t < nt := by omega
        obtain ⟨⟨q2, hq2, e0, e7⟩, ⟨m', m2', m6', em'⟩, est⟩ := hT t ht'
        refine ⟨⟨q2, hq2, by rw [hold t 0 ht' (by omega), e0], by rw [hold t 7 ht' (by omega), mQ_ask (by omega) (by omega), e7]⟩, ⟨m', m2', m6', by rw [hold t 1 ht' (by omega), em']⟩, stT_same (fun w hw => hold t w ht' (by omega)) est⟩
    · by_cases z : t = nt
      · by_cases z' : t' = nt
        · omega
        · subst z
          rw [n0, hold t' 0 (by omega) (by omega)] at e3
          rw [hold t' 2 (by omega) (by omega)] at e5
          exact absurd (hdone t' (by omega) e3.symm) e5
      · by_cases z' : t' = nt
        · subst z'
          rw [n0, hold t 0 (by omega) (by omega)] at e3
          rw [hold t 2 (by omega) (by omega)] at e4
          exact absurd (hdone t (by omega) e3) e4
        · rw [hold t 0 (by omega) (by omega), hold t' 0 (by omega) (by omega)] at e3
          rw [hold t 2 (by omega) (by omega)] at e4
          rw [hold t' 2 (by omega) (by omega)] at e5
          exact hU t t' (by omega) (by omega) e3 e4 e5
  · intro g c hG
    have e5 : cT (askN N nt m (nI q) row) = nt + 1 := by unfold cT; rw [n5_ask, nI_clamp (by omega)]
    rw [e5] at hG
    rw [hW0.ct]
    have eU : undoF g c 0 (nI q) 0 nq = ui (ui g c 18 q (-1)) c 21 9 (nI nt) := by
      unfold undoF
      rw [if_pos rfl]
      unfold tbTripF
      rw [hG.1.2.2.1, hG.1.2.2.2.1, hasI_p hq (by omega), if_neg (by decide), if_neg (nI_nle (by omega) (by omega)), nI_clamp (by omega), nI_pred]
    rw [eU]
    obtain ⟨⟨a1, a2, a3, a4, a5, a6, a7⟩, s2, s3, s4, s5⟩ := hG
    refine ⟨⟨?_, ?_, ?_, ?_, ?_, ?_, ?_⟩, fun a ha => ?_, fun k hk => ?_, fun q2 hq2 => ?_, fun t ht => ?_⟩
    · simp [ui, a1]
    · simp [ui, a2]
    · simp [ui, a3]
    · simp [ui]
    · rw [lo_ask (by omega) (by omega)] at a5; simp [ui, a5]
    · rw [lo_ask (by omega) (by omega)] at a6; simp [ui, a6]
    · rw [bO_congr (N := N) 8 (fun a ha => lo_ask (by omega) (by omega))] at a7; simp [ui, a7]
    · have := s2 a ha
      rw [lo_ask (by omega) (by omega)] at this; simp [ui, this]
    · obtain ⟨t4, t5, t6, t7, t8, t9, t10, t11, t12, t13, t14⟩ := s3 k hk
      rw [mY_ask (by omega) (by omega)] at t4 t5 t6 t7 t8 t9 t10 t12 t13 t14
      rw [hO] at t11
      simp [ui, t4, t5, t6, t7, t8, t9, t10, t11, t12, t13, t14]
    · obtain ⟨t16, t17, t18, t19, t20⟩ := s4 q2 hq2
      rw [mQ_ask (by omega) (by omega)] at t16 t17 t19
      rw [hD] at t20
      rw [hTO q2 (by omega)] at t18
      by_cases z : q2 = q
      · subst z
        simp [ui, t16, t17, t19, t20, hno]
      · rw [if_neg z] at t18
        simp [ui, t16, t17, t18, t19, t20, z]
    · obtain ⟨t22, t23, t25, t26, t27, t28, t29, t30, td⟩ := s5 t (by omega)
      obtain ⟨m', m6', em'⟩ := hW0.m6 t ht
      have hw : wayM (askN N nt m (nI q) row) t = wayM N t := by
        unfold wayM
        rw [hold t 1 ht (by omega), em', nI_clamp (by omega)]
        exact wayG_congr m' m6' (fun w _ hw => hold t w ht hw)
      rw [hold t 0 ht (by omega)] at t22
      rw [hold t 1 ht (by omega)] at t23 td
      rw [hw] at t25
      rw [hold t 2 ht (by omega)] at t26
      rw [hold t 3 ht (by omega)] at t27
      rw [hold t 4 ht (by omega)] at t28
      rw [hold t 5 ht (by omega)] at t29
      rw [hold t 6 ht (by omega)] at t30
      refine ⟨by simp [ui, t22], by simp [ui, t23], by simp [ui, t25], by simp [ui, t26], by simp [ui, t27], by simp [ui, t28], by simp [ui, t29], by simp [ui, t30], fun k hk => ?_⟩
      have hk6 : k < 6 := by rw [em', nI_clamp (by omega)] at hk; omega
      rw [← hold t (7 + k) ht (by omega), ← td k hk]
      simp [ui]
end
