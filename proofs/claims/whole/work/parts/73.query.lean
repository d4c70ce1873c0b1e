/-! the calls that only tell -/
section
variable {h : AH} {b : Nat} {N : Nat → Int32} {nl np nq nt B : Nat}
theorem q_now {N : Nat → Int32} (hN : h.1 3 2 = N) (hS : SR (h.1 b) N nl np nq nt) (hW : WN N nl np nq nt B) (h9 : h.1 b 31 4 = h.1 3 0 14) (hL : h.1 0 1 1 = h.1 3 0 2) (x : Int32) : nowF h b nq nt x = mNow h nq nt x := by
  subst hN
  obtain ⟨⟨a1, a2, a3, a4, a5, a6, a7⟩, -, -, s4, s5⟩ := hS
  obtain ⟨⟨b1, -, b3, -, b4, -, b5, -⟩, -⟩ := hW
  unfold nowF mNow
  rw [a6, a1, a2, a3, a4, a7, h9, hL, b1, b3, b4, b5,
    cntI_congr (f := h.1 b 26) (g := fun t => mT (h.1 3 2) t 2) (x := 0) (fun t ht => (s5 t ht).2.2.2.1),
    cntI_congr (f := h.1 b 26) (g := fun t => mT (h.1 3 2) t 2) (x := 1) (fun t ht => (s5 t ht).2.2.2.1),
    sumI_congr (f := h.1 b 19) (g := fun q => mQ (h.1 3 2) q 2) (fun q hq => (s4 q hq).2.2.2.1)]
theorem isIn_n {y : Int32} {m : Nat} {c : Int32} (hc : c = nI m) (hm : m < 2 ^ 30) (h : ¬ isInF y 0 c = 0) : ∃ j, j ≤ m ∧ y = nI j := by
  subst hc
  unfold isInF at h
  split at h
  · exact absurd rfl h
  · rename_i h1
    split at h
    · exact absurd rfl h
    · rename_i h2
      rcases pk_ix y (n := m + 1) (by omega) with a | a | ⟨j, hj, e⟩
      · exact absurd a h1
      · obtain ⟨j, hj, rfl⟩ := nI_of h1
        have := (nI_leI (by omega) hj).mp a
        exact absurd (nI_ltU (show m < j by omega) hj) h2
      · exact ⟨j, by omega, e⟩
theorem q_type (hS : SR (h.1 b) N nl np nq nt) (hW : WN N nl np nq nt B) (x y : Int32) : typeF h b x y = mType N np nt x y := by
  have hp6 : np ≤ 6 := hW.1.2.2.2.1
  unfold typeF mType
  rw [hS.1.2.1]
  rcases hasI_cs np (by omega) x with e | ⟨k, hk, rfl, e⟩
  · rw [if_pos e, if_pos e]
  · rw [if_neg e, if_neg e, nI_clamp (by omega), (frees hS hW hk).2.2.2]
    obtain ⟨t4, t5, t6, t7, t8, t9, t10, -⟩ := hS.2.2.1 k hk
    rw [t4, t5, t6, t7, t8, t9, t10]
    by_cases e : isInF y 0 7 = 0
    · rw [if_neg (isIn_ne e (by decide)), if_neg (isIn_ne e (by decide)), if_neg (isIn_ne e (by decide)), if_neg (isIn_ne e (by decide)), if_neg (isIn_ne e (by decide)), if_neg (isIn_ne e (by decide)), if_neg (isIn_ne e (by decide)), if_neg (isIn_ne e (by decide)), if_pos e]
    · rw [if_neg e]
      obtain ⟨j, hj, rfl⟩ := isIn_n (m := 7) rfl (by omega) e
      obtain rfl | rfl | rfl | rfl | rfl | rfl | rfl | rfl : j = 0 ∨ j = 1 ∨ j = 2 ∨ j = 3 ∨ j = 4 ∨ j = 5 ∨ j = 6 ∨ j = 7 := by omega
      all_goals rfl
theorem q_ledg (hS : SR (h.1 b) N nl np nq nt) (hW : WN N nl np nq nt B) (x y : Int32) : ledgF h b x y = mLedg N np nt x y := by
  have hp6 : np ≤ 6 := hW.1.2.2.2.1
  unfold ledgF mLedg
  rw [hS.1.2.1]
  rcases hasI_cs np (by omega) x with e | ⟨k, hk, rfl, e⟩
  · rw [if_pos e, if_pos e]
  · rw [if_neg e, if_neg e, nI_clamp (by omega), (frees hS hW hk).1, (frees hS hW hk).2.1, (frees hS hW hk).2.2.1]
    obtain ⟨-, -, -, -, -, -, -, -, t12, t13, t14⟩ := hS.2.2.1 k hk
    rw [t12, t13, t14]
    by_cases e : isInF y 0 5 = 0
    · rw [if_neg (isIn_ne e (by decide)), if_neg (isIn_ne e (by decide)), if_neg (isIn_ne e (by decide)), if_neg (isIn_ne e (by decide)), if_neg (isIn_ne e (by decide)), if_neg (isIn_ne e (by decide)), if_pos e]
    · rw [if_neg e]
      obtain ⟨j, hj, rfl⟩ := isIn_n (m := 5) rfl (by omega) e
      obtain rfl | rfl | rfl | rfl | rfl | rfl : j = 0 ∨ j = 1 ∨ j = 2 ∨ j = 3 ∨ j = 4 ∨ j = 5 := by omega
      all_goals rfl
theorem isIn_lo {y a c : Int32} (h : y < a) : isInF y a c = 0 := if_pos h
theorem isIn_hi {y a c : Int32} (h : c < y) : isInF y a c = 0 := by unfold isInF; rw [if_pos h]; split <;> rfl
theorem isIn_in {y a c : Int32} (h1 : ¬ y < a) (h2 : ¬ c < y) : isInF y a c = 1 := by unfold isInF; rw [if_neg h1, if_neg h2]
theorem q_trip (hS : SR (h.1 b) N nl np nq nt) (hW : WN N nl np nq nt B) (x y : Int32) : tripF h b x y = mTrip N nt x y := by
  have h40 : nt ≤ 40 := hW.1.2.2.2.2.2.2.2
  unfold tripF mTrip
  rw [hS.1.2.2.2.1]
  rcases hasI_cs nt (by omega) x with e | ⟨t, ht, rfl, e⟩
  · rw [if_pos e, if_pos e]
  · rw [if_neg e, if_neg e]
    unfold landF
    rw [nI_clamp (show t < 2 ^ 31 by omega)]
    obtain ⟨t22, t23, t25, t26, t27, t28, t29, t30, td⟩ := hS.2.2.2.2 t ht
    obtain ⟨-, ⟨m, m2, m6, em⟩, -⟩ := hW.2.2.2.2.1 t ht
    rw [t22, t23, t26, t27, t28, t29, t30]
    rw [em] at td ⊢
    rw [nI_clamp (show m < 2 ^ 31 by omega)] at td
    rw [show (9 : Int32) + nI m = nI (9 + m) from nI_add 9 m]
    rcases Int32.lt_or_le y 0 with a | a
    · have e6 : isInF y 0 6 = 0 := isIn_lo a
      rw [if_neg (isIn_ne e6 (by decide)), if_neg (isIn_ne e6 (by decide)), if_neg (isIn_ne e6 (by decide)), if_neg (isIn_ne e6 (by decide)), if_neg (isIn_ne e6 (by decide)), if_neg (isIn_ne e6 (by decide)), if_neg (isIn_ne e6 (by decide)), if_pos e6,
        if_pos (isIn_lo (Int32.lt_trans a (by decide))), if_neg]
      intro z
      rw [Int32.lt_iff_toInt_lt] at a
      rw [Int32.le_iff_toInt_le] at z
      have z1 : (0 : Int32).toInt = 0 := by decide
      have z2 : (10 : Int32).toInt = 10 := by decide
      omega
    · obtain ⟨j, hj, rfl⟩ := nI_of (x := y) (fun z => by rw [Int32.lt_iff_toInt_lt] at z; rw [Int32.le_iff_toInt_le] at a; omega)
      rcases Nat.lt_or_ge j 7 with c | c
      · rw [if_pos (isIn_lo (show nI j < 10 from nI_ltU (b := 10) (by omega) (by omega)))]
        obtain rfl | rfl | rfl | rfl | rfl | rfl | rfl : j = 0 ∨ j = 1 ∨ j = 2 ∨ j = 3 ∨ j = 4 ∨ j = 5 ∨ j = 6 := by omega
        all_goals first | rfl | exact em.symm
      · have e6 : isInF (nI j) 0 6 = 0 := isIn_hi (show nI 6 < nI j from nI_ltU (by omega) hj)
        rw [if_neg (isIn_ne e6 (by decide)), if_neg (isIn_ne e6 (by decide)), if_neg (isIn_ne e6 (by decide)), if_neg (isIn_ne e6 (by decide)), if_neg (isIn_ne e6 (by decide)), if_neg (isIn_ne e6 (by decide)), if_neg (isIn_ne e6 (by decide)), if_pos e6]
        rcases Nat.lt_or_ge j 10 with c2 | c2
        · rw [if_pos (isIn_lo (show nI j < 10 from nI_ltU (b := 10) (by omega) (by omega))), if_neg (show ¬ (10 : Int32) ≤ nI j from nI_ge (b := 10) (by omega) (by omega))]
        · rw [if_pos (show (10 : Int32) ≤ nI j from nI_le (a := 10) (by omega) (by omega)), show nI j - 10 = nI (j - 10) from pk_sub (b := 10) c2, if_neg (nI_pos (by omega)), nI_clamp (show j - 10 < 2 ^ 31 by omega), nI_clamp hj]
          rcases Nat.lt_or_ge j (10 + m) with c3 | c3
          · rw [if_pos (show nI (j - 10) < nI m from nI_ltU (by omega) (by omega)), if_neg (show ¬ isInF (nI j) 10 (nI (9 + m)) = 0 from by rw [isIn_in (show ¬ nI j < 10 from nI_nlt (a := j) (b := 10) c2 hj) (nI_nlt (show j ≤ 9 + m by omega) (by omega))]; decide), td _ (by omega)]
            congr 1
            omega
          · rw [if_neg (nI_nlt (show m ≤ j - 10 by omega) (by omega)), if_pos (isIn_hi (nI_ltU (show 9 + m < j by omega) hj))]
theorem suit_fit (hS : SR (h.1 b) N nl np nq nt) (hW : WN N nl np nq nt B) {k t : Nat} (hk : k < np) (ht : t < nt) : suitF h b (nI k) (nI t) = if fitM N k t = 0 then 0 else 1 := by
  obtain ⟨⟨-, -, -, hp6, -, hq8, -, h40⟩, -, -, -, hT, -⟩ := hW
  obtain ⟨⟨q, hq, q0, q7⟩, -⟩ := hT t ht
  obtain ⟨-, -, t6, -, -, -, t10, -⟩ := hS.2.2.1 k hk
  obtain ⟨t16, t17, -⟩ := hS.2.2.2.1 q hq
  obtain ⟨t22, -, t25, -⟩ := hS.2.2.2.2 t ht
  unfold suitF forF engF fitM
  rw [hS.1.2.1, hS.1.2.2.2.1, hS.1.2.2.1, nI_clamp (show t < 2 ^ 31 by omega), nI_clamp (show k < 2 ^ 31 by omega), t22, q0, nI_clamp (show q < 2 ^ 31 by omega), hasI_p hk (by omega), hasI_p ht (by omega), hasI_p hq (by omega), t6, t10, t16, t17, t25, q7]
  rw [if_neg (by decide), if_neg (by decide), if_neg (by decide)]
  by_cases c1 : (wayM N t &&& ((1 <<< (mQ N q 0 &&& 31)) ^^^ (-1))) &&& (mY N k 6 ^^^ (-1)) = 0
  · rw [if_pos c1, if_pos c1, if_neg (by decide)]
  · rw [if_neg c1, if_neg c1, if_pos rfl, if_pos rfl]
theorem q_fits (hS : SR (h.1 b) N nl np nq nt) (hW : WN N nl np nq nt B) (x y : Int32) : suitF h b x y = mFits N np nt x y := by
  have hp6 : np ≤ 6 := hW.1.2.2.2.1
  have h40 : nt ≤ 40 := hW.1.2.2.2.2.2.2.2
  unfold mFits
  rcases hasI_cs np (by omega) x with e | ⟨k, hk, rfl, e⟩
  · unfold suitF
    rw [hS.1.2.1, if_pos e, if_pos e]
  · rcases hasI_cs nt (by omega) y with e2 | ⟨t, ht, rfl, e2⟩
    · unfold suitF
      rw [hS.1.2.1, hS.1.2.2.2.1, if_neg e, if_pos e2, if_neg e, if_pos e2]
    · rw [suit_fit hS hW hk ht, if_neg e, if_neg e2, nI_clamp (show t < 2 ^ 31 by omega), nI_clamp (show k < 2 ^ 31 by omega)]
theorem out_t (hS : SR (h.1 b) N nl np nq nt) (hW : WN N nl np nq nt B) {q : Nat} (hq : q < nq) : (tOG N (nI q) nt 0 = -1 ∧ isOutF h b (nI q) = 0 ∧ h.1 b 18 q = -1) ∨ ∃ t, t < nt ∧ tOG N (nI q) nt 0 = nI t ∧ h.1 b 18 q = nI t ∧ mT N t 0 = nI q ∧ ¬ mT N t 2 = 2 ∧ isOutF h b (nI q) = if mT N t 2 = 1 then 1 else 0 := by
  obtain ⟨⟨-, -, -, hp6, -, hq8, -, h40⟩, -, -, -, hT, -⟩ := hW
  obtain ⟨-, -, t18, -⟩ := hS.2.2.2.1 q hq
  unfold isOutF
  rw [hS.1.2.2.1, hS.1.2.2.2.1, hasI_p hq (by omega), if_neg (by decide), nI_clamp (show q < 2 ^ 31 by omega), t18]
  rcases tOG_cs (N := N) (nt := nt) (nI q) with ⟨a, c⟩ | ⟨t, a, c, d, e⟩
  · left
    rw [a]
    exact ⟨rfl, if_pos (hasI_m _), rfl⟩
  · right
    refine ⟨t, a, c, c, d, e, ?_⟩
    rw [c, hasI_p a (by omega), if_neg (by decide), nI_clamp (show t < 2 ^ 31 by omega), (hS.2.2.2.2 t a).2.2.2.1]
theorem late_t (hS : SR (h.1 b) N nl np nq nt) (hW : WN N nl np nq nt B) {t k : Nat} (ht : t < nt) (hk : k < np) (h3 : mT N t 3 = nI k) : lateF h b (nI t) = if N 6 - mT N t 4 ≤ mY N k 5 then 0 else 1 := by
  obtain ⟨⟨-, -, -, hp6, -, hq8, -, h40⟩, -⟩ := hW
  obtain ⟨-, -, -, -, t27, t28, -⟩ := hS.2.2.2.2 t ht
  unfold lateF
  rw [hS.1.2.2.2.1, hS.1.2.1, nI_clamp (show t < 2 ^ 31 by omega), t27, h3, hasI_p ht (by omega), hasI_p hk (by omega), if_neg (by decide), if_neg (by decide), hS.1.2.2.2.2.2.1, t28, nI_clamp (show k < 2 ^ 31 by omega), (hS.2.2.1 k hk).2.2.2.2.2.1]
theorem q_judge (hS : SR (h.1 b) N nl np nq nt) (hW : WN N nl np nq nt B) {q : Nat} (hq : q < nq) (y : Int32) : judgeF h b (nI q) y = whyF N nt (nI q) y := by
  have hW0 := hW
  obtain ⟨⟨-, -, -, hp6, -, hq8, -, h40⟩, -, -, -, hT, -⟩ := hW
  unfold judgeF whyF
  rcases out_t hS hW0 hq with ⟨a, c, d⟩ | ⟨t, ht, a, c, d, e, f⟩
  · rw [c, if_pos rfl, a, if_pos rfl]
  · rw [f, a, nI_clamp (show q < 2 ^ 31 by omega), c, nI_clamp (show t < 2 ^ 31 by omega), if_neg (nIm (by omega)), hS.1.2.2.2.1, hasI_p ht (by omega), (hS.2.2.2.2 t ht).2.2.1]
    by_cases g : mT N t 2 = 1
    · rw [if_pos g, if_neg (by decide), if_neg (by decide), if_pos g]
      have hk : ∃ k, k < np ∧ mT N t 3 = nI k := by
        obtain ⟨-, -, u⟩ := hT t ht
        rcases u with u | u | u
        · rw [u.1] at g; exact absurd g (by decide)
        · exact u.2.1
        · rw [u.1] at g; exact absurd g (by decide)
      obtain ⟨k, hk, e3⟩ := hk
      rw [late_t hS hW0 ht hk e3, e3, nI_clamp (show k < 2 ^ 31 by omega)]
      by_cases g2 : (wayM N t >>> (y &&& 31)) &&& 1 = 0
      · rw [if_pos g2, if_pos (hasB_0.mpr g2)]
      · rw [if_neg g2, if_neg (fun z => g2 (hasB_0.mp z))]
        by_cases g3 : N 6 - mT N t 4 ≤ mY N k 5
        · rw [if_pos g3, if_pos g3, if_pos rfl]
        · rw [if_neg g3, if_neg g3, if_neg (by decide)]
    · rw [if_neg g, if_pos rfl, if_neg g]
theorem q_law (hS : SR (h.1 b) N nl np nq nt) (hW : WN N nl np nq nt B) (x y : Int32) : lawF h b x y = mLaw N nl nq nt x y := by
  have hq8 : nq ≤ 8 := hW.1.2.2.2.2.2.1
  unfold lawF mLaw
  rw [hS.1.1, hS.1.2.2.1]
  rcases hasI_cs nq (by omega) x with e | ⟨q, hq, rfl, e⟩
  · rw [if_pos e, if_pos e]
  · rw [if_neg e, if_neg e, q_judge hS hW hq]
theorem freeG_n (hS : SR (h.1 b) N nl np nq nt) (hW : WN N nl np nq nt B) {a : Nat} (ha : a < 32) (y : Int32) : ∀ c, c ≤ np → freeG h b (nI a) y c = fOG N nt (nI a) y c
  | 0, _ => rfl
  | c + 1, hc => by
    have hp6 : np ≤ 6 := hW.1.2.2.2.1
    obtain ⟨-, -, t6, -, -, -, t10, -⟩ := hS.2.2.1 c (by omega)
    rw [show freeG h b (nI a) y (c + 1) = if forF h b (nI c) (1 <<< (nI a &&& 31)) = 0 then freeG h b (nI a) y c else if engF h b (nI c) y = 0 then freeG h b (nI a) y c else freeG h b (nI a) y c + freeF h b (nI c) from rfl,
      show fOG N nt (nI a) y (c + 1) = if hasB (mY N c 6) (nI a) = 0 then fOG N nt (nI a) y c else if y < mY N c 2 then fOG N nt (nI a) y c else fOG N nt (nI a) y c + mFree N nt c from rfl,
      freeG_n hS hW ha y c (by omega), (frees hS hW (show c < np by omega)).2.2.2]
    unfold forF engF
    rw [nI_clamp (show c < 2 ^ 31 by omega), t6, t10]
    by_cases e : bt (mY N c 6) a = true
    · rw [if_pos ((for_b ha).mpr e), if_neg (by decide), if_neg (show ¬ hasB (mY N c 6) (nI a) = 0 from fun z => by rw [(hasB_b ha).mp z] at e; exact absurd e (by decide))]
      by_cases e2 : y < mY N c 2
      · rw [if_pos e2, if_pos e2, if_pos rfl]
      · rw [if_neg e2, if_neg e2, if_neg (by decide)]
    · rw [if_neg (fun z => e ((for_b ha).mp z)), if_pos rfl, if_pos ((hasB_b ha).mpr (by simpa using e))]
theorem q_free (hS : SR (h.1 b) N nl np nq nt) (hW : WN N nl np nq nt B) (x y : Int32) : frF h b np x y = mFreeA N nl np nt x y := by
  have hl8 : nl ≤ 8 := hW.1.2.1
  unfold frF mFreeA
  rw [hS.1.1]
  rcases hasI_cs nl (by omega) x with e | ⟨a, ha, rfl, e⟩
  · rw [if_pos e, if_pos e]
  · rw [if_neg e, if_neg e, freeG_n hS hW (by omega) y np (Nat.le_refl _)]
    unfold isInF
    by_cases c1 : y < 1
    · rw [if_pos c1, if_pos c1, if_pos rfl]
    · rw [if_neg c1, if_neg c1]
      by_cases c2 : y ≤ 6
      · rw [if_pos c2, if_neg (show ¬ (6 : Int32) < y from Int32.not_lt.mpr c2), if_neg (by decide)]
      · rw [if_neg c2, if_pos (Int32.not_le.mp c2), if_pos rfl]
theorem nextF_n (hS : SR (h.1 b) N nl np nq nt) (r a : Int32) : ∀ n, n ≤ 8 → nextF h b r a n = mNx N a r n
  | 0, _ => rfl
  | n + 1, hn => by
    rw [show nextF h b r a (n + 1) = if (r >>> (nI n &&& 31)) &&& 1 = 0 then nextF h b r a n else nextF h b r a n ||| (h.1 b 2 n &&& a) from rfl,
      show mNx N a r (n + 1) = if hasB r (nI n) = 0 then mNx N a r n else mNx N a r n ||| (N (103 + n) &&& a) from rfl, nextF_n hS r a n (by omega), hS.2.1 n (by omega)]
    by_cases e : (r >>> (nI n &&& 31)) &&& 1 = 0
    · rw [if_pos e, if_pos (hasB_0.mpr e)]
    · rw [if_neg e, if_neg (fun z => e (hasB_0.mp z))]
theorem mSh_n (hS : SR (h.1 b) N nl np nq nt) (hl : nl ≤ 8) (land a : Int32) : ∀ f m r best, m + f ≤ 100 → hasB r land = 0 →
    (shortG h b nl land a f m r = -2 ∨ ∃ j, j < 100 ∧ shortG h b nl land a f m r = nI j) ∧
    mSh N nl land a f m r best = if shortG h b nl land a f m r = -2 then best else if best = -2 then shortG h b nl land a f m r else if best ≤ shortG h b nl land a f m r then best else shortG h b nl land a f m r
  | 0, m, r, best, _, _ => ⟨Or.inl rfl, (if_pos rfl).symm⟩
  | f + 1, m, r, best, hm, hr => by
    rw [show shortG h b nl land a (f + 1) m r = if (nextF h b r a nl >>> (land &&& 31)) &&& 1 = 0 then shortG h b nl land a f (m + 1) (nextF h b r a nl) else nI m from rfl,
      show mSh N nl land a (f + 1) m r best = if hasB r land = 0 then mSh N nl land a f (m + 1) (mNx N a r nl) (mBe (mNx N a r nl) land best m) else best from rfl, if_pos hr, nextF_n hS r a nl hl]
    by_cases e : (mNx N a r nl >>> (land &&& 31)) &&& 1 = 0
    · have e2 := hasB_0.mpr e
      rw [if_pos e, show mBe (mNx N a r nl) land best m = best from if_pos e2]
      exact mSh_n hS hl land a f (m + 1) _ best (by omega) e2
    · have e2 : ¬ hasB (mNx N a r nl) land = 0 := fun z => e (hasB_0.mp z)
      have hz : ∀ (best2 : Int32), mSh N nl land a f (m + 1) (mNx N a r nl) best2 = best2 := fun best2 => by
        cases f with
        | zero => rfl
        | succ f => exact if_neg e2
      have h2 : ¬ nI m = -2 := fun z => by
        have z2 := congrArg Int32.toInt z
        rw [nI_toInt (by omega)] at z2
        have : (-2 : Int32).toInt = -2 := by decide
        omega
      rw [if_neg e, hz, if_neg h2]
      exact ⟨Or.inr ⟨m, by omega, rfl⟩, if_neg e2⟩
theorem shG_n (hS : SR (h.1 b) N nl np nq nt) (hW : WN N nl np nq nt B) {q a c : Nat} (hq : q < nq) (ha : a < 32) (hc : c < 32) (hac : ¬ a = c) (h0 : mQ N q 0 = nI a) : ∀ k, k ≤ np → shG h b nl (mQ N q 0) (nI c) (mQ N q 1) k = mSO N nl q (nI c) k
  | 0, _ => rfl
  | k + 1, hk => by
    have hp6 : np ≤ 6 := hW.1.2.2.2.1
    obtain ⟨-, -, t6, -, -, -, t10, -⟩ := hS.2.2.1 k (by omega)
    have hr : hasB (1 <<< (mQ N q 0 &&& 31)) (nI c) = 0 := by
      rw [h0, hasB_b hc, b_1l ha hc]
      simpa using hac
    rw [show shG h b nl (mQ N q 0) (nI c) (mQ N q 1) (k + 1) = if engF h b (nI k) (mQ N q 1) = 0 then shG h b nl (mQ N q 0) (nI c) (mQ N q 1) k else
      if shortF h b nl (mQ N q 0) (nI c) (h.1 b 10 k) = -2 then shG h b nl (mQ N q 0) (nI c) (mQ N q 1) k else
      if shG h b nl (mQ N q 0) (nI c) (mQ N q 1) k = -2 then shortF h b nl (mQ N q 0) (nI c) (h.1 b 10 k) else
      if shG h b nl (mQ N q 0) (nI c) (mQ N q 1) k ≤ shortF h b nl (mQ N q 0) (nI c) (h.1 b 10 k) then shG h b nl (mQ N q 0) (nI c) (mQ N q 1) k else shortF h b nl (mQ N q 0) (nI c) (h.1 b 10 k) from rfl,
      show mSO N nl q (nI c) (k + 1) = if mY N k 2 ≤ mQ N q 1 then mSh N nl (nI c) (mY N k 6) 7 2 (1 <<< (mQ N q 0 &&& 31)) (mSO N nl q (nI c) k) else mSO N nl q (nI c) k from rfl,
      shG_n hS hW hq ha hc hac h0 k (by omega), t10, (mSh_n hS hW.1.2.1 (nI c) (mY N k 6) 7 2 (1 <<< (mQ N q 0 &&& 31)) (mSO N nl q (nI c) k) (by omega) hr).2]
    unfold engF shortF
    rw [nI_clamp (show k < 2 ^ 31 by omega), t6]
    by_cases e : mQ N q 1 < mY N k 2
    · rw [if_pos e, if_pos rfl, if_neg (Int32.not_le.mpr e)]
    · rw [if_neg e, if_neg (by decide), if_pos (Int32.not_lt.mp e)]
theorem q_short (hS : SR (h.1 b) N nl np nq nt) (hW : WN N nl np nq nt B) (x y : Int32) : shoF h b nl np x y = mShort N nl np nq x y := by
  have hl8 : nl ≤ 8 := hW.1.2.1
  have hq8 : nq ≤ 8 := hW.1.2.2.2.2.2.1
  unfold shoF mShort
  rw [hS.1.1, hS.1.2.2.1]
  rcases hasI_cs nq (by omega) x with e | ⟨q, hq, rfl, e⟩
  · rw [if_pos e, if_pos e]
  · rcases hasI_cs nl (by omega) y with e2 | ⟨c, hc, rfl, e2⟩
    · rw [if_neg e, if_neg e, if_pos e2, if_pos e2]
    · obtain ⟨t16, t17, -⟩ := hS.2.2.2.1 q hq
      obtain ⟨a, ha, h0⟩ := hW.2.2.2.1 q hq
      rw [if_neg e, if_neg e, if_neg e2, if_neg e2, nI_clamp (show q < 2 ^ 31 by omega), t16, t17]
      by_cases z : mQ N q 0 = nI c
      · rw [if_pos z, if_pos z]
      · rw [if_neg z, if_neg z, shG_n hS hW hq (show a < 32 by omega) (show c < 32 by omega) (fun w => z (by rw [h0, w])) h0 np (Nat.le_refl _)]
end
