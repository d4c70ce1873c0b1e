section
variable {h : AH} {b : Nat} {N : Nat → Int32} {nl np nq nt B : Nat}
/-! ===== handBack ===== -/
theorem mY_hb {k k' w : Nat} {n : Int32} (hw : w < 12) : mY (hbN N k n) k' w = if k' = k ∧ w = 10 then mY N k 10 + hbM N k n else if k' = k ∧ w = 9 then mY N k 9 + n else if k' = k ∧ w = 7 then mY N k 7 - n else mY N k' w := by
  unfold hbN hbN1
  rw [mY_uY (by omega) hw, mY_uY (by omega) hw, mY_uY (by omega) hw]
  rfl
theorem mT_hb {k t w : Nat} {n : Int32} (hk : k < 6) : mT (hbN N k n) t w = mT N t w := by
  unfold hbN hbN1
  rw [mT_uY hk (by omega), mT_uY hk (by omega), mT_uY hk (by omega)]
theorem mQ_hb {k t w : Nat} {n : Int32} (hk : k < 6) : mQ (hbN N k n) t w = mQ N t w := by
  unfold hbN hbN1
  rw [mQ_uY hk (by omega), mQ_uY hk (by omega), mQ_uY hk (by omega)]
theorem lo_hb {k j : Nat} {n : Int32} (hk : k < 6) (hj : j < 7 ∨ 103 ≤ j) : hbN N k n j = N j := by
  unfold hbN hbN1
  rw [lo_uY hk (by omega) hj, lo_uY hk (by omega) hj, lo_uY hk (by omega) hj]
theorem hb_SN {k : Nat} {n : Int32} (hk : k < 6) : SN N (hbN N k n) := by
  refine ⟨fun j hj => lo_hb hk (by omega), fun a ha => lo_hb hk (by omega), fun k' w _ hw => ?_, fun q w _ _ => mQ_hb hk, fun t w _ _ => mT_hb hk⟩
  rw [mY_hb (by omega), if_neg (by omega), if_neg (by omega), if_neg (by omega)]
theorem hbM_eq {k : Nat} {n : Int32} : mY N k 10 + hbM N k n = (mY N k 9 + n) / N 1 := by
  unfold hbM mY
  generalize (N (7 + 12 * k + 9) + n) / N 1 = a
  grind
theorem move_c (hS : SR (h.1 b) N nl np nq nt) (hp6 : np ≤ 6) {k : Nat} (hk : k < np) (n : Int32) : moveF h b (nI k) n = ui (ui h b 12 k (h.1 b 12 k - n)) b 14 k (h.1 b 14 k + n) := by
  unfold moveF
  rw [hS.1.2.1, if_neg (by rw [hasI_p hk (by omega)]; decide), nI_clamp (by omega)]
theorem neg_i (x n : Int32) : x - n - -n = x ∧ x + n + -n = x := by constructor <;> grind
theorem act_back (hS : SR (h.1 b) N nl np nq nt) (hW : WN N nl np nq nt B) (hB : B + 9 ≤ 9000) {k j : Nat} (hk : k < np) (h1 : 1 ≤ j) (hj : j < 2 ^ 31) (h2 : nI j ≤ mY N k 7) :
    SR ((moveF h b (nI k) (nI j)).1 b) (hbN N k (nI j)) nl np nq nt ∧ WN (hbN N k (nI j)) nl np nq nt (B + 9) ∧ LNK nl np nq 4 (nI k) (nI j) N (hbN N k (nI j)) ∧ reisF (moveF h b (nI k) (nI j)) b (nI k) - reisF h b (nI k) = hbM N k (nI j) := by
  have hW0 := hW
  obtain ⟨⟨-, -, -, hp6, -, hq8, -, h40⟩, ⟨r, r1, r9, er, hY⟩, hd, -, -, -, -⟩ := hW
  have hk6 : k < 6 := by omega
  have hsame : ∀ t w, t < nt → w < 7 → mT (hbN N k (nI j)) t w = mT N t w := fun t w _ _ => mT_hb hk6
  have hN6 : hbN N k (nI j) 6 = N 6 := lo_hb hk6 (by omega)
  have hmv := move_c (h := h) (b := b) hS hp6 hk (nI j)
  refine ⟨?_, ?_, ?_, ?_⟩
  · rw [hmv]
    refine hS.stat hp6 hq8 h40 hW0.m6 (fun k' j' hk' => by rw [ui_k hk'.2.2.2.2.1, ui_k hk'.2.2.1]) (hb_SN hk6) ?_ (fun k' hk' => ?_) (fun q2 hq2 => ?_) (fun t ht => ?_)
    · rw [ui_k (by omega), ui_k (by omega), hN6, hS.1.2.2.2.2.2.1]
    · obtain ⟨-, -, -, -, -, -, -, t11, t12, t13, t14⟩ := hS.2.2.1 k' hk'
      rw [(cnt_same hsame _).1, mY_hb (by omega), mY_hb (by omega), mY_hb (by omega)]
      by_cases e : k' = k
      · subst e
        simp [ui, t11, t12, t13, t14]
      · simp [ui, t11, t12, t13, t14, e]
    · obtain ⟨-, -, t18, t19, t20⟩ := hS.2.2.2.1 q2 hq2
      rw [(cnt_same hsame _).2.2, (cnt_same hsame _).2.1, mQ_hb hk6]
      simp [ui, t18, t19, t20]
    · obtain ⟨-, -, -, t26, t27, t28, t29, t30, -⟩ := hS.2.2.2.2 t ht
      rw [hsame t 2 ht (by omega), hsame t 3 ht (by omega), hsame t 4 ht (by omega), hsame t 5 ht (by omega), hsame t 6 ht (by omega)]
      simp [ui, t26, t27, t28, t29, t30]
  · refine hW0.stat (hb_SN hk6) (by rw [hN6]; exact hd) (fun r' er' r1' r9' k' hk' => ?_) (fun t ht => stT_same (fun w hw => hsame t w ht hw) (hW0.st ht)) (UQ_same hsame hW0.2.2.2.2.2.1) hB
    have : r' = r := nI_inj (by omega) (by omega) (by rw [← er, er'])
    subst this
    by_cases e : k' = k
    · subst e
      obtain ⟨p, c, n, s, sp, lo, bk, e1, e2, e3, e4, e5, e6, e7, e8, e9, e10, e11, e12, e13, e14, e15, e16, e17, e18⟩ := hY k' hk'
      have hbr : bk / r' ≤ bk := Nat.div_le_self _ _
      rw [e12] at h2
      have hjs : j ≤ sp := (nI_leI hj (by omega)).mp h2
      have hmono : bk / r' ≤ (bk + j) / r' := Nat.div_le_div_right (by omega)
      refine ⟨p, c, n, s, sp - j, lo, bk + j, ?_, ?_, e3, e4, ?_, ?_, e7, ?_, e9, ?_, e11, ?_, ?_, ?_, ?_, by omega, by omega, ?_⟩
      · rw [mY_hb (by omega)]; simpa using e1
      · rw [mY_hb (by omega)]; simpa using e2
      · rw [mY_hb (by omega)]; simpa using e5
      · rw [mY_hb (by omega)]; simpa using e6
      · rw [mY_hb (by omega)]; simpa using e8
      · rw [mY_hb (by omega)]; simpa using e10
      · rw [mY_hb (by omega)]
        simp only [show ¬ (7 = 10) by omega, show ¬ (7 = 9) by omega, and_false, and_self, if_true, if_false]
        rw [e12, pk_sub hjs]
      · rw [mY_hb (by omega)]; simpa using e13
      · rw [mY_hb (by omega)]
        simp only [show ¬ (9 = 10) by omega, and_false, and_self, if_true, if_false]
        rw [e14, nI_add]
      · rw [mY_hb (by omega), if_pos ⟨rfl, rfl⟩, hbM_eq, e14, er, nI_add, pk_div (by omega) (by omega) (by omega)]
      · rw [oN_same hsame]
        refine Nat.le_trans e18 (Nat.mul_le_mul_right _ ?_)
        omega
    · refine WYt_same (fun w hw => ?_) (oN_same hsame) (by omega) (hY k' hk')
      rw [mY_hb (by omega), if_neg (fun z => e z.1), if_neg (fun z => e z.1), if_neg (fun z => e z.1)]
  · intro g c hG
    have e5 : cT (hbN N k (nI j)) = nt := by unfold cT; rw [lo_hb hk6 (by omega)]; exact hW0.ct
    rw [e5] at hG
    rw [hW0.ct]
    rw [show undoF g c 4 (nI k) (nI j) nq = moveF g c (nI k) (-nI j) from rfl, move_c hG hp6 hk]
    refine hG.stat hp6 hq8 h40 ((hb_SN hk6).m6 h40 hW0.m6) (fun k' j' hk' => by rw [ui_k hk'.2.2.2.2.1, ui_k hk'.2.2.1]) (hb_SN hk6).symm ?_ (fun k' hk' => ?_) (fun q2 hq2 => ?_) (fun t ht => ?_)
    · rw [ui_k (by omega), ui_k (by omega), hG.1.2.2.2.2.2.1, hN6]
    · obtain ⟨-, -, -, -, -, -, -, t11, t12, t13, t14⟩ := hG.2.2.1 k' hk'
      rw [(cnt_same hsame _).1] at t11
      rw [mY_hb (by omega)] at t12 t13 t14
      by_cases e : k' = k
      · subst e
        simp at t12 t13 t14
        simp [ui, t11, t12, t13, t14, (neg_i (mY N k' 7) (nI j)).1, (neg_i (mY N k' 9) (nI j)).2]
        try exact (neg_i (mY N k' 7) (nI j)).1
      · simp [e] at t12 t13 t14
        simp [ui, t11, t12, t13, t14, e]
    · obtain ⟨-, -, t18, t19, t20⟩ := hG.2.2.2.1 q2 hq2
      rw [(cnt_same hsame _).2.2] at t18
      rw [(cnt_same hsame _).2.1] at t20
      rw [mQ_hb hk6] at t19
      simp [ui, t18, t19, t20]
    · obtain ⟨-, -, -, t26, t27, t28, t29, t30, -⟩ := hG.2.2.2.2 t ht
      rw [hsame t 2 ht (by omega)] at t26
      rw [hsame t 3 ht (by omega)] at t27
      rw [hsame t 4 ht (by omega)] at t28
      rw [hsame t 5 ht (by omega)] at t29
      rw [hsame t 6 ht (by omega)] at t30
      simp [ui, t26, t27, t28, t29, t30]
  · obtain ⟨-, -, -, -, -, -, -, -, -, -, t14⟩ := hS.2.2.1 k hk
    rw [(frees hS hW0 hk).1]
    unfold reisF hbM
    rw [hmv, nI_clamp (by omega), ui_eq, ui_k (by omega), ui_k (by omega), hS.1.2.2.2.2.1, er, mx1_n r1 (by omega), t14]
    rfl
/-! ===== drop, home: a trip is done ===== -/
theorem give_cells {x la t : Int32} (hnp : h.1 b 3 11 = nI np) (hp6 : np ≤ 6) (hx : x = -1 ∨ ∃ k, k < np ∧ x = nI k) :
    (∀ k j, k ≠ 11 → k ≠ 12 → k ≠ 13 → (giveF h b x la t).1 b k j = h.1 b k j) ∧
    (∀ k, k < np → (giveF h b x la t).1 b 11 k = if nI k = x then h.1 b 11 k - t else h.1 b 11 k) ∧
    (∀ k, k < np → (giveF h b x la t).1 b 12 k = if nI k = x ∧ h.1 b 4 k = 0 ∧ la = 0 then h.1 b 12 k + t else h.1 b 12 k) ∧
    (∀ k, k < np → (giveF h b x la t).1 b 13 k = if nI k = x ∧ h.1 b 4 k = 0 ∧ ¬ la = 0 then h.1 b 13 k + t else h.1 b 13 k) := by
  rcases hx with rfl | ⟨k0, hk0, rfl⟩
  · have e : giveF h b (-1) la t = h := by unfold giveF; rw [if_pos (hasI_m _)]
    rw [e]
    refine ⟨fun _ _ _ _ _ => rfl, fun k hk => ?_, fun k hk => ?_, fun k hk => ?_⟩
    · rw [if_neg (nIm (by omega))]
    · rw [if_neg (fun z => nIm (by omega) z.1)]
    · rw [if_neg (fun z => nIm (by omega) z.1)]
  · have hh : ¬ hasI (h.1 b 3 11) (nI k0) = 0 := by rw [hnp, hasI_p hk0 (by omega)]; decide
    have e : giveF h b (nI k0) la t = if h.1 b 4 k0 = 0 then (if la = 0 then ui (ui h b 11 k0 (h.1 b 11 k0 - t)) b 12 k0 (h.1 b 12 k0 + t) else ui (ui h b 11 k0 (h.1 b 11 k0 - t)) b 13 k0 (h.1 b 13 k0 + t)) else ui h b 11 k0 (h.1 b 11 k0 - t) := by
      unfold giveF
      rw [if_neg hh, nI_clamp (by omega)]
    rw [e]
    have hi : ∀ k, k < np → (nI k = nI k0 ↔ k = k0) := fun k hk => nI_eq (by omega) (by omega)
    by_cases c1 : h.1 b 4 k0 = 0
    · by_cases c2 : la = 0
      · rw [if_pos c1, if_pos c2]
        refine ⟨fun k j a1 a2 a3 => ?_, fun k hk => ?_, fun k hk => ?_, fun k hk => ?_⟩
        · rw [ui_k a2, ui_k a1]
        all_goals
          simp only [hi k hk]
          by_cases z : k = k0
          · subst z; simp [ui, c1, c2]
          · simp [ui, z]
      · rw [if_pos c1, if_neg c2]
        refine ⟨fun k j a1 a2 a3 => ?_, fun k hk => ?_, fun k hk => ?_, fun k hk => ?_⟩
        · rw [ui_k a3, ui_k a1]
        all_goals
          simp only [hi k hk]
          by_cases z : k = k0
          · subst z; simp [ui, c1, c2]
          · simp [ui, z]
    · rw [if_neg c1]
      refine ⟨fun k j a1 a2 a3 => ?_, fun k hk => ?_, fun k hk => ?_, fun k hk => ?_⟩
      · rw [ui_k a1]
      all_goals
        simp only [hi k hk]
        by_cases z : k = k0
        · subst z; simp [ui, c1]
        · simp [ui, z]
theorem tOG_congr2 {N N' : Nat → Int32} {x : Int32} : ∀ {f t : Nat}, (∀ t', t ≤ t' → t' < t + f → mT N' t' 0 = mT N t' 0 ∧ (mT N t' 0 = x → mT N' t' 2 = mT N t' 2)) → tOG N' x f t = tOG N x f t
  | 0, _, _ => rfl
  | f + 1, t, h => by
    show (if mT N' t 0 = x then (if mT N' t 2 = 2 then tOG N' x f (t + 1) else nI t) else tOG N' x f (t + 1)) = (if mT N t 0 = x then (if mT N t 2 = 2 then tOG N x f (t + 1) else nI t) else tOG N x f (t + 1))
    rw [tOG_congr2 (f := f) (t := t + 1) (fun t' a b => h t' (by omega) (by omega)), (h t (by omega) (by omega)).1]
    by_cases e : mT N t 0 = x
    · rw [if_pos e, if_pos e, (h t (by omega) (by omega)).2 e]
    · rw [if_neg e, if_neg e]
/-- N' is N with the trip t0 of the lorry q0 done (la: late) -/
def FN (N N' : Nat → Int32) (t0 q0 : Nat) (la : Int32) : Prop := SN N N' ∧ N' 6 = N 6 ∧
  (∀ t, t < 40 → mT N' t 2 = (if t = t0 then 2 else mT N t 2) ∧ mT N' t 3 = mT N t 3 ∧ mT N' t 4 = mT N t 4 ∧ mT N' t 5 = (if t = t0 then N 6 else mT N t 5) ∧ mT N' t 6 = (if t = t0 then la else mT N t 6)) ∧
  (∀ q, q < 8 → mQ N' q 2 = if q = q0 then mQ N q 2 + la else mQ N q 2) ∧
  (∀ k, k < 6 → mY N' k 7 = (if nI k = mT N t0 3 ∧ mY N k 0 = 0 ∧ la = 0 then mY N k 7 + 1 else mY N k 7) ∧ mY N' k 8 = (if nI k = mT N t0 3 ∧ mY N k 0 = 0 ∧ ¬ la = 0 then mY N k 8 + 1 else mY N k 8) ∧ mY N' k 9 = mY N k 9 ∧ mY N' k 10 = mY N k 10)
/-- what the trip was ahead of it -/
def FP (N : Nat → Int32) (np t0 : Nat) (la : Int32) : Prop := (mT N t0 2 = 0 ∧ mT N t0 3 = -1 ∧ mT N t0 4 = -1 ∧ mT N t0 5 = -1 ∧ mT N t0 6 = 0 ∧ la = 0) ∨ (mT N t0 2 = 1 ∧ (∃ k, k < np ∧ mT N t0 3 = nI k) ∧ mT N t0 5 = -1 ∧ mT N t0 6 = 0 ∧ (la = 0 ∨ la = 1))
theorem FP.by {t0 : Nat} {la : Int32} (h : FP N np t0 la) : mT N t0 3 = -1 ∨ ∃ k, k < np ∧ mT N t0 3 = nI k := by
  rcases h with h | h
  · exact Or.inl h.2.1
  · exact Or.inr h.2.1
theorem FP.n2 {t0 : Nat} {la : Int32} (h : FP N np t0 la) : ¬ mT N t0 2 = 2 := by
  rcases h with h | h
  · rw [h.1]; decide
  · rw [h.1]; decide
theorem FP.one {t0 k : Nat} {la : Int32} (h : FP N np t0 la) (hk : k < 1000) (e : mT N t0 3 = nI k) : mT N t0 2 = 1 := by
  rcases h with h | h
  · rw [h.2.1] at e; exact absurd e.symm (nIm (by omega))
  · exact h.1
theorem fn_oN {N' : Nat → Int32} {t0 q0 k : Nat} {la : Int32} (h40 : nt ≤ 40) (hF : FN N N' t0 q0 la) (hP : FP N np t0 la) (ht : t0 < nt) (hk : k < 1000) : oN N' (nI k) nt + (if nI k = mT N t0 3 then 1 else 0) = oN N (nI k) nt := by
  have := sN_upd (f := fun t => if mT N t 2 = 1 ∧ mT N t 3 = nI k then 1 else 0) (g := fun t => if mT N' t 2 = 1 ∧ mT N' t 3 = nI k then 1 else 0) (t := t0) (n := nt) ht (fun i hi hn => by
    obtain ⟨a, b, -⟩ := hF.2.2.1 i (by omega)
    (try dsimp only)
    rw [a, b, if_neg hn])
  obtain ⟨a, b, -⟩ := hF.2.2.1 t0 (by omega)
  simp only [a, b, if_true, show ¬ (2 : Int32) = 1 by decide, false_and, if_false] at this
  unfold oN
  rw [← Nat.add_zero (sN (fun t => if mT N t 2 = 1 ∧ mT N t 3 = nI k then 1 else 0) nt), ← this]
  congr 1
  by_cases e : nI k = mT N t0 3
  · rw [if_pos e, if_pos ⟨hP.one hk e.symm, e.symm⟩]
  · rw [if_neg e, if_neg (fun z => e z.2.symm)]
theorem fn_dN {N' : Nat → Int32} {t0 q0 q : Nat} {la : Int32} (h40 : nt ≤ 40) (hF : FN N N' t0 q0 la) (hP : FP N np t0 la) (ht : t0 < nt) (h0 : mT N t0 0 = nI q0) (hq : q < 8) (hq0 : q0 < 8) : dN N' (nI q) nt = dN N (nI q) nt + (if q = q0 then 1 else 0) := by
  have := sN_upd (f := fun t => if mT N t 0 = nI q ∧ mT N t 2 = 2 then 1 else 0) (g := fun t => if mT N' t 0 = nI q ∧ mT N' t 2 = 2 then 1 else 0) (t := t0) (n := nt) ht (fun i hi hn => by
    obtain ⟨a, b, -⟩ := hF.2.2.1 i (by omega)
    (try dsimp only)
    rw [a, hF.1.2.2.2.2 i 0 (by omega) (by omega), if_neg hn])
  obtain ⟨a, b, -⟩ := hF.2.2.1 t0 (by omega)
  simp only [a, hF.1.2.2.2.2 t0 0 (by omega) (by omega), if_true, hP.n2, and_false, and_true, if_false, h0] at this
  unfold dN
  rw [← Nat.add_zero (sN (fun t => if mT N' t 0 = nI q ∧ mT N' t 2 = 2 then 1 else 0) nt), this]
  congr 1
  by_cases e : q = q0
  · rw [if_pos e, if_pos (by rw [e])]
  · rw [if_neg e, if_neg (fun z => e (nI_inj (by omega) (by omega) z).symm)]
theorem fn_tO {N' : Nat → Int32} {t0 q0 q : Nat} {la : Int32} (h40 : nt ≤ 40) (hU : UQ N nt) (hF : FN N N' t0 q0 la) (hP : FP N np t0 la) (ht : t0 < nt) (h0 : mT N t0 0 = nI q0) (hq : q < 8) (hq0 : q0 < 8) : tOG N' (nI q) nt 0 = if q = q0 then -1 else tOG N (nI q) nt 0 := by
  by_cases e : q = q0
  · subst e
    rw [if_pos rfl]
    refine tOG_no (fun t h1 h2 => ?_)
    rw [hF.1.2.2.2.2 t 0 (by omega) (by omega)] at h2
    obtain ⟨a, -⟩ := hF.2.2.1 t (by omega)
    by_cases z : t = t0
    · rw [a, if_pos z]
    · rw [a, if_neg z]
      by_cases z2 : mT N t 2 = 2
      · exact z2
      · exact absurd (hU t t0 h1 ht (by rw [h2, h0]) z2 hP.n2) z
  · rw [if_neg e]
    refine tOG_congr2 (fun t h1 h2 => ⟨hF.1.2.2.2.2 t 0 (by omega) (by omega), fun h3 => ?_⟩)
    obtain ⟨a, -⟩ := hF.2.2.1 t (by omega)
    rw [a, if_neg]
    intro z
    rw [z, h0] at h3
    exact e (nI_inj (by omega) (by omega) h3).symm
theorem fn_WN {N' : Nat → Int32} {t0 q0 : Nat} {la : Int32} (hW : WN N nl np nq nt B) (hF : FN N N' t0 q0 la) (hP : FP N np t0 la) (ht : t0 < nt) : WN N' nl np nq nt B := by
  have hW0 := hW
  obtain ⟨⟨-, -, -, hp6, -, hq8, -, h40⟩, ⟨r, r1, r9, er, hY⟩, hd, -, -, hU, hB⟩ := hW
  refine hW0.stat hF.1 (by rw [hF.2.1]; exact hd) (fun r' er' r1' r9' k hk => ?_) (fun t h1 => ?_) (fun t t' a1 a2 a3 a4 a5 => ?_) hB
  · have : r' = r := nI_inj (by omega) (by omega) (by rw [← er, er'])
    subst this
    obtain ⟨p, c, n, s, sp, lo, bk, e1, e2, e3, e4, e5, e6, e7, e8, e9, e10, e11, e12, e13, e14, e15, e16, e17, e18⟩ := hY k hk
    obtain ⟨f7, f8, f9, f10⟩ := hF.2.2.2.2 k (by omega)
    have ho := fn_oN h40 hF hP ht (show k < 1000 by omega)
    have hy : ∀ w, w < 7 → mY N' k w = mY N k w := fun w hw => hF.1.2.2.1 k w (by omega) hw
    by_cases c1 : nI k = mT N t0 3
    · rw [if_pos c1] at ho
      by_cases c2 : mY N k 0 = 0
      · have hp1 := e5 c2
        subst hp1
        by_cases c3 : la = 0
        · rw [if_pos ⟨c1, c2, c3⟩, e12, nI_1] at f7
          rw [if_neg (fun z => z.2.2 c3), e13] at f8
          exact ⟨1, c, n, s, sp + 1, lo, bk, by rw [hy 0 (by omega)]; exact e1, by rw [hy 1 (by omega)]; exact e2, e3, e4, fun _ => rfl, by rw [hy 3 (by omega)]; exact e6, e7, by rw [hy 4 (by omega)]; exact e8, e9, by rw [hy 5 (by omega)]; exact e10, e11, f7, f8, by rw [f9]; exact e14, by rw [f10]; exact e15, e16, by omega, by omega⟩
        · rw [if_neg (fun z => c3 z.2.2), e12] at f7
          rw [if_pos ⟨c1, c2, c3⟩, e13, nI_1] at f8
          exact ⟨1, c, n, s, sp, lo + 1, bk, by rw [hy 0 (by omega)]; exact e1, by rw [hy 1 (by omega)]; exact e2, e3, e4, fun _ => rfl, by rw [hy 3 (by omega)]; exact e6, e7, by rw [hy 4 (by omega)]; exact e8, e9, by rw [hy 5 (by omega)]; exact e10, e11, f7, f8, by rw [f9]; exact e14, by rw [f10]; exact e15, e16, by omega, by omega⟩
      · rw [if_neg (fun z => c2 z.2.1), e12] at f7
        rw [if_neg (fun z => c2 z.2.1), e13] at f8
        exact ⟨p, c, n, s, sp, lo, bk, by rw [hy 0 (by omega)]; exact e1, by rw [hy 1 (by omega)]; exact e2, e3, e4, by rw [hy 0 (by omega)]; exact e5, by rw [hy 3 (by omega)]; exact e6, e7, by rw [hy 4 (by omega)]; exact e8, e9, by rw [hy 5 (by omega)]; exact e10, e11, f7, f8, by rw [f9]; exact e14, by rw [f10]; exact e15, e16, e17, by omega⟩
    · rw [if_neg c1] at ho
      rw [if_neg (fun z => c1 z.1), e12] at f7
      rw [if_neg (fun z => c1 z.1), e13] at f8
      exact ⟨p, c, n, s, sp, lo, bk, by rw [hy 0 (by omega)]; exact e1, by rw [hy 1 (by omega)]; exact e2, e3, e4, by rw [hy 0 (by omega)]; exact e5, by rw [hy 3 (by omega)]; exact e6, e7, by rw [hy 4 (by omega)]; exact e8, e9, by rw [hy 5 (by omega)]; exact e10, e11, f7, f8, by rw [f9]; exact e14, by rw [f10]; exact e15, e16, e17, by omega⟩
  · obtain ⟨a2, a3, a4, a5, a6⟩ := hF.2.2.1 t (by omega)
    unfold stT
    rw [a2, a3, a4, a5, a6]
    by_cases z : t = t0
    · subst z
      rw [if_pos rfl, if_pos rfl, if_pos rfl]
      right; right
      refine ⟨rfl, ?_⟩
      rcases hP with ⟨p2, p3, p4, p5, p6, pl⟩ | ⟨p2, p3, p5, p6, pl⟩
      · exact Or.inl ⟨p3, p4, pl⟩
      · exact Or.inr ⟨p3, pl⟩
    · rw [if_neg z, if_neg z, if_neg z]
      exact hW0.st h1
  · obtain ⟨b2, -⟩ := hF.2.2.1 t (by omega)
    obtain ⟨b2', -⟩ := hF.2.2.1 t' (by omega)
    rw [hF.1.2.2.2.2 t 0 (by omega) (by omega), hF.1.2.2.2.2 t' 0 (by omega) (by omega)] at a3
    rw [b2] at a4
    rw [b2'] at a5
    by_cases z : t = t0
    · rw [if_pos z] at a4; exact absurd rfl a4
    · by_cases z' : t' = t0
      · rw [if_pos z'] at a5; exact absurd rfl a5
      · rw [if_neg z] at a4
        rw [if_neg z'] at a5
        exact hU t t' a1 a2 a3 a4 a5
theorem nI_sub1 {a b : Nat} (h : a + 1 = b) : nI b - 1 = nI a := by rw [← h]; exact nI_pred a
theorem fn_SR {N' : Nat → Int32} {t0 q0 : Nat} {la : Int32} (hS : SR (h.1 b) N nl np nq nt) (hW : WN N nl np nq nt B) (hF : FN N N' t0 q0 la) (hP : FP N np t0 la) (ht : t0 < nt) (h0 : mT N t0 0 = nI q0) (hq0 : q0 < nq) (hla : (if lateF h b (nI t0) = 0 then 0 else 1) = la) : SR ((finF h b (nI t0)).1 b) N' nl np nq nt := by
  have hW0 := hW
  obtain ⟨⟨-, -, -, hp6, -, hq8, -, h40⟩, -, hd, -, -, hU, hB⟩ := hW
  obtain ⟨u22, -, -, u26, u27, u28, u29, u30, -⟩ := hS.2.2.2.2 t0 ht
  have hG := give_cells (h := ui (ui (ui h b 26 t0 2) b 29 t0 (h.1 b 0 5)) b 30 t0 la) (b := b) (np := np) (x := mT N t0 3) (la := la) (t := 1) (by rw [ui_k (by omega), ui_k (by omega), ui_k (by omega)]; exact hS.1.2.1) hp6 hP.by
  have eF : finF h b (nI t0) = ui (ui (ui (giveF (ui (ui (ui h b 26 t0 2) b 29 t0 (h.1 b 0 5)) b 30 t0 la) b (mT N t0 3) la 1) b 19 q0 (h.1 b 19 q0 + la)) b 18 q0 (-1)) b 20 q0 (h.1 b 20 q0 + 1) := by
    unfold finF
    rw [hS.1.2.2.2.1, hS.1.2.2.1, hasI_p ht (by omega), if_neg (by decide), nI_clamp (show t0 < 2 ^ 31 by omega), u22, h0, hasI_p hq0 (by omega), if_neg (by decide), nI_clamp (show q0 < 2 ^ 31 by omega), u27, hla]
  rw [eF]
  generalize giveF (ui (ui (ui h b 26 t0 2) b 29 t0 (h.1 b 0 5)) b 30 t0 la) b (mT N t0 3) la 1 = G at hG
  obtain ⟨g0, g11, g12, g13⟩ := hG
  refine hS.stat hp6 hq8 h40 hW0.m6 (fun k j hk => ?_) hF.1 ?_ (fun k hk => ?_) (fun q hq => ?_) (fun t h1 => ?_)
  · obtain ⟨k0, k11, k12, k13, k14, k18, k19, k20, k26, k27, k28, k29, k30⟩ := hk
    rw [ui_k k20, ui_k k18, ui_k k19, g0 k j k11 k12 k13, ui_k k30, ui_k k29, ui_k k26]
  · rw [ui_k (by omega), ui_k (by omega), ui_k (by omega), g0 _ _ (by omega) (by omega) (by omega), ui_k (by omega), ui_k (by omega), ui_k (by omega), hF.2.1]
    exact hS.1.2.2.2.2.2.1
  · obtain ⟨u4, -, -, -, -, -, -, v11, v12, v13, v14⟩ := hS.2.2.1 k hk
    obtain ⟨f7, f8, f9, -⟩ := hF.2.2.2.2 k (by omega)
    have ho := fn_oN h40 hF hP ht (show k < 1000 by omega)
    refine ⟨?_, ?_, ?_, ?_⟩
    · rw [ui_k (by omega), ui_k (by omega), ui_k (by omega), g11 k hk, ui_k (by omega), ui_k (by omega), ui_k (by omega), v11, oBG_n, oBG_n]
      by_cases c : nI k = mT N t0 3
      · rw [if_pos c] at ho ⊢
        exact nI_sub1 ho
      · rw [if_neg c] at ho ⊢
        rw [← ho]; rfl
    · rw [ui_k (by omega), ui_k (by omega), ui_k (by omega), g12 k hk, ui_k (by omega), ui_k (by omega), ui_k (by omega), ui_k (by omega), ui_k (by omega), ui_k (by omega), v12, u4, f7]
    · rw [ui_k (by omega), ui_k (by omega), ui_k (by omega), g13 k hk, ui_k (by omega), ui_k (by omega), ui_k (by omega), ui_k (by omega), ui_k (by omega), ui_k (by omega), v13, u4, f8]
    · rw [ui_k (by omega), ui_k (by omega), ui_k (by omega), g0 _ _ (by omega) (by omega) (by omega), ui_k (by omega), ui_k (by omega), ui_k (by omega), v14, f9]
  · obtain ⟨-, -, v18, v19, v20⟩ := hS.2.2.2.1 q hq
    rw [fn_tO h40 hU hF hP ht h0 (by omega) (by omega), hF.2.2.2.1 q (by omega), dBG_n, fn_dN h40 hF hP ht h0 (show q < 8 by omega) (show q0 < 8 by omega)]
    by_cases c : q = q0
    · subst c
      rw [if_pos rfl, if_pos rfl, if_pos rfl]
      refine ⟨?_, ?_, ?_⟩
      · rw [ui_k (by omega), ui_eq]
      · rw [ui_k (by omega), ui_k (by omega), ui_eq, v19]
      · rw [ui_eq, v20, dBG_n, nI_1]
    · rw [if_neg c, if_neg c, if_neg c]
      refine ⟨?_, ?_, ?_⟩
      · rw [ui_k (by omega), ui_j c, ui_k (by omega), g0 _ _ (by omega) (by omega) (by omega), ui_k (by omega), ui_k (by omega), ui_k (by omega), v18]
      · rw [ui_k (by omega), ui_k (by omega), ui_j c, g0 _ _ (by omega) (by omega) (by omega), ui_k (by omega), ui_k (by omega), ui_k (by omega), v19]
      · rw [ui_j c, ui_k (by omega), ui_k (by omega), g0 _ _ (by omega) (by omega) (by omega), ui_k (by omega), ui_k (by omega), ui_k (by omega), v20, dBG_n]; rfl
  · obtain ⟨-, -, -, v26, v27, v28, v29, v30, -⟩ := hS.2.2.2.2 t h1
    obtain ⟨a2, a3, a4, a5, a6⟩ := hF.2.2.1 t (by omega)
    rw [a2, a3, a4, a5, a6]
    refine ⟨?_, ?_, ?_, ?_, ?_⟩
    · rw [ui_k (by omega), ui_k (by omega), ui_k (by omega), g0 _ _ (by omega) (by omega) (by omega), ui_k (by omega), ui_k (by omega)]
      by_cases c : t = t0
      · subst c; rw [ui_eq, if_pos rfl]
      · rw [ui_j c, if_neg c, v26]
    · rw [ui_k (by omega), ui_k (by omega), ui_k (by omega), g0 _ _ (by omega) (by omega) (by omega), ui_k (by omega), ui_k (by omega), ui_k (by omega), v27]
    · rw [ui_k (by omega), ui_k (by omega), ui_k (by omega), g0 _ _ (by omega) (by omega) (by omega), ui_k (by omega), ui_k (by omega), ui_k (by omega), v28]
    · rw [ui_k (by omega), ui_k (by omega), ui_k (by omega), g0 _ _ (by omega) (by omega) (by omega), ui_k (by omega)]
      by_cases c : t = t0
      · subst c; rw [ui_eq, if_pos rfl]; exact hS.1.2.2.2.2.2.1
      · rw [ui_j c, ui_k (by omega), if_neg c, v29]
    · rw [ui_k (by omega), ui_k (by omega), ui_k (by omega), g0 _ _ (by omega) (by omega) (by omega)]
      by_cases c : t = t0
      · subst c; rw [ui_eq, if_pos rfl]
      · rw [ui_j c, ui_k (by omega), ui_k (by omega), if_neg c, v30]
theorem sub_m1 (x : Int32) : x - -1 = x + 1 := by rw [Int32.sub_eq_add_neg, Int32.neg_neg]
theorem add_m1 (x : Int32) : x + 1 + -1 = x := by rw [← Int32.sub_eq_add_neg]; exact add_sub_i x 1
theorem fn_LNK {N' : Nat → Int32} {t0 q0 : Nat} {la : Int32} (hW : WN N nl np nq nt B) (hF : FN N N' t0 q0 la) (hP : FP N np t0 la) (ht : t0 < nt) (h0 : mT N t0 0 = nI q0) (hq0 : q0 < nq) : LNK nl np nq 2 (nI t0) 0 N N' := by
  intro g c hS
  have hW' := fn_WN hW hF hP ht
  rw [hW'.ct] at hS
  rw [hW.ct]
  have hW0 := hW
  obtain ⟨⟨-, -, -, hp6, -, hq8, -, h40⟩, -, hd, -, -, hU, hB⟩ := hW
  obtain ⟨u22, -, -, u26, u27, u28, u29, u30, -⟩ := hS.2.2.2.2 t0 ht
  obtain ⟨a2, a3, a4, a5, a6⟩ := hF.2.2.1 t0 (by omega)
  rw [hF.1.2.2.2.2 t0 0 (by omega) (by omega), h0] at u22
  rw [a3] at u27
  rw [a6, if_pos rfl] at u30
  have hG := give_cells (h := ui (ui (ui g c 26 t0 (if mT N t0 3 = -1 then 0 else 1)) c 29 t0 (-1)) c 30 t0 0) (b := c) (np := np) (x := mT N t0 3) (la := la) (t := -1) (by rw [ui_k (by omega), ui_k (by omega), ui_k (by omega)]; exact hS.1.2.1) hp6 hP.by
  have eF : undoF g c 2 (nI t0) 0 nq = ui (ui (ui (giveF (ui (ui (ui g c 26 t0 (if mT N t0 3 = -1 then 0 else 1)) c 29 t0 (-1)) c 30 t0 0) c (mT N t0 3) la (-1)) c 19 q0 (g.1 c 19 q0 - la)) c 18 q0 (nI t0)) c 20 q0 (g.1 c 20 q0 - 1) := by
    have e2 : undoF g c 2 (nI t0) 0 nq = reopF g c (nI t0) := by
      unfold undoF
      rw [if_neg (by decide), if_neg (by decide), if_pos rfl]
    rw [e2]
    unfold reopF
    rw [hS.1.2.2.2.1, hS.1.2.2.1, hasI_p ht (by omega), if_neg (by decide), nI_clamp (show t0 < 2 ^ 31 by omega), u22, hasI_p hq0 (by omega), if_neg (by decide), nI_clamp (show q0 < 2 ^ 31 by omega), u27, u30]
  rw [eF]
  generalize giveF (ui (ui (ui g c 26 t0 (if mT N t0 3 = -1 then 0 else 1)) c 29 t0 (-1)) c 30 t0 0) c (mT N t0 3) la (-1) = G at hG
  obtain ⟨g0, g11, g12, g13⟩ := hG
  refine hS.stat hp6 hq8 h40 (hF.1.m6 h40 hW0.m6) (fun k j hk => ?_) hF.1.symm ?_ (fun k hk => ?_) (fun q hq => ?_) (fun t h1 => ?_)
  · obtain ⟨k0, k11, k12, k13, k14, k18, k19, k20, k26, k27, k28, k29, k30⟩ := hk
    rw [ui_k k20, ui_k k18, ui_k k19, g0 k j k11 k12 k13, ui_k k30, ui_k k29, ui_k k26]
  · rw [ui_k (by omega), ui_k (by omega), ui_k (by omega), g0 _ _ (by omega) (by omega) (by omega), ui_k (by omega), ui_k (by omega), ui_k (by omega), hS.1.2.2.2.2.2.1, hF.2.1]
  · obtain ⟨u4, -, -, -, -, -, -, v11, v12, v13, v14⟩ := hS.2.2.1 k hk
    obtain ⟨f7, f8, f9, -⟩ := hF.2.2.2.2 k (by omega)
    rw [hF.1.2.2.1 k 0 (by omega) (by omega)] at u4
    rw [f7] at v12
    rw [f8] at v13
    rw [f9] at v14
    have ho := fn_oN h40 hF hP ht (show k < 1000 by omega)
    refine ⟨?_, ?_, ?_, ?_⟩
    · rw [ui_k (by omega), ui_k (by omega), ui_k (by omega), g11 k hk, ui_k (by omega), ui_k (by omega), ui_k (by omega), v11, oBG_n, oBG_n]
      by_cases z : nI k = mT N t0 3
      · rw [if_pos z] at ho ⊢
        rw [← ho, ← nI_1]
        exact sub_m1 _
      · rw [if_neg z] at ho ⊢
        rw [← ho]; rfl
    · rw [ui_k (by omega), ui_k (by omega), ui_k (by omega), g12 k hk, ui_k (by omega), ui_k (by omega), ui_k (by omega), ui_k (by omega), ui_k (by omega), ui_k (by omega), v12, u4]
      by_cases z : nI k = mT N t0 3 ∧ mY N k 0 = 0 ∧ la = 0
      · rw [if_pos z, if_pos z]; exact add_m1 _
      · rw [if_neg z, if_neg z]
    · rw [ui_k (by omega), ui_k (by omega), ui_k (by omega), g13 k hk, ui_k (by omega), ui_k (by omega), ui_k (by omega), ui_k (by omega), ui_k (by omega), ui_k (by omega), v13, u4]
      by_cases z : nI k = mT N t0 3 ∧ mY N k 0 = 0 ∧ ¬ la = 0
      · rw [if_pos z, if_pos z]; exact add_m1 _
      · rw [if_neg z, if_neg z]
    · rw [ui_k (by omega), ui_k (by omega), ui_k (by omega), g0 _ _ (by omega) (by omega) (by omega), ui_k (by omega), ui_k (by omega), ui_k (by omega), v14]
  · obtain ⟨-, -, v18, v19, v20⟩ := hS.2.2.2.1 q hq
    rw [fn_tO h40 hU hF hP ht h0 (by omega) (by omega)] at v18
    rw [hF.2.2.2.1 q (by omega)] at v19
    rw [dBG_n, fn_dN h40 hF hP ht h0 (show q < 8 by omega) (show q0 < 8 by omega)] at v20
    rw [dBG_n]
    by_cases z : q = q0
    · subst z
      rw [if_pos rfl] at v18 v19 v20
      refine ⟨?_, ?_, ?_⟩
      · rw [ui_k (by omega), ui_eq, tOG_is h40 hU ht h0 hP.n2]
      · rw [ui_k (by omega), ui_k (by omega), ui_eq, v19, add_sub_i]
      · rw [ui_eq, v20]; exact nI_pred _
    · rw [if_neg z] at v18 v19 v20
      refine ⟨?_, ?_, ?_⟩
      · rw [ui_k (by omega), ui_j z, ui_k (by omega), g0 _ _ (by omega) (by omega) (by omega), ui_k (by omega), ui_k (by omega), ui_k (by omega), v18]
      · rw [ui_k (by omega), ui_k (by omega), ui_j z, g0 _ _ (by omega) (by omega) (by omega), ui_k (by omega), ui_k (by omega), ui_k (by omega), v19]
      · rw [ui_j z, ui_k (by omega), ui_k (by omega), g0 _ _ (by omega) (by omega) (by omega), ui_k (by omega), ui_k (by omega), ui_k (by omega), v20]; rfl
  · obtain ⟨-, -, -, v26, v27, v28, v29, v30, -⟩ := hS.2.2.2.2 t h1
    obtain ⟨a2, a3, a4, a5, a6⟩ := hF.2.2.1 t (by omega)
    rw [a2] at v26
    rw [a3] at v27
    rw [a4] at v28
    rw [a5] at v29
    rw [a6] at v30
    have hP2 : (if mT N t0 3 = -1 then (0 : Int32) else 1) = mT N t0 2 ∧ mT N t0 5 = -1 ∧ mT N t0 6 = 0 := by
      rcases hP with ⟨p2, p3, p4, p5, p6, pl⟩ | ⟨p2, ⟨k, hk, p3⟩, p5, p6, pl⟩
      · rw [if_pos p3, p2]; exact ⟨rfl, p5, p6⟩
      · rw [p3, if_neg (nIm (by omega)), p2]; exact ⟨rfl, p5, p6⟩
    refine ⟨?_, ?_, ?_, ?_, ?_⟩
    · rw [ui_k (by omega), ui_k (by omega), ui_k (by omega), g0 _ _ (by omega) (by omega) (by omega), ui_k (by omega), ui_k (by omega)]
      by_cases z : t = t0
      · subst z; rw [ui_eq]; exact hP2.1
      · rw [if_neg z] at v26; rw [ui_j z, v26]
    · rw [ui_k (by omega), ui_k (by omega), ui_k (by omega), g0 _ _ (by omega) (by omega) (by omega), ui_k (by omega), ui_k (by omega), ui_k (by omega), v27]
    · rw [ui_k (by omega), ui_k (by omega), ui_k (by omega), g0 _ _ (by omega) (by omega) (by omega), ui_k (by omega), ui_k (by omega), ui_k (by omega), v28]
    · rw [ui_k (by omega), ui_k (by omega), ui_k (by omega), g0 _ _ (by omega) (by omega) (by omega), ui_k (by omega)]
      by_cases z : t = t0
      · subst z; rw [ui_eq, hP2.2.1]
      · rw [if_neg z] at v29; rw [ui_j z, ui_k (by omega), v29]
    · rw [ui_k (by omega), ui_k (by omega), ui_k (by omega), g0 _ _ (by omega) (by omega) (by omega)]
      by_cases z : t = t0
      · subst z; rw [ui_eq, hP2.2.2]
      · rw [if_neg z] at v30; rw [ui_j z, ui_k (by omega), ui_k (by omega), v30]
end
