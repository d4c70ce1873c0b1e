def stT (N : Nat → Int32) (np t : Nat) : Prop := (mT N t 2 = 0 ∧ mT N t 3 = -1 ∧ mT N t 4 = -1 ∧ mT N t 5 = -1 ∧ mT N t 6 = 0) ∨
   (mT N t 2 = 1 ∧ (∃ k, k < np ∧ mT N t 3 = nI k) ∧ mT N t 5 = -1 ∧ mT N t 6 = 0) ∨
   (mT N t 2 = 2 ∧ ((mT N t 3 = -1 ∧ mT N t 4 = -1 ∧ mT N t 6 = 0) ∨ ((∃ k, k < np ∧ mT N t 3 = nI k) ∧ (mT N t 6 = 0 ∨ mT N t 6 = 1))))
theorem WN.st {N : Nat → Int32} {nl np nq nt B t : Nat} (h : WN N nl np nq nt B) (ht : t < nt) : stT N np t := (h.2.2.2.2.1 t ht).2.2
theorem WN.stat {N N' : Nat → Int32} {nl np nq nt B B' : Nat} (h : WN N nl np nq nt B) (hN : SN N N') (hd : ∃ d, d ≤ 999 ∧ N' 6 = nI d) (hY : ∀ r, N 1 = nI r → 1 ≤ r → r ≤ 9 → ∀ k, k < np → WYt N' r nt B' k) (hT : ∀ t, t < nt → stT N' np t) (hU : UQ N' nt) (hB : B' ≤ 9000) : WN N' nl np nq nt B' := by
  obtain ⟨⟨c0, c1, c2, c3, c4, c5, c6, c7⟩, ⟨r, r1, r9, er, -⟩, -, h4, h5, -, -⟩ := h
  obtain ⟨n1, n2, n3, n4, n5⟩ := hN
  refine ⟨⟨by rw [n1 0 (by omega), c0], c1, by rw [n1 3 (by omega), c2], c3, by rw [n1 4 (by omega), c4], c5, by rw [n1 5 (by omega), c6], c7⟩, ⟨r, r1, r9, by rw [n1 1 (by omega), er], hY r er r1 r9⟩, hd, fun q hq => ?_, fun t ht => ?_, hU, hB⟩
  · obtain ⟨a, ha, e⟩ := h4 q hq
    exact ⟨a, ha, by rw [n4 q 0 (by omega) (by omega), e]⟩
  · obtain ⟨⟨q, hq, e0, e7⟩, ⟨m, m2, m6, em⟩, -⟩ := h5 t ht
    exact ⟨⟨q, hq, by rw [n5 t 0 (by omega) (by omega), e0], by rw [n5 t 7 (by omega) (by omega), n4 q 0 (by omega) (by omega), e7]⟩, ⟨m, m2, m6, by rw [n5 t 1 (by omega) (by omega), em]⟩, hT t ht⟩
theorem stT_same {N N' : Nat → Int32} {np t : Nat} (h : ∀ w, w < 7 → mT N' t w = mT N t w) (hs : stT N np t) : stT N' np t := by
  unfold stT
  rw [h 2 (by omega), h 3 (by omega), h 4 (by omega), h 5 (by omega), h 6 (by omega)]
  exact hs
theorem UQ_same {N N' : Nat → Int32} {nt : Nat} (h : ∀ t w, t < nt → w < 7 → mT N' t w = mT N t w) (hs : UQ N nt) : UQ N' nt := fun t t' a b c d e => by
  rw [h t 0 a (by omega), h t' 0 b (by omega)] at c
  rw [h t 2 a (by omega)] at d
  rw [h t' 2 b (by omega)] at e
  exact hs t t' a b c d e
theorem WYt_same {N N' : Nat → Int32} {r nt B B' k : Nat} (h : ∀ w, w < 11 → mY N' k w = mY N k w) (ho : oN N' (nI k) nt = oN N (nI k) nt) (hB : B ≤ B') (hs : WYt N r nt B k) : WYt N' r nt B' k := by
  obtain ⟨p, c, n, s, sp, lo, bk, e1, e2, e3, e4, e5, e6, e7, e8, e9, e10, e11, e12, e13, e14, e15, e16, e17, e18⟩ := hs
  refine ⟨p, c, n, s, sp, lo, bk, ?_, ?_, e3, e4, ?_, ?_, e7, ?_, e9, ?_, e11, ?_, ?_, ?_, ?_, by omega, e17, by rw [ho]; exact e18⟩
  · rw [h 0 (by omega)]; exact e1
  · rw [h 1 (by omega)]; exact e2
  · rw [h 0 (by omega)]; exact e5
  · rw [h 3 (by omega)]; exact e6
  · rw [h 4 (by omega)]; exact e8
  · rw [h 5 (by omega)]; exact e10
  · rw [h 7 (by omega)]; exact e12
  · rw [h 8 (by omega)]; exact e13
  · rw [h 9 (by omega)]; exact e14
  · rw [h 10 (by omega)]; exact e15
theorem oN_same {N N' : Nat → Int32} {x : Int32} {n : Nat} (h : ∀ t w, t < n → w < 7 → mT N' t w = mT N t w) : oN N' x n = oN N x n := sN_congr (fun t ht => by (try dsimp only); rw [h t 2 ht (by omega), h t 3 ht (by omega)])
/-! the acts' ring is apart from the rest -/
theorem keepF_c {h : AH} {b c : Nat} {k w a : Int32} (hc : c < 31) : (keepF h b k w a).1 b c = h.1 b c := by
  funext j
  unfold keepF
  rw [ui_k (by omega), ui_k (by omega), ui_k (by omega), ui_k (by omega), ui_k (by omega)]
theorem keepF_b {h : AH} {b b' : Nat} {k w a : Int32} (hb : b' ≠ b) : (keepF h b k w a).1 b' = h.1 b' := by
  funext c j
  unfold keepF
  rw [ui_b hb, ui_b hb, ui_b hb, ui_b hb, ui_b hb]
theorem keepF_S {h : AH} {b : Nat} {k w a : Int32} {N : Nat → Int32} {nl np nq nt : Nat} (hS : SR (h.1 b) N nl np nq nt) : SR ((keepF h b k w a).1 b) N nl np nq nt := hS.cells (fun _ hc => keepF_c hc)
section
variable {h : AH} {b : Nat} {N : Nat → Int32} {nl np nq nt B : Nat}
theorem add_sub_i (x y : Int32) : x + y - y = x := by grind
theorem sub_add_i (x y : Int32) : x - y + y = x := by grind
/-! ===== pass ===== -/
theorem pass_SN {x : Int32} : SN N (upd N 6 x) := ⟨fun j hj => pk_un (by omega), fun a ha => pk_un (by omega), fun k w _ _ => mY_u0 (by omega), fun q w _ _ => mQ_u0 (by omega), fun t w _ _ => mT_u0 (by omega)⟩
theorem act_pass (hS : SR (h.1 b) N nl np nq nt) (hW : WN N nl np nq nt B) {x : Int32} (h1 : ¬ x < 1) (h2 : ¬ 99 < x) (h3 : N 6 + x ≤ 999) :
    SR ((ui h b 0 5 (h.1 b 0 5 + x)).1 b) (upd N 6 (N 6 + x)) nl np nq nt ∧ WN (upd N 6 (N 6 + x)) nl np nq nt B ∧ LNK nl np nq 5 (-1) x N (upd N 6 (N 6 + x)) := by
  have hW0 := hW
  obtain ⟨⟨-, -, -, hp6, -, hq8, -, h40⟩, -, ⟨d, hd, ed⟩, -, -, -, -⟩ := hW
  have hsame : ∀ t w, t < nt → w < 7 → mT (upd N 6 (N 6 + x)) t w = mT N t w := fun t w _ _ => mT_u0 (by omega)
  refine ⟨?_, ?_, ?_⟩
  · refine hS.stat hp6 hq8 h40 hW0.m6 (fun k j hk => ui_k hk.1) pass_SN ?_ (fun k hk => ?_) (fun q hq => ?_) (fun t ht => ?_)
    · rw [ui_eq, pk_us, hS.1.2.2.2.2.2.1]
    · obtain ⟨-, -, -, -, -, -, -, t11, t12, t13, t14⟩ := hS.2.2.1 k hk
      rw [ui_k (by omega), ui_k (by omega), ui_k (by omega), ui_k (by omega), (cnt_same hsame _).1, mY_u0 (by omega), mY_u0 (by omega), mY_u0 (by omega)]
      exact ⟨t11, t12, t13, t14⟩
    · obtain ⟨-, -, t18, t19, t20⟩ := hS.2.2.2.1 q hq
      rw [ui_k (by omega), ui_k (by omega), ui_k (by omega), (cnt_same hsame _).2.2, (cnt_same hsame _).2.1, mQ_u0 (by omega)]
      exact ⟨t18, t19, t20⟩
    · obtain ⟨-, -, -, t26, t27, t28, t29, t30, -⟩ := hS.2.2.2.2 t ht
      rw [ui_k (by omega), ui_k (by omega), ui_k (by omega), ui_k (by omega), ui_k (by omega), mT_u0 (by omega), mT_u0 (by omega), mT_u0 (by omega), mT_u0 (by omega), mT_u0 (by omega)]
      exact ⟨t26, t27, t28, t29, t30⟩
  · refine hW0.stat pass_SN ?_ (fun r er r1 r9 k hk => ?_) (fun t ht => stT_same (fun w hw => mT_u0 (by omega)) (hW0.st ht)) (UQ_same hsame hW0.2.2.2.2.2.1) hW0.2.2.2.2.2.2
    · rw [pk_us]
      obtain ⟨j, hj, rfl⟩ := nI_of (x := x) (fun z => h1 (Int32.lt_trans z (by decide)))
      have hj9 : j ≤ 99 := by
        rcases Nat.lt_or_ge 99 j with z | z
        · exact absurd (show nI 99 < nI j from nI_ltU z hj) h2
        · exact z
      rw [ed, nI_add] at h3 ⊢
      exact ⟨d + j, (nI_leI (a := d + j) (b := 999) (by omega) (by omega)).mp h3, rfl⟩
    · obtain ⟨r', r1', r9', er', hY⟩ := hW0.2.1
      have : r = r' := nI_inj (by omega) (by omega) (by rw [← er, er'])
      subst this
      exact WYt_same (fun w hw => mY_u0 (by omega)) (oN_same hsame) (Nat.le_refl _) (hY k hk)
  · intro g c hG
    have e5 : cT (upd N 6 (N 6 + x)) = nt := by unfold cT; rw [pk_un (by omega)]; exact hW0.ct
    rw [e5] at hG
    rw [hW0.ct]
    rw [show undoF g c 5 (-1) x nq = ui g c 0 5 (g.1 c 0 5 - x) from rfl]
    refine hG.stat hp6 hq8 h40 (pass_SN.m6 h40 hW0.m6) (fun k j hk => ui_k hk.1) pass_SN.symm ?_ (fun k hk => ?_) (fun q hq => ?_) (fun t ht => ?_)
    · rw [ui_eq, hG.1.2.2.2.2.2.1, pk_us, add_sub_i]
    · obtain ⟨-, -, -, -, -, -, -, t11, t12, t13, t14⟩ := hG.2.2.1 k hk
      rw [(cnt_same hsame _).1] at t11
      rw [mY_u0 (by omega)] at t12 t13 t14
      rw [ui_k (by omega), ui_k (by omega), ui_k (by omega), ui_k (by omega)]
      exact ⟨t11, t12, t13, t14⟩
    · obtain ⟨-, -, t18, t19, t20⟩ := hG.2.2.2.1 q hq
      rw [(cnt_same hsame _).2.2] at t18
      rw [(cnt_same hsame _).2.1] at t20
      rw [mQ_u0 (by omega)] at t19
      rw [ui_k (by omega), ui_k (by omega), ui_k (by omega)]
      exact ⟨t18, t19, t20⟩
    · obtain ⟨-, -, -, t26, t27, t28, t29, t30, -⟩ := hG.2.2.2.2 t ht
      rw [mT_u0 (by omega)] at t26 t27 t28 t29 t30
      rw [ui_k (by omega), ui_k (by omega), ui_k (by omega), ui_k (by omega), ui_k (by omega)]
      exact ⟨t26, t27, t28, t29, t30⟩
/-! ===== stop ===== -/
theorem stop_SN {q : Nat} (hq : q < 8) {v : Int32} : SN N (upd N (79 + 3 * q + 2) v) := ⟨fun j hj => lo_uQ hq (by omega) (by omega), fun a ha => lo_uQ hq (by omega) (by omega), fun k w hk hw => mY_uQ hk (by omega), fun q w _ _ => by rw [mQ_uQ (by omega) (by omega), if_neg (by omega)], fun t w _ _ => mT_uQ hq (by omega)⟩
theorem act_mis (hS : SR (h.1 b) N nl np nq nt) (hW : WN N nl np nq nt B) {q : Nat} (hq : q < nq) (m : Int32) :
    SR ((ui h b 19 q (h.1 b 19 q + m)).1 b) (upd N (79 + 3 * q + 2) (mQ N q 2 + m)) nl np nq nt ∧ WN (upd N (79 + 3 * q + 2) (mQ N q 2 + m)) nl np nq nt B ∧ LNK nl np nq 3 (nI q) m N (upd N (79 + 3 * q + 2) (mQ N q 2 + m)) := by
  have hW0 := hW
  obtain ⟨⟨-, -, -, hp6, -, hq8, -, h40⟩, -, hd, -, -, -, -⟩ := hW
  have hq' : q < 8 := by omega
  have hsame : ∀ t w, t < nt → w < 7 → mT (upd N (79 + 3 * q + 2) (mQ N q 2 + m)) t w = mT N t w := fun t w _ _ => mT_uQ hq' (by omega)
  have hN6 : upd N (79 + 3 * q + 2) (mQ N q 2 + m) 6 = N 6 := lo_uQ hq' (by omega) (by omega)
  refine ⟨?_, ?_, ?_⟩
  · refine hS.stat hp6 hq8 h40 hW0.m6 (fun k j hk => ui_k hk.2.2.2.2.2.2.1) (stop_SN hq') ?_ (fun k hk => ?_) (fun q2 hq2 => ?_) (fun t ht => ?_)
    · rw [ui_k (by omega), hN6, hS.1.2.2.2.2.2.1]
    · obtain ⟨-, -, -, -, -, -, -, t11, t12, t13, t14⟩ := hS.2.2.1 k hk
      rw [ui_k (by omega), ui_k (by omega), ui_k (by omega), ui_k (by omega), (cnt_same hsame _).1, mY_uQ (by omega) (by omega), mY_uQ (by omega) (by omega), mY_uQ (by omega) (by omega)]
      exact ⟨t11, t12, t13, t14⟩
    · obtain ⟨-, -, t18, t19, t20⟩ := hS.2.2.2.1 q2 hq2
      rw [(cnt_same hsame _).2.2, (cnt_same hsame _).2.1, mQ_uQ (by omega) (by omega)]
      refine ⟨by rw [ui_k (by omega)]; exact t18, ?_, by rw [ui_k (by omega)]; exact t20⟩
      by_cases e : q2 = q
      · subst e
        rw [ui_eq, if_pos ⟨rfl, rfl⟩, t19]
      · rw [ui_j e, if_neg (fun z => e z.1), t19]
    · obtain ⟨-, -, -, t26, t27, t28, t29, t30, -⟩ := hS.2.2.2.2 t ht
      rw [ui_k (by omega), ui_k (by omega), ui_k (by omega), ui_k (by omega), ui_k (by omega), hsame t 2 ht (by omega), hsame t 3 ht (by omega), hsame t 4 ht (by omega), hsame t 5 ht (by omega), hsame t 6 ht (by omega)]
      exact ⟨t26, t27, t28, t29, t30⟩
  · refine hW0.stat (stop_SN hq') (by rw [hN6]; exact hd) (fun r er r1 r9 k hk => ?_) (fun t ht => stT_same (fun w hw => hsame t w ht hw) (hW0.st ht)) (UQ_same hsame hW0.2.2.2.2.2.1) hW0.2.2.2.2.2.2
    obtain ⟨r', r1', r9', er', hY⟩ := hW0.2.1
    have : r = r' := nI_inj (by omega) (by omega) (by rw [← er, er'])
    subst this
    exact WYt_same (fun w hw => mY_uQ (by omega) (by omega)) (oN_same hsame) (Nat.le_refl _) (hY k hk)
  · intro g c hG
    have e5 : cT (upd N (79 + 3 * q + 2) (mQ N q 2 + m)) = nt := by unfold cT; rw [lo_uQ hq' (by omega) (by omega)]; exact hW0.ct
    rw [e5] at hG
    rw [hW0.ct]
    have eU : undoF g c 3 (nI q) m nq = ui g c 19 q (g.1 c 19 q - m) := by
      rw [show undoF g c 3 (nI q) m nq = tbMisF g c (nI q) m from rfl]
      unfold tbMisF
      rw [hG.1.2.2.1, hasI_p hq (by omega), if_neg (by decide), nI_clamp (by omega)]
    rw [eU]
    refine hG.stat hp6 hq8 h40 ((stop_SN hq').m6 h40 hW0.m6) (fun k j hk => ui_k hk.2.2.2.2.2.2.1) (stop_SN hq').symm ?_ (fun k hk => ?_) (fun q2 hq2 => ?_) (fun t ht => ?_)
    · rw [ui_k (by omega), hG.1.2.2.2.2.2.1, hN6]
    · obtain ⟨-, -, -, -, -, -, -, t11, t12, t13, t14⟩ := hG.2.2.1 k hk
      rw [(cnt_same hsame _).1] at t11
      rw [mY_uQ (by omega) (by omega)] at t12 t13 t14
      rw [ui_k (by omega), ui_k (by omega), ui_k (by omega), ui_k (by omega)]
      exact ⟨t11, t12, t13, t14⟩
    · obtain ⟨-, -, t18, t19, t20⟩ := hG.2.2.2.1 q2 hq2
      rw [(cnt_same hsame _).2.2] at t18
      rw [(cnt_same hsame _).2.1] at t20
      rw [mQ_uQ (by omega) (by omega)] at t19
      refine ⟨by rw [ui_k (by omega)]; exact t18, ?_, by rw [ui_k (by omega)]; exact t20⟩
      by_cases e : q2 = q
      · subst e
        rw [if_pos ⟨rfl, rfl⟩] at t19
        rw [ui_eq, t19, add_sub_i]
      · rw [if_neg (fun z => e z.1)] at t19
        rw [ui_j e, t19]
    · obtain ⟨-, -, -, t26, t27, t28, t29, t30, -⟩ := hG.2.2.2.2 t ht
      rw [hsame t 2 ht (by omega)] at t26
      rw [hsame t 3 ht (by omega)] at t27
      rw [hsame t 4 ht (by omega)] at t28
      rw [hsame t 5 ht (by omega)] at t29
      rw [hsame t 6 ht (by omega)] at t30
      rw [ui_k (by omega), ui_k (by omega), ui_k (by omega), ui_k (by omega), ui_k (by omega)]
      exact ⟨t26, t27, t28, t29, t30⟩
end
