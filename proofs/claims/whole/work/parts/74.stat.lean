/-! rows with a place written anew -/
section
variable {N : Nat → Int32} {v : Int32}
theorem mT_uT {t t' w w' : Nat} (hw : w < 13) (hw' : w' < 13) : mT (upd N (111 + 13 * t + w) v) t' w' = if t' = t ∧ w' = w then v else mT N t' w' := by
  unfold mT upd
  by_cases e : t' = t ∧ w' = w
  · rw [if_pos e, if_pos (by omega)]
  · rw [if_neg e, if_neg (by omega)]
theorem mY_uT {t w k w' : Nat} (hk : k < 6) (hw : w' < 12) : mY (upd N (111 + 13 * t + w) v) k w' = mY N k w' := pk_un (by omega)
theorem mQ_uT {t w q w' : Nat} (hq : q < 8) (hw : w' < 3) : mQ (upd N (111 + 13 * t + w) v) q w' = mQ N q w' := pk_un (by omega)
theorem lo_uT {t w j : Nat} (hj : j < 111) : upd N (111 + 13 * t + w) v j = N j := pk_un (by omega)
theorem mY_uY {k k' w w' : Nat} (hw : w < 12) (hw' : w' < 12) : mY (upd N (7 + 12 * k + w) v) k' w' = if k' = k ∧ w' = w then v else mY N k' w' := by
  unfold mY upd
  by_cases e : k' = k ∧ w' = w
  · rw [if_pos e, if_pos (by omega)]
  · rw [if_neg e, if_neg (by omega)]
theorem mT_uY {k w t w' : Nat} (hk : k < 6) (hw : w < 12) : mT (upd N (7 + 12 * k + w) v) t w' = mT N t w' := pk_un (by omega)
theorem mQ_uY {k w q w' : Nat} (hk : k < 6) (hw : w < 12) : mQ (upd N (7 + 12 * k + w) v) q w' = mQ N q w' := pk_un (by omega)
theorem lo_uY {k w j : Nat} (hk : k < 6) (hw : w < 12) (hj : j < 7 ∨ 103 ≤ j) : upd N (7 + 12 * k + w) v j = N j := pk_un (by omega)
theorem mQ_uQ {q q' w w' : Nat} (hw : w < 3) (hw' : w' < 3) : mQ (upd N (79 + 3 * q + w) v) q' w' = if q' = q ∧ w' = w then v else mQ N q' w' := by
  unfold mQ upd
  by_cases e : q' = q ∧ w' = w
  · rw [if_pos e, if_pos (by omega)]
  · rw [if_neg e, if_neg (by omega)]
theorem mT_uQ {q w t w' : Nat} (hq : q < 8) (hw : w < 3) : mT (upd N (79 + 3 * q + w) v) t w' = mT N t w' := pk_un (by omega)
theorem mY_uQ {q w k w' : Nat} (hk : k < 6) (hw : w' < 12) : mY (upd N (79 + 3 * q + w) v) k w' = mY N k w' := pk_un (by omega)
theorem lo_uQ {q w j : Nat} (hq : q < 8) (hw : w < 3) (hj : j < 79 ∨ 103 ≤ j) : upd N (79 + 3 * q + w) v j = N j := pk_un (by omega)
theorem mT_u0 {j t w : Nat} (hj : j < 7) : mT (upd N j v) t w = mT N t w := pk_un (by omega)
theorem mY_u0 {j k w : Nat} (hj : j < 7) : mY (upd N j v) k w = mY N k w := pk_un (by omega)
theorem mQ_u0 {j q w : Nat} (hj : j < 7) : mQ (upd N j v) q w = mQ N q w := pk_un (by omega)
end
/-! what an act leaves as it is -/
abbrev stK (k : Nat) : Prop := k ≠ 0 ∧ k ≠ 11 ∧ k ≠ 12 ∧ k ≠ 13 ∧ k ≠ 14 ∧ k ≠ 18 ∧ k ≠ 19 ∧ k ≠ 20 ∧ k ≠ 26 ∧ k ≠ 27 ∧ k ≠ 28 ∧ k ≠ 29 ∧ k ≠ 30
def SN (N N' : Nat → Int32) : Prop := (∀ j, j < 6 → N' j = N j) ∧ (∀ a, a < 8 → N' (103 + a) = N (103 + a)) ∧ (∀ k w, k < 6 → w < 7 → mY N' k w = mY N k w) ∧ (∀ q w, q < 8 → w < 2 → mQ N' q w = mQ N q w) ∧ (∀ t w, t < 40 → (w < 2 ∨ (7 ≤ w ∧ w < 13)) → mT N' t w = mT N t w)
theorem SN.symm {N N' : Nat → Int32} (h : SN N N') : SN N' N := ⟨fun j hj => (h.1 j hj).symm, fun a ha => (h.2.1 a ha).symm, fun k w hk hw => (h.2.2.1 k w hk hw).symm, fun q w hq hw => (h.2.2.2.1 q w hq hw).symm, fun t w ht hw => (h.2.2.2.2 t w ht hw).symm⟩
theorem wayG_congr {N N' : Nat → Int32} {t : Nat} : ∀ m, m ≤ 6 → (∀ w, 7 ≤ w → w < 13 → mT N' t w = mT N t w) → wayG N' t m = wayG N t m
  | 0, _, _ => rfl
  | m + 1, hm, h => by
    show wayG N' t m ||| 1 <<< (mT N' t (7 + m) &&& 31) = wayG N t m ||| 1 <<< (mT N t (7 + m) &&& 31)
    rw [wayG_congr m (by omega) h, h (7 + m) (by omega) (by omega)]
theorem SN.way {N N' : Nat → Int32} (h : SN N N') {t m : Nat} (ht : t < 40) (hm : mT N t 1 = nI m) (h6 : m ≤ 6) : wayM N' t = wayM N t := by
  unfold wayM
  rw [h.2.2.2.2 t 1 ht (by omega), hm, nI_clamp (by omega)]
  exact wayG_congr m h6 (fun w h7 h13 => h.2.2.2.2 t w ht (by omega))
theorem bI_congr {N N' : Nat → Int32} {a : Nat} (h : N' (103 + a) = N (103 + a)) (acc : Int32) : ∀ c, bI N' a acc c = bI N a acc c
  | 0 => rfl
  | c + 1 => by
    show (if hasB (N' (103 + a)) (nI c) = 0 then bI N' a acc c else bI N' a acc c + 1) = (if hasB (N (103 + a)) (nI c) = 0 then bI N a acc c else bI N a acc c + 1)
    rw [h, bI_congr h acc c]
theorem bO_congr {N N' : Nat → Int32} : ∀ n, (∀ a, a < n → N' (103 + a) = N (103 + a)) → bO N' n = bO N n
  | 0, _ => rfl
  | n + 1, h => by
    show bI N' n (bO N' n) n = bI N n (bO N n) n
    rw [bO_congr n (fun a ha => h a (by omega)), bI_congr (h n (by omega))]
theorem SR.stat {H H' : Nat → Nat → Int32} {N N' : Nat → Int32} {nl np nq nt : Nat} (hS : SR H N nl np nq nt) (hp : np ≤ 6) (hq : nq ≤ 8) (h40 : nt ≤ 40) (hm : ∀ t, t < nt → ∃ m, m ≤ 6 ∧ mT N t 1 = nI m) (hH : ∀ k j, stK k → H' k j = H k j) (hN : SN N N')
    (d6 : H' 0 5 = N' 6)
    (dY : ∀ k, k < np → H' 11 k = oBG N' (nI k) nt ∧ H' 12 k = mY N' k 7 ∧ H' 13 k = mY N' k 8 ∧ H' 14 k = mY N' k 9)
    (dQ : ∀ q, q < nq → H' 18 q = tOG N' (nI q) nt 0 ∧ H' 19 q = mQ N' q 2 ∧ H' 20 q = dBG N' (nI q) nt)
    (dT : ∀ t, t < nt → H' 26 t = mT N' t 2 ∧ H' 27 t = mT N' t 3 ∧ H' 28 t = mT N' t 4 ∧ H' 29 t = mT N' t 5 ∧ H' 30 t = mT N' t 6) : SR H' N' nl np nq nt := by
  obtain ⟨⟨a1, a2, a3, a4, a5, a6, a7⟩, s2, s3, s4, s5⟩ := hS
  obtain ⟨n1, n2, n3, n4, n5⟩ := hN
  refine ⟨⟨?_, ?_, ?_, ?_, ?_, d6, ?_⟩, fun a ha => ?_, fun k hk => ?_, fun q hq' => ?_, fun t ht => ?_⟩
  · rw [hH 1 1 (by decide), a1]
  · rw [hH 3 11 (by decide), a2]
  · rw [hH 15 5 (by decide), a3]
  · rw [hH 21 9 (by decide), a4]
  · rw [hH 3 12 (by decide), a5, n1 1 (by omega)]
  · rw [hH 1 2 (by decide), a7, bO_congr 8 (fun a ha => n2 a ha)]
  · rw [hH 2 a (by decide), s2 a ha, n2 a ha]
  · obtain ⟨t4, t5, t6, t7, t8, t9, t10, -⟩ := s3 k hk
    obtain ⟨d11, d12, d13, d14⟩ := dY k hk
    have hk6 : k < 6 := by omega
    exact ⟨by rw [hH 4 k (by decide), t4, n3 k 0 hk6 (by omega)], by rw [hH 5 k (by decide), t5, n3 k 1 hk6 (by omega)], by rw [hH 6 k (by decide), t6, n3 k 2 hk6 (by omega)], by rw [hH 7 k (by decide), t7, n3 k 3 hk6 (by omega)], by rw [hH 8 k (by decide), t8, n3 k 4 hk6 (by omega)], by rw [hH 9 k (by decide), t9, n3 k 5 hk6 (by omega)], by rw [hH 10 k (by decide), t10, n3 k 6 hk6 (by omega)], d11, d12, d13, d14⟩
  · obtain ⟨t16, t17, -⟩ := s4 q hq'
    obtain ⟨d18, d19, d20⟩ := dQ q hq'
    exact ⟨by rw [hH 16 q (by decide), t16, n4 q 0 (by omega) (by omega)], by rw [hH 17 q (by decide), t17, n4 q 1 (by omega) (by omega)], d18, d19, d20⟩
  · obtain ⟨t22, t23, t25, -, -, -, -, -, td⟩ := s5 t ht
    obtain ⟨d26, d27, d28, d29, d30⟩ := dT t ht
    obtain ⟨m, m6, em⟩ := hm t ht
    have ht4 : t < 40 := by omega
    refine ⟨by rw [hH 22 t (by decide), t22, n5 t 0 ht4 (by omega)], by rw [hH 23 t (by decide), t23, n5 t 1 ht4 (by omega)], by rw [hH 25 t (by decide), t25, SN.way ⟨n1, n2, n3, n4, n5⟩ ht4 em m6], d26, d27, d28, d29, d30, fun k hk => ?_⟩
    rw [n5 t 1 ht4 (by omega)] at hk
    rw [hH 24 t (by decide), td k hk]
    rw [em, nI_clamp (by omega)] at hk
    exact (n5 t (7 + k) ht4 (by omega)).symm
theorem WN.m6 {N : Nat → Int32} {nl np nq nt B : Nat} (h : WN N nl np nq nt B) : ∀ t, t < nt → ∃ m, m ≤ 6 ∧ mT N t 1 = nI m := fun t ht => by
  obtain ⟨-, ⟨m, -, a, c⟩, -⟩ := h.2.2.2.2.1 t ht
  exact ⟨m, a, c⟩
theorem SN.m6 {N N' : Nat → Int32} (h : SN N N') {nt : Nat} (h40 : nt ≤ 40) (hm : ∀ t, t < nt → ∃ m, m ≤ 6 ∧ mT N t 1 = nI m) : ∀ t, t < nt → ∃ m, m ≤ 6 ∧ mT N' t 1 = nI m := fun t ht => by
  obtain ⟨m, a, c⟩ := hm t ht
  exact ⟨m, a, by rw [h.2.2.2.2 t 1 (by omega) (by omega), c]⟩
/-- undone: from every heap that shows N' the class comes back to one that shows N -/
def LNK (nl np nq : Nat) (act wh am : Int32) (N N' : Nat → Int32) : Prop := ∀ (h : AH) (b : Nat), SR (h.1 b) N' nl np nq (cT N') → SR ((undoF h b act wh am nq).1 b) N nl np nq (cT N)
theorem WN.ct {N : Nat → Int32} {nl np nq nt B : Nat} (h : WN N nl np nq nt B) : cT N = nt := by
  have h40 := h.1.2.2.2.2.2.2.2
  unfold cT
  rw [h.1.2.2.2.2.2.2.1, nI_clamp (by omega)]
/-! ===== pass ===== -/
theorem oBG_congr {N N' : Nat → Int32} {x : Int32} {n : Nat} (h : ∀ t, t < n → mT N' t 2 = mT N t 2 ∧ mT N' t 3 = mT N t 3) : oBG N' x n = oBG N x n := by
  rw [oBG_n, oBG_n]
  congr 1
  exact sN_congr (fun t ht => by (try dsimp only); rw [(h t ht).1, (h t ht).2])
theorem dBG_congr {N N' : Nat → Int32} {x : Int32} {n : Nat} (h : ∀ t, t < n → mT N' t 0 = mT N t 0 ∧ mT N' t 2 = mT N t 2) : dBG N' x n = dBG N x n := by
  rw [dBG_n, dBG_n]
  congr 1
  exact sN_congr (fun t ht => by (try dsimp only); rw [(h t ht).1, (h t ht).2])
theorem tOG_congr {N N' : Nat → Int32} {x : Int32} : ∀ {f t : Nat}, (∀ t', t ≤ t' → t' < t + f → mT N' t' 0 = mT N t' 0 ∧ mT N' t' 2 = mT N t' 2) → tOG N' x f t = tOG N x f t
  | 0, _, _ => rfl
  | f + 1, t, h => by
    show (if mT N' t 0 = x then (if mT N' t 2 = 2 then tOG N' x f (t + 1) else nI t) else tOG N' x f (t + 1)) = (if mT N t 0 = x then (if mT N t 2 = 2 then tOG N x f (t + 1) else nI t) else tOG N x f (t + 1))
    rw [tOG_congr (f := f) (t := t + 1) (fun t' a b => h t' (by omega) (by omega)), (h t (by omega) (by omega)).1, (h t (by omega) (by omega)).2]
/-- trips as they were: what is counted of them is the same -/
theorem cnt_same {N N' : Nat → Int32} {nt : Nat} (h : ∀ t w, t < nt → w < 7 → mT N' t w = mT N t w) (x : Int32) : oBG N' x nt = oBG N x nt ∧ dBG N' x nt = dBG N x nt ∧ tOG N' x nt 0 = tOG N x nt 0 :=
  ⟨oBG_congr (fun t ht => ⟨h t 2 ht (by omega), h t 3 ht (by omega)⟩), dBG_congr (fun t ht => ⟨h t 0 ht (by omega), h t 2 ht (by omega)⟩), tOG_congr (fun t _ ht => ⟨h t 0 (by omega) (by omega), h t 2 (by omega) (by omega)⟩)⟩
