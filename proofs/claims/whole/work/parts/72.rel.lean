/-! THE RELATION between the class's Books (a block's cells H) and the reference's row N -/
theorem hasI_cs (n : Nat) (hn : n < 1000) (x : Int32) : hasI (nI n) x = 0 ∨ ∃ k, k < n ∧ x = nI k ∧ ¬ hasI (nI n) x = 0 := by
  by_cases h : hasI (nI n) x = 0
  · exact Or.inl h
  · obtain ⟨h1, h2⟩ := hasI_ne h
    rcases pk_ix x (n := n) (by omega) with a | a | ⟨j, hj, e⟩
    · exact absurd a h1
    · exact absurd a h2
    · exact Or.inr ⟨j, hj, e, h⟩
def cT (N : Nat → Int32) : Nat := (N 5).toNatClampNeg
def oN (N : Nat → Int32) (x : Int32) (n : Nat) : Nat := sN (fun t => if mT N t 2 = 1 ∧ mT N t 3 = x then 1 else 0) n
def dN (N : Nat → Int32) (x : Int32) (n : Nat) : Nat := sN (fun t => if mT N t 0 = x ∧ mT N t 2 = 2 then 1 else 0) n
theorem oBG_n (N : Nat → Int32) (x : Int32) : ∀ n, oBG N x n = nI (oN N x n)
  | 0 => rfl
  | n + 1 => by
    rw [show oBG N x (n + 1) = if mT N n 2 = 1 then (if mT N n 3 = x then oBG N x n + 1 else oBG N x n) else oBG N x n from rfl, show oN N x (n + 1) = oN N x n + (if mT N n 2 = 1 ∧ mT N n 3 = x then 1 else 0) from rfl, oBG_n N x n]
    by_cases a : mT N n 2 = 1
    · by_cases b : mT N n 3 = x
      · rw [if_pos a, if_pos b, if_pos ⟨a, b⟩, nI_1]
      · rw [if_pos a, if_neg b, if_neg (fun z => b z.2)]; rfl
    · rw [if_neg a, if_neg (fun z => a z.1)]; rfl
theorem dBG_n (N : Nat → Int32) (x : Int32) : ∀ n, dBG N x n = nI (dN N x n)
  | 0 => rfl
  | n + 1 => by
    rw [show dBG N x (n + 1) = if mT N n 0 = x then (if mT N n 2 = 2 then dBG N x n + 1 else dBG N x n) else dBG N x n from rfl, show dN N x (n + 1) = dN N x n + (if mT N n 0 = x ∧ mT N n 2 = 2 then 1 else 0) from rfl, dBG_n N x n]
    by_cases a : mT N n 0 = x
    · by_cases b : mT N n 2 = 2
      · rw [if_pos a, if_pos b, if_pos ⟨a, b⟩, nI_1]
      · rw [if_pos a, if_neg b, if_neg (fun z => b z.2)]; rfl
    · rw [if_neg a, if_neg (fun z => a z.1)]; rfl
theorem oN_le (N : Nat → Int32) (x : Int32) (n : Nat) : oN N x n ≤ n := sN_le (fun _ _ => if01_le _)
theorem dN_le (N : Nat → Int32) (x : Int32) (n : Nat) : dN N x n ≤ n := sN_le (fun _ _ => if01_le _)
/-- a type of the row is well formed (r: REISSUE, B: a bound of BACK) -/
def WYt (N : Nat → Int32) (r nt B k : Nat) : Prop := ∃ p c n s sp lo bk : Nat, (mY N k 0 = 0 ∨ mY N k 0 = 1 ∨ mY N k 0 = 2) ∧ mY N k 1 = nI p ∧ 1 ≤ p ∧ p ≤ 9 ∧ (mY N k 0 = 0 → p = 1) ∧ mY N k 3 = nI c ∧ c ≤ 99 ∧ mY N k 4 = nI n ∧ n ≤ 9 ∧ mY N k 5 = nI s ∧ s ≤ 99 ∧
  mY N k 7 = nI sp ∧ mY N k 8 = nI lo ∧ mY N k 9 = nI bk ∧ mY N k 10 = nI (bk / r) ∧ bk ≤ B ∧ sp + lo + bk ≤ n + bk / r ∧ oN N (nI k) nt ≤ (n + bk / r - sp - lo - bk) * p
/-- a trip of the row is well formed -/
def WT (N : Nat → Int32) (np nq t : Nat) : Prop := (∃ q, q < nq ∧ mT N t 0 = nI q ∧ mT N t 7 = mQ N q 0) ∧ (∃ m, 2 ≤ m ∧ m ≤ 6 ∧ mT N t 1 = nI m) ∧
  ((mT N t 2 = 0 ∧ mT N t 3 = -1 ∧ mT N t 4 = -1 ∧ mT N t 5 = -1 ∧ mT N t 6 = 0) ∨
   (mT N t 2 = 1 ∧ (∃ k, k < np ∧ mT N t 3 = nI k) ∧ mT N t 5 = -1 ∧ mT N t 6 = 0) ∨
   (mT N t 2 = 2 ∧ ((mT N t 3 = -1 ∧ mT N t 4 = -1 ∧ mT N t 6 = 0) ∨ ((∃ k, k < np ∧ mT N t 3 = nI k) ∧ (mT N t 6 = 0 ∨ mT N t 6 = 1)))))
def UQ (N : Nat → Int32) (nt : Nat) : Prop := ∀ t t', t < nt → t' < nt → mT N t 0 = mT N t' 0 → ¬ mT N t 2 = 2 → ¬ mT N t' 2 = 2 → t = t'
def WN (N : Nat → Int32) (nl np nq nt B : Nat) : Prop :=
  (N 0 = nI nl ∧ nl ≤ 8 ∧ N 3 = nI np ∧ np ≤ 6 ∧ N 4 = nI nq ∧ nq ≤ 8 ∧ N 5 = nI nt ∧ nt ≤ 40) ∧
  (∃ r, 1 ≤ r ∧ r ≤ 9 ∧ N 1 = nI r ∧ ∀ k, k < np → WYt N r nt B k) ∧
  (∃ d, d ≤ 999 ∧ N 6 = nI d) ∧
  (∀ q, q < nq → ∃ a, a < nl ∧ mQ N q 0 = nI a) ∧
  (∀ t, t < nt → WT N np nq t) ∧ UQ N nt ∧ B ≤ 9000
def SR (H : Nat → Nat → Int32) (N : Nat → Int32) (nl np nq nt : Nat) : Prop :=
  (H 1 1 = nI nl ∧ H 3 11 = nI np ∧ H 15 5 = nI nq ∧ H 21 9 = nI nt ∧ H 3 12 = N 1 ∧ H 0 5 = N 6 ∧ H 1 2 = bO N 8) ∧
  (∀ a, a < 8 → H 2 a = N (103 + a)) ∧
  (∀ k, k < np → H 4 k = mY N k 0 ∧ H 5 k = mY N k 1 ∧ H 6 k = mY N k 2 ∧ H 7 k = mY N k 3 ∧ H 8 k = mY N k 4 ∧ H 9 k = mY N k 5 ∧ H 10 k = mY N k 6 ∧ H 11 k = oBG N (nI k) nt ∧ H 12 k = mY N k 7 ∧ H 13 k = mY N k 8 ∧ H 14 k = mY N k 9) ∧
  (∀ q, q < nq → H 16 q = mQ N q 0 ∧ H 17 q = mQ N q 1 ∧ H 18 q = tOG N (nI q) nt 0 ∧ H 19 q = mQ N q 2 ∧ H 20 q = dBG N (nI q) nt) ∧
  (∀ t, t < nt → H 22 t = mT N t 0 ∧ H 23 t = mT N t 1 ∧ H 25 t = wayM N t ∧ H 26 t = mT N t 2 ∧ H 27 t = mT N t 3 ∧ H 28 t = mT N t 4 ∧ H 29 t = mT N t 5 ∧ H 30 t = mT N t 6 ∧ ∀ k, k < (mT N t 1).toNatClampNeg → divG k (H 24 t) - divG k (H 24 t) / 10 * 10 = mT N t (7 + k))
theorem SR.cells {H H2 : Nat → Nat → Int32} {N : Nat → Int32} {nl np nq nt : Nat} (h : SR H N nl np nq nt) (he : ∀ k, k < 31 → H2 k = H k) : SR H2 N nl np nq nt := by
  unfold SR
  simp only [he _ (show 0 < 31 by omega), he _ (show 1 < 31 by omega), he _ (show 2 < 31 by omega), he _ (show 3 < 31 by omega), he _ (show 4 < 31 by omega), he _ (show 5 < 31 by omega), he _ (show 6 < 31 by omega), he _ (show 7 < 31 by omega), he _ (show 8 < 31 by omega), he _ (show 9 < 31 by omega), he _ (show 10 < 31 by omega), he _ (show 11 < 31 by omega), he _ (show 12 < 31 by omega), he _ (show 13 < 31 by omega), he _ (show 14 < 31 by omega), he _ (show 15 < 31 by omega), he _ (show 16 < 31 by omega), he _ (show 17 < 31 by omega), he _ (show 18 < 31 by omega), he _ (show 19 < 31 by omega), he _ (show 20 < 31 by omega), he _ (show 21 < 31 by omega), he _ (show 22 < 31 by omega), he _ (show 23 < 31 by omega), he _ (show 24 < 31 by omega), he _ (show 25 < 31 by omega), he _ (show 26 < 31 by omega), he _ (show 27 < 31 by omega), he _ (show 28 < 31 by omega), he _ (show 29 < 31 by omega), he _ (show 30 < 31 by omega)]
  exact h
/-! the lorry's open trip -/
theorem tOG_is {N : Nat → Int32} {nt t : Nat} {x : Int32} (h40 : nt ≤ 40) (hU : UQ N nt) (ht : t < nt) (h0 : mT N t 0 = x) (h2 : ¬ mT N t 2 = 2) : tOG N x nt 0 = nI t := by
  rcases tOG_d N x nt 0 with ⟨a, b⟩ | ⟨t', a, b, c, d, e⟩
  · exact absurd (b t (by omega) (by omega) h0) h2
  · rw [c, hU t t' ht (by omega) (by rw [h0, d]) h2 e]
theorem tOG_no {N : Nat → Int32} {nt : Nat} {x : Int32} (h : ∀ t, t < nt → mT N t 0 = x → mT N t 2 = 2) : tOG N x nt 0 = -1 := by
  rcases tOG_d N x nt 0 with ⟨a, b⟩ | ⟨t', a, b, c, d, e⟩
  · exact a
  · exact absurd (h t' (by omega) d) e
theorem tOG_cs {N : Nat → Int32} {nt : Nat} (x : Int32) : (tOG N x nt 0 = -1 ∧ ∀ t, t < nt → mT N t 0 = x → mT N t 2 = 2) ∨ ∃ t, t < nt ∧ tOG N x nt 0 = nI t ∧ mT N t 0 = x ∧ ¬ mT N t 2 = 2 := by
  rcases tOG_d N x nt 0 with ⟨a, b⟩ | ⟨t', a, b, c, d, e⟩
  · exact Or.inl ⟨a, fun t ht => b t (by omega) (by omega)⟩
  · exact Or.inr ⟨t', by omega, c, d, e⟩
/-! what WN gives to the reference's contracts -/
theorem WN.TW {N : Nat → Int32} {nl np nq nt B : Nat} (h : WN N nl np nq nt B) : TW N nt := by
  obtain ⟨⟨-, -, -, h6, -, h8, -, -⟩, -, -, -, hT, -, -⟩ := h
  intro t ht
  obtain ⟨⟨q, a, b, -⟩, ⟨m, c, d, e⟩, f⟩ := hT t ht
  refine ⟨⟨q, by omega, b⟩, ⟨m, by omega, e⟩, fun z => ?_⟩
  rcases f with f | f | f
  · rw [f.1] at z; exact absurd z (by decide)
  · obtain ⟨k, hk, e⟩ := f.2.1; exact ⟨k, by omega, e⟩
  · rw [f.1] at z; exact absurd z (by decide)
theorem WN.pl {N : Nat → Int32} {nl np nq nt B k : Nat} (h : WN N nl np nq nt B) (hk : k < np) : ¬ mY N k 1 = 0 := by
  obtain ⟨-, ⟨r, -, -, -, hY⟩, -⟩ := h
  obtain ⟨p, c, n, s, sp, lo, bk, -, h1, h2, h3, -⟩ := hY k hk
  rw [h1]
  exact nI_ne0 (by omega) (by omega)
theorem WN.PW {N : Nat → Int32} {nl np nq nt B : Nat} (h : WN N nl np nq nt B) : PW N np nt := by
  have h0 := h
  obtain ⟨⟨-, -, h3, h6, -, h8, h5, h40⟩, ⟨r, -, -, -, hY⟩, -⟩ := h
  refine ⟨h3, h6, h5, h40, fun k hk => h0.pl hk, h0.TW, fun k hk => ?_⟩
  obtain ⟨p, c, n, s, sp, lo, bk, -, -, -, -, -, a, b, -⟩ := hY k hk
  exact ⟨c, b, a⟩
theorem WN.mono {N : Nat → Int32} {nl np nq nt B B2 : Nat} (h : WN N nl np nq nt B) (hB : B ≤ B2) (h9 : B2 ≤ 9000) : WN N nl np nq nt B2 := by
  obtain ⟨h1, ⟨r, a, b, c, hY⟩, h3, h4, h5, h6, h7⟩ := h
  refine ⟨h1, ⟨r, a, b, c, fun k hk => ?_⟩, h3, h4, h5, h6, h9⟩
  obtain ⟨p, c, n, s, sp, lo, bk, e1, e2, e3, e4, e5, e6, e7, e8, e9, e10, e11, e12, e13, e14, e15, e16, e17, e18⟩ := hY k hk
  exact ⟨p, c, n, s, sp, lo, bk, e1, e2, e3, e4, e5, e6, e7, e8, e9, e10, e11, e12, e13, e14, e15, by omega, e17, e18⟩
/-! free pieces -/
theorem mx1_n {p : Nat} (h1 : 1 ≤ p) (h2 : p < 1000) : mx1 (nI p) = nI p := by
  unfold mx1
  by_cases e : p = 1
  · subst e; decide
  · rw [if_pos (show (1 : Int32) < nI p from nI_lt (a := 1) (by omega) (by omega))]
theorem frees {h : AH} {b : Nat} {N : Nat → Int32} {nl np nq nt B k : Nat} (hS : SR (h.1 b) N nl np nq nt) (hW : WN N nl np nq nt B) (hk : k < np) :
    reisF h b (nI k) = mY N k 10 ∧ outF h b (nI k) = mOut N nt k ∧ inF h b (nI k) = mIn N nt k ∧ freeF h b (nI k) = mFree N nt k := by
  obtain ⟨⟨-, -, -, hp6, -, -, -, h40⟩, ⟨r, r1, r9, hr, hY⟩, -, -, -, -, hB⟩ := hW
  obtain ⟨⟨-, -, -, -, s1, -, -⟩, -, s2, -, -⟩ := hS
  obtain ⟨p, c, n, s, sp, lo, bk, e1, e2, e3, e4, e5, e6, e7, e8, e9, e10, e11, e12, e13, e14, e15, e16, e17, e18⟩ := hY k hk
  obtain ⟨t4, t5, t6, t7, t8, t9, t10, t11, t12, t13, t14⟩ := s2 k hk
  have hc : (nI k).toNatClampNeg = k := nI_clamp (by omega)
  have hre : reisF h b (nI k) = mY N k 10 := by
    unfold reisF
    rw [hc, t14, s1, hr, mx1_n r1 (by omega), e14, e15, pk_div (by omega) (by omega) (by omega)]
  have hou : outF h b (nI k) = mOut N nt k := by
    unfold outF mOut
    rw [hc, t11, t5, e2, mx1_n e3 (by omega)]
  have hin : inF h b (nI k) = mIn N nt k := by
    unfold inF mIn
    rw [hre, hou, hc, t8, t12, t13, t14]
  refine ⟨hre, hou, hin, ?_⟩
  unfold freeF mFree
  rw [hin, hou, hc, t5, t11]
  generalize mIn N nt k = a
  generalize mOut N nt k = c2
  generalize mY N k 1 = d
  generalize oBG N (nI k) nt = e
  grind
theorem mFree_eq {N : Nat → Int32} {nt k p n sp lo bk br : Nat} (e2 : mY N k 1 = nI p) (e9 : mY N k 4 = nI n) (e12 : mY N k 7 = nI sp) (e13 : mY N k 8 = nI lo) (e14 : mY N k 9 = nI bk) (e15 : mY N k 10 = nI br) (e17 : sp + lo + bk ≤ n + br) (e18 : oN N (nI k) nt ≤ (n + br - sp - lo - bk) * p) :
    mFree N nt k = nI ((n + br - sp - lo - bk) * p - oN N (nI k) nt) := by
  unfold mFree mIn
  rw [oBG_n, e2, e9, e12, e13, e14, e15]
  have h1 : nI n + nI br - mOut N nt k - nI sp - nI lo - nI bk + mOut N nt k = nI n + nI br - nI sp - nI lo - nI bk := by
    generalize mOut N nt k = o
    grind
  rw [h1, nI_add, pk_sub (by omega), pk_sub (by omega), pk_sub (by omega), pk_mul, pk_sub e18]
theorem mFree_n {N : Nat → Int32} {nl np nq nt B k : Nat} (hW : WN N nl np nq nt B) (hk : k < np) : ∃ f, f ≤ 162 ∧ mFree N nt k = nI f := by
  obtain ⟨⟨-, -, -, hp6, -, -, -, h40⟩, ⟨r, r1, r9, hr, hY⟩, -, -, -, -, hB⟩ := hW
  obtain ⟨p, c, n, s, sp, lo, bk, e1, e2, e3, e4, e5, e6, e7, e8, e9, e10, e11, e12, e13, e14, e15, e16, e17, e18⟩ := hY k hk
  have hbr : bk / r ≤ bk := Nat.div_le_self _ _
  refine ⟨(n + bk / r - sp - lo - bk) * p - oN N (nI k) nt, ?_, mFree_eq e2 e8 e12 e13 e14 e15 e17 e18⟩
  have : (n + bk / r - sp - lo - bk) * p ≤ 18 * 9 := Nat.mul_le_mul (by omega) e4
  omega
/-! one open trip a lorry: at most eight wait -/
theorem sN_swap {f : Nat → Nat → Nat} {m : Nat} : ∀ {n : Nat}, sN (fun t => sN (fun q => f t q) m) n = sN (fun q => sN (fun t => f t q) n) m
  | 0 => (sN_0 (fun _ _ => rfl)).symm
  | n + 1 => by
    show sN (fun t => sN (fun q => f t q) m) n + sN (fun q => f n q) m = sN (fun q => sN (fun t => f t q) n + f n q) m
    rw [sN_swap, sN_add]
theorem sN_c1 {f : Nat → Nat} : ∀ {n : Nat}, (∀ i, i < n → f i ≤ 1) → (∀ i j, i < n → j < n → f i = 1 → f j = 1 → i = j) → sN f n ≤ 1
  | 0, _, _ => Nat.zero_le _
  | n + 1, h1, h2 => by
    show sN f n + f n ≤ 1
    have ih : sN f n ≤ 1 := sN_c1 (fun i hi => h1 i (by omega)) (fun i j hi hj => h2 i j (by omega) (by omega))
    by_cases e : f n = 1
    · have : sN f n = 0 := sN_0 (fun i hi => by
        have a := h1 i (by omega)
        by_cases e2 : f i = 1
        · have := h2 i n (by omega) (by omega) e2 e; omega
        · omega)
      omega
    · have := h1 n (by omega); omega
theorem WN.w8 {N : Nat → Int32} {nl np nq nt B : Nat} (h : WN N nl np nq nt B) : wN N nt ≤ 8 := by
  obtain ⟨⟨-, -, -, -, -, h8, -, h40⟩, -, -, -, hT, hU, -⟩ := h
  have h1 : wN N nt ≤ sN (fun t => sN (fun q => if mT N t 2 = 0 ∧ mT N t 0 = nI q then 1 else 0) 8) nt := by
    refine sN_mono (fun t ht => ?_)
    by_cases e : mT N t 2 = 0
    · obtain ⟨⟨q, a, b, -⟩, -⟩ := hT t ht
      rw [if_pos e]
      refine Nat.le_trans ?_ (sN_ge (t := q) (by omega))
      simp [e, b]
    · rw [if_neg e]; exact Nat.zero_le _
  rw [sN_swap] at h1
  refine Nat.le_trans h1 (sN_le (fun q hq => sN_c1 (fun t ht => if01_le _) (fun i j hi hj a b => ?_)))
  have a' : mT N i 2 = 0 ∧ mT N i 0 = nI q := by
    by_cases z : mT N i 2 = 0 ∧ mT N i 0 = nI q
    · exact z
    · rw [if_neg z] at a; exact absurd a (by decide)
  have b' : mT N j 2 = 0 ∧ mT N j 0 = nI q := by
    by_cases z : mT N j 2 = 0 ∧ mT N j 0 = nI q
    · exact z
    · rw [if_neg z] at b; exact absurd b (by decide)
  exact hU i j hi hj (by rw [a'.2, b'.2]) (by rw [a'.1]; decide) (by rw [b'.1]; decide)
theorem WN.PP {N : Nat → Int32} {nl np nq nt B : Nat} (h : WN N nl np nq nt B) : PP N np nt := by
  refine ⟨h.PW, fun k hk => ?_, h.w8⟩
  obtain ⟨f, a, b⟩ := mFree_n h hk
  rw [b, nI_toInt (by omega)]
  omega
