/-! assign -/
abbrev SD (N gv : Nat → Int32) (t : Nat) : Prop := mT N t 2 = 0 ∧ ¬ gv t = -1
section
variable {N gv : Nat → Int32} {nl np nq nt B : Nat}
theorem as_lo {n j : Nat} (hj : j < 111) : asN N gv n j = N j := by
  induction n with
  | zero => rfl
  | succ n ih =>
    show (if mT (asN N gv n) n 2 = 0 ∧ ¬ gv n = -1 then upd (upd (upd (asN N gv n) (111 + 13 * n + 2) 1) (111 + 13 * n + 3) (gv n)) (111 + 13 * n + 4) (asN N gv n 6) else asN N gv n) j = N j
    split
    · rw [pk_un (by omega), pk_un (by omega), pk_un (by omega), ih]
    · exact ih
theorem as_T {t w : Nat} (hw : w < 13) : ∀ n, mT (asN N gv n) t w = if t < n ∧ SD N gv t then (if w = 2 then 1 else if w = 3 then gv t else if w = 4 then N 6 else mT N t w) else mT N t w
  | 0 => by rw [if_neg (fun z => Nat.not_lt_zero _ z.1)]; rfl
  | n + 1 => by
    have e2 : mT (asN N gv n) n 2 = mT N n 2 := by
      have := as_T (t := n) (w := 2) (by omega) n
      rw [if_neg (fun z => Nat.lt_irrefl _ z.1)] at this
      exact this
    rw [show asN N gv (n + 1) = if mT (asN N gv n) n 2 = 0 ∧ ¬ gv n = -1 then upd (upd (upd (asN N gv n) (111 + 13 * n + 2) 1) (111 + 13 * n + 3) (gv n)) (111 + 13 * n + 4) (asN N gv n 6) else asN N gv n from rfl, e2]
    by_cases c : mT N n 2 = 0 ∧ ¬ gv n = -1
    · rw [if_pos c, mT_uT (by omega) hw, mT_uT (by omega) hw, mT_uT (by omega) hw, as_T hw n, as_lo (by omega)]
      by_cases z : t = n
      · subst z
        rw [if_neg (show ¬ (t < t ∧ SD N gv t) from fun z => Nat.lt_irrefl _ z.1), if_pos (show t < t + 1 ∧ SD N gv t from ⟨by omega, c⟩)]
        by_cases w2 : w = 2
        · subst w2; simp
        · by_cases w3 : w = 3
          · subst w3; simp
          · by_cases w4 : w = 4
            · subst w4; simp
            · simp [w2, w3, w4]
      · rw [if_neg (fun q => z q.1), if_neg (fun q => z q.1), if_neg (fun q => z q.1)]
        by_cases z2 : t < n ∧ SD N gv t
        · rw [if_pos z2, if_pos (show t < n + 1 ∧ SD N gv t from ⟨by omega, z2.2⟩)]
        · rw [if_neg z2, if_neg (fun q => z2 ⟨by omega, q.2⟩)]
    · rw [if_neg c, as_T hw n]
      by_cases z : t = n
      · subst z
        rw [if_neg (show ¬ (t < t ∧ SD N gv t) from fun z => Nat.lt_irrefl _ z.1), if_neg (fun q => c q.2)]
      · by_cases z2 : t < n ∧ SD N gv t
        · rw [if_pos z2, if_pos (show t < n + 1 ∧ SD N gv t from ⟨by omega, z2.2⟩)]
        · rw [if_neg z2, if_neg (fun q => z2 ⟨by omega, q.2⟩)]
theorem as_t {t w : Nat} (ht : t < nt) (hw : w < 13) : mT (asN N gv nt) t w = if SD N gv t then (if w = 2 then 1 else if w = 3 then gv t else if w = 4 then N 6 else mT N t w) else mT N t w := by
  rw [as_T hw]
  by_cases c : SD N gv t
  · rw [if_pos ⟨ht, c⟩, if_pos c]
  · rw [if_neg (fun z => c z.2), if_neg c]
theorem as_t2 {t : Nat} (ht : t < nt) : mT (asN N gv nt) t 2 = if SD N gv t then 1 else mT N t 2 := by rw [as_t ht (by omega)]; rfl
theorem as_t3 {t : Nat} (ht : t < nt) : mT (asN N gv nt) t 3 = if SD N gv t then gv t else mT N t 3 := by rw [as_t ht (by omega)]; rfl
theorem as_t4 {t : Nat} (ht : t < nt) : mT (asN N gv nt) t 4 = if SD N gv t then N 6 else mT N t 4 := by rw [as_t ht (by omega)]; rfl
theorem as_tw {t w : Nat} (ht : t < nt) (hw : w < 13) (h2 : w ≠ 2) (h3 : w ≠ 3) (h4 : w ≠ 4) : mT (asN N gv nt) t w = mT N t w := by
  rw [as_t ht hw, if_neg h2, if_neg h3, if_neg h4]
  split <;> rfl
theorem as_SN (h40 : nt ≤ 40) : SN N (asN N gv nt) := by
  refine ⟨fun j hj => as_lo (by omega), fun a ha => as_lo (by omega), fun k w _ _ => as_lo (by omega), fun q w _ _ => as_lo (by omega), fun t w _ hw => ?_⟩
  rw [as_T (by omega)]
  split
  · rw [if_neg (by omega), if_neg (by omega), if_neg (by omega)]
  · rfl
theorem tOG_congr3 {N N' : Nat → Int32} {x : Int32} : ∀ {f t : Nat}, (∀ t', t ≤ t' → t' < t + f → mT N' t' 0 = mT N t' 0 ∧ (mT N' t' 2 = 2 ↔ mT N t' 2 = 2)) → tOG N' x f t = tOG N x f t
  | 0, _, _ => rfl
  | f + 1, t, h => by
    show (if mT N' t 0 = x then (if mT N' t 2 = 2 then tOG N' x f (t + 1) else nI t) else tOG N' x f (t + 1)) = (if mT N t 0 = x then (if mT N t 2 = 2 then tOG N x f (t + 1) else nI t) else tOG N x f (t + 1))
    rw [tOG_congr3 (f := f) (t := t + 1) (fun t' a b => h t' (by omega) (by omega)), (h t (by omega) (by omega)).1]
    by_cases e : mT N t 2 = 2
    · rw [if_pos e, if_pos ((h t (by omega) (by omega)).2.mpr e)]
    · rw [if_neg e, if_neg (fun z => e ((h t (by omega) (by omega)).2.mp z))]
theorem as_2 {t : Nat} (ht : t < nt) : mT (asN N gv nt) t 2 = 2 ↔ mT N t 2 = 2 := by
  rw [as_t ht (by omega)]
  by_cases c : SD N gv t
  · rw [if_pos c, if_pos rfl, c.1]; exact ⟨fun z => absurd z (by decide), fun z => absurd z (by decide)⟩
  · rw [if_neg c]
theorem as_0 {t : Nat} (ht : t < nt) : mT (asN N gv nt) t 0 = mT N t 0 := by
  rw [as_t ht (by omega)]
  split <;> rfl
theorem as_tO (x : Int32) : tOG (asN N gv nt) x nt 0 = tOG N x nt 0 := tOG_congr3 (fun t _ ht => ⟨as_0 (by omega), as_2 (by omega)⟩)
theorem as_dB (x : Int32) : dBG (asN N gv nt) x nt = dBG N x nt := by
  rw [dBG_n, dBG_n]
  congr 1
  refine sN_congr (fun t ht => ?_)
  (try dsimp only)
  rw [as_0 ht]
  by_cases c : mT N t 0 = x ∧ mT N t 2 = 2
  · rw [if_pos c, if_pos ⟨c.1, (as_2 ht).mpr c.2⟩]
  · rw [if_neg c, if_neg (fun z => c ⟨z.1, (as_2 ht).mp z.2⟩)]
theorem as_oN {k : Nat} (hk : k < 1000) : oN (asN N gv nt) (nI k) nt = oN N (nI k) nt + ldN N nt gv k := by
  unfold oN ldN
  rw [← sN_add]
  refine sN_congr (fun t ht => ?_)
  (try dsimp only)
  rw [as_t2 ht, as_t3 ht]
  by_cases c : SD N gv t
  · rw [if_pos c, if_pos c, if_neg (show ¬ (mT N t 2 = 1 ∧ mT N t 3 = nI k) from fun z => by rw [c.1] at z; exact absurd z.1 (by decide))]
    by_cases e : gv t = nI k
    · rw [if_pos ⟨rfl, e⟩, if_pos ⟨c.1, e⟩]
    · rw [if_neg (fun z => e z.2), if_neg (fun z => e z.2)]
  · rw [if_neg c, if_neg c, if_neg (show ¬ (mT N t 2 = 0 ∧ gv t = nI k) from fun z => c ⟨z.1, by rw [z.2]; exact nIm (by omega)⟩)]
    rfl
theorem as_WN (hW : WN N nl np nq nt B) (hF : FE N np nt (mfr N np nt) gv) : WN (asN N gv nt) nl np nq nt B := by
  have hW0 := hW
  obtain ⟨⟨-, -, -, hp6, -, hq8, -, h40⟩, ⟨r, r1, r9, er, hY⟩, hd, -, -, hU, hB⟩ := hW
  refine hW0.stat (as_SN h40) (by rw [as_lo (by omega)]; exact hd) (fun r' er' r1' r9' k hk => ?_) (fun t ht => ?_) (fun t t' a1 a2 a3 a4 a5 => ?_) hB
  · have : r' = r := nI_inj (by omega) (by omega) (by rw [← er, er'])
    subst this
    obtain ⟨p, c, n, s, sp, lo, bk, e1, e2, e3, e4, e5, e6, e7, e8, e9, e10, e11, e12, e13, e14, e15, e16, e17, e18⟩ := hY k hk
    have hy : ∀ w, w < 12 → mY (asN N gv nt) k w = mY N k w := fun w hw => as_lo (by omega)
    have hfr := mFree_eq e2 e8 e12 e13 e14 e15 e17 e18
    have hle := hF.2 k hk
    have hbr : bk / r' ≤ bk := Nat.div_le_self _ _
    have hsm : (n + bk / r' - sp - lo - bk) * p ≤ 18 * 9 := Nat.mul_le_mul (by omega) e4
    rw [show mfr N np nt k = mFree N nt k from if_pos hk, hfr, nI_toInt (by omega)] at hle
    exact ⟨p, c, n, s, sp, lo, bk, by rw [hy 0 (by omega)]; exact e1, by rw [hy 1 (by omega)]; exact e2, e3, e4, by rw [hy 0 (by omega)]; exact e5, by rw [hy 3 (by omega)]; exact e6, e7, by rw [hy 4 (by omega)]; exact e8, e9, by rw [hy 5 (by omega)]; exact e10, e11, by rw [hy 7 (by omega)]; exact e12, by rw [hy 8 (by omega)]; exact e13, by rw [hy 9 (by omega)]; exact e14, by rw [hy 10 (by omega)]; exact e15, e16, e17, by rw [as_oN (by omega)]; omega⟩
  · unfold stT
    rw [as_t2 ht, as_t3 ht, as_t4 ht, as_tw ht (w := 5) (by omega) (by omega) (by omega) (by omega), as_tw ht (w := 6) (by omega) (by omega) (by omega) (by omega)]
    by_cases c : SD N gv t
    · rw [if_pos c, if_pos c, if_pos c]
      right; left
      have hst : mT N t 5 = -1 ∧ mT N t 6 = 0 := by
        rcases hW0.st ht with z | z | z
        · exact ⟨z.2.2.2.1, z.2.2.2.2⟩
        · have cc := c.1; rw [z.1] at cc; exact absurd cc (by decide)
        · have cc := c.1; rw [z.1] at cc; exact absurd cc (by decide)
      refine ⟨rfl, ?_, hst.1, hst.2⟩
      rcases hF.1 t ht c.1 with z | ⟨k, z1, z2, -⟩
      · exact absurd z c.2
      · exact ⟨k, z1, z2⟩
    · rw [if_neg c, if_neg c, if_neg c]
      exact hW0.st ht
  · rw [as_0 a1, as_0 a2] at a3
    exact hU t t' a1 a2 a3 (fun z => a4 ((as_2 a1).mpr z)) (fun z => a5 ((as_2 a2).mpr z))
/-- the class sends the trips out -/
def ASR (H : Nat → Nat → Int32) (g : AH) (bits : Int32) (b : Nat) (N : Nat → Int32) (np nt : Nat) (Gg : Nat → Nat) (ix : Nat → Nat) (k : Nat) : Prop :=
  (∀ c j, c ≠ 11 → c ≠ 26 → c ≠ 27 → c ≠ 28 → g.1 b c j = H c j) ∧
  (∀ t, t < nt → g.1 b 26 t = (if mT N t 2 = 0 ∧ wN N t < k ∧ ¬ Gg (wN N t) = 6 then 1 else H 26 t) ∧ g.1 b 27 t = (if mT N t 2 = 0 ∧ wN N t < k ∧ ¬ Gg (wN N t) = 6 then nI (Gg (wN N t)) else H 27 t) ∧ g.1 b 28 t = (if mT N t 2 = 0 ∧ wN N t < k ∧ ¬ Gg (wN N t) = 6 then H 0 5 else H 28 t)) ∧
  (∀ c, c < np → g.1 b 11 c = H 11 c + nI (sN (fun k' => if Gg k' = c then 1 else 0) k)) ∧
  (∀ q, q < 32 → (bt bits q = true ↔ ∃ k', k' < k ∧ ¬ Gg k' = 6 ∧ mT N (ix k') 0 = nI q))
theorem as_step {h g : AH} {b : Nat} {bits : Int32} {Gg ix : Nat → Nat} {k : Nat} (hS : SR (h.1 b) N nl np nq nt) (hW : WN N nl np nq nt B) (hI : IX N nt ix) (hk : k < wN N nt) (hG : Gg k = 6 ∨ Gg k < np) (hA : ASR (h.1 b) g bits b N np nt Gg ix k) :
    ASR (h.1 b) (sendF g b (nI (ix k)) (nI (Gg k))) (bits ||| sendV g b (nI (ix k)) (nI (Gg k))) b N np nt Gg ix (k + 1) := by
  obtain ⟨⟨-, -, -, hp6, -, hq8, -, h40⟩, -, -, -, hT, -⟩ := hW
  obtain ⟨i1, i2, i3⟩ := hI.inv hk
  obtain ⟨a1, a2, a3, a4⟩ := hA
  have hw : ∀ t, t < nt → mT N t 2 = 0 → (wN N t < k + 1 ↔ wN N t < k ∨ t = ix k) := fun t ht hwt => by
    constructor
    · intro z
      by_cases y : wN N t < k
      · exact Or.inl y
      · right
        have : wN N t = k := by omega
        rw [← this, hI t ht hwt]
    · rintro (z | z)
      · omega
      · rw [z, i3]; omega
  have e3 : g.1 b 3 11 = nI np := by rw [a1 _ _ (by decide) (by decide) (by decide) (by decide)]; exact hS.1.2.1
  have e21 : g.1 b 21 9 = nI nt := by rw [a1 _ _ (by decide) (by decide) (by decide) (by decide)]; exact hS.1.2.2.2.1
  have e22 : g.1 b 22 (ix k) = mT N (ix k) 0 := by rw [a1 _ _ (by decide) (by decide) (by decide) (by decide)]; exact (hS.2.2.2.2 _ i1).1
  unfold sendF sendV
  rw [e3, e21, hasI_p i1 (by omega), if_neg (show ¬ (1 : Int32) = 0 by decide), if_neg (show ¬ (1 : Int32) = 0 by decide), nI_clamp (show ix k < 2 ^ 31 by omega)]
  by_cases z6 : Gg k = 6
  · have h6 : hasI (nI np) (nI (Gg k)) = 0 := by
      rw [z6]
      rcases hasI_cs np (by omega) (nI 6) with q | ⟨c', q1, q2, -⟩
      · exact q
      · exact absurd (nI_inj (by omega) (by omega) q2) (by omega)
    rw [if_pos h6, if_pos h6]
    have hcond : ∀ t, t < nt → ((mT N t 2 = 0 ∧ wN N t < k + 1 ∧ ¬ Gg (wN N t) = 6) ↔ (mT N t 2 = 0 ∧ wN N t < k ∧ ¬ Gg (wN N t) = 6)) := fun t ht => by
      constructor
      · rintro ⟨c1, c2, c3⟩
        rcases (hw t ht c1).mp c2 with y | y
        · exact ⟨c1, y, c3⟩
        · rw [y, i3] at c3; exact absurd z6 c3
      · rintro ⟨c1, c2, c3⟩
        exact ⟨c1, by omega, c3⟩
    refine ⟨a1, fun t ht => ?_, fun c hc => ?_, fun q hq => ?_⟩
    · simp only [hcond t ht]
      exact a2 t ht
    · rw [a3 c hc, show sN (fun k' => if Gg k' = c then 1 else 0) (k + 1) = sN (fun k' => if Gg k' = c then 1 else 0) k + (if Gg k = c then 1 else 0) from rfl, if_neg (by omega)]
      rfl
    · rw [Int32.or_zero, a4 q hq]
      constructor
      · rintro ⟨k', c1, c2⟩; exact ⟨k', by omega, c2⟩
      · rintro ⟨k', c1, c2, c3⟩
        refine ⟨k', ?_, c2, c3⟩
        have : k' ≠ k := fun y => c2 (by rw [y]; exact z6)
        omega
  · have hn : Gg k < np := by
      rcases hG with y | y
      · exact absurd y z6
      · exact y
    rw [hasI_p hn (by omega), if_neg (show ¬ (1 : Int32) = 0 by decide), if_neg (show ¬ (1 : Int32) = 0 by decide), nI_clamp (show Gg k < 2 ^ 31 by omega), e22]
    have e05 : g.1 b 0 5 = h.1 b 0 5 := a1 _ _ (by decide) (by decide) (by decide) (by decide)
    refine ⟨fun c j c11 c26 c27 c28 => ?_, fun t ht => ?_, fun c hc => ?_, fun q hq => ?_⟩
    · rw [ui_k c11, ui_k c28, ui_k c27, ui_k c26]; exact a1 c j c11 c26 c27 c28
    · obtain ⟨b1, b2, b3⟩ := a2 t ht
      by_cases y : t = ix k
      · have hc : mT N t 2 = 0 ∧ wN N t < k + 1 ∧ ¬ Gg (wN N t) = 6 := by rw [y, i3]; exact ⟨i2, by omega, z6⟩
        rw [if_pos hc, if_pos hc, if_pos hc, y, i3]
        refine ⟨by simp [ui], by simp [ui], ?_⟩
        rw [← e05]
        simp [ui]
      · have hcond : (mT N t 2 = 0 ∧ wN N t < k + 1 ∧ ¬ Gg (wN N t) = 6) ↔ (mT N t 2 = 0 ∧ wN N t < k ∧ ¬ Gg (wN N t) = 6) := by
          constructor
          · rintro ⟨c1, c2, c3⟩
            rcases (hw t ht c1).mp c2 with x | x
            · exact ⟨c1, x, c3⟩
            · exact absurd x y
          · rintro ⟨c1, c2, c3⟩
            exact ⟨c1, by omega, c3⟩
        simp only [hcond]
        rw [← b1, ← b2, ← b3]
        refine ⟨by simp [ui, y], by simp [ui, y], by simp [ui, y]⟩
    · rw [show sN (fun k' => if Gg k' = c then 1 else 0) (k + 1) = sN (fun k' => if Gg k' = c then 1 else 0) k + (if Gg k = c then 1 else 0) from rfl]
      by_cases y : c = Gg k
      · subst y
        rw [if_pos rfl, ui_eq, a3 _ hc, ← nI_1, Int32.add_assoc]
      · rw [if_neg (fun x => y x.symm), ui_j y, ui_k (by decide), ui_k (by decide), ui_k (by decide), a3 c hc]
        rfl
    · obtain ⟨⟨q0, hq0, eq0, -⟩, -⟩ := hT _ i1
      rw [b_or, eq0, b_1l (show q0 < 32 by omega) hq]
      constructor
      · intro y
        rcases Bool.or_eq_true_iff.mp y with y | y
        · obtain ⟨k', c1, c2⟩ := (a4 q hq).mp y
          exact ⟨k', by omega, c2⟩
        · have : q0 = q := by simpa using y
          exact ⟨k, by omega, z6, by rw [eq0, this]⟩
      · rintro ⟨k', c1, c2, c3⟩
        by_cases y : k' = k
        · rw [y, eq0] at c3
          have : q0 = q := nI_inj (by omega) (by omega) c3
          simp [this]
        · rw [(a4 q hq).mpr ⟨k', by omega, c2, c3⟩]; rfl
theorem sendF_fr {h2 h : AH} {b : Nat} {x y : Int32} (hf : frU h2 h b) : frU (sendF h2 b x y) h b := by
  unfold sendF
  split
  · exact hf
  · split
    · exact hf
    · exact (((hf.ui (by omega)).ui (by omega)).ui (by omega)).ui (by omega)
theorem asG_fr {g : AH} {b : Nat} {tr gv : Nat → Int32} : ∀ k, frU (asG b tr gv g k).2 g b
  | 0 => frU.rf
  | k + 1 => sendF_fr (asG_fr k)
theorem as_all {h g0 : AH} {b : Nat} {tr gg : Nat → Int32} {Gg ix : Nat → Nat} (hS : SR (h.1 b) N nl np nq nt) (hW : WN N nl np nq nt B) (hI : IX N nt ix) (e0 : g0.1 b = h.1 b) (htr : ∀ k, k < wN N nt → tr k = nI (ix k)) (hgg : ∀ k, k < wN N nt → gg k = nI (Gg k)) (hG : ∀ k, k < wN N nt → Gg k = 6 ∨ Gg k < np) :
    ∀ k, k ≤ wN N nt → ASR (h.1 b) (asG b tr gg g0 k).2 (asG b tr gg g0 k).1 b N np nt Gg ix k
  | 0, _ => by
    show ASR (h.1 b) g0 0 b N np nt Gg ix 0
    refine ⟨fun c j _ _ _ _ => by rw [e0], fun t ht => ?_, fun c hc => ?_, fun q hq => ?_⟩
    · rw [if_neg (fun z => Nat.not_lt_zero _ z.2.1), if_neg (fun z => Nat.not_lt_zero _ z.2.1), if_neg (fun z => Nat.not_lt_zero _ z.2.1), e0]
      exact ⟨rfl, rfl, rfl⟩
    · rw [e0]
      show h.1 b 11 c = h.1 b 11 c + 0
      rw [Int32.add_zero]
    · rw [b_0]
      exact ⟨fun z => absurd z (by decide), fun ⟨k', z, _⟩ => absurd z (Nat.not_lt_zero _)⟩
  | k + 1, hk => by
    have := as_step hS hW hI (show k < wN N nt by omega) (hG k (by omega)) (as_all hS hW hI e0 htr hgg hG k (by omega))
    rw [← htr k (by omega), ← hgg k (by omega)] at this
    exact this
def cI (N gv : Nat → Int32) (nt i k : Nat) : Nat := sN (fun t => if SD N gv t ∧ gv t = nI k ∧ (mT N t 0).toNatClampNeg < i then 1 else 0) nt
def CLR (H : Nat → Nat → Int32) (g : AH) (c : Nat) (N gv : Nat → Int32) (np nt i : Nat) : Prop :=
  (∀ cc j, cc ≠ 11 → cc ≠ 26 → cc ≠ 27 → cc ≠ 28 → g.1 c cc j = H cc j) ∧
  (∀ t, t < nt → g.1 c 26 t = (if SD N gv t ∧ (mT N t 0).toNatClampNeg < i then 0 else H 26 t) ∧ g.1 c 27 t = (if SD N gv t ∧ (mT N t 0).toNatClampNeg < i then -1 else H 27 t) ∧ g.1 c 28 t = (if SD N gv t ∧ (mT N t 0).toNatClampNeg < i then -1 else H 28 t)) ∧
  (∀ k, k < np → g.1 c 11 k + nI (cI N gv nt i k) = H 11 k)
theorem call_all {g : AH} {c : Nat} {bits : Int32} (hW : WN N nl np nq nt B) (hF : FE N np nt (mfr N np nt) gv) (hS : SR (g.1 c) (asN N gv nt) nl np nq nt) (hb : ∀ q, q < 8 → (bt bits q = true ↔ ∃ t, t < nt ∧ SD N gv t ∧ mT N t 0 = nI q)) :
    ∀ i, i ≤ nq → CLR (g.1 c) (callF g c bits i) c N gv np nt i
  | 0, _ => by
    refine ⟨fun _ _ _ _ _ _ => rfl, fun t ht => ?_, fun k hk => ?_⟩
    · rw [if_neg (fun z => Nat.not_lt_zero _ z.2), if_neg (fun z => Nat.not_lt_zero _ z.2), if_neg (fun z => Nat.not_lt_zero _ z.2)]
      exact ⟨rfl, rfl, rfl⟩
    · have : cI N gv nt 0 k = 0 := sN_0 (fun t ht => if_neg (fun z => Nat.not_lt_zero _ z.2.2))
      rw [this]
      exact Int32.add_zero _
  | i + 1, hi => by
    have hW0 := hW
    obtain ⟨⟨-, -, -, hp6, -, hq8, -, h40⟩, -, -, -, hT, hU, -⟩ := hW
    obtain ⟨a1, a2, a3⟩ := call_all hW0 hF hS hb i (by omega)
    rw [show callF g c bits (i + 1) = if (bits >>> (nI i &&& 31)) &&& 1 = 0 then callF g c bits i else if isOutF (callF g c bits i) c (nI i) = 0 then callF g c bits i else waitF (callF g c bits i) c ((callF g c bits i).1 c 18 i) from rfl]
    have hlq : ∀ t, t < nt → ∃ q, q < nq ∧ mT N t 0 = nI q ∧ (mT N t 0).toNatClampNeg = q := fun t ht => by
      obtain ⟨⟨q, e1, e2, -⟩, -⟩ := hT t ht
      exact ⟨q, e1, e2, by rw [e2, nI_clamp (by omega)]⟩
    by_cases hex : ∃ t, t < nt ∧ SD N gv t ∧ mT N t 0 = nI i
    · have hbit : ¬ (bits >>> (nI i &&& 31)) &&& 1 = 0 := fun z => by
        rw [bit_0 (by omega), ] at z
        rw [(hb i (by omega)).mpr hex] at z
        exact absurd z (by decide)
      obtain ⟨t, ht, hsd, h0⟩ := hex
      have hl : (mT N t 0).toNatClampNeg = i := by rw [h0, nI_clamp (by omega)]
      obtain ⟨k, hk, hgk⟩ : ∃ k, k < np ∧ gv t = nI k := by
        rcases hF.1 t ht hsd.1 with z | ⟨k, z1, z2, -⟩
        · exact absurd z hsd.2
        · exact ⟨k, z1, z2⟩
      have e18 : (callF g c bits i).1 c 18 i = nI t := by
        rw [a1 _ _ (by decide) (by decide) (by decide) (by decide), (hS.2.2.2.1 i (by omega)).2.2.1, as_tO, tOG_is h40 hU ht h0 (by rw [hsd.1]; decide)]
      have e26 : (callF g c bits i).1 c 26 t = 1 := by
        rw [(a2 t ht).1, if_neg (fun z => by omega), (hS.2.2.2.2 t ht).2.2.2.1, as_t2 ht, if_pos hsd]
      have e27 : (callF g c bits i).1 c 27 t = nI k := by
        rw [(a2 t ht).2.1, if_neg (fun z => by omega), (hS.2.2.2.2 t ht).2.2.2.2.1, as_t3 ht, if_pos hsd, hgk]
      have e15 : (callF g c bits i).1 c 15 5 = nI nq := by rw [a1 _ _ (by decide) (by decide) (by decide) (by decide)]; exact hS.1.2.2.1
      have e21 : (callF g c bits i).1 c 21 9 = nI nt := by rw [a1 _ _ (by decide) (by decide) (by decide) (by decide)]; exact hS.1.2.2.2.1
      have e3 : (callF g c bits i).1 c 3 11 = nI np := by rw [a1 _ _ (by decide) (by decide) (by decide) (by decide)]; exact hS.1.2.1
      have hout : ¬ isOutF (callF g c bits i) c (nI i) = 0 := by
        unfold isOutF
        rw [e15, e21, hasI_p (show i < nq by omega) (by omega), if_neg (show ¬ (1 : Int32) = 0 by decide), nI_clamp (show i < 2 ^ 31 by omega), e18, hasI_p ht (by omega), if_neg (show ¬ (1 : Int32) = 0 by decide), nI_clamp (show t < 2 ^ 31 by omega), e26, if_pos rfl]
        decide
      rw [if_neg hbit, if_neg hout, e18]
      have eW : waitF (callF g c bits i) c (nI t) = ui (ui (ui (ui (callF g c bits i) c 11 k ((callF g c bits i).1 c 11 k - 1)) c 26 t 0) c 27 t (-1)) c 28 t (-1) := by
        unfold waitF
        rw [e21, e3, hasI_p ht (by omega), if_neg (show ¬ (1 : Int32) = 0 by decide), nI_clamp (show t < 2 ^ 31 by omega), e27, hasI_p hk (by omega), if_neg (show ¬ (1 : Int32) = 0 by decide), nI_clamp (show k < 2 ^ 31 by omega)]
      rw [eW]
      have hun : ∀ t', t' < nt → t' ≠ t → SD N gv t' → ((mT N t' 0).toNatClampNeg < i + 1 ↔ (mT N t' 0).toNatClampNeg < i) := fun t' ht' hn hs => by
        obtain ⟨q, q1, q2, q3⟩ := hlq t' ht'
        have : q ≠ i := fun z => hn (hU t' t ht' ht (by rw [q2, h0, z]) (by rw [hs.1]; decide) (by rw [hsd.1]; decide))
        omega
      refine ⟨fun cc j c11 c26 c27 c28 => ?_, fun t' ht' => ?_, fun k' hk' => ?_⟩
      · rw [ui_k c28, ui_k c27, ui_k c26, ui_k c11]; exact a1 cc j c11 c26 c27 c28
      · by_cases z : t' = t
        · subst z
          have hc : SD N gv t' ∧ (mT N t' 0).toNatClampNeg < i + 1 := ⟨hsd, by omega⟩
          rw [if_pos hc, if_pos hc, if_pos hc]
          exact ⟨by simp [ui], by simp [ui], by simp [ui]⟩
        · obtain ⟨b1, b2, b3⟩ := a2 t' ht'
          have hc : (SD N gv t' ∧ (mT N t' 0).toNatClampNeg < i + 1) ↔ (SD N gv t' ∧ (mT N t' 0).toNatClampNeg < i) := ⟨fun y => ⟨y.1, (hun t' ht' z y.1).mp y.2⟩, fun y => ⟨y.1, by omega⟩⟩
          simp only [hc]
          rw [← b1, ← b2, ← b3]
          exact ⟨by simp [ui, z], by simp [ui, z], by simp [ui, z]⟩
      · have hu := sN_upd (f := fun t => if SD N gv t ∧ gv t = nI k' ∧ (mT N t 0).toNatClampNeg < i then 1 else 0) (g := fun t => if SD N gv t ∧ gv t = nI k' ∧ (mT N t 0).toNatClampNeg < i + 1 then 1 else 0) (t := t) (n := nt) ht (fun t' ht' hn => by
          (try dsimp only)
          by_cases y : SD N gv t' ∧ gv t' = nI k' ∧ (mT N t' 0).toNatClampNeg < i
          · rw [if_pos y, if_pos ⟨y.1, y.2.1, by omega⟩]
          · rw [if_neg y, if_neg (fun x => y ⟨x.1, x.2.1, (hun t' ht' hn x.1).mp x.2.2⟩)])
        have hf0 : ¬ (SD N gv t ∧ gv t = nI k' ∧ (mT N t 0).toNatClampNeg < i) := fun y => by omega
        simp only [if_neg hf0, Nat.add_zero] at hu
        have hu2 : cI N gv nt (i + 1) k' = cI N gv nt i k' + (if SD N gv t ∧ gv t = nI k' ∧ (mT N t 0).toNatClampNeg < i + 1 then 1 else 0) := hu
        rw [hu2, ← a3 k' hk', ui_k (by decide), ui_k (by decide), ui_k (by decide)]
        by_cases z : k' = k
        · subst z
          rw [if_pos ⟨hsd, hgk, by omega⟩, ui_eq, ← nI_1]
          generalize (callF g c bits i).1 c 11 k' = u
          generalize nI (cI N gv nt i k') = v
          grind
        · rw [if_neg (fun y => z (nI_inj (by omega) (by omega) (by rw [← y.2.1, hgk]))), ui_j z]
          rfl
    · have hbit : (bits >>> (nI i &&& 31)) &&& 1 = 0 := by
        rw [bit_0 (by omega)]
        cases e : bt bits i with
        | false => rfl
        | true => exact absurd ((hb i (by omega)).mp e) hex
      rw [if_pos hbit]
      have hun : ∀ t', t' < nt → SD N gv t' → ((mT N t' 0).toNatClampNeg < i + 1 ↔ (mT N t' 0).toNatClampNeg < i) := fun t' ht' hs => by
        obtain ⟨q, q1, q2, q3⟩ := hlq t' ht'
        have : q ≠ i := fun z => hex ⟨t', ht', hs, by rw [q2, z]⟩
        omega
      refine ⟨a1, fun t' ht' => ?_, fun k' hk' => ?_⟩
      · have hc : (SD N gv t' ∧ (mT N t' 0).toNatClampNeg < i + 1) ↔ (SD N gv t' ∧ (mT N t' 0).toNatClampNeg < i) := ⟨fun y => ⟨y.1, (hun t' ht' y.1).mp y.2⟩, fun y => ⟨y.1, by omega⟩⟩
        simp only [hc]
        exact a2 t' ht'
      · rw [← a3 k' hk']
        congr 2
        refine sN_congr (fun t' ht' => ?_)
        (try dsimp only)
        by_cases y : SD N gv t' ∧ gv t' = nI k' ∧ (mT N t' 0).toNatClampNeg < i
        · rw [if_pos y, if_pos ⟨y.1, y.2.1, by omega⟩]
        · rw [if_neg y, if_neg (fun x => y ⟨x.1, x.2.1, (hun t' ht' x.1).mp x.2.2⟩)]
theorem as_LNK {bits : Int32} (hW : WN N nl np nq nt B) (hF : FE N np nt (mfr N np nt) gv) (hb : ∀ q, q < 8 → (bt bits q = true ↔ ∃ t, t < nt ∧ SD N gv t ∧ mT N t 0 = nI q)) : LNK nl np nq 1 (-1) bits N (asN N gv nt) := by
  intro g c hG
  have hW' := as_WN hW hF
  rw [hW'.ct] at hG
  rw [hW.ct]
  have eU : undoF g c 1 (-1) bits nq = callF g c bits nq := by
    unfold undoF
    rw [if_neg (by decide), if_pos rfl]
  rw [eU]
  obtain ⟨a1, a2, a3⟩ := call_all hW hF hG hb nq (Nat.le_refl _)
  have hW0 := hW
  obtain ⟨⟨-, -, -, hp6, -, hq8, -, h40⟩, -, -, -, hT, hU, -⟩ := hW
  have hlt : ∀ t, t < nt → (mT N t 0).toNatClampNeg < nq := fun t ht => by
    obtain ⟨⟨q, e1, e2, -⟩, -⟩ := hT t ht
    rw [e2, nI_clamp (by omega)]; exact e1
  refine hG.stat hp6 hq8 h40 hW'.m6 (fun k j hk => a1 k j hk.2.1 hk.2.2.2.2.2.2.2.2.1 hk.2.2.2.2.2.2.2.2.2.1 hk.2.2.2.2.2.2.2.2.2.2.1) (as_SN h40).symm ?_ (fun k hk => ?_) (fun q hq => ?_) (fun t ht => ?_)
  · rw [a1 _ _ (by decide) (by decide) (by decide) (by decide), hG.1.2.2.2.2.2.1, as_lo (by omega)]
  · obtain ⟨-, -, -, -, -, -, -, t11, t12, t13, t14⟩ := hG.2.2.1 k hk
    rw [show mY (asN N gv nt) k 7 = mY N k 7 from as_lo (by omega)] at t12
    rw [show mY (asN N gv nt) k 8 = mY N k 8 from as_lo (by omega)] at t13
    rw [show mY (asN N gv nt) k 9 = mY N k 9 from as_lo (by omega)] at t14
    rw [a1 12 _ (by decide) (by decide) (by decide) (by decide), a1 13 _ (by decide) (by decide) (by decide) (by decide), a1 14 _ (by decide) (by decide) (by decide) (by decide)]
    refine ⟨?_, t12, t13, t14⟩
    have := a3 k hk
    rw [t11, oBG_n, as_oN (by omega), show cI N gv nt nq k = ldN N nt gv k from sN_congr (fun t ht => by
      (try dsimp only)
      by_cases y : mT N t 2 = 0 ∧ gv t = nI k
      · rw [if_pos y, if_pos ⟨⟨y.1, by rw [y.2]; exact nIm (by omega)⟩, y.2, hlt t ht⟩]
      · rw [if_neg y, if_neg (fun x => y ⟨x.1.1, x.2.1⟩)]), ← nI_add] at this
    rw [oBG_n]
    exact (Int32.add_left_inj _).mp this
  · obtain ⟨-, -, t18, t19, t20⟩ := hG.2.2.2.1 q hq
    rw [as_tO] at t18
    rw [show mQ (asN N gv nt) q 2 = mQ N q 2 from as_lo (by omega)] at t19
    rw [as_dB] at t20
    rw [a1 18 _ (by decide) (by decide) (by decide) (by decide), a1 19 _ (by decide) (by decide) (by decide) (by decide), a1 20 _ (by decide) (by decide) (by decide) (by decide)]
    exact ⟨t18, t19, t20⟩
  · obtain ⟨-, -, -, t26, t27, t28, t29, t30, -⟩ := hG.2.2.2.2 t ht
    obtain ⟨b1, b2, b3⟩ := a2 t ht
    rw [as_tw ht (w := 5) (by omega) (by omega) (by omega) (by omega)] at t29
    rw [as_tw ht (w := 6) (by omega) (by omega) (by omega) (by omega)] at t30
    rw [b1, b2, b3, a1 29 _ (by decide) (by decide) (by decide) (by decide), a1 30 _ (by decide) (by decide) (by decide) (by decide), t26, t27, t28, as_t2 ht, as_t3 ht, as_t4 ht]
    by_cases y : SD N gv t
    · rw [if_pos ⟨y, hlt t ht⟩, if_pos ⟨y, hlt t ht⟩, if_pos ⟨y, hlt t ht⟩]
      rcases hW0.st ht with z | z | z
      · exact ⟨y.1.symm, z.2.1.symm, z.2.2.1.symm, t29, t30⟩
      · have cc := y.1; rw [z.1] at cc; exact absurd cc (by decide)
      · have cc := y.1; rw [z.1] at cc; exact absurd cc (by decide)
    · have y2 : ¬ (SD N gv t ∧ (mT N t 0).toNatClampNeg < nq) := fun x => y x.1
      rw [if_neg y2, if_neg y2, if_neg y2, if_neg y, if_neg y, if_neg y]
      exact ⟨rfl, rfl, rfl, t29, t30⟩
theorem as_SR {h g : AH} {b : Nat} {bits : Int32} {Gg ix : Nat → Nat} (hS : SR (h.1 b) N nl np nq nt) (hW : WN N nl np nq nt B) (hI : IX N nt ix) (hF : FE N np nt (mfr N np nt) gv) (hcd : ∀ k, k < wN N nt → Gg k = cd N gv (ix k)) (hA : ASR (h.1 b) g bits b N np nt Gg ix (wN N nt)) :
    SR (g.1 b) (asN N gv nt) nl np nq nt ∧ ∀ q, q < 8 → (bt bits q = true ↔ ∃ t, t < nt ∧ SD N gv t ∧ mT N t 0 = nI q) := by
  have hW0 := hW
  obtain ⟨⟨-, -, -, hp6, -, hq8, -, h40⟩, -, -, -, hT, hU, -⟩ := hW
  obtain ⟨a1, a2, a3, a4⟩ := hA
  have hval : ∀ t, t < nt → mT N t 2 = 0 → (Gg (wN N t) = 6 ↔ gv t = -1) ∧ (¬ gv t = -1 → nI (Gg (wN N t)) = gv t) := fun t ht hwt => by
    have h1 := hcd _ (wN_lt ht hwt)
    rw [hI t ht hwt] at h1
    rcases hF.1 t ht hwt with z | ⟨k, z1, z2, -⟩
    · rw [cd_n hwt z] at h1
      exact ⟨⟨fun _ => z, fun _ => h1⟩, fun y => absurd z y⟩
    · rw [cd_k (by omega) hwt z2] at h1
      refine ⟨⟨fun y => by omega, fun y => ?_⟩, fun _ => by rw [h1, z2]⟩
      rw [z2] at y; exact absurd y (nIm (by omega))
  have hsd : ∀ t, t < nt → ((mT N t 2 = 0 ∧ wN N t < wN N nt ∧ ¬ Gg (wN N t) = 6) ↔ SD N gv t) := fun t ht => by
    constructor
    · rintro ⟨c1, c2, c3⟩
      exact ⟨c1, fun y => c3 ((hval t ht c1).1.mpr y)⟩
    · rintro ⟨c1, c2⟩
      exact ⟨c1, wN_lt ht c1, fun y => c2 ((hval t ht c1).1.mp y)⟩
  refine ⟨?_, fun q hq => ?_⟩
  · refine hS.stat hp6 hq8 h40 hW0.m6 (fun k j hk => a1 k j hk.2.1 hk.2.2.2.2.2.2.2.2.1 hk.2.2.2.2.2.2.2.2.2.1 hk.2.2.2.2.2.2.2.2.2.2.1) (as_SN h40) ?_ (fun k hk => ?_) (fun q hq => ?_) (fun t ht => ?_)
    · rw [a1 _ _ (by decide) (by decide) (by decide) (by decide), hS.1.2.2.2.2.2.1, as_lo (by omega)]
    · obtain ⟨-, -, -, -, -, -, -, t11, t12, t13, t14⟩ := hS.2.2.1 k hk
      rw [show mY (asN N gv nt) k 7 = mY N k 7 from as_lo (by omega), show mY (asN N gv nt) k 8 = mY N k 8 from as_lo (by omega), show mY (asN N gv nt) k 9 = mY N k 9 from as_lo (by omega),
        a1 12 _ (by decide) (by decide) (by decide) (by decide), a1 13 _ (by decide) (by decide) (by decide) (by decide), a1 14 _ (by decide) (by decide) (by decide) (by decide)]
      refine ⟨?_, t12, t13, t14⟩
      rw [a3 k hk, t11, oBG_n, oBG_n, as_oN (by omega), nI_add, ld_ix hI]
      congr 2
      refine sN_congr (fun k' hk' => ?_)
      (try dsimp only)
      obtain ⟨i1, i2, i3⟩ := hI.inv hk'
      have h1 := hval _ i1 i2
      rw [i3] at h1
      by_cases y : gv (ix k') = nI k
      · have hn : ¬ gv (ix k') = -1 := by rw [y]; exact nIm (by omega)
        have := h1.2 hn
        rw [y] at this
        have hk6 : ¬ Gg k' = 6 := fun z => hn (h1.1.mp z)
        have hlt7 : Gg k' < 8 := by rw [hcd k' hk']; exact cd_lt hp6 (fun _ => (hF.1 _ i1 i2).rng)
        rw [if_pos y, if_pos (nI_inj (by omega) (by omega) this)]
      · rw [if_neg y, if_neg]
        intro z
        have hk6 : ¬ Gg k' = 6 := by omega
        have hn : ¬ gv (ix k') = -1 := fun x => hk6 (h1.1.mpr x)
        exact y (by rw [← h1.2 hn, z])
    · obtain ⟨-, -, t18, t19, t20⟩ := hS.2.2.2.1 q hq
      rw [as_tO, as_dB, show mQ (asN N gv nt) q 2 = mQ N q 2 from as_lo (by omega), a1 18 _ (by decide) (by decide) (by decide) (by decide), a1 19 _ (by decide) (by decide) (by decide) (by decide), a1 20 _ (by decide) (by decide) (by decide) (by decide)]
      exact ⟨t18, t19, t20⟩
    · obtain ⟨-, -, -, t26, t27, t28, t29, t30, -⟩ := hS.2.2.2.2 t ht
      obtain ⟨b1, b2, b3⟩ := a2 t ht
      rw [b1, b2, b3, as_t2 ht, as_t3 ht, as_t4 ht, as_tw ht (w := 5) (by omega) (by omega) (by omega) (by omega), as_tw ht (w := 6) (by omega) (by omega) (by omega) (by omega), a1 29 _ (by decide) (by decide) (by decide) (by decide), a1 30 _ (by decide) (by decide) (by decide) (by decide), t26, t27, t28, hS.1.2.2.2.2.2.1]
      by_cases y : SD N gv t
      · have y2 := (hsd t ht).mpr y
        rw [if_pos y2, if_pos y2, if_pos y2, if_pos y, if_pos y, if_pos y]
        exact ⟨rfl, (hval t ht y.1).2 y.2, rfl, t29, t30⟩
      · have y2 : ¬ (mT N t 2 = 0 ∧ wN N t < wN N nt ∧ ¬ Gg (wN N t) = 6) := fun x => y ((hsd t ht).mp x)
        rw [if_neg y2, if_neg y2, if_neg y2, if_neg y, if_neg y, if_neg y]
        exact ⟨rfl, rfl, rfl, t29, t30⟩
  · rw [a4 q (by omega)]
    constructor
    · rintro ⟨k', c1, c2, c3⟩
      obtain ⟨i1, i2, i3⟩ := hI.inv c1
      refine ⟨ix k', i1, (hsd _ i1).mp ⟨i2, by rw [i3]; exact c1, by rw [i3]; exact c2⟩, c3⟩
    · rintro ⟨t, c1, c2, c3⟩
      obtain ⟨d1, d2, d3⟩ := (hsd t c1).mpr c2
      exact ⟨wN N t, d2, d3, by rw [hI t c1 d1]; exact c3⟩
theorem hz_as (hz : ∀ j, 631 ≤ j → N j = 0) : ∀ n, n ≤ 40 → ∀ j, 631 ≤ j → asN N gv n j = 0
  | 0, _, j, hj => hz j hj
  | n + 1, hn, j, hj => by
    show (if mT (asN N gv n) n 2 = 0 ∧ ¬ gv n = -1 then upd (upd (upd (asN N gv n) (111 + 13 * n + 2) 1) (111 + 13 * n + 3) (gv n)) (111 + 13 * n + 4) (asN N gv n 6) else asN N gv n) j = 0
    split
    · rw [pk_un (by omega), pk_un (by omega), pk_un (by omega)]; exact hz_as hz n (by omega) j hj
    · exact hz_as hz n (by omega) j hj
end
theorem call_assign {h : AH} {B : Nat} {l : Launch} {G : GG} (hC : CPL h B) (h9 : B + 9 ≤ 9000) : Ct l G 5 yX10_assign cX10_assign 3 (some .int) [.ref (G.1 0 0)] h (RK l G 8 yX11_assign cX11_assign 2 (some .int) [.ref (G.1 3 0)] B) := by
  obtain ⟨b, d, nl, np, nq, nt, sm, ax, L, hX⟩ := hC
  have hX0 := hX
  obtain ⟨-, -, -, hg, hS, hW, hz, -, -⟩ := hX
  obtain ⟨hb3, hb0, hd3, hd0⟩ := hX0.b3
  have hbd : b ≠ d := hX0.1.2.2.1
  have hp6 : np ≤ 6 := hW.1.2.2.2.1
  have h40 : nt ≤ 40 := hW.1.2.2.2.2.2.2.2
  refine c10_assign hX0.WB hg ⟨_, rfl, ?_⟩
  unfold asgF
  obtain ⟨s1, s2⟩ := su_SU hS hW hb0 hg
  obtain ⟨s4, ix, Gg, q1, q2, q3, q4, q5, q6⟩ := sol_SU hW.PW hW.w8 s1
  have hF : FR0 (planH h b nt) h := by unfold planH; exact FR0_sol.tr FR0_su
  have hH : planH h b nt = solveF (setUpF h b nt) (wN (h.1 3 2) nt) := by unfold planH; rw [s2]
  rw [← hH] at q2 q3 q6 s4
  have hrg : rngG ((planH h b nt).1 0 11) := s4.choose_spec.2.2.2.2.2.2
  have hA := as_all (g0 := planH h b nt) (tr := (planH h b nt).1 0 7) (gg := (planH h b nt).1 0 11) (Gg := Gg) hS hW q1 (hF.1 b hb0) q2 (fun k hk => (q3 k hk).1) (fun k hk => gOf_np q1 q4.1 hk (q3 k hk).2) (wN (h.1 3 2) nt) (Nat.le_refl _)
  have eR : asgR h b nt = asG b ((planH h b nt).1 0 7) ((planH h b nt).1 0 11) (planH h b nt) (wN (h.1 3 2) nt) := by unfold asgR; rw [s2]
  rw [← eR] at hA
  have hfr : frU (asgR h b nt).2 (planH h b nt) b := by rw [eR]; exact asG_fr _
  generalize asgR h b nt = R at *
  have r3 : R.2.1 3 = h.1 3 := by rw [← hF.1 3 (by decide)]; funext k j; exact hfr.1 3 k j (Or.inl hb3.symm)
  have r0 : R.2.1 0 = (planH h b nt).1 0 := by funext k j; exact hfr.1 0 k j (Or.inl hb0.symm)
  have rd : R.2.1 d = h.1 d := by rw [← hF.1 d hd0]; funext k j; exact hfr.1 d k j (Or.inl hbd.symm)
  have rk : ∀ k, 31 ≤ k → R.2.1 b k = h.1 b k := fun k hk => by rw [← hF.1 b hb0]; funext j; exact hfr.1 b k j (Or.inr hk)
  have e3 : (keepF R.2 b 1 (-1) R.1).1 3 = h.1 3 := by rw [keepF_b hb3.symm, r3]
  refine c11_assign (hX0.WM.fr e3) (by rw [e3]; exact hW.PP) (fun fr us gv cm qu st hL hR6 => ?_)
  rw [e3] at hL ⊢
  have hMR : MR (h.1 3 2) np nt (mfr (h.1 3 2) np nt) gv := ⟨hL.1, hL.2.1⟩
  refine ⟨by rw [q6, (MR_srv hW.PW hW.w8 q4 hMR).1], ?_⟩
  obtain ⟨c1, c2⟩ := as_SR hS hW q1 hL.1 (q5 gv hL) hA
  refine ⟨b, d, nl, np, nq, nt, snapM sm, (ax + 1) % 10, L, hX0.push (g := R.2) (kd := 1) (wh := -1) (am := R.1) (by omega) h9 rk rd (by rw [r0]; exact hF.2 0 (by omega)) (by rw [r0]; exact hF.2 1 (by omega)) (by rw [r0]; exact hF.2 2 (by omega)) (by rw [r0]; exact hrg) c1 ((as_WN hW hL.1).mono (by omega) h9) (as_LNK hW hL.1 c2) (hz_as hz nt h40) (fun b' hb' => ?_) ?_ rfl rfl ?_ ?_ rfl⟩
  · rw [nH_b hb', qH_b hb', SM_b hb']
    funext k j
    exact ui_b hb'
  · funext j
    show (SM (ui (keepF R.2 b 1 (-1) R.1) 3 0 0 0) (nI (srvN (h.1 3 2) nt gv)) (nI (scN (h.1 3 2) nt gv))).1 3 1 j = _
    unfold SM
    rw [ui_k (by decide), ui_k (by decide), ui_k (by decide), e3]
  · show (SM (ui (keepF R.2 b 1 (-1) R.1) 3 0 0 0) (nI (srvN (h.1 3 2) nt gv)) (nI (scN (h.1 3 2) nt gv))).1 3 0 2 = _
    unfold SM
    rw [ui_j (by decide), ui_j (by decide), ui_j (by decide), e3]
  · show (SM (ui (keepF R.2 b 1 (-1) R.1) 3 0 0 0) (nI (srvN (h.1 3 2) nt gv)) (nI (scN (h.1 3 2) nt gv))).1 3 0 8 = _
    unfold SM
    rw [ui_j (by decide), ui_j (by decide), ui_j (by decide), e3]
