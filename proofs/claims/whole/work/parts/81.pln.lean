/-! THE PLAN of class and reference: the trips that wait, in a row -/
def IX (N : Nat → Int32) (nt : Nat) (ix : Nat → Nat) : Prop := ∀ t, t < nt → mT N t 2 = 0 → ix (wN N t) = t
section
variable {N : Nat → Int32} {np nt w : Nat} {ix : Nat → Nat}
theorem wN_s {t : Nat} : wN N (t + 1) = wN N t + (if mT N t 2 = 0 then 1 else 0) := rfl
theorem wN_mono : ∀ {n m : Nat}, n ≤ m → wN N n ≤ wN N m
  | n, 0, h => by rw [show n = 0 by omega]; exact Nat.le_refl _
  | n, m + 1, h => by
    by_cases e : n = m + 1
    · rw [e]; exact Nat.le_refl _
    · have := wN_mono (n := n) (m := m) (by omega)
      rw [wN_s]; omega
theorem wN_ex {k : Nat} : ∀ n, k < wN N n → ∃ t, t < n ∧ mT N t 2 = 0 ∧ wN N t = k
  | 0, h => absurd h (Nat.not_lt_zero _)
  | n + 1, h => by
    by_cases e : k < wN N n
    · obtain ⟨t, a, c⟩ := wN_ex n e
      exact ⟨t, by omega, c⟩
    · rw [wN_s] at h
      by_cases e2 : mT N n 2 = 0
      · rw [if_pos e2] at h
        exact ⟨n, by omega, e2, by omega⟩
      · rw [if_neg e2] at h; omega
theorem IX.inv (h : IX N nt ix) {k : Nat} (hk : k < wN N nt) : ix k < nt ∧ mT N (ix k) 2 = 0 ∧ wN N (ix k) = k := by
  obtain ⟨t, a, c, e⟩ := wN_ex nt hk
  have := h t a c
  rw [e] at this
  rw [this]
  exact ⟨a, c, e⟩
theorem wN_lt {t : Nat} (ht : t < nt) (h : mT N t 2 = 0) : wN N t < wN N nt := by
  have := wN_mono (N := N) (n := t + 1) (m := nt) ht
  rw [wN_s, if_pos h] at this
  omega
theorem sN_ix (h : IX N nt ix) (F : Nat → Nat) : ∀ n, n ≤ nt → sN (fun t => if mT N t 2 = 0 then F t else 0) n = sN (fun k => F (ix k)) (wN N n)
  | 0, _ => rfl
  | n + 1, hn => by
    show sN (fun t => if mT N t 2 = 0 then F t else 0) n + (if mT N n 2 = 0 then F n else 0) = _
    rw [sN_ix h F n (by omega), wN_s]
    by_cases e : mT N n 2 = 0
    · rw [if_pos e, if_pos e]
      show _ = sN (fun k => F (ix k)) (wN N n) + F (ix (wN N n))
      rw [h n (by omega) e]
    · rw [if_neg e, if_neg e]; rfl
theorem UU_ix (h : IX N nt ix) (g : Nat → Int32) : UU N nt g = sN (fun k => prU N (cd N g (ix k))) (wN N nt) := by
  rw [← sN_ix h (fun t => prU N (cd N g t)) nt (Nat.le_refl _)]
  refine sN_congr (fun t ht => ?_)
  (try dsimp only)
  by_cases e : mT N t 2 = 0
  · rw [if_pos e]
  · rw [if_neg e, cd_7 e]; rfl
theorem ld_ix (h : IX N nt ix) (g : Nat → Int32) (c : Nat) : ldN N nt g c = sN (fun k => if g (ix k) = nI c then 1 else 0) (wN N nt) := by
  rw [← sN_ix h (fun t => if g t = nI c then 1 else 0) nt (Nat.le_refl _)]
  refine sN_congr (fun t ht => ?_)
  (try dsimp only)
  by_cases e : mT N t 2 = 0
  · by_cases e2 : g t = nI c
    · rw [if_pos e, if_pos e2, if_pos ⟨e, e2⟩]
    · rw [if_pos e, if_neg e2, if_neg (fun z => e2 z.2)]
  · rw [if_neg e, if_neg (fun z => e z.1)]
theorem srv_ix (h : IX N nt ix) (g : Nat → Int32) : srvN N nt g = sN (fun k => if g (ix k) = -1 then 0 else 1) (wN N nt) := by
  rw [← sN_ix h (fun t => if g t = -1 then 0 else 1) nt (Nat.le_refl _)]
  refine sN_congr (fun t ht => ?_)
  (try dsimp only)
  by_cases e : mT N t 2 = 0
  · by_cases e2 : g t = -1
    · rw [if_pos e, if_pos e2, if_neg (fun z => z.2 e2)]
    · rw [if_pos e, if_neg e2, if_pos ⟨e, e2⟩]
  · rw [if_neg e, if_neg (fun z => e z.1)]
theorem sc_ix (h : IX N nt ix) (g : Nat → Int32) : scN N nt g = sN (fun k => if g (ix k) = -1 then 0 else cst N (g (ix k)).toNatClampNeg) (wN N nt) := by
  rw [← sN_ix h (fun t => if g t = -1 then 0 else cst N (g t).toNatClampNeg) nt (Nat.le_refl _)]
  refine sN_congr (fun t ht => ?_)
  (try dsimp only)
  by_cases e : mT N t 2 = 0
  · by_cases e2 : g t = -1
    · rw [if_pos e, if_pos e2, if_neg (fun z => z.2 e2)]
    · rw [if_pos e, if_neg e2, if_pos ⟨e, e2⟩]
  · rw [if_neg e, if_neg (fun z => e z.1)]
end
/-! digits -/
def Lx (b : Nat → Nat) : Nat → Nat
  | 0 => 0
  | n + 1 => 7 * Lx b n + b n
theorem sN_mul {f : Nat → Nat} {A : Nat} : ∀ n, sN (fun k => f k * A) n = A * sN f n
  | 0 => rfl
  | n + 1 => by
    show sN (fun k => f k * A) n + f n * A = A * (sN f n + f n)
    rw [sN_mul n, Nat.mul_add, Nat.mul_comm (f n) A]
theorem Lx_sum (b : Nat → Nat) : ∀ w, sN (fun k => b k * 7 ^ (w - 1 - k)) w = Lx b w
  | 0 => rfl
  | w + 1 => by
    show sN (fun k => b k * 7 ^ (w + 1 - 1 - k)) w + b w * 7 ^ (w + 1 - 1 - w) = 7 * Lx b w + b w
    rw [← Lx_sum b w, ← sN_mul, show w + 1 - 1 - w = 0 by omega, Nat.pow_zero, Nat.mul_one]
    congr 1
    refine sN_congr (fun k hk => ?_)
    (try dsimp only)
    rw [show w + 1 - 1 - k = (w - 1 - k) + 1 by omega, Nat.pow_succ, Nat.mul_assoc]
theorem Lx_lt {b : Nat → Nat} : ∀ w, (∀ k, k < w → b k < 7) → Lx b w < 7 ^ w
  | 0, _ => Nat.one_pos
  | w + 1, h => by
    have := Lx_lt w (fun k hk => h k (by omega))
    have h2 := h w (by omega)
    show 7 * Lx b w + b w < 7 ^ (w + 1)
    rw [Nat.pow_succ]
    omega
theorem Lx_congr {a b : Nat → Nat} : ∀ w, (∀ k, k < w → a k = b k) → Lx a w = Lx b w
  | 0, _ => rfl
  | w + 1, h => by
    show 7 * Lx a w + a w = 7 * Lx b w + b w
    rw [Lx_congr w (fun k hk => h k (by omega)), h w (by omega)]
theorem Lx_lex {a b : Nat → Nat} {k : Nat} (h1 : ∀ j, j < k → a j = b j) (h2 : a k < b k) : ∀ w, k < w → (∀ j, j < w → a j < 7) → Lx a w < Lx b w
  | 0, hk, _ => absurd hk (Nat.not_lt_zero _)
  | w + 1, hk, h7 => by
    show 7 * Lx a w + a w < 7 * Lx b w + b w
    by_cases e : k = w
    · subst e
      rw [Lx_congr k h1]; omega
    · have := Lx_lex h1 h2 w (by omega) (fun j hj => h7 j (by omega))
      have := h7 w (by omega)
      omega
/-- the class's prices -/
def PRC (N : Nat → Int32) (np w : Nat) (P : Nat → Int64) (ix : Nat → Nat) : Prop := ∀ k, k < w → (∀ c, c < 6 → (c < np ∧ ¬ fitM N c (ix k) = 0 ∧ pz P k c = ((cst N c * 5764801 + c * 7 ^ (w - 1 - k) : Nat) : Int)) ∨ (¬ (c < np ∧ ¬ fitM N c (ix k) = 0) ∧ pz P k c = FARz)) ∧ pz P k 6 = ((1000 * 5764801 + 6 * 7 ^ (w - 1 - k) : Nat) : Int)
def gOf (N : Nat → Int32) (G : Nat → Nat) : Nat → Int32 := fun t => if mT N t 2 = 0 then (if G (wN N t) = 6 then -1 else nI (G (wN N t))) else -1
section
variable {N : Nat → Int32} {np nt w : Nat} {ix G : Nat → Nat} {P : Nat → Int64} {R : Nat → Int} {L g fr : Nat → Int32} {π : Nat → Int}
theorem p7 {w k : Nat} (hw : w ≤ 8) : 7 ^ (w - 1 - k) ≤ 823543 := Nat.le_trans (Nat.pow_le_pow_right (by omega) (show w - 1 - k ≤ 7 by omega)) (by decide)
theorem gOf_ix (h : IX N nt ix) {k : Nat} (hk : k < wN N nt) : gOf N G (ix k) = if G k = 6 then -1 else nI (G k) := by
  obtain ⟨a, c, e⟩ := h.inv hk
  unfold gOf
  rw [if_pos c, e]
theorem prU_6 : prU N 6 = 1000 := by unfold prU; rw [if_neg (by decide), if_pos rfl]
theorem prU_c {c : Nat} (hc : c < 6) : prU N c = cst N c := by unfold prU; rw [if_neg (by omega), if_neg (by omega)]
theorem pl_cost (hC : PRC N np w P ix) {k c : Nat} (hk : k < w) (hc : c < 7) (hf : pz P k c < FARz) : (pz P k c).toNat = prU N c * 5764801 + c * 7 ^ (w - 1 - k) := by
  obtain ⟨a, e⟩ := hC k hk
  by_cases z : c = 6
  · subst z
    rw [e, prU_6]
    exact Int.toNat_natCast _
  · rcases a c (by omega) with ⟨-, -, q⟩ | ⟨-, q⟩
    · rw [q, prU_c (by omega)]
      exact Int.toNat_natCast _
    · rw [q] at hf; omega
theorem pl_PH (hP : PW N np nt) (hw : w ≤ 8) (hC : PRC N np w P ix) : PHz P w := by
  intro k hk
  obtain ⟨a, e⟩ := hC k hk
  have h7 := p7 (w := w) (k := k) hw
  have h6 : pz P k 6 < FARz ∧ 0 ≤ pz P k 6 ∧ pz P k 6 ≤ 6000000000 := by rw [e]; unfold FARz; omega
  refine ⟨fun c hc => ?_, h6.1⟩
  by_cases z : c = 6
  · subst z
    exact ⟨h6.2.1, by omega, fun _ => h6.2.2⟩
  · rcases a c (by omega) with ⟨q1, -, q⟩ | ⟨-, q⟩
    · have hcs := (cst_of hP q1).2
      have : c * 7 ^ (w - 1 - k) ≤ 6 * 823543 := Nat.mul_le_mul (by omega) h7
      rw [q]; unfold FARz
      omega
    · rw [q]; unfold FARz; omega
theorem pl_opt (hP : PW N np nt) (hw : wN N nt ≤ 8) (hI : IX N nt ix) (hC : PRC N np (wN N nt) P ix) (hR : ∀ c, c < 6 → R c = (fr c).toInt ∧ 0 ≤ R c) (hR6 : R 6 = 8) (hS : SV P R (wN N nt) (wN N nt) L g G π) :
    FE N np nt fr (gOf N G) ∧ (∀ k, k < wN N nt → G k < 7 ∧ g k = nI (G k)) ∧ ∀ gg, FE N np nt fr gg → 5764801 * UU N nt (gOf N G) + Lx G (wN N nt) ≤ 5764801 * UU N nt gg + Lx (fun k => cd N gg (ix k)) (wN N nt) := by
  have hS0 := hS
  obtain ⟨s1, s2, s3, -⟩ := hS
  have hp6 : np ≤ 6 := hP.2.1
  have hG : ∀ k, k < wN N nt → G k < 7 := fun k hk => (s1 k hk).2.1
  have hcnt : ∀ c, c < 7 → cntg g (wN N nt) c = lod G (wN N nt) c := fun c hc => sN_congr (fun k hk => by
    (try dsimp only)
    rw [(s1 k hk).1]
    by_cases z : G k = c
    · rw [if_pos z, if_pos (by rw [z])]
    · rw [if_neg z, if_neg (fun q => z (nI_inj (by have := hG k hk; omega) (by omega) q))])
  have hld : ∀ c, c < 6 → ldN N nt (gOf N G) c = lod G (wN N nt) c := fun c hc => by
    rw [ld_ix hI]
    refine sN_congr (fun k hk => ?_)
    (try dsimp only)
    rw [gOf_ix hI hk]
    have := hG k hk
    by_cases z : G k = c
    · rw [if_neg (show ¬ G k = 6 by omega), z, if_pos rfl, if_pos rfl]
    · rw [if_neg z]
      by_cases z6 : G k = 6
      · rw [if_pos z6, if_neg (fun q => nIm (by omega) q.symm)]
      · rw [if_neg z6, if_neg (fun q => z (nI_inj (by omega) (by omega) q))]
  have hle : ∀ c, c < 7 → (lod G (wN N nt) c : Int) ≤ R c := fun c hc => by
    obtain ⟨a1, a2, -⟩ := s3 c hc
    rw [hcnt c hc] at a1
    omega
  have hFE : FE N np nt fr (gOf N G) := by
    refine ⟨fun t ht hwt => ?_, fun k hk => ?_⟩
    · have hk := wN_lt ht hwt
      have hix := hI t ht hwt
      have hg := gOf_ix (G := G) hI hk
      rw [hix] at hg
      unfold VC
      rw [hg]
      by_cases z : G (wN N t) = 6
      · rw [if_pos z]; exact Or.inl rfl
      · right
        have h7 := hG _ hk
        rw [if_neg z]
        rcases (hC _ hk).1 (G (wN N t)) (by omega) with ⟨q1, q2, -⟩ | ⟨-, q⟩
        · rw [hix] at q2
          refine ⟨G (wN N t), q1, rfl, ?_, q2⟩
          have h1 : 1 ≤ lod G (wN N nt) (G (wN N t)) := by
            have := sN_ge (f := fun i => if G i = G (wN N t) then 1 else 0) (t := wN N t) (n := wN N nt) hk
            rw [if_pos rfl] at this
            exact this
          have h2 := hle (G (wN N t)) (by omega)
          rw [(hR _ (by omega)).1] at h2
          rw [nle0]
          omega
        · have := (s1 _ hk).2.2.1
          rw [q] at this; omega
    · rw [hld k (by omega), ← (hR k (by omega)).1]
      exact hle k (by omega)
  refine ⟨hFE, fun k hk => ⟨hG k hk, (s1 k hk).1⟩, fun gg hgg => ?_⟩
  have hb : ∀ j, j < wN N nt → cd N gg (ix j) < 7 ∧ pz P j (cd N gg (ix j)) < FARz := fun j hj => by
    obtain ⟨i1, i2, i3⟩ := hI.inv hj
    have hPH := pl_PH hP hw hC j hj
    rcases hgg.1 _ i1 i2 with q | ⟨k, q1, q2, q3, q4⟩
    · rw [cd_n i2 q]; exact ⟨by omega, hPH.2⟩
    · rw [cd_k (by omega) i2 q2]
      refine ⟨by omega, ?_⟩
      rcases (hC j hj).1 k (by omega) with ⟨-, -, r⟩ | ⟨r, -⟩
      · have hcs := (cst_of hP q1).2
        have h7 := p7 (w := wN N nt) (k := j) hw
        have : k * 7 ^ (wN N nt - 1 - j) ≤ 6 * 823543 := Nat.mul_le_mul (by omega) h7
        rw [r]; unfold FARz; omega
      · exact absurd ⟨q1, q4⟩ r
  have hl : ∀ c, c < 7 → (lod (fun k => cd N gg (ix k)) (wN N nt) c : Int) ≤ R c := fun c hc => by
    by_cases z : c = 6
    · subst z
      rw [hR6]
      have : lod (fun k => cd N gg (ix k)) (wN N nt) 6 ≤ wN N nt := sN_le (fun _ _ => if01_le _)
      omega
    · have e : ∀ k, k < wN N nt → ((cd N gg (ix k) = c) ↔ (c < np ∧ gg (ix k) = nI c)) := fun k hk => by
        obtain ⟨i1, i2, i3⟩ := hI.inv hk
        rcases hgg.1 _ i1 i2 with q | ⟨k', q1, q2, q3, q4⟩
        · rw [cd_n i2 q, q]
          exact ⟨fun r => absurd r (by omega), fun r => absurd r.2.symm (nIm (by omega))⟩
        · rw [cd_k (by omega) i2 q2, q2]
          exact ⟨fun r => ⟨by omega, by rw [r]⟩, fun r => nI_inj (by omega) (by omega) r.2⟩
      by_cases z2 : c < np
      · have : lod (fun k => cd N gg (ix k)) (wN N nt) c = ldN N nt gg c := by
          rw [ld_ix hI]
          refine sN_congr (fun k hk => ?_)
          (try dsimp only)
          by_cases q : cd N gg (ix k) = c
          · rw [if_pos q, if_pos ((e k hk).mp q).2]
          · rw [if_neg q, if_neg (fun r => q ((e k hk).mpr ⟨z2, r⟩))]
        rw [this, (hR c (by omega)).1]
        exact hgg.2 c z2
      · have : lod (fun k => cd N gg (ix k)) (wN N nt) c = 0 := sN_0 (fun k hk => by
          (try dsimp only)
          rw [if_neg (fun q => z2 ((e k hk).mp q).1)])
        rw [this]
        exact (hR c (by omega)).2
  have hopt := SV_opt (pl_PH hP hw hC) hS0 hb hl
  have e1 : sN (fun j => (pz P j (G j)).toNat) (wN N nt) = 5764801 * sN (fun k => prU N (G k)) (wN N nt) + Lx G (wN N nt) := by
    rw [← sN_mul, ← Lx_sum, ← sN_add]
    exact sN_congr (fun k hk => by (try dsimp only); exact (pl_cost hC hk (hG k hk) (s1 k hk).2.2.1))
  have e2 : sN (fun j => (pz P j (cd N gg (ix j))).toNat) (wN N nt) = 5764801 * sN (fun k => prU N (cd N gg (ix k))) (wN N nt) + Lx (fun k => cd N gg (ix k)) (wN N nt) := by
    rw [← sN_mul, ← Lx_sum, ← sN_add]
    exact sN_congr (fun k hk => by (try dsimp only); exact (pl_cost hC hk (hb k hk).1 (hb k hk).2))
  have e3 : UU N nt (gOf N G) = sN (fun k => prU N (G k)) (wN N nt) := by
    rw [UU_ix hI]
    refine sN_congr (fun k hk => ?_)
    (try dsimp only)
    obtain ⟨i1, i2, i3⟩ := hI.inv hk
    have h7 := hG k hk
    have hg := gOf_ix (G := G) hI hk
    by_cases z : G k = 6
    · rw [if_pos z] at hg
      rw [cd_n i2 hg, z]
    · rw [if_neg z] at hg
      rw [cd_k (by omega) i2 hg]
  rw [e3, UU_ix hI gg, ← e1, ← e2]
  exact hopt
theorem pl_MR (hP : PW N np nt) (hw : wN N nt ≤ 8) (hI : IX N nt ix) (hC : PRC N np (wN N nt) P ix) (hR : ∀ c, c < 6 → R c = (fr c).toInt ∧ 0 ≤ R c) (hR6 : R 6 = 8) (hS : SV P R (wN N nt) (wN N nt) L g G π) : MR N np nt fr (gOf N G) := by
  obtain ⟨h1, h2, h3⟩ := pl_opt hP hw hI hC hR hR6 hS
  refine ⟨h1, fun gg hgg => ?_⟩
  have := h3 gg hgg
  have hl : Lx (fun k => cd N gg (ix k)) (wN N nt) < 7 ^ wN N nt := Lx_lt _ (fun k hk => by
    obtain ⟨i1, i2, i3⟩ := hI.inv hk
    rcases hgg.1 _ i1 i2 with q | ⟨k', q1, q2, -⟩
    · rw [cd_n i2 q]; omega
    · have hp6 : np ≤ 6 := hP.2.1
      rw [cd_k (by omega) i2 q2]; omega)
  have h7 : 7 ^ wN N nt ≤ 5764801 := Nat.le_trans (Nat.pow_le_pow_right (by omega) hw) (by decide)
  omega
theorem pl_LR (hP : PW N np nt) (hw : wN N nt ≤ 8) (hI : IX N nt ix) (hC : PRC N np (wN N nt) P ix) (hR : ∀ c, c < 6 → R c = (fr c).toInt ∧ 0 ≤ R c) (hR6 : R 6 = 8) (hS : SV P R (wN N nt) (wN N nt) L g G π) {gv : Nat → Int32} (hL : LR N np nt fr gv) : ∀ k, k < wN N nt → G k = cd N gv (ix k) := by
  obtain ⟨h1, h2, h3⟩ := pl_opt hP hw hI hC hR hR6 hS
  have hm := pl_MR hP hw hI hC hR hR6 hS
  obtain ⟨l1, l2, l3⟩ := hL
  have hU : UU N nt (gOf N G) = UU N nt gv := Nat.le_antisymm (hm.2 gv l1) (l2 _ h1)
  have hlex := h3 gv l1
  rw [hU] at hlex
  have hp6 : np ≤ 6 := hP.2.1
  have hcd : ∀ k, k < wN N nt → cd N (gOf N G) (ix k) = G k := fun k hk => by
    obtain ⟨i1, i2, i3⟩ := hI.inv hk
    have h7 := (h2 k hk).1
    have hg := gOf_ix (G := G) hI hk
    by_cases z : G k = 6
    · rw [if_pos z] at hg
      rw [cd_n i2 hg, z]
    · rw [if_neg z] at hg
      rw [cd_k (by omega) i2 hg]
  have hb7 : ∀ k, k < wN N nt → cd N gv (ix k) < 7 := fun k hk => by
    obtain ⟨i1, i2, i3⟩ := hI.inv hk
    rcases l1.1 _ i1 i2 with q | ⟨k', q1, q2, -⟩
    · rw [cd_n i2 q]; omega
    · rw [cd_k (by omega) i2 q2]; omega
  have hval : ∀ t, t < nt → mT N t 2 = 0 → ∀ g', FE N np nt fr g' → g' t = if cd N g' t = 6 then -1 else nI (cd N g' t) := fun t ht hwt g' hg' => by
    rcases hg'.1 t ht hwt with q | ⟨k', q1, q2, -⟩
    · rw [cd_n hwt q, if_pos rfl, q]
    · rw [cd_k (by omega) hwt q2, if_neg (by omega), q2]
  intro k
  induction k using Nat.strongRecOn with
  | _ k ih =>
    intro hk
    obtain ⟨i1, i2, i3⟩ := hI.inv hk
    have hpre : ∀ t, t < ix k → mT N t 2 = 0 → gOf N G t = gv t := fun t ht hwt => by
      have htn : t < nt := by omega
      have hwk : wN N t < k := by rw [← i3]; exact wN_lt ht hwt
      have hix := hI t htn hwt
      have e1 := ih (wN N t) hwk (by omega)
      rw [hix] at e1
      rw [hval t htn hwt _ h1, hval t htn hwt _ l1]
      have e2 := hcd (wN N t) (by omega)
      rw [hix] at e2
      rw [e2, e1]
    have hle := l3 (ix k) i1 i2 (gOf N G) h1 hU hpre
    rw [hcd k hk] at hle
    rcases Nat.lt_or_ge (cd N gv (ix k)) (G k) with z | z
    · have := Lx_lex (a := fun k => cd N gv (ix k)) (b := G) (k := k) (fun j hj => (ih j hj (by omega)).symm) z (wN N nt) hk hb7
      omega
    · omega
end
