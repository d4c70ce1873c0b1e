/-! OPTIMA -/
theorem sN_add {f g : Nat → Nat} : ∀ {n : Nat}, sN (fun i => f i + g i) n = sN f n + sN g n
  | 0 => rfl
  | n + 1 => by
    rw [sN, sN, sN, sN_add]
    omega
theorem sN_mono {f g : Nat → Nat} : ∀ {n : Nat}, (∀ i, i < n → f i ≤ g i) → sN f n ≤ sN g n
  | 0, _ => Nat.le_refl 0
  | n + 1, h => by
    have := sN_mono (f := f) (g := g) (n := n) (fun i hi => h i (by omega))
    have := h n (by omega)
    rw [sN, sN]
    omega
theorem sN_0 {f : Nat → Nat} : ∀ {n : Nat}, (∀ i, i < n → f i = 0) → sN f n = 0
  | 0, _ => rfl
  | n + 1, h => by
    rw [sN, sN_0 (fun i hi => h i (by omega)), h n (by omega)]
theorem sN_one {f : Nat → Nat} {t : Nat} : ∀ {n : Nat}, t < n → (∀ i, i < n → i ≠ t → f i = 0) → sN f n = f t
  | 0, h, _ => absurd h (by omega)
  | n + 1, h, hh => by
    rw [sN]
    by_cases e : t = n
    · subst e
      rw [sN_0 (fun i hi => hh i (by omega) (by omega))]
      omega
    · rw [sN_one (t := t) (by omega) (fun i hi hn => hh i (by omega) hn), hh n (by omega) (by omega)]
      omega
def lod (a : Nat → Nat) (n k : Nat) : Nat := sN (fun i => if a i = k then 1 else 0) n
theorem sum_load {p a : Nat → Nat} {K : Nat} : ∀ {n : Nat}, (∀ i, i < n → a i < K) → sN (fun i => p (a i)) n = sN (fun k => p k * lod a n k) K
  | 0, _ => by
    rw [sN, sN_0]
    intro i _
    show p i * 0 = 0
    omega
  | n + 1, h => by
    rw [sN, sum_load (fun i hi => h i (by omega))]
    have e : ∀ k, p k * lod a (n + 1) k = p k * lod a n k + p k * (if a n = k then 1 else 0) := fun k => by
      show p k * (lod a n k + _) = _
      rw [Nat.mul_add]
    rw [sN_congr (f := fun k => p k * lod a n k + p k * (if a n = k then 1 else 0)) (g := fun k => p k * lod a (n + 1) k) (fun k _ => e k), sN_add]
    rw [sN_one (f := fun k => p k * (if a n = k then 1 else 0)) (t := a n) (h n (by omega)) (fun i _ hne => by rw [if_neg (fun z => hne z.symm)]; omega)]
    rw [if_pos rfl, Nat.mul_one]
theorem cert {p : Nat → Nat → Nat} {q a b : Nat → Nat} {n K : Nat} (ha : ∀ i, i < n → a i < K) (hb : ∀ i, i < n → b i < K) (h1 : ∀ i, i < n → p i (a i) + q (a i) ≤ p i (b i) + q (b i)) (h2 : ∀ k, k < K → q k * lod b n k ≤ q k * lod a n k) : sN (fun i => p i (a i)) n ≤ sN (fun i => p i (b i)) n := by
  have e1 := sN_mono h1
  rw [sN_add, sN_add, sum_load ha, sum_load hb] at e1
  have e2 := sN_mono h2
  omega
/-- a trip's choice: its type, 6 for none, 7 where it waits for none -/
def cd (N : Nat → Int32) (g : Nat → Int32) (t : Nat) : Nat := if mT N t 2 = 0 then (if g t = -1 then 6 else (g t).toNatClampNeg) else 7
def prU (N : Nat → Int32) (k : Nat) : Nat := if k = 7 then 0 else if k = 6 then 1000 else cst N k
def UU (N : Nat → Int32) (nt : Nat) (g : Nat → Int32) : Nat := sN (fun t => prU N (cd N g t)) nt
def VC (N : Nat → Int32) (np : Nat) (fr g : Nat → Int32) (t : Nat) : Prop := g t = -1 ∨ ∃ k, k < np ∧ g t = nI k ∧ ¬ fr k ≤ 0 ∧ ¬ fitM N k t = 0
/-- a plan that may be -/
def FE (N : Nat → Int32) (np nt : Nat) (fr g : Nat → Int32) : Prop := (∀ t, t < nt → mT N t 2 = 0 → VC N np fr g t) ∧ (∀ k, k < np → (ldN N nt g k : Int) ≤ (fr k).toInt)
theorem cd_k {N g : Nat → Int32} {t k : Nat} (hk : k < 6) (hw : mT N t 2 = 0) (hg : g t = nI k) : cd N g t = k := by
  unfold cd
  rw [if_pos hw, hg, if_neg (m1_ne (by omega)), nI_clamp (by omega)]
theorem cd_n {N g : Nat → Int32} {t : Nat} (hw : mT N t 2 = 0) (hg : g t = -1) : cd N g t = 6 := by
  unfold cd
  rw [if_pos hw, if_pos hg]
theorem cd_7 {N g : Nat → Int32} {t : Nat} (hw : ¬ mT N t 2 = 0) : cd N g t = 7 := if_neg hw
theorem lod_cd {N : Nat → Int32} {np nt : Nat} {g : Nat → Int32} (hp : np ≤ 6) (hg : ∀ t, t < nt → mT N t 2 = 0 → g t = -1 ∨ ∃ k, k < np ∧ g t = nI k) {k : Nat} (hk : k < 6) : lod (cd N g) nt k = ldN N nt g k := by
  refine sN_congr (fun t ht => ?_)
  by_cases hw : mT N t 2 = 0
  · rcases hg t ht hw with e | ⟨k', hk', e⟩
    · rw [cd_n hw e, if_neg (by omega), if_neg (fun z => m1_ne (by omega) (z.2.symm.trans e))]
    · rw [cd_k (by omega) hw e]
      by_cases c : k' = k
      · subst c
        rw [if_pos rfl, if_pos ⟨hw, e⟩]
      · rw [if_neg c, if_neg (fun z => c (nI_inj (by omega) (by omega) (e.symm.trans z.2)))]
  · rw [cd_7 hw, if_neg (by omega), if_neg (fun z => hw z.1)]
theorem cd_lt {N : Nat → Int32} {np : Nat} {g : Nat → Int32} {t : Nat} (hp : np ≤ 6) (hg : mT N t 2 = 0 → g t = -1 ∨ ∃ k, k < np ∧ g t = nI k) : cd N g t < 8 := by
  by_cases hw : mT N t 2 = 0
  · rcases hg hw with e | ⟨k', hk', e⟩
    · rw [cd_n hw e]; omega
    · rw [cd_k (by omega) hw e]; omega
  · rw [cd_7 hw]; omega
theorem VC.rng {N : Nat → Int32} {np : Nat} {fr g : Nat → Int32} {t : Nat} (h : VC N np fr g t) : g t = -1 ∨ ∃ k, k < np ∧ g t = nI k := by
  rcases h with e | ⟨k, hk, e, -⟩
  · exact Or.inl e
  · exact Or.inr ⟨k, hk, e⟩
/-- serves() is best among all that keep what is settled -/
theorem SVR.opt {N : Nat → Int32} {np nt : Nat} {fr us gv st gv0 g : Nat → Int32} (hP : PW N np nt) (hS : SVR N np nt fr us gv st gv0) (hg : FE N np nt fr g) (ha : ∀ t, t < nt → mT N t 2 = 0 → ¬ st t = 0 → g t = gv0 t) : UU N nt gv ≤ UU N nt g := by
  obtain ⟨-, hp6, -, h40, -⟩ := id hP
  obtain ⟨⟨s1, s2, s3, s4, s5⟩, r, f1, f2, f3⟩ := hS
  have rg : ∀ t, t < nt → mT N t 2 = 0 → g t = -1 ∨ ∃ k, k < np ∧ g t = nI k := fun t ht hw => (hg.1 t ht hw).rng
  have rv : ∀ t, t < nt → mT N t 2 = 0 → gv t = -1 ∨ ∃ k, k < np ∧ gv t = nI k := fun t ht _ => s1 t (by omega)
  have hq : ∀ k, k < np → (if k < np then r k - cst N k else 0) = r k - cst N k := fun k hk => if_pos hk
  refine cert (K := 8) (p := fun _ k => prU N k) (q := fun k => if k < np then r k - cst N k else 0) (fun t ht => cd_lt hp6 (rv t ht)) (fun t ht => cd_lt hp6 (rg t ht)) ?_ ?_
  · intro t ht
    by_cases hw : mT N t 2 = 0
    · by_cases hs : st t = 0
      · have hv := s2 t ht ⟨hw, hs⟩
        have c6 : prU N 6 + (if 6 < np then r 6 - cst N 6 else 0) = 1000 := by rw [if_neg (by omega)]; rfl
        have ck : ∀ k, k < np → prU N k + (if k < np then r k - cst N k else 0) = r k := fun k hk => by
          rw [if_pos hk]
          unfold prU
          rw [if_neg (by omega), if_neg (by omega)]
          have := (f1 k hk).2.1
          omega
        rcases hg.1 t ht hw with e | ⟨k', hk', e, hf, hfit⟩
        · rw [cd_n hw e, c6]
          rcases hv with v | ⟨k, hk, v, -⟩
          · rw [cd_n hw v, c6]
            exact Nat.le_refl _
          · rw [cd_k (by omega) hw v, ck k hk]
            exact (f1 k hk).1
        · rw [cd_k (by omega) hw e, ck k' hk']
          rcases hv with v | ⟨k, hk, v, -⟩
          · rw [cd_n hw v, c6, f3 t ht ⟨hw, hs⟩ v k' hk' hf hfit]
            exact Nat.le_refl _
          · rw [cd_k (by omega) hw v, ck k hk]
            exact f2 t ht ⟨hw, hs⟩ k hk v k' hk' hf hfit
      · have e : cd N gv t = cd N g t := by
          unfold cd
          rw [s4 t (fun z => hs z.2.2), ha t ht hw hs]
        rw [e]
        exact Nat.le_refl _
    · rw [cd_7 hw, cd_7 hw]
      exact Nat.le_refl _
  · intro k hk
    by_cases hkn : k < np
    · rw [if_pos hkn, lod_cd hp6 rg (by omega), lod_cd hp6 rv (by omega)]
      by_cases z : r k = cst N k
      · rw [z, Nat.sub_self]; omega
      · refine Nat.mul_le_mul_left _ ?_
        have hroom : ¬ us k < fr k := fun q => z ((f1 k hkn).2.2 q)
        rw [s3 k (by omega), Int32.lt_iff_toInt_lt, nI_toInt (by have := ldN_le N nt gv k; omega)] at hroom
        have := hg.2 k hkn
        omega
    · rw [if_neg hkn]; omega
/-- and may be, if anything may -/
theorem SVR.fe {N : Nat → Int32} {np nt : Nat} {fr us gv st gv0 g : Nat → Int32} (hP : PW N np nt) (hS : SVR N np nt fr us gv st gv0) (h0 : ∀ t, t < nt → mT N t 2 = 0 → ¬ st t = 0 → VC N np fr gv0 t) (hg : FE N np nt fr g) (ha : ∀ t, t < nt → mT N t 2 = 0 → ¬ st t = 0 → g t = gv0 t) : FE N np nt fr gv := by
  obtain ⟨-, hp6, -, h40, -⟩ := id hP
  obtain ⟨⟨s1, s2, s3, s4, s5⟩, -⟩ := hS
  refine ⟨fun t ht hw => ?_, fun k hk => ?_⟩
  · by_cases hs : st t = 0
    · exact s2 t ht ⟨hw, hs⟩
    · have := h0 t ht hw hs
      unfold VC at *
      rw [s4 t (fun z => hs z.2.2)]
      exact this
  · rcases s5 k hk with z | z
    · have h1 : ldS N st gv0 k nt ≤ ldN N nt g k := by
        refine sN_mono (fun t ht => ?_)
        by_cases c : mT N t 2 = 0 ∧ ¬ st t = 0 ∧ gv0 t = nI k
        · rw [if_pos c, if_pos ⟨c.1, by rw [ha t ht c.1 c.2.1]; exact c.2.2⟩]
          exact Nat.le_refl _
        · rw [if_neg c]; omega
      have := hg.2 k hk
      omega
    · rw [s3 k (by omega), nI_toInt (by have := ldN_le N nt gv k; omega)] at z
      exact z
def wN (N : Nat → Int32) (nt : Nat) : Nat := sN (fun t => if mT N t 2 = 0 then 1 else 0) nt
theorem UU_eq {N : Nat → Int32} {np : Nat} {g : Nat → Int32} (hp6 : np ≤ 6) (hcs : ∀ k, k < np → cst N k ≤ 99) : ∀ {nt : Nat}, (∀ t, t < nt → mT N t 2 = 0 → g t = -1 ∨ ∃ k, k < np ∧ g t = nI k) → UU N nt g + 1000 * srvN N nt g = 1000 * wN N nt + scN N nt g ∧ scN N nt g ≤ 99 * srvN N nt g ∧ srvN N nt g ≤ wN N nt
  | 0, _ => ⟨rfl, Nat.le_refl 0, Nat.le_refl 0⟩
  | nt + 1, h => by
    have ih := UU_eq (N := N) (g := g) hp6 hcs (nt := nt) (fun t ht => h t (by omega))
    have e1 : UU N (nt + 1) g = UU N nt g + prU N (cd N g nt) := rfl
    have e2 : wN N (nt + 1) = wN N nt + (if mT N nt 2 = 0 then 1 else 0) := rfl
    rw [e1, e2, srvN_s, scN_s]
    by_cases hw : mT N nt 2 = 0
    · rcases h nt (by omega) hw with e | ⟨k, hk, e⟩
      · rw [cd_n hw e, if_pos hw, if_neg (fun z => z.2 e), if_neg (fun z => z.2 e)]
        have : prU N 6 = 1000 := rfl
        omega
      · rw [cd_k (by omega) hw e, if_pos hw, if_pos ⟨hw, by rw [e]; exact m1_ne (by omega)⟩, if_pos ⟨hw, by rw [e]; exact m1_ne (by omega)⟩, e, nI_clamp (by omega)]
        have : prU N k = cst N k := by unfold prU; rw [if_neg (by omega), if_neg (by omega)]
        have := hcs k hk
        omega
    · rw [cd_7 hw, if_neg hw, if_neg (fun z => hw z.1), if_neg (fun z => hw z.1)]
      have : prU N 7 = 0 := rfl
      omega
theorem UU_inj {N : Nat → Int32} {np nt : Nat} {g g2 : Nat → Int32} (hP : PW N np nt) (hw : wN N nt ≤ 8) (h1 : ∀ t, t < nt → mT N t 2 = 0 → g t = -1 ∨ ∃ k, k < np ∧ g t = nI k) (h2 : ∀ t, t < nt → mT N t 2 = 0 → g2 t = -1 ∨ ∃ k, k < np ∧ g2 t = nI k) : UU N nt g = UU N nt g2 ↔ srvN N nt g = srvN N nt g2 ∧ scN N nt g = scN N nt g2 := by
  have hcs : ∀ k, k < np → cst N k ≤ 99 := fun k hk => (cst_of hP hk).2
  have a := UU_eq hP.2.1 hcs h1
  have b := UU_eq hP.2.1 hcs h2
  constructor
  · intro e
    omega
  · intro e
    omega
