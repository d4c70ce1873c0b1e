theorem z_1 : vp_nar .boolean 1 = 1 := by decide
theorem z_0 : vp_nar .boolean 0 = 0 := by decide
def SM (h : AH) (a b : Int32) : AH := ui (ui h 3 0 22 a) 3 0 23 b
theorem SM_N {h : AH} {a b : Int32} : (SM h a b).1 3 2 = h.1 3 2 := by unfold SM; rw [N_k (by decide), N_k (by decide)]
theorem SM_SM {h : AH} {a b c d : Int32} : SM (SM h a b) c d = SM h c d := by unfold SM; rw [ui_22, ui_23]
theorem SM_22 {h : AH} {a b : Int32} : (SM h a b).1 3 0 22 = a := by unfold SM; rw [ui_j (by decide), ui_eq]
theorem SM_23 {h : AH} {a b : Int32} : (SM h a b).1 3 0 23 = b := by unfold SM; rw [ui_eq]
theorem SM_self {h : AH} : SM h (h.1 3 0 22) (h.1 3 0 23) = h := by
  refine ah_ext (fun b' k' j' => ?_) rfl
  simp only [SM, ui]
  split
  · rename_i e; rw [e.1, e.2.1, e.2.2]
  · split
    · rename_i e; rw [e.1, e.2.1, e.2.2]
    · rfl
def mfr (N : Nat → Int32) (np nt k : Nat) : Int32 := if k < np then mFree N nt k else 0
/-- the plan: best, and the first of the best -/
def LR (N : Nat → Int32) (np nt : Nat) (fr gv : Nat → Int32) : Prop := FE N np nt fr gv ∧ (∀ g, FE N np nt fr g → UU N nt gv ≤ UU N nt g) ∧
  (∀ t0, t0 < nt → mT N t0 2 = 0 → ∀ g, FE N np nt fr g → UU N nt g = UU N nt gv → (∀ t, t < t0 → mT N t 2 = 0 → g t = gv t) → cd N gv t0 ≤ cd N g t0)
def R6 (np : Nat) (gv : Nat → Int32) : Prop := ∀ t, t < 40 → gv t = -1 ∨ ∃ k, k < np ∧ gv t = nI k
/-- between two trips -/
def LI (N : Nat → Int32) (np nt : Nat) (fr gv st : Nat → Int32) (U1 t : Nat) : Prop := R6 np gv ∧ (∀ t', t' < t → t' < nt → mT N t' 2 = 0 → VC N np fr gv t') ∧
  (∃ g, FE N np nt fr g ∧ UU N nt g = U1 ∧ ∀ t', t' < t → t' < nt → mT N t' 2 = 0 → g t' = gv t') ∧
  (∀ t0, t0 < t → t0 < nt → mT N t0 2 = 0 → ∀ g, FE N np nt fr g → UU N nt g = U1 → (∀ t', t' < t0 → mT N t' 2 = 0 → g t' = gv t') → cd N gv t0 ≤ cd N g t0) ∧
  (∀ t', t' < nt → mT N t' 2 = 0 → t' ≠ t → (st t' = 0 ↔ t ≤ t'))
def TR (N : Nat → Int32) (np nt : Nat) (fr gv : Nat → Int32) (U1 t k : Nat) : Prop := ∀ k', k' < k → ∀ g, FE N np nt fr g → UU N nt g = U1 → (∀ t', t' < t → t' < nt → mT N t' 2 = 0 → g t' = gv t') → ¬ g t = nI k'
theorem ag_key {N : Nat → Int32} {np nt : Nat} {fr us2 gv gv2 st g : Nat → Int32} {U1 t : Nat} {x : Int32} (hP : PW N np nt) (hL : LI N np nt fr gv st U1 t) (ht : t < nt) (hx : VC N np fr (upd gv t x) t) (hS : SVR N np nt fr us2 gv2 (upd st t 1) (upd gv t x)) (hmin : ∀ g, FE N np nt fr g → U1 ≤ UU N nt g)
    (hg : FE N np nt fr g) (hU : UU N nt g = U1) (ha : ∀ t', t' < t → t' < nt → mT N t' 2 = 0 → g t' = gv t') (hgt : g t = x) : FE N np nt fr gv2 ∧ UU N nt gv2 = U1 := by
  have hag : ∀ t', t' < nt → mT N t' 2 = 0 → ¬ upd st t 1 t' = 0 → g t' = upd gv t x t' := by
    intro t' ht' hw hs
    by_cases e : t' = t
    · subst e; rw [up_eq]; exact hgt
    · rw [up_ne e] at hs ⊢
      exact ha t' (by
        have := (hL.2.2.2.2 t' ht' hw e)
        exact Nat.lt_of_not_le (fun z => hs (this.mpr z))) ht' hw
  have h0 : ∀ t', t' < nt → mT N t' 2 = 0 → ¬ upd st t 1 t' = 0 → VC N np fr (upd gv t x) t' := by
    intro t' ht' hw hs
    by_cases e : t' = t
    · subst e; exact hx
    · rw [up_ne e] at hs
      have := hL.2.1 t' (Nat.lt_of_not_le (fun z => hs ((hL.2.2.2.2 t' ht' hw e).mpr z))) ht' hw
      unfold VC at *
      rw [up_ne e]
      exact this
  have h1 := hS.fe hP h0 hg hag
  have h2 := hS.opt hP hg hag
  have h3 := hmin _ h1
  exact ⟨h1, by omega⟩
theorem ag_pre {N : Nat → Int32} {np nt : Nat} {fr us2 gv gv2 st : Nat → Int32} {U1 t : Nat} {x : Int32} (hL : LI N np nt fr gv st U1 t) (hS : SVR N np nt fr us2 gv2 (upd st t 1) (upd gv t x)) : (∀ t', t' < t → t' < nt → mT N t' 2 = 0 → gv2 t' = gv t') ∧ gv2 t = x := by
  constructor
  · intro t' h1 h2 hw
    have hs := (hL.2.2.2.2 t' h2 hw (by omega))
    rw [hS.1.2.2.2.1 t' (fun z => by
      have q := z.2.2
      rw [up_ne (by omega)] at q
      have := hs.mp q
      omega), up_ne (by omega)]
  · rw [hS.1.2.2.2.1 t (fun z => by
      have q := z.2.2
      rw [up_eq] at q
      exact absurd q (by decide)), up_eq]
theorem ag_st {N : Nat → Int32} {np nt : Nat} {fr gv st : Nat → Int32} {U1 t : Nat} (hL : LI N np nt fr gv st U1 t) : ∀ t', t' < nt → mT N t' 2 = 0 → t' ≠ t → (upd st t 1 t' = 0 ↔ t ≤ t') := by
  intro t' h1 hw hne
  rw [up_ne hne]
  exact hL.2.2.2.2 t' h1 hw hne
theorem ag_lex {N : Nat → Int32} {np nt : Nat} {fr gv gv2 st : Nat → Int32} {U1 t : Nat} (hL : LI N np nt fr gv st U1 t) (hp : ∀ t', t' < t → t' < nt → mT N t' 2 = 0 → gv2 t' = gv t') : ∀ t0, t0 < t → t0 < nt → mT N t0 2 = 0 → ∀ g, FE N np nt fr g → UU N nt g = U1 → (∀ t', t' < t0 → mT N t' 2 = 0 → g t' = gv2 t') → cd N gv2 t0 ≤ cd N g t0 := by
  intro t0 h1 h2 hw g hg hU ha
  have e : cd N gv2 t0 = cd N gv t0 := by unfold cd; rw [hp t0 h1 h2 hw]
  rw [e]
  exact hL.2.2.2.1 t0 h1 h2 hw g hg hU (fun t' h3 hw' => by rw [← hp t' (by omega) (by omega) hw']; exact ha t' h3 hw')
/-- a type that is as good -/
theorem ag_yes {N : Nat → Int32} {np nt : Nat} {fr us2 gv gv2 st : Nat → Int32} {U1 t k : Nat} (hP : PW N np nt) (hL : LI N np nt fr gv st U1 t) (ht : t < nt) (hw : mT N t 2 = 0) (hk : k < np) (hx : VC N np fr (upd gv t (nI k)) t) (hS : SVR N np nt fr us2 gv2 (upd st t 1) (upd gv t (nI k))) (hT : TR N np nt fr gv U1 t k) (hus : ∀ i, i < 6 → us2 i ≤ fr i) (hU : UU N nt gv2 = U1) : LI N np nt fr gv2 (upd st t 1) U1 (t + 1) := by
  obtain ⟨-, hp6, -, h40, -⟩ := id hP
  obtain ⟨p1, p2⟩ := ag_pre hL hS
  have hvc : ∀ t', t' < nt → mT N t' 2 = 0 → VC N np fr gv2 t' := by
    intro t' h1 hw'
    by_cases hs : upd st t 1 t' = 0
    · exact hS.1.2.1 t' h1 ⟨hw', hs⟩
    · by_cases e : t' = t
      · subst e
        unfold VC at *
        rw [up_eq] at hx
        rw [p2]
        exact hx
      · rw [up_ne e] at hs
        have hlt : t' < t := Nat.lt_of_not_le (fun z => hs ((hL.2.2.2.2 t' h1 hw' e).mpr z))
        have := hL.2.1 t' hlt h1 hw'
        unfold VC at *
        rw [p1 t' hlt h1 hw']
        exact this
  have hfe : FE N np nt fr gv2 := by
    refine ⟨hvc, fun k' hk' => ?_⟩
    have := hus k' (by omega)
    rw [hS.1.2.2.1 k' (by omega), Int32.le_iff_toInt_le, nI_toInt (by have := ldN_le N nt gv2 k'; omega)] at this
    exact this
  refine ⟨hS.1.1, fun t' _ h2 hw' => hvc t' h2 hw', ⟨gv2, hfe, hU, fun _ _ _ _ => rfl⟩, ?_, ?_⟩
  · intro t0 h1 h2 hw0 g hg hUg ha
    by_cases e : t0 = t
    · subst e
      rw [cd_k (by omega) hw0 p2]
      rcases hg.1 t0 h2 hw0 with z | ⟨k2, hk2, z, -⟩
      · rw [cd_n hw0 z]; omega
      · rw [cd_k (by omega) hw0 z]
        refine Nat.le_of_not_lt (fun hlt => hT k2 hlt g hg hUg (fun t' h3 h4 hw' => ?_) z)
        rw [← p1 t' h3 h4 hw']
        exact ha t' h3 hw'
    · exact ag_lex hL p1 t0 (by omega) h2 hw0 g hg hUg ha
  · intro t' h1 hw' hne
    by_cases e : t' = t
    · subst e
      rw [up_eq]
      exact ⟨fun z => absurd z (by decide), fun z => by omega⟩
    · rw [ag_st hL t' h1 hw' e]
      omega
theorem us_le {N : Nat → Int32} {np nt : Nat} {fr us gv st gv0 : Nat → Int32} (hP : PW N np nt) (hS : SVR N np nt fr us gv st gv0) (hf : FE N np nt fr gv) (h0 : ∀ k, k < 6 → 0 ≤ (fr k).toInt) : ∀ i, i < 6 → us i ≤ fr i := by
  obtain ⟨-, hp6, -, h40, -⟩ := id hP
  intro i hi
  rw [hS.1.2.2.1 i hi, Int32.le_iff_toInt_le, nI_toInt (by have := ldN_le N nt gv i; omega)]
  by_cases c : i < np
  · exact hf.2 i c
  · have : ldN N nt gv i = 0 := sN_0 (fun t ht => by
      rw [if_neg]
      intro z
      rcases hS.1.1 t (by omega) with e | ⟨k, hk, e⟩
      · exact m1_ne (by omega) (z.2.symm.trans e)
      · have := nI_inj (by omega) (by omega) (z.2.symm.trans e)
        omega)
    rw [this]
    exact h0 i hi
/-- a type that is not -/
theorem ag_no {N : Nat → Int32} {np nt : Nat} {fr us2 gv gv2 st : Nat → Int32} {U1 t k : Nat} (hP : PW N np nt) (hL : LI N np nt fr gv st U1 t) (ht : t < nt) (hx : VC N np fr (upd gv t (nI k)) t) (hS : SVR N np nt fr us2 gv2 (upd st t 1) (upd gv t (nI k))) (hT : TR N np nt fr gv U1 t k) (h0 : ∀ k, k < 6 → 0 ≤ (fr k).toInt) (hmin : ∀ g, FE N np nt fr g → U1 ≤ UU N nt g)
    (hno : ¬ ((∀ i, i < 6 → us2 i ≤ fr i) ∧ UU N nt gv2 = U1)) : LI N np nt fr gv2 (upd st t 1) U1 t ∧ TR N np nt fr gv2 U1 t (k + 1) := by
  obtain ⟨p1, p2⟩ := ag_pre hL hS
  obtain ⟨l1, l2, ⟨g0, l3, l4, l5⟩, l6, l7⟩ := id hL
  refine ⟨⟨hS.1.1, ?_, ⟨g0, l3, l4, fun t' h1 h2 hw' => by rw [p1 t' h1 h2 hw']; exact l5 t' h1 h2 hw'⟩, ag_lex hL p1, ag_st hL⟩, ?_⟩
  · intro t' h1 h2 hw'
    have := l2 t' h1 h2 hw'
    unfold VC at *
    rw [p1 t' h1 h2 hw']
    exact this
  · intro k' hk' g hg hU ha hgt
    have ha' : ∀ t', t' < t → t' < nt → mT N t' 2 = 0 → g t' = gv t' := fun t' h1 h2 hw' => by rw [← p1 t' h1 h2 hw']; exact ha t' h1 h2 hw'
    by_cases e : k' = k
    · subst e
      obtain ⟨a1, a2⟩ := ag_key hP hL ht hx hS hmin hg hU ha' hgt
      exact hno ⟨us_le hP hS a1 h0, a2⟩
    · exact hT k' (by omega) g hg hU ha' hgt
theorem ag_none {N : Nat → Int32} {np nt : Nat} {fr us2 gv gv2 st : Nat → Int32} {U1 t : Nat} (hP : PW N np nt) (hL : LI N np nt fr gv st U1 t) (ht : t < nt) (hw : mT N t 2 = 0) (hS : SVR N np nt fr us2 gv2 (upd st t 1) (upd gv t (-1))) (hT : TR N np nt fr gv U1 t np) (hmin : ∀ g, FE N np nt fr g → U1 ≤ UU N nt g) : LI N np nt fr gv2 (upd st t 1) U1 (t + 1) ∧ UU N nt gv2 = U1 := by
  obtain ⟨p1, p2⟩ := ag_pre hL hS
  obtain ⟨l1, l2, ⟨g0, l3, l4, l5⟩, l6, l7⟩ := id hL
  have hn : ∀ g, FE N np nt fr g → UU N nt g = U1 → (∀ t', t' < t → t' < nt → mT N t' 2 = 0 → g t' = gv t') → g t = -1 := by
    intro g hg hU ha
    rcases hg.1 t ht hw with z | ⟨k, hk, z, -⟩
    · exact z
    · exact absurd z (hT k hk g hg hU ha)
  have hx : VC N np fr (upd gv t (-1)) t := Or.inl up_eq
  obtain ⟨a1, a2⟩ := ag_key hP hL ht hx hS hmin l3 l4 l5 (hn g0 l3 l4 l5)
  refine ⟨⟨hS.1.1, fun t' _ h2 hw' => a1.1 t' h2 hw', ⟨gv2, a1, a2, fun _ _ _ _ => rfl⟩, ?_, ?_⟩, a2⟩
  · intro t0 h1 h2 hw0 g hg hUg ha
    by_cases e : t0 = t
    · subst e
      rw [cd_n hw0 p2, cd_n hw0 (hn g hg hUg (fun t' h3 h4 hw' => by rw [← p1 t' h3 h4 hw']; exact ha t' h3 hw'))]
      exact Nat.le_refl _
    · exact ag_lex hL p1 t0 (by omega) h2 hw0 g hg hUg ha
  · intro t' h1 hw' hne
    by_cases e : t' = t
    · subst e
      rw [up_eq]
      exact ⟨fun z => absurd z (by decide), fun z => by omega⟩
    · rw [ag_st hL t' h1 hw' e]
      omega
theorem LI.skip {N : Nat → Int32} {np nt : Nat} {fr gv st : Nat → Int32} {U1 t : Nat} (hL : LI N np nt fr gv st U1 t) (hw : ¬ mT N t 2 = 0) : LI N np nt fr gv st U1 (t + 1) := by
  obtain ⟨l1, l2, ⟨g0, l3, l4, l5⟩, l6, l7⟩ := hL
  have hne : ∀ t', mT N t' 2 = 0 → t' ≠ t := fun t' h1 e => hw (e ▸ h1)
  refine ⟨l1, fun t' h1 h2 h3 => l2 t' (by have := hne t' h3; omega) h2 h3, ⟨g0, l3, l4, fun t' h1 h2 h3 => l5 t' (by have := hne t' h3; omega) h2 h3⟩, fun t0 h1 h2 h3 => l6 t0 (by have := hne t0 h3; omega) h2 h3, ?_⟩
  intro t' h1 h2 _
  have := hne t' h2
  rw [l7 t' h1 h2 this]
  omega
theorem LI.fin {N : Nat → Int32} {np nt : Nat} {fr gv st : Nat → Int32} {U1 : Nat} (hL : LI N np nt fr gv st U1 nt) (hmin : ∀ g, FE N np nt fr g → U1 ≤ UU N nt g) : LR N np nt fr gv ∧ UU N nt gv = U1 := by
  obtain ⟨l1, l2, ⟨g0, l3, l4, l5⟩, l6, l7⟩ := hL
  have e1 : ∀ t, t < nt → mT N t 2 = 0 → gv t = g0 t := fun t h1 h2 => (l5 t h1 h1 h2).symm
  have eU : UU N nt gv = U1 := by
    rw [← l4]
    refine sN_congr (fun t ht => ?_)
    unfold cd
    by_cases hw : mT N t 2 = 0
    · rw [e1 t ht hw]
    · rw [if_neg hw, if_neg hw]
  have eL : ∀ k, ldN N nt gv k = ldN N nt g0 k := fun k => sN_congr (fun t ht => by
    by_cases hw : mT N t 2 = 0
    · rw [e1 t ht hw]
    · rw [if_neg (fun z => hw z.1), if_neg (fun z => hw z.1)])
  refine ⟨⟨⟨fun t h1 h2 => l2 t h1 h1 h2, fun k hk => by rw [eL]; exact l3.2 k hk⟩, fun g hg => by rw [eU]; exact hmin g hg, ?_⟩, eU⟩
  intro t0 h1 h2 g hg hU ha
  exact l6 t0 h1 h1 h2 g hg (by rw [hU, eU]) ha
