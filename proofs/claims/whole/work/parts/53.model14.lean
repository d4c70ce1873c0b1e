def cst (N : Nat → Int32) (k : Nat) : Nat := (mY N k 3).toNatClampNeg
def ldN (N : Nat → Int32) (nt : Nat) (gv : Nat → Int32) (k : Nat) : Nat := sN (fun t => if mT N t 2 = 0 ∧ gv t = nI k then 1 else 0) nt
def unN (N : Nat → Int32) (nt : Nat) (st gv : Nat → Int32) : Nat := sN (fun t => if OP N st t ∧ gv t = -1 then 1 else 0) nt
def ldS (N : Nat → Int32) (st gv : Nat → Int32) (k : Nat) (T : Nat) : Nat := sN (fun t => if mT N t 2 = 0 ∧ ¬ st t = 0 ∧ gv t = nI k then 1 else 0) T
theorem if01_le (p : Prop) [Decidable p] : (if p then 1 else 0) ≤ 1 := by split <;> omega
theorem ldN_le (N : Nat → Int32) (nt : Nat) (gv : Nat → Int32) (k : Nat) : ldN N nt gv k ≤ nt := sN_le (fun _ _ => if01_le _)
theorem ldS_le (N st gv : Nat → Int32) (k T : Nat) : ldS N st gv k T ≤ T := sN_le (fun _ _ => if01_le _)
/-- a certificate for those that have a type -/
def CT (N : Nat → Int32) (np nt : Nat) (fr us gv st : Nat → Int32) (r : Nat → Nat) : Prop :=
  (∀ k, k < np → r k ≤ 99 ∧ cst N k ≤ r k ∧ (us k < fr k → r k = cst N k)) ∧
  (∀ t, t < nt → OP N st t → ∀ k, k < np → gv t = nI k → ∀ k', k' < np → ¬ fr k' ≤ 0 → ¬ fitM N k' t = 0 → r k ≤ r k')
/-- and for all -/
def FC (N : Nat → Int32) (np nt : Nat) (fr us gv st : Nat → Int32) (r : Nat → Nat) : Prop :=
  (∀ k, k < np → r k ≤ 1000 ∧ cst N k ≤ r k ∧ (us k < fr k → r k = cst N k)) ∧
  (∀ t, t < nt → OP N st t → ∀ k, k < np → gv t = nI k → ∀ k', k' < np → ¬ fr k' ≤ 0 → ¬ fitM N k' t = 0 → r k ≤ r k') ∧
  (∀ t, t < nt → OP N st t → gv t = -1 → ∀ k', k' < np → ¬ fr k' ≤ 0 → ¬ fitM N k' t = 0 → r k' = 1000)
def SI (N : Nat → Int32) (np nt : Nat) (fr us gv st gv0 : Nat → Int32) : Prop :=
  (∀ t, t < 40 → gv t = -1 ∨ ∃ k, k < np ∧ gv t = nI k) ∧
  (∀ t, t < nt → OP N st t → gv t = -1 ∨ ∃ k, k < np ∧ gv t = nI k ∧ ¬ fr k ≤ 0 ∧ ¬ fitM N k t = 0) ∧
  (∀ k, k < 6 → us k = nI (ldN N nt gv k)) ∧
  (∀ t, ¬ (t < nt ∧ OP N st t) → gv t = gv0 t) ∧
  (∀ k, k < np → ldN N nt gv k ≤ ldS N st gv0 k nt ∨ (us k).toInt ≤ (fr k).toInt)
def chF (cm : Nat → Int32) : Nat → (Nat → Int32) → Int32 → (Nat → Int32)
  | 0, gv, _ => gv
  | f + 1, gv, a => if a = -1 then gv else chF cm f (upd gv (cm a.toNatClampNeg).toNatClampNeg a) (gv (cm a.toNatClampNeg).toNatClampNeg)
def chT (cm : Nat → Int32) : Nat → (Nat → Int32) → Int32 → Prop
  | 0, _, a => a = -1
  | f + 1, gv, a => a = -1 ∨ ∃ k t, k < 6 ∧ t < 40 ∧ a = nI k ∧ cm k = nI t ∧ chT cm f (upd gv t a) (gv t)
theorem chF_n (cm : Nat → Int32) (f : Nat) (gv : Nat → Int32) : chF cm f gv (-1) = gv := by
  cases f with
  | zero => rfl
  | succ f => rw [chF, if_pos rfl]
theorem chT_n (cm : Nat → Int32) (f : Nat) (gv : Nat → Int32) : chT cm f gv (-1) := by
  cases f with
  | zero => rfl
  | succ f => exact Or.inl rfl
theorem chF_s {cm : Nat → Int32} {f : Nat} {gv : Nat → Int32} {a : Int32} {k t : Nat} (hk : k < 6) (ht : t < 40) (ha : a = nI k) (hc : cm k = nI t) : chF cm (f + 1) gv a = chF cm f (upd gv t a) (gv t) := by
  rw [chF, if_neg (by rw [ha]; exact m1_ne (by omega))]
  have e1 : a.toNatClampNeg = k := by rw [ha]; exact nI_clamp (by omega)
  rw [e1, hc, nI_clamp (by omega)]
def CHR (N : Nat → Int32) (np nt : Nat) (fr st cm : Nat → Int32) (r : Nat → Nat) (D : Nat) (g g2 : Nat → Int32) (a : Int32) : Prop :=
  (∀ t, g2 t = g t ∨ (t < nt ∧ OP N st t ∧ ∃ k, k < np ∧ g2 t = nI k ∧ ¬ fr k ≤ 0 ∧ ¬ fitM N k t = 0 ∧ r k ≤ D ∧ cm k = nI t)) ∧
  (∀ k, k < 6 → ldN N nt g2 k = ldN N nt g k + (if a = nI k then 1 else 0)) ∧
  unN N nt st g2 + 1 = unN N nt st g
theorem ld_upd {N : Nat → Int32} {nt t k : Nat} {g : Nat → Int32} {v : Int32} (ht : t < nt) (hw : mT N t 2 = 0) : ldN N nt (upd g t v) k + (if g t = nI k then 1 else 0) = ldN N nt g k + (if v = nI k then 1 else 0) := by
  have := sN_upd (f := fun t => if mT N t 2 = 0 ∧ g t = nI k then 1 else 0) (g := fun i => if mT N i 2 = 0 ∧ upd g t v i = nI k then 1 else 0) (t := t) (n := nt) ht (fun i _ hne => by simp only [up_ne hne])
  simp only [up_eq, hw, true_and] at this
  exact this
theorem un_upd {N : Nat → Int32} {nt t : Nat} {st g : Nat → Int32} {v : Int32} (ht : t < nt) (hw : OP N st t) : unN N nt st (upd g t v) + (if g t = -1 then 1 else 0) = unN N nt st g + (if v = -1 then 1 else 0) := by
  have := sN_upd (f := fun t => if OP N st t ∧ g t = -1 then 1 else 0) (g := fun i => if OP N st i ∧ upd g t v i = -1 then 1 else 0) (t := t) (n := nt) ht (fun i _ hne => by simp only [up_ne hne])
  have hi : ∀ p : Prop, (OP N st t ∧ p) = p := fun p => propext ⟨And.right, fun z => ⟨hw, z⟩⟩
  simp only [up_eq, hi] at this
  exact this
theorem chain {N : Nat → Int32} {np nt : Nat} {fr gv st cm qu : Nat → Int32} {n D : Nat} {r : Nat → Nat} (hp : np ≤ 6) (h40 : nt ≤ 40) (hB : BQ N np nt fr gv st cm qu n)
    (hA : ∀ t, t < nt → OP N st t → ∀ k, k < np → gv t = nI k → ∀ k', k' < np → ¬ fr k' ≤ 0 → ¬ fitM N k' t = 0 → r k ≤ r k') :
    ∀ i, i < n → ∀ g : Nat → Int32, (∀ t, (gv t = -1 ∨ ∃ j, j < i ∧ gv t = qu j) → g t = gv t) → (∀ k, k < np → qu i = nI k → r k ≤ D) → ∀ f, i < f →
      chT cm f g (qu i) ∧ CHR N np nt fr st cm r D g (chF cm f g (qu i)) (qu i) := by
  intro i
  induction i using Nat.strongRecOn with
  | ind i ih =>
    intro hi g hg hD f hf
    obtain ⟨f, rfl⟩ : ∃ f', f = f' + 1 := ⟨f - 1, by omega⟩
    obtain ⟨k, t, hk, hq, hc, ht, ho, hfr, hfit, hgt⟩ := hB.2.1 i hi
    rw [chF_s (by omega) (by omega) hq hc]
    have hgt2 : g t = gv t := hg t hgt
    rcases hgt with h1 | ⟨j, hj, h1⟩
    · rw [hgt2, h1, chF_n]
      refine ⟨Or.inr ⟨k, t, by omega, by omega, hq, hc, by rw [hgt2, h1]; exact chT_n _ _ _⟩, ?_, ?_, ?_⟩
      · intro t'
        by_cases e : t' = t
        · subst e
          exact Or.inr ⟨ht, ho, k, hk, by rw [up_eq, hq], hfr, hfit, hD k hk hq, hc⟩
        · exact Or.inl (up_ne e)
      · intro k' hk'
        have := ld_upd (N := N) (nt := nt) (g := g) (v := qu i) (k := k') ht ho.1
        rw [hgt2, h1, if_neg (fun z => m1_ne (by omega) z.symm)] at this
        omega
      · have := un_upd (N := N) (nt := nt) (st := st) (g := g) (v := qu i) ht ho
        rw [hgt2, h1, if_pos rfl, if_neg (by rw [hq]; exact m1_ne (by omega))] at this
        omega
    · obtain ⟨kj, tj, hkj, hqj, -⟩ := hB.2.1 j (by omega)
      have hrk : r kj ≤ r k := hA t ht ho kj hkj (h1.trans hqj) k hk hfr hfit
      obtain ⟨c1, c2, c3, c4⟩ := ih j hj (by omega) (upd g t (qu i)) (by
        intro t' ht'
        have hne : t' ≠ t := by
          intro z
          subst z
          rcases ht' with z | ⟨j', hj', z⟩
          · rw [h1, hqj] at z
            exact m1_ne (by omega) z
          · have := hB.2.2.2 j j' (by omega) (by omega) (h1.symm.trans z)
            omega
        rw [up_ne hne]
        refine hg t' ?_
        rcases ht' with z | ⟨j', hj', z⟩
        · exact Or.inl z
        · exact Or.inr ⟨j', by omega, z⟩) (by
        intro k2 hk2 hq2
        have : k2 = kj := nI_inj (by omega) (by omega) (hq2.symm.trans hqj)
        subst this
        exact Nat.le_trans hrk (hD k hk hq)) f (by omega)
      rw [hgt2, h1]
      refine ⟨Or.inr ⟨k, t, by omega, by omega, hq, hc, by rw [hgt2, h1]; exact c1⟩, ?_, ?_, ?_⟩
      · intro t'
        rcases c2 t' with z | z
        · by_cases e : t' = t
          · subst e
            refine Or.inr ⟨ht, ho, k, hk, ?_, hfr, hfit, hD k hk hq, hc⟩
            rw [z, up_eq, hq]
          · exact Or.inl (by rw [z, up_ne e])
        · exact Or.inr z
      · intro k' hk'
        have := ld_upd (N := N) (nt := nt) (g := g) (v := qu i) (k := k') ht ho.1
        rw [hgt2, h1] at this
        rw [c3 k' hk']
        omega
      · have := un_upd (N := N) (nt := nt) (st := st) (g := g) (v := qu i) ht ho
        rw [hgt2, h1, if_neg (by rw [hqj]; exact m1_ne (by omega)), if_neg (by rw [hq]; exact m1_ne (by omega))] at this
        omega
theorem cst_of {N : Nat → Int32} {np nt k : Nat} (hP : PW N np nt) (hk : k < np) : mY N k 3 = nI (cst N k) ∧ cst N k ≤ 99 := by
  obtain ⟨c, hc, e⟩ := hP.2.2.2.2.2.2 k hk
  have : cst N k = c := by unfold cst; rw [e]; exact nI_clamp (by omega)
  rw [this]
  exact ⟨e, hc⟩
theorem BQ.mem {N : Nat → Int32} {np nt : Nat} {fr gv st cm qu : Nat → Int32} {n k : Nat} (h40 : nt ≤ 40) (hp : np ≤ 6) (h : BQ N np nt fr gv st cm qu n) (hk : k < 6) : ¬ cm k = -1 ↔ ∃ i, i < n ∧ qu i = nI k := by
  refine ⟨h.2.2.1 k hk, fun ⟨i, hi, hq⟩ => ?_⟩
  obtain ⟨k2, t2, a1, a2, a3, a4, -⟩ := h.2.1 i hi
  have : k2 = k := nI_inj (by omega) (by omega) (a2.symm.trans hq)
  subst this
  rw [a3]
  exact m1_ne (by omega)
theorem lt_of_succ {a : Nat} {y : Int32} (ha : a < 1000) (h : nI a + 1 < y) : nI a < y := by
  rw [nI_1, Int32.lt_iff_toInt_lt, nI_toInt (by omega)] at h
  rw [Int32.lt_iff_toInt_lt, nI_toInt (by omega)]
  omega
theorem augm {N : Nat → Int32} {np nt : Nat} {fr us gv st gv0 cm qu : Nat → Int32} {n : Nat} {best : Int32} {r : Nat → Nat} (hP : PW N np nt) (hS : SI N np nt fr us gv st gv0) (hC : CT N np nt fr us gv st r)
    (hF : F2 N np nt fr us gv st cm qu n n best) (hb : ¬ best = -1) :
    ∃ b, b < np ∧ best = nI b ∧ us b < fr b ∧ chT cm 7 gv best ∧ SI N np nt fr (upd us b (us b + 1)) (chF cm 7 gv best) st gv0 ∧ (∃ r2, CT N np nt fr (upd us b (us b + 1)) (chF cm 7 gv best) st r2) ∧ unN N nt st (chF cm 7 gv best) + 1 = unN N nt st gv := by
  obtain ⟨-, hp6, -, h40, -⟩ := id hP
  obtain ⟨⟨hB, hF1⟩, hF2, hBP⟩ := hF
  rcases hBP with ⟨z, -⟩ | ⟨j, b, hj, hbp, hbe, hqj, hroom, hmin⟩
  · exact absurd z hb
  have hn6 := hB.le
  obtain ⟨hT, hR1, hR2, hR3⟩ := chain (D := cst N b) hp6 h40 hB hC.2 j hj gv (fun _ _ => rfl) (fun k hk hq => by
    have : k = b := nI_inj (by omega) (by omega) (hq.symm.trans hqj)
    subst this
    exact Nat.le_of_eq ((hC.1 k hk).2.2 hroom)) 7 (by omega)
  have hbq : best = qu j := hbe.trans hqj.symm
  rw [← hbq] at hT hR1 hR2 hR3
  refine ⟨b, hbp, hbe, hroom, hT, ?_, ?_, hR3⟩
  · obtain ⟨s1, s2, s3, s4, s5⟩ := hS
    refine ⟨?_, ?_, ?_, ?_, ?_⟩
    · intro t ht
      rcases hR1 t with e | ⟨-, -, k, hk, e, -⟩
      · rw [e]; exact s1 t ht
      · exact Or.inr ⟨k, hk, e⟩
    · intro t ht ho
      rcases hR1 t with e | ⟨-, -, k, hk, e, h1, h2, -⟩
      · rw [e]; exact s2 t ht ho
      · exact Or.inr ⟨k, hk, e, h1, h2⟩
    · intro k hk
      rw [hR2 k hk]
      by_cases e : k = b
      · subst e
        rw [up_eq, s3 k hk, if_pos hbe, nI_1]
      · rw [up_ne e, s3 k hk, if_neg (fun z => e (nI_inj (by omega) (by omega) (z.symm.trans hbe)))]
        rfl
    · intro t ht
      rcases hR1 t with e | ⟨h1, h2, -⟩
      · rw [e]; exact s4 t ht
      · exact absurd ⟨h1, h2⟩ ht
    · intro k hk
      by_cases e : k = b
      · subst e
        right
        rw [up_eq, s3 k (by omega), nI_1, nI_toInt (by have := ldN_le N nt gv k; omega)]
        rw [s3 k (by omega), Int32.lt_iff_toInt_lt, nI_toInt (by have := ldN_le N nt gv k; omega)] at hroom
        omega
      · rw [up_ne e, hR2 k (by omega), if_neg (fun z => e (nI_inj (by omega) (by omega) (z.symm.trans hbe)))]
        exact s5 k hk
  · refine ⟨fun k => if cm k = -1 then r k else max (r k) (cst N b), ?_, ?_⟩
    · intro k hk
      obtain ⟨a1, a2, a3⟩ := hC.1 k hk
      have hcb := (cst_of hP hbp).2
      have hck := cst_of hP hk
      simp only []
      split
      · refine ⟨a1, a2, fun z => a3 ?_⟩
        by_cases e : k = b
        · subst e; exact hroom
        · rw [up_ne e] at z; exact z
      · rename_i hin
        refine ⟨by omega, by omega, fun z => ?_⟩
        have hz : us k < fr k := by
          by_cases e : k = b
          · subst e; exact hroom
          · rw [up_ne e] at z; exact z
        obtain ⟨i, hi, hq⟩ := (hB.mem h40 hp6 (by omega)).mp hin
        have hm := hmin i hi k hk hq hz
        rw [(cst_of hP hbp).1, hck.1] at hm
        have := (nI_leI (by omega) (by omega)).mp hm
        have := a3 hz
        omega
    · intro t ht ho k hk hg k' hk' hf' hfit'
      simp only []
      rcases hR1 t with e | ⟨-, -, k2, hk2, e2, -, -, hrD, hcm⟩
      · rw [e] at hg
        have hle := hC.2 t ht ho k hk hg k' hk' hf' hfit'
        by_cases hin : cm k = -1
        · rw [if_pos hin]
          split <;> omega
        · rw [if_neg hin]
          obtain ⟨i, hi, hq⟩ := (hB.mem h40 hp6 (by omega)).mp hin
          have := hF2 i hi t ht ho (hg.trans hq.symm) k' hk' hf' hfit'
          rw [if_neg this]
          omega
      · have : k2 = k := nI_inj (by omega) (by omega) (e2.symm.trans hg)
        subst this
        have hin : ¬ cm k2 = -1 := by rw [hcm]; exact m1_ne (by omega)
        obtain ⟨i, hi, hq⟩ := (hB.mem h40 hp6 (by omega)).mp hin
        obtain ⟨k3, t3, a1, a2, a3, a4, -, -, -, a8⟩ := hB.2.1 i hi
        have : k3 = k2 := nI_inj (by omega) (by omega) (a2.symm.trans hq)
        subst this
        have : t3 = t := nI_inj (by omega) (by omega) (a3.symm.trans hcm)
        subst this
        have hcl : CLS N np fr cm t3 := by
          rcases a8 with z | ⟨j2, hj2, z⟩
          · exact hF1 t3 ht ht ho z
          · exact hF2 j2 (by omega) t3 ht ho z
        rw [if_neg hin, if_neg (hcl k' hk' hf' hfit')]
        omega
theorem fin_FC {N : Nat → Int32} {np nt : Nat} {fr us gv st cm qu : Nat → Int32} {n : Nat} {best : Int32} {r : Nat → Nat} (hP : PW N np nt) (hC : CT N np nt fr us gv st r)
    (hF : F2 N np nt fr us gv st cm qu n n best) (hb : best = -1) : ∃ r2, FC N np nt fr us gv st r2 := by
  obtain ⟨-, hp6, -, h40, -⟩ := id hP
  obtain ⟨⟨hB, hF1⟩, hF2, hBP⟩ := hF
  rcases hBP with ⟨-, hno⟩ | ⟨j, b, hj, hbp, hbe, -⟩
  rotate_left
  · rw [hb] at hbe
    exact absurd hbe.symm (m1_ne (by omega))
  refine ⟨fun k => if cm k = -1 then r k else 1000, ?_, ?_, ?_⟩
  · intro k hk
    obtain ⟨a1, a2, a3⟩ := hC.1 k hk
    simp only []
    split
    · exact ⟨by omega, a2, a3⟩
    · rename_i hin
      obtain ⟨i, hi, hq⟩ := (hB.mem h40 hp6 (by omega)).mp hin
      exact ⟨by omega, by omega, fun z => absurd z (hno i hi k hk hq)⟩
  · intro t ht ho k hk hg k' hk' hf' hfit'
    simp only []
    have hle := hC.2 t ht ho k hk hg k' hk' hf' hfit'
    have hl9 := (hC.1 k hk).1
    by_cases hin : cm k = -1
    · rw [if_pos hin]
      split <;> omega
    · rw [if_neg hin]
      obtain ⟨i, hi, hq⟩ := (hB.mem h40 hp6 (by omega)).mp hin
      rw [if_neg (hF2 i hi t ht ho (hg.trans hq.symm) k' hk' hf' hfit')]
      omega
  · intro t ht ho hg k' hk' hf' hfit'
    simp only []
    rw [if_neg (hF1 t ht ht ho hg k' hk' hf' hfit')]
