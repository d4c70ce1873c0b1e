/-! THE REFERENCE'S PLANNER -/
def sN (f : Nat → Nat) : Nat → Nat
  | 0 => 0
  | n + 1 => sN f n + f n
theorem sN_congr {f g : Nat → Nat} : ∀ {n : Nat}, (∀ i, i < n → g i = f i) → sN g n = sN f n
  | 0, _ => rfl
  | n + 1, h => by
    rw [sN, sN, sN_congr (fun i hi => h i (by omega)), h n (by omega)]
theorem sN_upd {f g : Nat → Nat} {t : Nat} : ∀ {n : Nat}, t < n → (∀ i, i < n → i ≠ t → g i = f i) → sN g n + f t = sN f n + g t
  | 0, h, _ => absurd h (by omega)
  | n + 1, h, hh => by
    rw [sN, sN]
    by_cases e : t = n
    · subst e
      rw [sN_congr (fun i hi => hh i (by omega) (by omega))]
      omega
    · have := sN_upd (f := f) (g := g) (t := t) (n := n) (by omega) (fun i hi hn => hh i (by omega) hn)
      rw [hh n (by omega) (by omega)]
      omega
theorem sN_le {f : Nat → Nat} : ∀ {n : Nat}, (∀ i, i < n → f i ≤ 1) → sN f n ≤ n
  | 0, _ => Nat.le_refl 0
  | n + 1, h => by
    have := sN_le (f := f) (n := n) (fun i hi => h i (by omega))
    have := h n (by omega)
    rw [sN]
    omega
theorem sN_lt {f : Nat → Nat} {t : Nat} : ∀ {n : Nat}, (∀ i, i < n → f i ≤ 1) → t < n → f t = 0 → sN f n < n
  | 0, _, h, _ => absurd h (by omega)
  | n + 1, h, ht, h0 => by
    rw [sN]
    have h1 := h n (by omega)
    by_cases e : t = n
    · subst e
      have := sN_le (f := f) (n := t) (fun i hi => h i (by omega))
      omega
    · have := sN_lt (f := f) (t := t) (n := n) (fun i hi => h i (by omega)) (by omega) h0
      omega
/-- the numbers that a plan rests on -/
def PW (N : Nat → Int32) (np nt : Nat) : Prop := N 3 = nI np ∧ np ≤ 6 ∧ N 5 = nI nt ∧ nt ≤ 40 ∧ (∀ k, k < np → ¬ mY N k 1 = 0) ∧ TW N nt ∧ (∀ k, k < np → ∃ c, c ≤ 99 ∧ mY N k 3 = nI c)
abbrev OP (N st : Nat → Int32) (t : Nat) : Prop := mT N t 2 = 0 ∧ st t = 0
def opM (N st : Nat → Int32) (t : Nat) : Int32 := if mT N t 2 = 0 then (if st t = 0 then 1 else 0) else 0
theorem opM_1 {N st : Nat → Int32} {t : Nat} : ¬ opM N st t = 0 ↔ OP N st t := by
  unfold opM OP
  by_cases h1 : mT N t 2 = 0 <;> by_cases h2 : st t = 0 <;> simp [h1, h2]
theorem m1_ne {n : Nat} (h : n < 2 ^ 31) : ¬ nI n = -1 := by
  intro z
  have := congrArg Int32.toInt z
  rw [nI_toInt h] at this
  have e : (-1 : Int32).toInt = -1 := by decide
  omega
def cmN (cm : Nat → Int32) : Nat → Nat := fun k => if cm k = -1 then 0 else 1
/-- the row of types that are reached -/
def BQ (N : Nat → Int32) (np nt : Nat) (fr gv st cm qu : Nat → Int32) (n : Nat) : Prop :=
  sN (cmN cm) 6 = n ∧
  (∀ i, i < n → ∃ k t, k < np ∧ qu i = nI k ∧ cm k = nI t ∧ t < nt ∧ OP N st t ∧ ¬ fr k ≤ 0 ∧ ¬ fitM N k t = 0 ∧ (gv t = -1 ∨ ∃ j, j < i ∧ gv t = qu j)) ∧
  (∀ k, k < 6 → ¬ cm k = -1 → ∃ i, i < n ∧ qu i = nI k) ∧
  (∀ i j, i < n → j < n → qu i = qu j → i = j)
theorem cmN_le (cm : Nat → Int32) (i : Nat) : cmN cm i ≤ 1 := by
  unfold cmN
  split <;> omega
theorem BQ.le {N : Nat → Int32} {np nt : Nat} {fr gv st cm qu : Nat → Int32} {n : Nat} (h : BQ N np nt fr gv st cm qu n) : n ≤ 6 := by
  rw [← h.1]
  exact sN_le (fun i _ => cmN_le cm i)
theorem BQ.lt {N : Nat → Int32} {np nt : Nat} {fr gv st cm qu : Nat → Int32} {n k : Nat} (h : BQ N np nt fr gv st cm qu n) (hk : k < 6) (hc : cm k = -1) : n < 6 := by
  rw [← h.1]
  exact sN_lt (fun i _ => cmN_le cm i) hk (by unfold cmN; rw [if_pos hc])
theorem BQ.add {N : Nat → Int32} {np nt : Nat} {fr gv st cm qu : Nat → Int32} {n k t : Nat} (hp : np ≤ 6) (h40 : nt ≤ 40) (h : BQ N np nt fr gv st cm qu n) (hk : k < np) (hc : cm k = -1) (hf : ¬ fr k ≤ 0) (ht : t < nt) (ho : OP N st t) (hfit : ¬ fitM N k t = 0) (hg : gv t = -1 ∨ ∃ j, j < n ∧ gv t = qu j) :
    BQ N np nt fr gv st (upd cm k (nI t)) (upd qu n (nI k)) (n + 1) := by
  have hn := h.lt (by omega) hc
  obtain ⟨h1, h2, h3, h4⟩ := h
  have hnk : ∀ i, i < n → ¬ qu i = nI k := by
    intro i hi z
    obtain ⟨k', t', a1, a2, a3, a4, -⟩ := h2 i hi
    rw [a2] at z
    have := nI_inj (by omega) (by omega) z
    subst this
    rw [a3] at hc
    exact m1_ne (by omega) hc
  refine ⟨?_, ?_, ?_, ?_⟩
  · have := sN_upd (f := cmN cm) (g := cmN (upd cm k (nI t))) (t := k) (n := 6) (by omega) (fun i _ hne => by unfold cmN; rw [up_ne hne])
    have e1 : cmN cm k = 0 := by unfold cmN; rw [if_pos hc]
    have e2 : cmN (upd cm k (nI t)) k = 1 := by unfold cmN; rw [up_eq, if_neg (m1_ne (by omega))]
    omega
  · intro i hi
    by_cases e : i = n
    · subst e
      refine ⟨k, t, hk, up_eq, up_eq, ht, ho, hf, hfit, ?_⟩
      rcases hg with g | ⟨j, hj, g⟩
      · exact Or.inl g
      · exact Or.inr ⟨j, hj, by rw [up_ne (by omega)]; exact g⟩
    · obtain ⟨k', t', a1, a2, a3, a4, a5, a6, a7, a8⟩ := h2 i (by omega)
      have hkk : k' ≠ k := fun z => hnk i (by omega) (by rw [a2, z])
      refine ⟨k', t', a1, by rw [up_ne e]; exact a2, by rw [up_ne hkk]; exact a3, a4, a5, a6, a7, ?_⟩
      rcases a8 with g | ⟨j, hj, g⟩
      · exact Or.inl g
      · exact Or.inr ⟨j, hj, by rw [up_ne (by omega)]; exact g⟩
  · intro k' hk' hne
    by_cases e : k' = k
    · subst e
      exact ⟨n, by omega, up_eq⟩
    · rw [up_ne e] at hne
      obtain ⟨i, hi, hq⟩ := h3 k' hk' hne
      exact ⟨i, by omega, by rw [up_ne (by omega)]; exact hq⟩
  · intro i j hi hj he
    by_cases e1 : i = n
    · subst e1
      by_cases e2 : j = i
      · exact e2.symm
      · rw [up_eq, up_ne e2] at he
        exact absurd he.symm (hnk j (by omega))
    · by_cases e2 : j = n
      · subst e2
        rw [up_eq, up_ne e1] at he
        exact absurd he (hnk i (by omega))
      · rw [up_ne e1, up_ne e2] at he
        exact h4 i j (by omega) (by omega) he
/-- what reaches() makes -/
def RC (N : Nat → Int32) (np nt : Nat) (fr gv st : Nat → Int32) (t : Nat) (cm qu : Nat → Int32) (n : Nat) (cm2 qu2 : Nat → Int32) (n2 K : Nat) : Prop :=
  BQ N np nt fr gv st cm2 qu2 n2 ∧ n ≤ n2 ∧ (∀ i, i < n → qu2 i = qu i) ∧ (∀ k, ¬ cm k = -1 → cm2 k = cm k) ∧ (∀ k, k < K → ¬ fr k ≤ 0 → ¬ fitM N k t = 0 → ¬ cm2 k = -1)
theorem RC.skip {N : Nat → Int32} {np nt : Nat} {fr gv st : Nat → Int32} {t : Nat} {cm qu : Nat → Int32} {n : Nat} {cm2 qu2 : Nat → Int32} {n2 k : Nat} (h : RC N np nt fr gv st t cm qu n cm2 qu2 n2 k) (hc : ¬ cm2 k = -1 ∨ fr k ≤ 0 ∨ fitM N k t = 0) : RC N np nt fr gv st t cm qu n cm2 qu2 n2 (k + 1) := by
  obtain ⟨h1, h2, h3, h4, h5⟩ := h
  refine ⟨h1, h2, h3, h4, fun k' hk' a b => ?_⟩
  by_cases e : k' = k
  · subst e
    rcases hc with c | c | c
    · exact c
    · exact absurd c a
    · exact absurd c b
  · exact h5 k' (by omega) a b
theorem RC.add {N : Nat → Int32} {np nt : Nat} {fr gv st : Nat → Int32} {t : Nat} {cm qu : Nat → Int32} {n : Nat} {cm2 qu2 : Nat → Int32} {n2 k : Nat} (hp : np ≤ 6) (h40 : nt ≤ 40) (h : RC N np nt fr gv st t cm qu n cm2 qu2 n2 k) (hk : k < np) (hc : cm2 k = -1) (hf : ¬ fr k ≤ 0) (ht : t < nt) (ho : OP N st t) (hfit : ¬ fitM N k t = 0) (hg : gv t = -1 ∨ ∃ j, j < n ∧ gv t = qu j) :
    RC N np nt fr gv st t cm qu n (upd cm2 k (nI t)) (upd qu2 n2 (nI k)) (n2 + 1) (k + 1) := by
  obtain ⟨h1, h2, h3, h4, h5⟩ := h
  refine ⟨h1.add hp h40 hk hc hf ht ho hfit ?_, by omega, ?_, ?_, ?_⟩
  · rcases hg with g | ⟨j, hj, g⟩
    · exact Or.inl g
    · exact Or.inr ⟨j, by omega, by rw [h3 j hj]; exact g⟩
  · intro i hi
    rw [up_ne (by omega)]
    exact h3 i hi
  · intro k' hk'
    have e : k' ≠ k := fun z => by
      subst z
      rw [h4 _ hk'] at hc
      exact hk' hc
    rw [up_ne e]
    exact h4 k' hk'
  · intro k' hk' a b
    by_cases e : k' = k
    · subst e
      rw [up_eq]
      exact m1_ne (by omega)
    · rw [up_ne e]
      exact h5 k' (by omega) a b
def qH (h : AH) (fr us gv cm qu st : Nat → Int32) : AH := (fun b k j => if b = 3 then (if k = 5 then fr j else if k = 6 then us j else if k = 7 then gv j else if k = 8 then cm j else if k = 9 then qu j else if k = 10 then st j else h.1 b k j) else h.1 b k j, h.2)
theorem qH_5 {h : AH} {fr us gv cm qu st : Nat → Int32} {j : Nat} {v : Int32} : ui (qH h fr us gv cm qu st) 3 5 j v = qH h (upd fr j v) us gv cm qu st := by
  refine ah_ext (fun b' k' j' => ?_) rfl
  simp only [ui, qH, upd]
  by_cases e : b' = 3
  · subst e
    by_cases e2 : k' = 5
    · subst e2
      by_cases e3 : j' = j <;> simp [e3]
    · simp [e2]
  · simp [e]
theorem qG_5 {h : AH} {fr us gv cm qu st : Nat → Int32} : (qH h fr us gv cm qu st).1 3 5 = fr := rfl
theorem qG_5j {h : AH} {fr us gv cm qu st : Nat → Int32} {j : Nat} : (qH h fr us gv cm qu st).1 3 5 j = fr j := rfl
theorem qH_6 {h : AH} {fr us gv cm qu st : Nat → Int32} {j : Nat} {v : Int32} : ui (qH h fr us gv cm qu st) 3 6 j v = qH h fr (upd us j v) gv cm qu st := by
  refine ah_ext (fun b' k' j' => ?_) rfl
  simp only [ui, qH, upd]
  by_cases e : b' = 3
  · subst e
    by_cases e2 : k' = 6
    · subst e2
      by_cases e3 : j' = j <;> simp [e3]
    · simp [e2]
  · simp [e]
theorem qG_6 {h : AH} {fr us gv cm qu st : Nat → Int32} : (qH h fr us gv cm qu st).1 3 6 = us := rfl
theorem qG_6j {h : AH} {fr us gv cm qu st : Nat → Int32} {j : Nat} : (qH h fr us gv cm qu st).1 3 6 j = us j := rfl
theorem qH_7 {h : AH} {fr us gv cm qu st : Nat → Int32} {j : Nat} {v : Int32} : ui (qH h fr us gv cm qu st) 3 7 j v = qH h fr us (upd gv j v) cm qu st := by
  refine ah_ext (fun b' k' j' => ?_) rfl
  simp only [ui, qH, upd]
  by_cases e : b' = 3
  · subst e
    by_cases e2 : k' = 7
    · subst e2
      by_cases e3 : j' = j <;> simp [e3]
    · simp [e2]
  · simp [e]
theorem qG_7 {h : AH} {fr us gv cm qu st : Nat → Int32} : (qH h fr us gv cm qu st).1 3 7 = gv := rfl
theorem qG_7j {h : AH} {fr us gv cm qu st : Nat → Int32} {j : Nat} : (qH h fr us gv cm qu st).1 3 7 j = gv j := rfl
theorem qH_8 {h : AH} {fr us gv cm qu st : Nat → Int32} {j : Nat} {v : Int32} : ui (qH h fr us gv cm qu st) 3 8 j v = qH h fr us gv (upd cm j v) qu st := by
  refine ah_ext (fun b' k' j' => ?_) rfl
  simp only [ui, qH, upd]
  by_cases e : b' = 3
  · subst e
    by_cases e2 : k' = 8
    · subst e2
      by_cases e3 : j' = j <;> simp [e3]
    · simp [e2]
  · simp [e]
theorem qG_8 {h : AH} {fr us gv cm qu st : Nat → Int32} : (qH h fr us gv cm qu st).1 3 8 = cm := rfl
theorem qG_8j {h : AH} {fr us gv cm qu st : Nat → Int32} {j : Nat} : (qH h fr us gv cm qu st).1 3 8 j = cm j := rfl
theorem qH_9 {h : AH} {fr us gv cm qu st : Nat → Int32} {j : Nat} {v : Int32} : ui (qH h fr us gv cm qu st) 3 9 j v = qH h fr us gv cm (upd qu j v) st := by
  refine ah_ext (fun b' k' j' => ?_) rfl
  simp only [ui, qH, upd]
  by_cases e : b' = 3
  · subst e
    by_cases e2 : k' = 9
    · subst e2
      by_cases e3 : j' = j <;> simp [e3]
    · simp [e2]
  · simp [e]
theorem qG_9 {h : AH} {fr us gv cm qu st : Nat → Int32} : (qH h fr us gv cm qu st).1 3 9 = qu := rfl
theorem qG_9j {h : AH} {fr us gv cm qu st : Nat → Int32} {j : Nat} : (qH h fr us gv cm qu st).1 3 9 j = qu j := rfl
theorem qH_10 {h : AH} {fr us gv cm qu st : Nat → Int32} {j : Nat} {v : Int32} : ui (qH h fr us gv cm qu st) 3 10 j v = qH h fr us gv cm qu (upd st j v) := by
  refine ah_ext (fun b' k' j' => ?_) rfl
  simp only [ui, qH, upd]
  by_cases e : b' = 3
  · subst e
    by_cases e2 : k' = 10
    · subst e2
      by_cases e3 : j' = j <;> simp [e3]
    · simp [e2]
  · simp [e]
theorem qG_10 {h : AH} {fr us gv cm qu st : Nat → Int32} : (qH h fr us gv cm qu st).1 3 10 = st := rfl
theorem qG_10j {h : AH} {fr us gv cm qu st : Nat → Int32} {j : Nat} : (qH h fr us gv cm qu st).1 3 10 j = st j := rfl
theorem qG_2 {h : AH} {fr us gv cm qu st : Nat → Int32} : (qH h fr us gv cm qu st).1 3 2 = h.1 3 2 := rfl
theorem qG_2j {h : AH} {fr us gv cm qu st : Nat → Int32} {j : Nat} : (qH h fr us gv cm qu st).1 3 2 j = h.1 3 2 j := rfl
theorem qG_0j {h : AH} {fr us gv cm qu st : Nat → Int32} {j : Nat} : (qH h fr us gv cm qu st).1 3 0 j = h.1 3 0 j := rfl
theorem qH_0 {h : AH} {fr us gv cm qu st : Nat → Int32} {j : Nat} {v : Int32} : ui (qH h fr us gv cm qu st) 3 0 j v = qH (ui h 3 0 j v) fr us gv cm qu st := by
  refine ah_ext (fun b' k' j' => ?_) rfl
  simp only [ui, qH]
  by_cases e : b' = 3
  · subst e
    by_cases e2 : k' = 0
    · subst e2
      simp
    · simp [e2]
  · simp [e]
theorem qH_self {h : AH} : qH h (h.1 3 5) (h.1 3 6) (h.1 3 7) (h.1 3 8) (h.1 3 9) (h.1 3 10) = h := by
  refine ah_ext (fun b' k' j' => ?_) rfl
  simp only [qH]
  by_cases e : b' = 3
  · subst e
    simp only [if_true]
    repeat' split
    all_goals first | rfl | (rename_i e; rw [e])
  · simp [e]
theorem c11_isOpen {l : Launch} {G : GG} {h : AH} {Q : Option Value → AH → Prop} {fr us gv cm qu st : Nat → Int32} {t : Nat} (ht : t < 40) (hQ : Q (some (.int (opM (h.1 3 2) st t))) (qH h fr us gv cm qu st)) : Ct l G 1 yX11_isOpen cX11_isOpen 2 (some .boolean) [.ref (G.1 3 0), .int (nI t)] (qH h fr us gv cm qu st) Q := by
  refine Ct.of (by decide) (Nat.le_of_ble_eq_true rfl) ?_
  show AW l G 1 RX11 cX11_isOpen 2 (some .boolean) 0 [some (.ref (G.1 3 0)), some (.int (nI t))] [] (qH h fr us gv cm qu st) Q
  have htc : (nI t).toNatClampNeg = t := nI_clamp (by omega)
  refine a_aload_n dX11_isOpen_0 rfl ?_
  refine a_iload_n dX11_isOpen_1 rfl ?_
  refine a_iconst (v := 2) dX11_isOpen_2 (by decide) ?_
  refine a_cV2i dX11_isOpen_3 ml_11_160 wv_11_its rfl rfl (by decide) (Nat.le_of_ble_eq_true rfl) (c11_its (t := t) (w := 2) ht (by decide) ⟨rfl, rfl⟩) ?_
  try simp (disch := first | decide | assumption | omega) only [ui_eq, ui_k, ui_j, ui_b, ui_2, ul_1, ul_eq, ul_k, ul_j, ul_b, qG_2, qG_2j, qG_0j, qG_5, qG_5j, qH_5, qG_6, qG_6j, qH_6, qG_7, qG_7j, qH_7, qG_8, qG_8j, qH_8, qG_9, qG_9j, qH_9, qG_10, qG_10j, qH_10, qH_0, htc]
  refine a_if_ne dX11_isOpen_6 (tgt := 22) (by decide) (fun c6 => ?_) (fun c6 => ?_)
  · refine a_iconst (v := 0) dX11_isOpen_22 (by decide) ?_
    exact a_zret dX11_isOpen_23 rfl rfl (by simp only [opM, mT, c6, if_true, if_false] at hQ ⊢; exact hQ)
  · refine a_aload_n dX11_isOpen_9 rfl ?_
    refine a_getR (ci := 11) (j := 21) dX11_isOpen_10 rfl rfl (by decide) rfl fl_11_96 ?_
    refine a_iload_n dX11_isOpen_13 rfl ?_
    refine a_zaload dX11_isOpen_14 rfl (vp_in_nI ht (by decide)) ?_
    try simp (disch := first | decide | assumption | omega) only [ui_eq, ui_k, ui_j, ui_b, ui_2, ul_1, ul_eq, ul_k, ul_j, ul_b, qG_2, qG_2j, qG_0j, qG_5, qG_5j, qH_5, qG_6, qG_6j, qH_6, qG_7, qG_7j, qH_7, qG_8, qG_8j, qH_8, qG_9, qG_9j, qH_9, qG_10, qG_10j, qH_10, qH_0, htc]
    refine a_if_ne dX11_isOpen_15 (tgt := 22) (by decide) (fun c15 => ?_) (fun c15 => ?_)
    · refine a_iconst (v := 0) dX11_isOpen_22 (by decide) ?_
      exact a_zret dX11_isOpen_23 rfl rfl (by simp only [opM, mT, c6, c15, if_true, if_false] at hQ ⊢; exact hQ)
    · refine a_iconst (v := 1) dX11_isOpen_18 (by decide) ?_
      refine a_goto dX11_isOpen_19 (tgt := 23) (by decide) ?_
      exact a_zret dX11_isOpen_23 rfl rfl (by simp only [opM, mT, c6, c15, if_true, if_false] at hQ ⊢; exact hQ)
theorem l11_rc {l : Launch} {G : GG} {h : AH} {Q : Option Value → AH → Prop} {np nt : Nat} (hP : PW (h.1 3 2) np nt) {fr us gv cm qu st : Nat → Int32} {t n : Nat} {x : Int32} (ht : t < nt) (ho : OP (h.1 3 2) st t) (hg : gv t = -1 ∨ ∃ j, j < n ∧ gv t = qu j) (k : Nat) (hk : k ≤ np) (cm2 qu2 : Nat → Int32) (n2 : Nat) (hR : RC (h.1 3 2) np nt fr gv st t cm qu n cm2 qu2 n2 k) (hQ : ∀ cm3 qu3 n3, RC (h.1 3 2) np nt fr gv st t cm qu n cm3 qu3 n3 np → Q (some (.int (nI n3))) (qH h fr us gv cm3 qu3 st)) : AW l G 3 RX11 cX11_reaches 5 (some .int) 5 [some (.ref (G.1 3 0)), some (.int (nI t)), some (.int x), some (.int (nI n2)), some (.int (nI k))] [] (qH h fr us gv cm2 qu2 st) Q := by
  obtain ⟨hnp, hp6, hnt, ht40, hz, hTW, hCo⟩ := id hP
  have hkc : (nI k).toNatClampNeg = k := nI_clamp (by omega)
  have hn6 := hR.1.le
  have hnc : (nI n2).toNatClampNeg = n2 := nI_clamp (by omega)
  obtain ⟨⟨q, hq8, hq⟩, ⟨m, hm6, hm⟩, -⟩ := hTW t ht
  refine a_iload dX11_reaches_5 rfl ?_
  refine a_aload_n dX11_reaches_7 rfl ?_
  refine a_getR (ci := 11) (j := 11) dX11_reaches_8 rfl rfl (by decide) rfl fl_11_72 ?_
  refine a_iconst (v := 3) dX11_reaches_11 (by decide) ?_
  refine a_iaload dX11_reaches_12 rfl (by rw [vp_in_iff]; decide) ?_
  try simp (disch := first | decide | assumption | omega) only [ui_eq, ui_k, ui_j, ui_b, ui_2, ul_1, ul_eq, ul_k, ul_j, ul_b, qG_2, qG_2j, qG_0j, qG_5, qG_5j, qH_5, qG_6, qG_6j, qH_6, qG_7, qG_7j, qH_7, qG_8, qG_8j, qH_8, qG_9, qG_9j, qH_9, qG_10, qG_10j, qH_10, qH_0, hkc, hnc, hnp, cl3]
  refine a_icmp_ge dX11_reaches_13 (tgt := 75) (by decide) (fun c13 => ?_) (fun c13 => ?_)
  · have hge : np ≤ k := le_of_le c13 (by omega) (by omega)
    have hie : k = np := by omega
    subst hie
    refine a_iload_n dX11_reaches_75 rfl ?_
    exact a_iret dX11_reaches_76 rfl (hQ _ _ _ hR)
  · have hlt : k < np := lt_of_nle c13 (by omega) (by omega)
    refine a_aload_n dX11_reaches_16 rfl ?_
    refine a_getR (ci := 11) (j := 19) dX11_reaches_17 rfl rfl (by decide) rfl fl_11_90 ?_
    refine a_iload dX11_reaches_20 rfl ?_
    refine a_iaload dX11_reaches_22 rfl (vp_in_nI (show k < 6 by omega) (by decide)) ?_
    try simp (disch := first | decide | assumption | omega) only [ui_eq, ui_k, ui_j, ui_b, ui_2, ul_1, ul_eq, ul_k, ul_j, ul_b, qG_2, qG_2j, qG_0j, qG_5, qG_5j, qH_5, qG_6, qG_6j, qH_6, qG_7, qG_7j, qH_7, qG_8, qG_8j, qH_8, qG_9, qG_9j, qH_9, qG_10, qG_10j, qH_10, qH_0, hkc, hnc, hnp, cl3]
    refine a_iconst (v := (-1)) dX11_reaches_23 (by decide) ?_
    refine a_icmp_ne dX11_reaches_24 (tgt := 69) (by decide) (fun c24 => ?_) (fun c24 => ?_)
    · refine a_inc (c := 1) dX11_reaches_69 rfl (by decide) (by decide) rfl ?_
      dsimp only [lset]
      refine a_goto dX11_reaches_72 (tgt := 5) (by decide) ?_
      rw [nI_1]
      first
        | exact l11_rc hP ht ho hg (k + 1) (by omega) _ _ _ (hR.skip (Or.inl c24)) hQ
        | exact l11_rc hP ht ho hg (k + 1) (by omega) _ _ _ (hR.skip (Or.inr (Or.inl c34))) hQ
        | exact l11_rc hP ht ho hg (k + 1) (by omega) _ _ _ (hR.skip (Or.inr (Or.inr c44))) hQ
        | (rw [nI_1]; (try simp only [hnc, hkc, qH_8, qH_9]); exact l11_rc hP ht ho hg (k + 1) (by omega) _ _ _ (hR.add hp6 ht40 hlt c24 c34 ht ho c44 hg) hQ)
    · refine a_aload_n dX11_reaches_27 rfl ?_
      refine a_getR (ci := 11) (j := 16) dX11_reaches_28 rfl rfl (by decide) rfl fl_11_81 ?_
      refine a_iload dX11_reaches_31 rfl ?_
      refine a_iaload dX11_reaches_33 rfl (vp_in_nI (show k < 6 by omega) (by decide)) ?_
      try simp (disch := first | decide | assumption | omega) only [ui_eq, ui_k, ui_j, ui_b, ui_2, ul_1, ul_eq, ul_k, ul_j, ul_b, qG_2, qG_2j, qG_0j, qG_5, qG_5j, qH_5, qG_6, qG_6j, qH_6, qG_7, qG_7j, qH_7, qG_8, qG_8j, qH_8, qG_9, qG_9j, qH_9, qG_10, qG_10j, qH_10, qH_0, hkc, hnc, hnp, cl3]
      refine a_if_le dX11_reaches_34 (tgt := 69) (by decide) (fun c34 => ?_) (fun c34 => ?_)
      · refine a_inc (c := 1) dX11_reaches_69 rfl (by decide) (by decide) rfl ?_
        dsimp only [lset]
        refine a_goto dX11_reaches_72 (tgt := 5) (by decide) ?_
        rw [nI_1]
        first
          | exact l11_rc hP ht ho hg (k + 1) (by omega) _ _ _ (hR.skip (Or.inl c24)) hQ
          | exact l11_rc hP ht ho hg (k + 1) (by omega) _ _ _ (hR.skip (Or.inr (Or.inl c34))) hQ
          | exact l11_rc hP ht ho hg (k + 1) (by omega) _ _ _ (hR.skip (Or.inr (Or.inr c44))) hQ
          | (rw [nI_1]; (try simp only [hnc, hkc, qH_8, qH_9]); exact l11_rc hP ht ho hg (k + 1) (by omega) _ _ _ (hR.add hp6 ht40 hlt c24 c34 ht ho c44 hg) hQ)
      · refine a_aload_n dX11_reaches_37 rfl ?_
        refine a_iload dX11_reaches_38 rfl ?_
        refine a_iload_n dX11_reaches_40 rfl ?_
        refine a_cV2i dX11_reaches_41 ml_11_213 wv_11_isFit rfl rfl (by decide) (Nat.le_of_ble_eq_true rfl) (c11_isFit (h := qH h fr us gv cm2 qu2 st) (by omega) (by omega) hm hm6 hq hq8 ⟨rfl, rfl⟩) ?_
        try simp (disch := first | decide | assumption | omega) only [ui_eq, ui_k, ui_j, ui_b, ui_2, ul_1, ul_eq, ul_k, ul_j, ul_b, qG_2, qG_2j, qG_0j, qG_5, qG_5j, qH_5, qG_6, qG_6j, qH_6, qG_7, qG_7j, qH_7, qG_8, qG_8j, qH_8, qG_9, qG_9j, qH_9, qG_10, qG_10j, qH_10, qH_0, hkc, hnc, hnp, cl3]
        refine a_if_ne dX11_reaches_44 (tgt := 50) (by decide) (fun c44 => ?_) (fun c44 => ?_)
        · refine a_aload_n dX11_reaches_50 rfl ?_
          refine a_getR (ci := 11) (j := 19) dX11_reaches_51 rfl rfl (by decide) rfl fl_11_90 ?_
          refine a_iload dX11_reaches_54 rfl ?_
          refine a_iload_n dX11_reaches_56 rfl ?_
          refine a_iastore dX11_reaches_57 rfl (vp_in_nI (show k < 6 by omega) (by decide)) ?_
          refine a_aload_n dX11_reaches_58 rfl ?_
          refine a_getR (ci := 11) (j := 20) dX11_reaches_59 rfl rfl (by decide) rfl fl_11_93 ?_
          refine a_iload_n dX11_reaches_62 rfl ?_
          refine a_iload dX11_reaches_63 rfl ?_
          refine a_iastore dX11_reaches_65 rfl (vp_in_nI (hR.1.lt (by omega) c24) (by decide)) ?_
          refine a_inc (c := 1) dX11_reaches_66 rfl (by decide) (by decide) rfl ?_
          dsimp only [lset]
          refine a_inc (c := 1) dX11_reaches_69 rfl (by decide) (by decide) rfl ?_
          dsimp only [lset]
          refine a_goto dX11_reaches_72 (tgt := 5) (by decide) ?_
          rw [nI_1]
          first
            | exact l11_rc hP ht ho hg (k + 1) (by omega) _ _ _ (hR.skip (Or.inl c24)) hQ
            | exact l11_rc hP ht ho hg (k + 1) (by omega) _ _ _ (hR.skip (Or.inr (Or.inl c34))) hQ
            | exact l11_rc hP ht ho hg (k + 1) (by omega) _ _ _ (hR.skip (Or.inr (Or.inr c44))) hQ
            | (rw [nI_1]; (try simp only [hnc, hkc, qH_8, qH_9]); exact l11_rc hP ht ho hg (k + 1) (by omega) _ _ _ (hR.add hp6 ht40 hlt c24 c34 ht ho c44 hg) hQ)
        · refine a_goto dX11_reaches_47 (tgt := 69) (by decide) ?_
          refine a_inc (c := 1) dX11_reaches_69 rfl (by decide) (by decide) rfl ?_
          dsimp only [lset]
          refine a_goto dX11_reaches_72 (tgt := 5) (by decide) ?_
          rw [nI_1]
          first
            | exact l11_rc hP ht ho hg (k + 1) (by omega) _ _ _ (hR.skip (Or.inl c24)) hQ
            | exact l11_rc hP ht ho hg (k + 1) (by omega) _ _ _ (hR.skip (Or.inr (Or.inl c34))) hQ
            | exact l11_rc hP ht ho hg (k + 1) (by omega) _ _ _ (hR.skip (Or.inr (Or.inr c44))) hQ
            | (rw [nI_1]; (try simp only [hnc, hkc, qH_8, qH_9]); exact l11_rc hP ht ho hg (k + 1) (by omega) _ _ _ (hR.add hp6 ht40 hlt c24 c34 ht ho c44 hg) hQ)
termination_by np - k
decreasing_by all_goals omega
theorem c11_reaches {l : Launch} {G : GG} {h : AH} {Q : Option Value → AH → Prop} {np nt : Nat} (hP : PW (h.1 3 2) np nt) {fr us gv cm qu st : Nat → Int32} {t n : Nat} (ht : t < nt) (ho : OP (h.1 3 2) st t) (hg : gv t = -1 ∨ ∃ j, j < n ∧ gv t = qu j) (hB : BQ (h.1 3 2) np nt fr gv st cm qu n) (hQ : ∀ cm3 qu3 n3, RC (h.1 3 2) np nt fr gv st t cm qu n cm3 qu3 n3 np → Q (some (.int (nI n3))) (qH h fr us gv cm3 qu3 st)) : Ct l G 3 yX11_reaches cX11_reaches 5 (some .int) [.ref (G.1 3 0), .int (nI t), .int (nI n)] (qH h fr us gv cm qu st) Q := by
  refine Ct.of (by decide) (Nat.le_of_ble_eq_true rfl) ?_
  show AW l G 3 RX11 cX11_reaches 5 (some .int) 0 [some (.ref (G.1 3 0)), some (.int (nI t)), some (.int (nI n))] [] (qH h fr us gv cm qu st) Q
  refine a_iload_n dX11_reaches_0 rfl ?_
  refine a_istore_n dX11_reaches_1 (by decide) rfl ?_
  dsimp only [lset]
  refine a_iconst (v := 0) dX11_reaches_2 (by decide) ?_
  refine a_istore dX11_reaches_3 (by decide) rfl ?_
  dsimp only [lset]
  exact l11_rc hP ht ho hg 0 (by omega) cm qu n ⟨hB, Nat.le_refl n, fun _ _ => rfl, fun _ _ => rfl, fun _ z => absurd z (by omega)⟩ hQ
