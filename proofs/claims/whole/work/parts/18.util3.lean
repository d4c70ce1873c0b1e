/-! whole cells -/
def setI (h : AH) (b k : Nat) (f : Nat → Int32) : AH := (fun b' k' j' => if b' = b ∧ k' = k then f j' else h.1 b' k' j', h.2)
def setL (h : AH) (b k : Nat) (f : Nat → Int64) : AH := (h.1, fun b' k' j' => if b' = b ∧ k' = k then f j' else h.2 b' k' j')
theorem setI_eq {h : AH} {b k j : Nat} {f : Nat → Int32} : (setI h b k f).1 b k j = f j := by simp [setI]
theorem setI_f {h : AH} {b k : Nat} {f : Nat → Int32} : (setI h b k f).1 b k = f := by funext j; simp [setI]
theorem setI_k {h : AH} {b k b' k' : Nat} {f : Nat → Int32} (hn : k' ≠ k) : (setI h b k f).1 b' k' = h.1 b' k' := by funext j; simp [setI, hn]
theorem setI_b {h : AH} {b k b' k' : Nat} {f : Nat → Int32} (hn : b' ≠ b) : (setI h b k f).1 b' k' = h.1 b' k' := by funext j; simp [setI, hn]
theorem setI_2 {h : AH} {b k : Nat} {f : Nat → Int32} : (setI h b k f).2 = h.2 := rfl
theorem setL_1 {h : AH} {b k : Nat} {f : Nat → Int64} : (setL h b k f).1 = h.1 := rfl
theorem setL_eq {h : AH} {b k j : Nat} {f : Nat → Int64} : (setL h b k f).2 b k j = f j := by simp [setL]
theorem setL_f {h : AH} {b k : Nat} {f : Nat → Int64} : (setL h b k f).2 b k = f := by funext j; simp [setL]
theorem setL_k {h : AH} {b k b' k' : Nat} {f : Nat → Int64} (hn : k' ≠ k) : (setL h b k f).2 b' k' = h.2 b' k' := by funext j; simp [setL, hn]
theorem setL_b {h : AH} {b k b' k' : Nat} {f : Nat → Int64} (hn : b' ≠ b) : (setL h b k f).2 b' k' = h.2 b' k' := by funext j; simp [setL, hn]
theorem ui_set {h : AH} {b k j : Nat} {v : Int32} : ui h b k j v = setI h b k (upd (h.1 b k) j v) := by
  refine ah_ext (fun b' k' j' => ?_) rfl
  simp only [ui, setI, upd]
  by_cases e : b' = b ∧ k' = k
  · obtain ⟨rfl, rfl⟩ := e
    simp
  · have e2 : ¬ (b' = b ∧ k' = k ∧ j' = j) := fun q => e ⟨q.1, q.2.1⟩
    simp [e, e2]
theorem ul_set {h : AH} {b k j : Nat} {v : Int64} : ul h b k j v = setL h b k (vp_updL (h.2 b k) j v) := by
  refine Prod.ext rfl (funext fun b' => funext fun k' => funext fun j' => ?_)
  simp only [ul, setL, vp_updL]
  by_cases e : b' = b ∧ k' = k
  · obtain ⟨rfl, rfl⟩ := e
    simp
  · have e2 : ¬ (b' = b ∧ k' = k ∧ j' = j) := fun q => e ⟨q.1, q.2.1⟩
    simp [e, e2]
theorem setI_setI {h : AH} {b k : Nat} {f g : Nat → Int32} : setI (setI h b k f) b k g = setI h b k g := by
  refine ah_ext (fun b' k' j' => ?_) rfl
  simp only [setI]
  split <;> rfl
theorem setL_setL {h : AH} {b k : Nat} {f g : Nat → Int64} : setL (setL h b k f) b k g = setL h b k g := by
  refine Prod.ext rfl (funext fun b' => funext fun k' => funext fun j' => ?_)
  simp only [setL]
  split <;> rfl
theorem setI_self {h : AH} {b k : Nat} : setI h b k (h.1 b k) = h := by
  refine ah_ext (fun b' k' j' => ?_) rfl
  simp only [setI]
  split
  · rename_i e; rw [e.1, e.2]
  · rfl
theorem setL_self {h : AH} {b k : Nat} : setL h b k (h.2 b k) = h := by
  refine Prod.ext rfl (funext fun b' => funext fun k' => funext fun j' => ?_)
  simp only [setL]
  split
  · rename_i e; rw [e.1, e.2]
  · rfl
/-- cells change places: the smaller number stands inside -/
theorem setI_comm {h : AH} {b k k2 : Nat} {f g : Nat → Int32} (hn : k2 < k) : setI (setI h b k f) b k2 g = setI (setI h b k2 g) b k f := by
  refine ah_ext (fun b' k' j' => ?_) rfl
  simp only [setI]
  by_cases e1 : b' = b ∧ k' = k
  · have e2 : ¬ (b' = b ∧ k' = k2) := fun q => by omega
    simp [e1, e2, show ¬ k = k2 by omega]
  · simp [e1]
theorem setL_comm {h : AH} {b k k2 : Nat} {f g : Nat → Int64} (hn : k2 < k) : setL (setL h b k f) b k2 g = setL (setL h b k2 g) b k f := by
  refine Prod.ext rfl (funext fun b' => funext fun k' => funext fun j' => ?_)
  simp only [setL]
  by_cases e1 : b' = b ∧ k' = k
  · have e2 : ¬ (b' = b ∧ k' = k2) := fun q => by omega
    simp [e1, e2, show ¬ k = k2 by omega]
  · simp [e1]
theorem setLI {h : AH} {b k b2 k2 : Nat} {f : Nat → Int64} {g : Nat → Int32} : setI (setL h b k f) b2 k2 g = setL (setI h b2 k2 g) b k f := rfl
theorem lg_ge {x y : Int64} : (0 : Int32) ≤ lg_cmp x y ↔ ¬ x < y := by
  unfold lg_cmp
  by_cases h1 : y < x
  · simp [h1, lg_lt_not h1]
    try decide
  · by_cases h2 : x = y
    · subst h2
      simp [h1]
      try decide
    · simp [h1, h2]
      have : x < y := by
        rw [Int64.lt_iff_toInt_lt] at *
        have : ¬ x.toInt = y.toInt := fun q => h2 (Int64.toInt_inj.mp q)
        omega
      simp [this]
      try decide
theorem lg_lt {x y : Int64} : lg_cmp x y < (0 : Int32) ↔ x < y := by
  have := @lg_ge x y
  rw [Int32.le_iff_toInt_le] at this
  rw [Int32.lt_iff_toInt_lt]
  constructor
  · intro h
    by_cases q : x < y
    · exact q
    · exact absurd (this.mpr q) (by omega)
  · intro h
    by_cases q : (0 : Int32).toInt ≤ (lg_cmp x y).toInt
    · exact absurd h (this.mp q)
    · omega
