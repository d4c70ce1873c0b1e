theorem a_inc {l : Launch} {G : GG} {d : Nat} {own : String} {cc : ByteArray} {nL : Nat} {ret : Option FieldType} {pc : Nat} {lv : List (Option Value)} {st : List Value} {h : AH} {Q : Option Value → AH → Prop} {i : Nat} {n : Int} {x c : Int32} (hdg : decode cc pc = .ok (.iinc i n, 3)) (hx : lget lv i = some (.int x)) (hc : Int32.ofInt n = c) (hn : i < nL) (hk : okS lv i = true) (k : AW l G d own cc nL ret (pc + 3) (lset lv i (some (.int (x + c)))) st h Q) : AW l G d own cc nL ret pc lv st h Q := a_iinc hdg hx (by rw [hc]) hn hk k
theorem ui_eq {h : AH} {b k j : Nat} {v : Int32} : (ui h b k j v).1 b k j = v := by simp [ui]
theorem ui_k {h : AH} {b k j b' k' j' : Nat} {v : Int32} (hn : k' ≠ k) : (ui h b k j v).1 b' k' j' = h.1 b' k' j' := by simp [ui, hn]
theorem ui_b {h : AH} {b k j b' k' j' : Nat} {v : Int32} (hn : b' ≠ b) : (ui h b k j v).1 b' k' j' = h.1 b' k' j' := by simp [ui, hn]
theorem ui_j {h : AH} {b k j b' k' j' : Nat} {v : Int32} (hn : j' ≠ j) : (ui h b k j v).1 b' k' j' = h.1 b' k' j' := by simp [ui, hn]
theorem ui_2 {h : AH} {b k j : Nat} {v : Int32} : (ui h b k j v).2 = h.2 := rfl
theorem ul_1 {h : AH} {b k j : Nat} {v : Int64} : (ul h b k j v).1 = h.1 := rfl
theorem ul_eq {h : AH} {b k j : Nat} {v : Int64} : (ul h b k j v).2 b k j = v := by simp [ul]
theorem ul_k {h : AH} {b k j b' k' j' : Nat} {v : Int64} (hn : k' ≠ k) : (ul h b k j v).2 b' k' j' = h.2 b' k' j' := by simp [ul, hn]
theorem ul_b {h : AH} {b k j b' k' j' : Nat} {v : Int64} (hn : b' ≠ b) : (ul h b k j v).2 b' k' j' = h.2 b' k' j' := by simp [ul, hn]
theorem ul_j {h : AH} {b k j b' k' j' : Nat} {v : Int64} (hn : j' ≠ j) : (ul h b k j v).2 b' k' j' = h.2 b' k' j' := by simp [ul, hn]
theorem lt_of_nle {a b : Nat} (h : ¬ nI b ≤ nI a) (ha : a < 2 ^ 31) (hb : b < 2 ^ 31) : a < b := by
  rw [nI_leI hb ha] at h
  omega
theorem le_of_le {a b : Nat} (h : nI b ≤ nI a) (ha : a < 2 ^ 31) (hb : b < 2 ^ 31) : b ≤ a := (nI_leI hb ha).mp h
/-- the class's has(): 0 ≤ x < c -/
def hasI (c x : Int32) : Int32 := if x < 0 then 0 else if c ≤ x then 0 else 1
theorem hasI_ne {c x : Int32} (h : ¬ hasI c x = 0) : ¬ x < 0 ∧ ¬ c ≤ x := by
  unfold hasI at h
  split at h
  · exact absurd rfl h
  · split at h
    · exact absurd rfl h
    · exact ⟨by assumption, by assumption⟩
theorem hasI_eq {c x : Int32} (h : hasI c x = 0) : x < 0 ∨ c ≤ x := by
  unfold hasI at h
  split at h
  · exact Or.inl (by assumption)
  · split at h
    · exact Or.inr (by assumption)
    · exact absurd h (by decide)
theorem hasI_in {c x : Int32} {N : Nat} (h : ¬ hasI c x = 0) (hc : c.toInt ≤ N) : vp_in x N := by
  obtain ⟨h1, h2⟩ := hasI_ne h
  rw [Int32.lt_iff_toInt_lt] at h1
  rw [Int32.le_iff_toInt_le] at h2
  rw [vp_in_iff]
  have : (0 : Int32).toInt = 0 := by decide
  omega
def sumI (f : Nat → Int32) : Nat → Int32
  | 0 => 0
  | n + 1 => sumI f n + f n
def cntI (f : Nat → Int32) (x : Int32) : Nat → Int32
  | 0 => 0
  | n + 1 => if f n = x then cntI f x n + 1 else cntI f x n
theorem max1_ne (x : Int32) : ¬ (if (1 : Int32) < x then x else 1) = 0 := by
  split
  · rename_i h1
    intro q
    subst q
    exact absurd h1 (by decide)
  · decide
