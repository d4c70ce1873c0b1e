theorem lget_take {lv : List (Option Value)} : ∀ {n i : Nat} {v : Value}, lget (lv.take n) i = some v → lget lv i = some v := by
  induction lv with
  | nil => intro n i v h; simp [lget] at h
  | cons a l ih =>
    intro n i v h
    cases n with
    | zero => simp [lget] at h
    | succ n =>
      cases i with
      | zero => exact h
      | succ i => exact ih h
/-- fewer locals -/
theorem a_take {l : Launch} {G : GG} {d : Nat} {own : String} {cc : ByteArray} {nL : Nat} {ret : Option FieldType} {pc : Nat} {lv : List (Option Value)} {st : List Value} {h : AH} {Q : Option Value → AH → Prop} (n : Nat) (k : AW l G d own cc nL ret pc (lv.take n) st h Q) : AW l G d own cc nL ret pc lv st h Q := fun p e s m args below meth c H locs ls C hW hS hl => k p e s m args below meth c H locs ls C hW hS ⟨hl.1, hl.2.1, fun i v h => hl.2.2 i v (lget_take h)⟩
theorem ah_ext {h h2 : AH} (h1 : ∀ b k j, h.1 b k j = h2.1 b k j) (hl : h.2 = h2.2) : h = h2 := Prod.ext (funext fun b => funext fun k => funext fun j => h1 b k j) hl
