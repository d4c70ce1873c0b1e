theorem a_inc {l : Launch} {G : GG} {d : Nat} {own : String} {cc : ByteArray} {nL : Nat} {ret : Option FieldType} {pc : Nat} {lv : List (Option Value)} {st : List Value} {h : AH} {Q : Option Value → AH → Prop} {i : Nat} {n : Int} {x c : Int32} (hdg : decode cc pc = .ok (.iinc i n, 3)) (hx : lget lv i = some (.int x)) (hc : Int32.ofInt n = c) (hn : i < nL) (hk : okS lv i = true) (k : AW l G d own cc nL ret (pc + 3) (lset lv i (some (.int (x + c)))) st h Q) : AW l G d own cc nL ret pc lv st h Q := a_iinc hdg hx (by rw [hc]) hn hk k
/-- the class's has(): 0 ≤ x < c -/
def hasI (c x : Int32) : Int32 := if x < 0 then 0 else if c ≤ x then 0 else 1
theorem max1_ne (x : Int32) : ¬ (if (1 : Int32) < x then x else 1) = 0 := by
  split
  · rename_i h1
    intro q
    subst q
    exact absurd h1 (by decide)
  · decide
