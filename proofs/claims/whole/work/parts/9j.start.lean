/-! the heap at the loop's beginning -/
def ord (b k : Nat) : Nat := if b = 0 then (if k = 3 then 4 else if k = 4 then 3 else k) else if b = 1 then 14 + k else if b = 2 then 49 + k else if b = 3 then 84 + k else 96
def h0 : AH := (fun b k => match b, k with
  | 0, 0 => fun j => if j = 3 then 1 else if j = 4 then 2 else 0
  | 1, 3 => fun j => if j = 12 then 1 else 0
  | 2, 3 => fun j => if j = 12 then 1 else 0
  | 3, 2 => fun q => if q = (1 : Int32).toNatClampNeg then 1 else 0
  | _, _ => fun _ => 0, fun _ _ _ => 0)
abbrev GO (base : Nat) (D : va_G) (ids : ClassId × ClassId × ClassId × ClassId) (sa : Nat → Nat) : GG := (fun b k => base + ord b k, base, D, ids, sa)
def WO (G : GG) : List va_E := .inr (10, FS10 G 1) :: NW10 G 1
def WM1 (G : GG) : List va_E := .inr (11, FS11 G 85) :: NW11 G 85
def WF (G : GG) : List va_E := WO G ++ (WM1 G ++ [.inl (G.2.2.2.1.2.2.1, 1, .inr (.inl (fun _ => 0)))])
theorem WO_len (G : GG) : (WO G).length = 84 := rfl
section
variable {base : Nat} {D : va_G} {ids : ClassId × ClassId × ClassId × ClassId} {sa : Nat → Nat}
theorem ord_i {b k b' k' : Nat} {q q' : Nat × Nat} (h : kd b k = some q) (h' : kd b' k' = some q') (e : ord b k = ord b' k') : b = b' ∧ k = k' := by
  have lb : ∀ {b k : Nat} {q : Nat × Nat}, kd b k = some q → (b = 0 ∧ k < 14) ∨ (b = 1 ∧ k < 35) ∨ (b = 2 ∧ k < 35) ∨ (b = 3 ∧ k < 12) ∨ (b = 4 ∧ k < 1) := by
    intro b k q h
    match b, h with
    | 0, h => exact Or.inl ⟨rfl, (List.getElem?_eq_some_iff.mp h).1⟩
    | 1, h => exact Or.inr (Or.inl ⟨rfl, (List.getElem?_eq_some_iff.mp h).1⟩)
    | 2, h => exact Or.inr (Or.inr (Or.inl ⟨rfl, (List.getElem?_eq_some_iff.mp h).1⟩))
    | 3, h => exact Or.inr (Or.inr (Or.inr (Or.inl ⟨rfl, (List.getElem?_eq_some_iff.mp h).1⟩)))
    | 4, h => exact Or.inr (Or.inr (Or.inr (Or.inr ⟨rfl, (List.getElem?_eq_some_iff.mp h).1⟩)))
    | b + 5, h => exact absurd h (by simp [kd])
  have a := lb h
  have a' := lb h'
  unfold ord at e
  rcases a with ⟨rfl, a⟩ | ⟨rfl, a⟩ | ⟨rfl, a⟩ | ⟨rfl, a⟩ | ⟨rfl, a⟩ <;> rcases a' with ⟨rfl, a'⟩ | ⟨rfl, a'⟩ | ⟨rfl, a'⟩ | ⟨rfl, a'⟩ | ⟨rfl, a'⟩ <;> simp at e ⊢ <;> (repeat' split at e) <;> omega
theorem adI_O : adI (GO base D ids sa) := ⟨fun b k q b' k' q' h h' e => ord_i h h' (Nat.add_left_cancel e), fun b k q _ => Nat.le_add_right _ _⟩
theorem wd_0 : ∀ k q, kd 0 k = some q → (WF (GO base D ids sa))[ord 0 k]? = some (cellE (GO base D ids sa).1 ids h0 0 k q) := by
  intro k q h
  match k, h with
  | 0, h => cases h; rfl
  | 1, h => cases h; rfl
  | 2, h => cases h; rfl
  | 3, h => cases h; rfl
  | 4, h => cases h; rfl
  | 5, h => cases h; rfl
  | 6, h => cases h; rfl
  | 7, h => cases h; rfl
  | 8, h => cases h; rfl
  | 9, h => cases h; rfl
  | 10, h => cases h; rfl
  | 11, h => cases h; rfl
  | 12, h => cases h; rfl
  | 13, h => cases h; rfl
  | k + 14, h => exact absurd (List.getElem?_eq_some_iff.mp h).1 (by show ¬ k + 14 < 14; omega)
theorem wd_1 : ∀ k q, kd 1 k = some q → (WF (GO base D ids sa))[ord 1 k]? = some (cellE (GO base D ids sa).1 ids h0 1 k q) := by
  intro k q h
  match k, h with
  | 0, h => cases h; rfl
  | 1, h => cases h; rfl
  | 2, h => cases h; rfl
  | 3, h => cases h; rfl
  | 4, h => cases h; rfl
  | 5, h => cases h; rfl
  | 6, h => cases h; rfl
  | 7, h => cases h; rfl
  | 8, h => cases h; rfl
  | 9, h => cases h; rfl
  | 10, h => cases h; rfl
  | 11, h => cases h; rfl
  | 12, h => cases h; rfl
  | 13, h => cases h; rfl
  | 14, h => cases h; rfl
  | 15, h => cases h; rfl
  | 16, h => cases h; rfl
  | 17, h => cases h; rfl
  | 18, h => cases h; rfl
  | 19, h => cases h; rfl
  | 20, h => cases h; rfl
  | 21, h => cases h; rfl
  | 22, h => cases h; rfl
  | 23, h => cases h; rfl
  | 24, h => cases h; rfl
  | 25, h => cases h; rfl
  | 26, h => cases h; rfl
  | 27, h => cases h; rfl
  | 28, h => cases h; rfl
  | 29, h => cases h; rfl
  | 30, h => cases h; rfl
  | 31, h => cases h; rfl
  | 32, h => cases h; rfl
  | 33, h => cases h; rfl
  | 34, h => cases h; rfl
  | k + 35, h => exact absurd (List.getElem?_eq_some_iff.mp h).1 (by show ¬ k + 35 < 35; omega)
theorem wd_2 : ∀ k q, kd 2 k = some q → (WF (GO base D ids sa))[ord 2 k]? = some (cellE (GO base D ids sa).1 ids h0 2 k q) := by
  intro k q h
  match k, h with
  | 0, h => cases h; rfl
  | 1, h => cases h; rfl
  | 2, h => cases h; rfl
  | 3, h => cases h; rfl
  | 4, h => cases h; rfl
  | 5, h => cases h; rfl
  | 6, h => cases h; rfl
  | 7, h => cases h; rfl
  | 8, h => cases h; rfl
  | 9, h => cases h; rfl
  | 10, h => cases h; rfl
  | 11, h => cases h; rfl
  | 12, h => cases h; rfl
  | 13, h => cases h; rfl
  | 14, h => cases h; rfl
  | 15, h => cases h; rfl
  | 16, h => cases h; rfl
  | 17, h => cases h; rfl
  | 18, h => cases h; rfl
  | 19, h => cases h; rfl
  | 20, h => cases h; rfl
  | 21, h => cases h; rfl
  | 22, h => cases h; rfl
  | 23, h => cases h; rfl
  | 24, h => cases h; rfl
  | 25, h => cases h; rfl
  | 26, h => cases h; rfl
  | 27, h => cases h; rfl
  | 28, h => cases h; rfl
  | 29, h => cases h; rfl
  | 30, h => cases h; rfl
  | 31, h => cases h; rfl
  | 32, h => cases h; rfl
  | 33, h => cases h; rfl
  | 34, h => cases h; rfl
  | k + 35, h => exact absurd (List.getElem?_eq_some_iff.mp h).1 (by show ¬ k + 35 < 35; omega)
theorem wd_3 : ∀ k q, kd 3 k = some q → (WF (GO base D ids sa))[ord 3 k]? = some (cellE (GO base D ids sa).1 ids h0 3 k q) := by
  intro k q h
  match k, h with
  | 0, h => cases h; rfl
  | 1, h => cases h; rfl
  | 2, h => cases h; rfl
  | 3, h => cases h; rfl
  | 4, h => cases h; rfl
  | 5, h => cases h; rfl
  | 6, h => cases h; rfl
  | 7, h => cases h; rfl
  | 8, h => cases h; rfl
  | 9, h => cases h; rfl
  | 10, h => cases h; rfl
  | 11, h => cases h; rfl
  | k + 12, h => exact absurd (List.getElem?_eq_some_iff.mp h).1 (by show ¬ k + 12 < 12; omega)
theorem wd_4 : ∀ k q, kd 4 k = some q → (WF (GO base D ids sa))[ord 4 k]? = some (cellE (GO base D ids sa).1 ids h0 4 k q) := by
  intro k q h
  match k, h with
  | 0, h => cases h; rfl
  | k + 1, h => exact absurd (List.getElem?_eq_some_iff.mp h).1 (by show ¬ k + 1 < 1; omega)
theorem Wd_O {H : Heap} (hV : VL (GO base D ids sa) (WF (GO base D ids sa)) H) : Wd (GO base D ids sa) h0 H := by
  refine ⟨adI_O, fun b k q h => ?_⟩
  refine hV.2 (ord b k) _ ?_
  match b, h with
  | 0, h => exact wd_0 k q h
  | 1, h => exact wd_1 k q h
  | 2, h => exact wd_2 k q h
  | 3, h => exact wd_3 k q h
  | 4, h => exact wd_4 k q h
  | b + 5, h => exact absurd h (by simp [kd])
end
theorem h0_rng : rngG (h0.1 0 11) := fun k _ => by show (0 : Int32).toInt < 7; decide
theorem CPL_0 : CPL h0 0 := by
  refine ⟨1, 2, 0, 0, 0, 0, 0, 0, 0, ⟨Or.inl rfl, Or.inr rfl, by decide, rfl, rfl, 0, by decide, rfl⟩, ⟨rfl, rfl, by decide, fun p hp => absurd hp (by omega)⟩, rfl, ?_, ?_, ?_, ?_, ⟨rfl, by decide, rfl, rfl, by decide⟩, fun i hi => absurd hi (by omega)⟩
  · exact h0_rng
  · refine ⟨⟨rfl, rfl, rfl, rfl, rfl, rfl, by decide +kernel⟩, fun a ha => ?_, fun k hk => absurd hk (by omega), fun k hk => absurd hk (by omega), fun k hk => absurd hk (by omega)⟩
    show (0 : Int32) = if 103 + a = (1 : Int32).toNatClampNeg then 1 else 0
    rw [if_neg (by have : (1 : Int32).toNatClampNeg = 1 := by decide
                   omega)]
  · refine ⟨⟨rfl, by decide, rfl, by decide, rfl, by decide, rfl, by decide⟩, ⟨1, by decide, by decide, rfl, fun k hk => absurd hk (by omega)⟩, ⟨0, by decide, rfl⟩, fun k hk => absurd hk (by omega), fun k hk => absurd hk (by omega), fun t t' ht => absurd ht (by omega), by decide⟩
  · intro j hj
    show (if j = (1 : Int32).toNatClampNeg then (1 : Int32) else 0) = 0
    rw [if_neg (by have : (1 : Int32).toNatClampNeg = 1 := by decide
                   omega)]
