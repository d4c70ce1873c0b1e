/-! THE ABSTRACT MACHINE. One heap of numbers for the class, the reference and the law's row: h.1 block cell slot (ints), h.2 (longs).
Blocks: 0 office, 1 and 2 the two Books, 3 the reference, 4 the law's row. -/
def gtbl : List Cond := lw_tbl.filter goodWord
theorem memI {w : Cond} (i : Nat) (h : lw_tbl[i]? = some w) (hg : goodWord w = true) : w ∈ gtbl := List.mem_filter.mpr ⟨List.mem_of_getElem? h, hg⟩
abbrev AH : Type := (Nat → Nat → Nat → Int32) × (Nat → Nat → Nat → Int64)
def ui (h : AH) (b k j : Nat) (v : Int32) : AH := (fun b' k' j' => if b' = b ∧ k' = k ∧ j' = j then v else h.1 b' k' j', h.2)
def ul (h : AH) (b k j : Nat) (v : Int64) : AH := (h.1, fun b' k' j' => if b' = b ∧ k' = k ∧ j' = j then v else h.2 b' k' j')
abbrev classes : List vw_C := [(RX0, TX0, 5), (RX1, TX1, 6), (RX2, TX2, 3), (RX3, TX3, 6), (RX4, TX4, 13), (RX5, TX5, 9), (RX6, TX6, 10), (RX7, TX7, 2), (RX8, TX8, 5), (RX9, TX9, 10), (RX10, TX10, 6), (RX11, TX11, 25)]
/-- the cells of a block: (0, class) an object, (1, n) ints, (2, n) bytes, (3, n) longs, (4, n) booleans -/
def k0l : List (Nat × Nat) := [(0, 10), (0, 7), (2, 740), (0, 8), (0, 6), (1, 5), (0, 5), (1, 8), (3, 56), (1, 7), (1, 7), (1, 8), (3, 7), (1, 7)]
def kBl : List (Nat × Nat) := [(0, 1), (0, 2), (1, 8), (0, 4), (1, 6), (1, 6), (1, 6), (1, 6), (1, 6), (1, 6), (1, 6), (1, 6), (1, 6), (1, 6), (1, 6), (0, 3), (1, 8), (1, 8), (1, 8), (1, 8), (1, 8), (0, 9), (1, 40), (1, 40), (1, 40), (1, 40), (1, 40), (1, 40), (1, 40), (1, 40), (1, 40), (0, 0), (1, 10), (1, 10), (1, 10)]
def kMl : List (Nat × Nat) := [(0, 11), (1, 740), (1, 631), (1, 631), (1, 6310), (1, 6), (1, 6), (1, 40), (1, 6), (1, 6), (4, 40), (1, 6)]
def kLl : List (Nat × Nat) := [(3, 1)]
def kd (b k : Nat) : Option (Nat × Nat) := match b with
  | 0 => k0l[k]?
  | 1 => kBl[k]?
  | 2 => kBl[k]?
  | 3 => kMl[k]?
  | 4 => kLl[k]?
  | _ => none
def isB (b : Nat) : Prop := b = 1 ∨ b = 2
theorem kdB {b k : Nat} {q : Nat × Nat} (hb : isB b) (h : kBl[k]? = some q) : kd b k = some q := by
  rcases hb with rfl | rfl <;> exact h
/-- the fields of a class: 0 an int, 1 a long, 2 one of the two Books (told by its block), t + 3 the cell t of the same block -/
def fkl : List (List Nat) := [[35, 36, 37, 0, 0], [4, 6, 18, 24, 34, 0], [5, 0, 0], [19, 20, 21, 22, 23, 0], [7, 8, 9, 10, 11, 12, 13, 14, 15, 16, 17, 0, 0], [10, 11, 12, 13, 14, 15, 16, 0, 0], [6, 8, 0, 0, 0, 0, 0, 0, 0, 0], [5, 0], [4, 0, 0, 0, 0], [25, 26, 27, 28, 29, 30, 31, 32, 33, 0], [4, 7, 9, 2, 2, 0], [0, 4, 0, 0, 0, 0, 0, 0, 0, 0, 1, 5, 6, 7, 0, 0, 8, 9, 10, 11, 12, 13, 0, 0, 14]]
def fk (ci j : Nat) : Nat := (fkl.getD ci []).getD j 0
def nf (ci : Nat) : Nat := (fkl.getD ci []).length
/-- the ghosts: addresses, where the law's own heap begins, class numbers, array classes, addresses of what was there before -/
abbrev GG : Type := (Nat → Nat → Nat) × Nat × va_G × (ClassId × ClassId × ClassId × ClassId) × (Nat → Nat)
def fval (ad : Nat → Nat → Nat) (h : AH) (b k ci j : Nat) : Value := match fk ci j with
  | 0 => .int (h.1 b k j)
  | 1 => .long (h.2 b k j)
  | 2 => .ref (ad (h.1 b k j).toNatClampNeg 0)
  | t + 3 => .ref (ad b t)
def fv (ad : Nat → Nat → Nat) (h : AH) (b k ci : Nat) : List Value := (List.range (nf ci)).map (fval ad h b k ci)
def cellE (ad : Nat → Nat → Nat) (c : ClassId × ClassId × ClassId × ClassId) (h : AH) (b k : Nat) (q : Nat × Nat) : va_E := match q.1 with
  | 0 => .inr (q.2, fv ad h b k q.2)
  | 1 => .inl (c.1, q.2, .inl (h.1 b k))
  | 2 => .inl (c.2.1, q.2, .inl (h.1 b k))
  | 3 => .inl (c.2.2.1, q.2, .inr (.inl (h.2 b k)))
  | _ => .inl (c.2.2.2, q.2, .inl (h.1 b k))
def Alo (G : GG) : Nat → Prop := fun q => G.2.1 ≤ q
def tysG (G : GG) : List (ClassId × FieldType) := [(G.2.2.2.1.1, .int), (G.2.2.2.1.2.1, .byte), (G.2.2.2.1.2.2.1, .long), (G.2.2.2.1.2.2.2, .boolean)]
def adI (G : GG) : Prop := (∀ b k q b' k' q', kd b k = some q → kd b' k' = some q' → G.1 b k = G.1 b' k' → b = b' ∧ k = k') ∧ ∀ b k q, kd b k = some q → G.2.1 ≤ G.1 b k
def Wd (G : GG) (h : AH) (H : Heap) : Prop := adI G ∧ ∀ b k q, kd b k = some q → va_at G.2.2.1 classes (G.1 b k, cellE G.1 G.2.2.2.1 h b k q) H
/-- what stood there before: the statics and the texts -/
def lstV : List Int32 := [1, 1, 2, 1, 0, 0, 0]
def mstV : List Int32 := [8, 9, 9, 6, 99, 9, 99]
def ownS (i : Nat) : String := if i < 7 then RX6 else RX10
def idxS : List Nat := [106, 111, 113, 115, 117, 119, 121, 175, 193, 288]
def txtS : List String := ["lands", "border", "type", "lorry", "single", "multi", "shared", "no such lorry", "no such what", "no trip that is out"]
def lenS : List Nat := [5, 6, 4, 5, 6, 5, 6, 13, 12, 19]
def bytS : List (List Int32) := [[108, 97, 110, 100, 115], [98, 111, 114, 100, 101, 114], [116, 121, 112, 101], [108, 111, 114, 114, 121], [115, 105, 110, 103, 108, 101], [109, 117, 108, 116, 105], [115, 104, 97, 114, 101, 100], [110, 111, 32, 115, 117, 99, 104, 32, 108, 111, 114, 114, 121], [110, 111, 32, 115, 117, 99, 104, 32, 119, 104, 97, 116], [110, 111, 32, 116, 114, 105, 112, 32, 116, 104, 97, 116, 32, 105, 115, 32, 111, 117, 116]]
def SF (G : GG) (U : State) : Prop :=
  va_Z "java/lang/String" "COMPACT_STRINGS" "Z" (.int 1) (Alo G) U U.heap ∧
  va_Z RX6 "LEAST" "[I" (.ref (G.2.2.2.2 0)) (Alo G) U U.heap ∧ va_Z RX6 "MOST" "[I" (.ref (G.2.2.2.2 1)) (Alo G) U U.heap ∧
  va_T .int (G.2.2.2.2 0) 7 (fun j => .int (lstV.getD j 0)) (Alo G) U U.heap ∧ va_T .int (G.2.2.2.2 1) 7 (fun j => .int (mstV.getD j 0)) (Alo G) U U.heap ∧
  va_Zq "jdk/internal/util/Preconditions" "SIOOBE_FORMATTER" "Ljava/util/function/BiFunction;" (Alo G) U U.heap ∧
  vk_S 10 lenS bytS (fun i => G.2.2.2.2 (2 + i)) (fun i => G.2.2.2.2 (12 + i)) (Alo G) U U.heap ∧
  ∀ i, i < 10 → vk_R (ownS i) (idxS.getD i 0) (txtS.getD i "") (G.2.2.2.2 (2 + i)) U
theorem SF.warm {G : GG} {s U : State} (hW : s.WarmedH U.vm) (hq : ∀ a : Nat, a < s.heap.size → ¬ Alo G a → U.heap[a]? = s.heap[a]?) (h : SF G s) : SF G U := by
  obtain ⟨h1, h2, h3, h4, h5, h6, h7, h8⟩ := h
  exact ⟨(va_Z.moved hW.alike h1).kept hq, (va_Z.moved hW.alike h2).kept hq, (va_Z.moved hW.alike h3).kept hq, (va_T.moved hW.alike h4).kept hq, (va_T.moved hW.alike h5).kept hq, (va_Zq.moved hW.alike h6).kept hq, (vk_S.moved hW.alike h7).kept hq, fun i hi => vk_R.warm hW (h8 i hi)⟩
theorem SF.blind {G : GG} {U : State} {g : JFrame} {mk : MethodId} {a : Array Value} (h : SF G U) : SF G (U.calling g mk a) := by
  obtain ⟨h1, h2, h3, h4, h5, h6, h7, h8⟩ := h
  have e : U.vm.Alike (U.calling g mk a).vm := Vm.Alike.refl U.vm
  exact ⟨va_Z.moved e h1, va_Z.moved e h2, va_Z.moved e h3, va_T.moved e h4, va_T.moved e h5, va_Zq.moved e h6, vk_S.moved e h7, fun i hi => vk_R.same rfl (h8 i hi)⟩
/-! locals -/
def lget : List (Option Value) → Nat → Option Value
  | [], _ => none
  | a :: _, 0 => a
  | _ :: l, n + 1 => lget l n
def lset : List (Option Value) → Nat → Option Value → List (Option Value)
  | [], 0, x => [x]
  | [], n + 1, x => none :: lset [] n x
  | _ :: l, 0, x => x :: l
  | a :: l, n + 1, x => a :: lset l n x
theorem lget_lset (l : List (Option Value)) (i : Nat) (x : Option Value) (j : Nat) : lget (lset l i x) j = if j = i then x else lget l j := by
  induction l generalizing i j with
  | nil =>
    induction i generalizing j with
    | zero => cases j <;> simp [lset, lget]
    | succ i ih => cases j with
      | zero => simp [lset, lget]
      | succ j => simp [lset, lget, ih]
  | cons a l ih =>
    cases i with
    | zero => cases j <;> simp [lset, lget]
    | succ i => cases j with
      | zero => simp [lset, lget]
      | succ j => simp [lset, lget, ih]
/-- the locals hold what is listed -/
def hv (ls : Array Slot) (nL : Nat) (lv : List (Option Value)) : Prop := ls.size = nL ∧ lv_wf ls ∧ ∀ i v, lget lv i = some v → ls[i]? = some (.val v)
def asc : Nat → List (Option Value) → List (Nat × Value)
  | _, [] => []
  | n, none :: l => asc (n + 1) l
  | n, some v :: l => (n, v) :: asc (n + 1) l
theorem mem_asc {j : Nat} {w : Value} : ∀ (lv : List (Option Value)) (n : Nat), (j, w) ∈ asc n lv ↔ n ≤ j ∧ lget lv (j - n) = some w := by
  intro lv
  induction lv with
  | nil => intro n; simp [asc, lget]
  | cons a l ih =>
    intro n
    have key : (n + 1 ≤ j ∧ lget l (j - (n + 1)) = some w) ↔ (n + 1 ≤ j ∧ lget (a :: l) (j - n) = some w) := by
      constructor
      · rintro ⟨h1, h2⟩
        refine ⟨h1, ?_⟩
        rw [show j - n = (j - (n + 1)) + 1 by omega]
        exact h2
      · rintro ⟨h1, h2⟩
        refine ⟨h1, ?_⟩
        rw [show j - n = (j - (n + 1)) + 1 by omega] at h2
        exact h2
    cases a with
    | none =>
      rw [asc, ih, key]
      constructor
      · rintro ⟨h1, h2⟩
        exact ⟨by omega, h2⟩
      · rintro ⟨h1, h2⟩
        rcases Nat.lt_or_ge n j with q | q
        · exact ⟨q, h2⟩
        · rw [show j - n = 0 by omega] at h2
          simp [lget] at h2
    | some v =>
      rw [asc, List.mem_cons, ih, key]
      constructor
      · rintro (h | ⟨h1, h2⟩)
        · cases h
          exact ⟨Nat.le_refl _, by rw [Nat.sub_self]; rfl⟩
        · exact ⟨by omega, h2⟩
      · rintro ⟨h1, h2⟩
        rcases Nat.lt_or_ge n j with q | q
        · exact Or.inr ⟨q, h2⟩
        · have hj : j = n := by omega
          subst hj
          rw [Nat.sub_self] at h2
          simp [lget] at h2
          exact Or.inl (by rw [h2])
theorem hv_iff {ls : Array Slot} {nL : Nat} {lv : List (Option Value)} : hv ls nL lv ↔ lv_has ls nL (asc 0 lv) := by
  constructor
  · rintro ⟨h1, h2, h3⟩
    refine ⟨h1, h2, ?_⟩
    rintro ⟨j, w⟩ hq
    exact h3 j w ((mem_asc lv 0).mp hq).2
  · rintro ⟨h1, h2, h3⟩
    exact ⟨h1, h2, fun i v h => h3 (i, v) ((mem_asc lv 0).mpr ⟨Nat.zero_le _, h⟩)⟩
/-- storing at i doesn't cut a long that stands before it -/
def okS (lv : List (Option Value)) : Nat → Bool
  | 0 => true
  | i + 1 => match lget lv i with
    | some (.long _) => false
    | some (.double _) => false
    | _ => true
theorem okS_spec {lv : List (Option Value)} {i j : Nat} {w : Value} (h : okS lv i = true) (hj : lget lv j = some w) : ¬ (j + 1 = i ∧ w.category = 2) := by
  rintro ⟨rfl, h2⟩
  rw [okS, hj] at h
  cases w <;> simp [Value.category] at h h2
theorem hv_store1 {ls : Array Slot} {nL i : Nat} {lv : List (Option Value)} {v : Value} (h : hv ls nL lv) (hi : i < nL) (hv1 : v.category = 1) (hk : okS lv i = true) : ∃ ls', storeLocals ls i v = some ls' ∧ hv ls' nL (lset lv i (some v)) := by
  obtain ⟨ls', e, h'⟩ := lv_store1 (hv_iff.mp h) hi hv1
  refine ⟨ls', e, h'.1, h'.2.1, fun j w hw => ?_⟩
  rw [lget_lset] at hw
  by_cases hj : j = i
  · rw [if_pos hj] at hw
    cases hw
    subst hj
    exact h'.2.2 _ List.mem_cons_self
  · rw [if_neg hj] at hw
    refine h'.2.2 (j, w) (List.mem_cons_of_mem _ (List.mem_filter.mpr ⟨(mem_asc lv 0).mpr ⟨Nat.zero_le _, hw⟩, ?_⟩))
    have := okS_spec hk hw
    simp [hj]
    omega
theorem hv_store2 {ls : Array Slot} {nL i : Nat} {lv : List (Option Value)} {v : Value} (h : hv ls nL lv) (hi : i + 1 < nL) (hv1 : v.category = 2) (hk : okS lv i = true) : ∃ ls', storeLocals ls i v = some ls' ∧ hv ls' nL (lset (lset lv i (some v)) (i + 1) none) := by
  obtain ⟨ls', e, h'⟩ := lv_store2 (hv_iff.mp h) hi hv1
  refine ⟨ls', e, h'.1, h'.2.1, fun j w hw => ?_⟩
  rw [lget_lset] at hw
  by_cases hj1 : j = i + 1
  · rw [if_pos hj1] at hw
    cases hw
  rw [if_neg hj1, lget_lset] at hw
  by_cases hj : j = i
  · rw [if_pos hj] at hw
    cases hw
    subst hj
    exact h'.2.2 _ List.mem_cons_self
  · rw [if_neg hj] at hw
    refine h'.2.2 (j, w) (List.mem_cons_of_mem _ (List.mem_filter.mpr ⟨(mem_asc lv 0).mpr ⟨Nat.zero_le _, hw⟩, ?_⟩))
    have := okS_spec hk hw
    simp [hj, hj1]
    omega
def ent : List Value → List (Option Value)
  | [] => []
  | .long x :: l => some (.long x) :: none :: ent l
  | .double x :: l => some (.double x) :: none :: ent l
  | v :: l => some v :: ent l
theorem ent_args : ∀ (vs : List Value) (n : Nat) (q : Nat × Value), q ∈ asc n (ent vs) → q ∈ lv_args n vs := by
  intro vs
  induction vs with
  | nil => intro n q h; simp [ent, asc] at h
  | cons v vs ih =>
    intro n q h
    cases v <;> simp [ent, asc] at h <;> rw [lv_args, List.mem_cons] <;> rcases h with h | h <;> first
      | exact Or.inl h
      | exact Or.inr (by simpa [Value.category] using ih _ q h)
/-! the judgement -/
def rmD (d : Nat) : Room := { frames := d, cells := 0, slots := 0, locals := 36 * d }
def QA (G : GG) (Q : Option Value → AH → Prop) : Array Value → State → Outcome → State → Prop := fun _ st o t => (∃ (v : Option Value) (h : AH), o = .returned v ∧ Q v h ∧ Wd G h t.heap) ∧ va_F (Alo G) st t
abbrev Cx (G : GG) (own : String) (cc : ByteArray) (nL : Nat) (ret : Option FieldType) (p : Program) (s : State) (m : MethodId) (args : Array Value) (meth : Method) (c : Code) : Prop :=
  p.tables.exec = Jvm.exec ∧ c.code = cc ∧ c.maxLocals = nL ∧ s.vm.findClass own = some m.cls ∧ (∀ w ∈ gtbl, w.before args s = true) ∧ meth.sig.returnType = ret ∧ meth.locks = false ∧ va_K G.2.2.1 classes (tysG G) s ∧ SF G s ∧ G.2.1 ≤ s.heap.size
def AW (l : Launch) (G : GG) (d : Nat) (own : String) (cc : ByteArray) (nL : Nat) (ret : Option FieldType) (pc : Nat) (lv : List (Option Value)) (st : List Value) (h : AH) (Q : Option Value → AH → Prop) : Prop :=
  ∀ (p : Program) (e : Env) (s : State) (m : MethodId) (args : Array Value) (below : List Frame) (meth : Method) (c : Code) (H : Heap) (locs : List Loc) (ls : Array Slot),
    Cx G own cc nL ret p s m args meth c → Wd G h H → va_S (Alo G) s.heap H locs → hv ls nL lv →
    W p l e (rmD d) s m args below meth c H locs 0 0 (MQ below (QA G Q) args s 0 0 (Alo G)) (F0 m pc ls st)
def preA (G : GG) (h : AH) (U : State) : Prop := G.2.1 ≤ U.heap.size ∧ Wd G h U.heap ∧ va_K G.2.2.1 classes (tysG G) U ∧ SF G U
/-- a method's contract: called with args at the heap h it returns, and Q holds of the answer and the heap -/
def Ct (l : Launch) (G : GG) (d : Nat) (y : MethodName) (cc : ByteArray) (nL : Nat) (ret : Option FieldType) (av : List Value) (h : AH) (Q : Option Value → AH → Prop) : Prop :=
  Met l y (Cond.code y cc nL ret :: gtbl) (rmD d) (va_Pc av (preA G h)) (QA G Q) 0 0 (Alo G)
theorem Ct.of {l : Launch} {G : GG} {d : Nat} {y : MethodName} {cc : ByteArray} {nL : Nat} {ret : Option FieldType} {av : List Value} {h : AH} {Q : Option Value → AH → Prop} (hy : plainName y.cls = true) (hn : (lg_sl av).length ≤ nL) (K : AW l G d y.cls cc nL ret 0 (ent av) [] h Q) : Ct l G d y cc nL ret av h Q := by
  refine Met.ofW (cc := cc) (maxL := nL) (ret := ret) hy rfl ?_
  intro p e s m args below meth c s₁ B hml hv0
  obtain ⟨rfl, hlo, hW, hK, hSF⟩ := hv0
  have hts := atoms_spec (ws := Cond.code y cc nL ret :: gtbl) B.pre
  have hl := lv_entry av (n := nL) hn
  rw [lg_entry_eq]
  refine K p e s m _ below meth c s.heap [] _ ⟨B.exec, B.bytes, hml, findClass_of_methodNamed B.named, fun w hw => hts w (List.mem_cons_of_mem _ hw), B.returns, B.notSynchronized, hK, hSF, hlo⟩ hW va_S.rf ?_
  exact hv_iff.mpr ⟨hl.1, hl.2.1, fun q hq => hl.2.2 q (ent_args av 0 q hq)⟩
