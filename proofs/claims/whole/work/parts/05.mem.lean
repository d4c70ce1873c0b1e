theorem mmax_st : Cond.static Lib.Math.max.name ∈ gtbl := memI 706 (by decide +kernel) (by decide +kernel)
theorem mmax_cd : Cond.code Lib.Math.max.name Lib.Math.max.code 2 (some .int) ∈ gtbl := memI 707 (by decide +kernel) (by decide +kernel)
theorem mmin_st : Cond.static Lib.Math.min.name ∈ gtbl := memI 528 (by decide +kernel) (by decide +kernel)
theorem mmin_cd : Cond.code Lib.Math.min.name Lib.Math.min.code 2 (some .int) ∈ gtbl := memI 529 (by decide +kernel) (by decide +kernel)
theorem math_in : Cond.initialized "java/lang/Math" ∈ gtbl := memI 81 (by decide +kernel) (by decide +kernel)
theorem memP {ws : List Cond} {ps : List Nat} (h : ws = ps.filterMap (fun i => lw_tbl[i]?)) (hg : ws.all goodWord = true) : ∀ w ∈ ws, w ∈ gtbl := by
  intro w hw
  have h9 := List.all_eq_true.mp hg w hw
  rw [h] at hw
  obtain ⟨i, -, hi⟩ := List.mem_filterMap.mp hw
  exact List.mem_filter.mpr ⟨List.mem_of_getElem? hi, h9⟩
theorem good_tbl {y : MethodName} {cy : ByteArray} {ny : Nat} {ry : Option FieldType} (hc : Cond.code y cy ny ry ∈ gtbl) : GoodIn gtbl (Cond.code y cy ny ry :: gtbl) := by
  have key : ∀ w ∈ gtbl, w ∈ gtbl ∧ ((w.onTables && w.keeps) = true ∨ ∃ ty, w = .arrayClass ty) := fun w hw => ⟨hw, good_of_word (List.mem_filter.mp hw).2⟩
  intro w hw
  rcases List.mem_cons.mp hw with rfl | h
  · exact key _ hc
  · exact key _ h
theorem inX0 : ∀ w ∈ u_ws RX0 TX0 5, w ∈ gtbl := memP (ps := [415, 417, 419, 421, 423]) (by decide +kernel) (by decide +kernel)
theorem inX1 : ∀ w ∈ u_ws RX1 TX1 6, w ∈ gtbl := memP (ps := [443, 445, 447, 449, 451, 453]) (by decide +kernel) (by decide +kernel)
theorem inX2 : ∀ w ∈ u_ws RX2 TX2 3, w ∈ gtbl := memP (ps := [237, 239, 241]) (by decide +kernel) (by decide +kernel)
theorem inX3 : ∀ w ∈ u_ws RX3 TX3 6, w ∈ gtbl := memP (ps := [331, 333, 335, 337, 339, 341]) (by decide +kernel) (by decide +kernel)
theorem inX4 : ∀ w ∈ u_ws RX4 TX4 13, w ∈ gtbl := memP (ps := [279, 281, 283, 285, 287, 289, 291, 293, 295, 297, 299, 301, 303]) (by decide +kernel) (by decide +kernel)
theorem inX5 : ∀ w ∈ u_ws RX5 TX5 9, w ∈ gtbl := memP (ps := [199, 201, 203, 205, 207, 209, 211, 213, 215]) (by decide +kernel) (by decide +kernel)
theorem inX6 : ∀ w ∈ u_ws RX6 TX6 10, w ∈ gtbl := memP (ps := [158, 160, 162, 164, 166, 168, 170, 172, 174, 176]) (by decide +kernel) (by decide +kernel)
theorem inX7 : ∀ w ∈ u_ws RX7 TX7 2, w ∈ gtbl := memP (ps := [108, 110]) (by decide +kernel) (by decide +kernel)
theorem inX8 : ∀ w ∈ u_ws RX8 TX8 5, w ∈ gtbl := memP (ps := [130, 132, 134, 136, 138]) (by decide +kernel) (by decide +kernel)
theorem inX9 : ∀ w ∈ u_ws RX9 TX9 10, w ∈ gtbl := memP (ps := [378, 380, 382, 384, 386, 388, 390, 392, 394, 396]) (by decide +kernel) (by decide +kernel)
theorem inX10 : ∀ w ∈ u_ws RX10 TX10 6, w ∈ gtbl := memP (ps := [462, 464, 466, 468, 470, 472]) (by decide +kernel) (by decide +kernel)
theorem inX11 : ∀ w ∈ u_ws RX11 TX11 25, w ∈ gtbl := memP (ps := [1068, 1070, 1072, 1074, 1076, 1078, 1080, 1082, 1084, 1086, 1088, 1090, 1092, 1094, 1096, 1098, 1100, 1102, 1104, 1106, 1108, 1110, 1112, 1114, 1116]) (by decide +kernel) (by decide +kernel)
theorem cls_ok (ci : Nat) (q : vw_C) (h : classes[ci]? = some q) : (∀ w ∈ u_ws q.1 q.2.1 q.2.2, w ∈ gtbl) ∧ (∃ ty : Nat → FieldType, ∀ k, k < q.2.2 → parseFieldDescriptor (q.2.1 k).2.2.1 = some (ty k)) ∧ (∀ a, a < q.2.2 → ∀ b, b < q.2.2 → a ≠ b → (q.2.1 a).2.1 ≠ (q.2.1 b).2.1) ∧ q.2.2 = nf ci := by
  match ci, h with
  | 0, h => cases h; exact ⟨inX0, ⟨tyX0, tyX0_ok⟩, nmX0, rfl⟩
  | 1, h => cases h; exact ⟨inX1, ⟨tyX1, tyX1_ok⟩, nmX1, rfl⟩
  | 2, h => cases h; exact ⟨inX2, ⟨tyX2, tyX2_ok⟩, nmX2, rfl⟩
  | 3, h => cases h; exact ⟨inX3, ⟨tyX3, tyX3_ok⟩, nmX3, rfl⟩
  | 4, h => cases h; exact ⟨inX4, ⟨tyX4, tyX4_ok⟩, nmX4, rfl⟩
  | 5, h => cases h; exact ⟨inX5, ⟨tyX5, tyX5_ok⟩, nmX5, rfl⟩
  | 6, h => cases h; exact ⟨inX6, ⟨tyX6, tyX6_ok⟩, nmX6, rfl⟩
  | 7, h => cases h; exact ⟨inX7, ⟨tyX7, tyX7_ok⟩, nmX7, rfl⟩
  | 8, h => cases h; exact ⟨inX8, ⟨tyX8, tyX8_ok⟩, nmX8, rfl⟩
  | 9, h => cases h; exact ⟨inX9, ⟨tyX9, tyX9_ok⟩, nmX9, rfl⟩
  | 10, h => cases h; exact ⟨inX10, ⟨tyX10, tyX10_ok⟩, nmX10, rfl⟩
  | 11, h => cases h; exact ⟨inX11, ⟨tyX11, tyX11_ok⟩, nmX11, rfl⟩
  | k + 12, h => simp [classes] at h
theorem cls_int0 : (List.range 12).all (fun ci => (List.range (nf ci)).all (fun j => fk ci j != 0 || (match classes[ci]? with | some q => decide (parseFieldDescriptor (q.2.1 j).2.2.1 = some .int) && !(q.2.1 j).2.2.2 | none => false))) = true := by decide +kernel
theorem cls_int {ci j N : Nat} {C0 : String} {T : u_T} (hc : classes[ci]? = some (C0, T, N)) (hci : ci < 12) (hj : j < nf ci) (hf : fk ci j = 0) : parseFieldDescriptor (T j).2.2.1 = some .int ∧ (T j).2.2.2 = false := by
  have h1 := List.all_eq_true.mp (List.all_eq_true.mp cls_int0 ci (List.mem_range.mpr hci)) j (List.mem_range.mpr hj)
  rw [hf, hc] at h1
  simpa using h1
theorem cls_lng0 : (List.range 12).all (fun ci => (List.range (nf ci)).all (fun j => fk ci j != 1 || (match classes[ci]? with | some q => decide (parseFieldDescriptor (q.2.1 j).2.2.1 = some .long) && !(q.2.1 j).2.2.2 | none => false))) = true := by decide +kernel
theorem cls_lng {ci j N : Nat} {C0 : String} {T : u_T} (hc : classes[ci]? = some (C0, T, N)) (hci : ci < 12) (hj : j < nf ci) (hf : fk ci j = 1) : parseFieldDescriptor (T j).2.2.1 = some .long ∧ (T j).2.2.2 = false := by
  have h1 := List.all_eq_true.mp (List.all_eq_true.mp cls_lng0 ci (List.mem_range.mpr hci)) j (List.mem_range.mpr hj)
  rw [hf, hc] at h1
  simpa using h1
theorem cls_dyn0 : (List.range 12).all (fun ci => (List.range (nf ci)).all (fun j => fk ci j != 2 || (match classes[ci]? with | some q => decide (parseFieldDescriptor (q.2.1 j).2.2.1 = some (.object "PermitOffice$Books")) && !(q.2.1 j).2.2.2 | none => false))) = true := by decide +kernel
theorem cls_dyn {ci j N : Nat} {C0 : String} {T : u_T} (hc : classes[ci]? = some (C0, T, N)) (hci : ci < 12) (hj : j < nf ci) (hf : fk ci j = 2) : parseFieldDescriptor (T j).2.2.1 = some (.object "PermitOffice$Books") ∧ (T j).2.2.2 = false := by
  have h1 := List.all_eq_true.mp (List.all_eq_true.mp cls_dyn0 ci (List.mem_range.mpr hci)) j (List.mem_range.mpr hj)
  rw [hf, hc] at h1
  simpa using h1
theorem fv_get {ad : Nat → Nat → Nat} {h : AH} {b k ci j : Nat} (hj : j < nf ci) : (fv ad h b k ci)[j]? = some (fval ad h b k ci j) := by
  simp [fv, hj]
theorem fv_len {ad : Nat → Nat → Nat} {h : AH} {b k ci : Nat} : (fv ad h b k ci).length = nf ci := by simp [fv]
theorem fv_set {ad : Nat → Nat → Nat} {h h2 : AH} {b k ci j : Nat} {v : Value} (hj : j < nf ci) (hv : fval ad h2 b k ci j = v) (ho : ∀ i, i ≠ j → fval ad h2 b k ci i = fval ad h b k ci i) : (fv ad h b k ci).set j v = fv ad h2 b k ci := by
  apply List.ext_getElem?
  intro i
  by_cases hi : i = j
  · subst hi
    rw [List.getElem?_set_self (by rw [fv_len]; exact hj), fv_get hj, hv]
  · rw [List.getElem?_set_ne (Ne.symm hi)]
    by_cases hl : i < nf ci
    · rw [fv_get hl, fv_get hl, ho i hi]
    · rw [List.getElem?_eq_none (by rw [fv_len]; omega), List.getElem?_eq_none (by rw [fv_len]; omega)]
theorem ui_ne {h : AH} {b k j b' k' : Nat} {v : Int32} (hn : ¬ (b' = b ∧ k' = k)) : (ui h b k j v).1 b' k' = h.1 b' k' := by
  funext j'
  simp only [ui]
  rw [if_neg]
  rintro ⟨h1, h2, -⟩
  exact hn ⟨h1, h2⟩
theorem ul_ne {h : AH} {b k j b' k' : Nat} {v : Int64} (hn : ¬ (b' = b ∧ k' = k)) : (ul h b k j v).2 b' k' = h.2 b' k' := by
  funext j'
  simp only [ul]
  rw [if_neg]
  rintro ⟨h1, h2, -⟩
  exact hn ⟨h1, h2⟩
theorem cellE_same {ad : Nat → Nat → Nat} {c : ClassId × ClassId × ClassId × ClassId} {h h2 : AH} {b k : Nat} {q : Nat × Nat} (h1 : h2.1 b k = h.1 b k) (hl : h2.2 b k = h.2 b k) : cellE ad c h2 b k q = cellE ad c h b k q := by
  have e : fv ad h2 b k q.2 = fv ad h b k q.2 := by
    unfold fv
    congr 1
    funext j
    simp only [fval, h1, hl]
  simp only [cellE, e, h1, hl]
theorem Wd.step {G : GG} {h h2 : AH} {H H1 : Heap} {b k : Nat} {q : Nat × Nat} (hW : Wd G h H) (hk : kd b k = some q) (hs : ∀ b' k', ¬ (b' = b ∧ k' = k) → h2.1 b' k' = h.1 b' k' ∧ h2.2 b' k' = h.2 b' k') (hat : va_at G.2.2.1 classes (G.1 b k, cellE G.1 G.2.2.2.1 h2 b k q) H1) (oq : ∀ x, x ≠ G.1 b k → H1[x]? = H[x]?) : Wd G h2 H1 := by
  refine ⟨hW.1, fun b' k' q' hk' => ?_⟩
  by_cases hn : b' = b ∧ k' = k
  · obtain ⟨rfl, rfl⟩ := hn
    cases hk.symm.trans hk'
    exact hat
  · obtain ⟨e1, e2⟩ := hs b' k' hn
    rw [cellE_same e1 e2]
    exact (hW.2 b' k' q' hk').kept (oq _ (fun e => hn (hW.1.1 b' k' q' b k q hk' hk e)))
theorem Wd.ui {G : GG} {h : AH} {H H1 : Heap} {b k j : Nat} {v : Int32} {q : Nat × Nat} (hW : Wd G h H) (hk : kd b k = some q) (hat : va_at G.2.2.1 classes (G.1 b k, cellE G.1 G.2.2.2.1 (ui h b k j v) b k q) H1) (oq : ∀ x, x ≠ G.1 b k → H1[x]? = H[x]?) : Wd G (ui h b k j v) H1 := hW.step hk (fun _ _ hn => ⟨ui_ne hn, rfl⟩) hat oq
theorem Wd.ul {G : GG} {h : AH} {H H1 : Heap} {b k j : Nat} {v : Int64} {q : Nat × Nat} (hW : Wd G h H) (hk : kd b k = some q) (hat : va_at G.2.2.1 classes (G.1 b k, cellE G.1 G.2.2.2.1 (ul h b k j v) b k q) H1) (oq : ∀ x, x ≠ G.1 b k → H1[x]? = H[x]?) : Wd G (ul h b k j v) H1 := hW.step hk (fun _ _ hn => ⟨rfl, ul_ne hn⟩) hat oq
theorem Wd.P {G : GG} {h : AH} {H : Heap} {b k : Nat} {q : Nat × Nat} (hW : Wd G h H) (hk : kd b k = some q) : va_P G.2.2.1 classes [(G.1 b k, cellE G.1 G.2.2.2.1 h b k q)] H := fun j q hj => by
  cases j with
  | zero => cases hj; exact hW.2 b k _ hk
  | succ j => simp at hj
theorem Wd.lo {G : GG} {h : AH} {H : Heap} {b k : Nat} {q : Nat × Nat} (hW : Wd G h H) (hk : kd b k = some q) : Alo G (G.1 b k) := hW.1.2 b k q hk
theorem ui_self {h : AH} {b k j : Nat} {v : Int32} : (ui h b k j v).1 b k = upd (h.1 b k) j v := by
  funext j'
  simp [ui, upd]
theorem ul_self {h : AH} {b k j : Nat} {v : Int64} : (ul h b k j v).2 b k = vp_updL (h.2 b k) j v := by
  funext j'
  simp [ul, vp_updL]
section AMEM
variable {l : Launch} {G : GG} {d : Nat} {own : String} {cc : ByteArray} {nL : Nat} {ret : Option FieldType} {pc : Nat} {lv : List (Option Value)} {st : List Value} {h : AH} {Q : Option Value → AH → Prop}
theorem a_iastore {b k n : Nat} {i : Int32} {x : Int32} (hdg : decode cc pc = .ok (.iastore, 1)) (hk : kd b k = some (1, n)) (hin : vp_in i n) (kk : AW l G d own cc nL ret (pc + 1) lv st (ui h b k i.toNatClampNeg x) Q) : AW l G d own cc nL ret pc lv (.int x :: .int i :: .ref (G.1 b k) :: st) h Q := by
  intro p e s m args below meth c H locs ls C hW hS hl
  have hat := hW.2 b k _ hk
  have hK := C.2.2.2.2.2.2.2.1
  refine W.iast C.1 C.2.1 hat ((hK.2 0 _ rfl).1 n (fun j => .int (h.1 b k j))) (fun q => by cases q) (by show ¬ (i < 0 ∨ (arrV _ _ _).slots.size ≤ _); rw [arrV_size]; exact hin) rfl rfl hdg fun H1 e1 z oq => ?_
  refine kk p e s m args below meth c H1 _ ls C (hW.ui hk ?_ oq) (hS.put z oq (hW.lo hk)) hl
  show H1[G.1 b k]? = some (vp_cell _ (n, _))
  rw [ui_self, e1]
  rw [vp_cell_i, vp_cell_i, arrV_store]
  congr 2
  funext q
  by_cases hq : q = i.toNatClampNeg
  · subst hq
    simp [updV, upd, vp_nar]
    try rfl
  · simp [updV, upd, hq]
theorem a_bastore {b k n : Nat} {i : Int32} {x : Int32} (hdg : decode cc pc = .ok (.bastore, 1)) (hk : kd b k = some (2, n)) (hin : vp_in i n) (kk : AW l G d own cc nL ret (pc + 1) lv st (ui h b k i.toNatClampNeg (vp_nar .byte x)) Q) : AW l G d own cc nL ret pc lv (.int x :: .int i :: .ref (G.1 b k) :: st) h Q := by
  intro p e s m args below meth c H locs ls C hW hS hl
  have hat := hW.2 b k _ hk
  have hK := C.2.2.2.2.2.2.2.1
  refine W.bast C.1 C.2.1 hat ((hK.2 1 _ rfl).1 n (fun j => .int (h.1 b k j))) (fun q => by cases q) (by show ¬ (i < 0 ∨ (arrV _ _ _).slots.size ≤ _); rw [arrV_size]; exact hin) rfl rfl hdg fun H1 e1 z oq => ?_
  refine kk p e s m args below meth c H1 _ ls C (hW.ui hk ?_ oq) (hS.put z oq (hW.lo hk)) hl
  show H1[G.1 b k]? = some (vp_cell _ (n, _))
  rw [ui_self, e1]
  rw [vp_cell_i, vp_cell_i, arrV_store]
  congr 2
  funext q
  by_cases hq : q = i.toNatClampNeg
  · subst hq
    simp [updV, upd, vp_nar]
    try rfl
  · simp [updV, upd, hq]
theorem a_lastore {b k n : Nat} {i : Int32} {x : Int64} (hdg : decode cc pc = .ok (.lastore, 1)) (hk : kd b k = some (3, n)) (hin : vp_in i n) (kk : AW l G d own cc nL ret (pc + 1) lv st (ul h b k i.toNatClampNeg x) Q) : AW l G d own cc nL ret pc lv (.long x :: .int i :: .ref (G.1 b k) :: st) h Q := by
  intro p e s m args below meth c H locs ls C hW hS hl
  have hat := hW.2 b k _ hk
  have hK := C.2.2.2.2.2.2.2.1
  refine W.last C.1 C.2.1 hat ((hK.2 2 _ rfl).1 n (fun j => .long (h.2 b k j))) (fun q => by cases q) (by show ¬ (i < 0 ∨ (arrV _ _ _).slots.size ≤ _); rw [arrV_size]; exact hin) rfl rfl hdg fun H1 e1 z oq => ?_
  refine kk p e s m args below meth c H1 _ ls C (hW.ul hk ?_ oq) (hS.put z oq (hW.lo hk)) hl
  show H1[G.1 b k]? = some (vp_cell _ (n, _))
  rw [ul_self, e1]
  rw [vp_cell_l, vp_cell_l, arrV_store]
  congr 2
  funext q
  by_cases hq : q = i.toNatClampNeg
  · subst hq
    simp [updV, vp_updL, vp_nar]
    try rfl
  · simp [updV, vp_updL, hq]
theorem a_zastore {b k n : Nat} {i : Int32} {x : Int32} (hdg : decode cc pc = .ok (.bastore, 1)) (hk : kd b k = some (4, n)) (hin : vp_in i n) (kk : AW l G d own cc nL ret (pc + 1) lv st (ui h b k i.toNatClampNeg (vp_nar .boolean x)) Q) : AW l G d own cc nL ret pc lv (.int x :: .int i :: .ref (G.1 b k) :: st) h Q := by
  intro p e s m args below meth c H locs ls C hW hS hl
  have hat := hW.2 b k _ hk
  have hK := C.2.2.2.2.2.2.2.1
  refine W.zast C.1 C.2.1 hat ((hK.2 3 _ rfl).1 n (fun j => .int (h.1 b k j))) (fun q => by cases q) (by show ¬ (i < 0 ∨ (arrV _ _ _).slots.size ≤ _); rw [arrV_size]; exact hin) rfl rfl hdg fun H1 e1 z oq => ?_
  refine kk p e s m args below meth c H1 _ ls C (hW.ui hk ?_ oq) (hS.put z oq (hW.lo hk)) hl
  show H1[G.1 b k]? = some (vp_cell _ (n, _))
  rw [ui_self, e1]
  rw [vp_cell_i, vp_cell_i, arrV_store]
  congr 2
  funext q
  by_cases hq : q = i.toNatClampNeg
  · subst hq
    simp [updV, upd, vp_nar]
    try rfl
  · simp [updV, upd, hq]
theorem a_alen {b k n t : Nat} {v : Int32} (hdg : decode cc pc = .ok (.arraylength, 1)) (hk : kd b k = some (t, n)) (ht : t = 1 ∨ t = 2) (hv : Int32.ofNat n = v) (kk : AW l G d own cc nL ret (pc + 1) lv (.int v :: st) h Q) : AW l G d own cc nL ret pc lv (.ref (G.1 b k) :: st) h Q := by
  intro p e s m args below meth c H locs ls C hW hS hl
  have hP := hW.P hk
  rcases ht with rfl | rfl
  · exact va_alen C.1 C.2.1 C.2.2.2.2.2.2.2.1 hP 0 0 rfl rfl hv hdg (kk p e s m args below meth c H locs ls C hW hS hl)
  · exact va_alen C.1 C.2.1 C.2.2.2.2.2.2.2.1 hP 0 1 rfl rfl hv hdg (kk p e s m args below meth c H locs ls C hW hS hl)
theorem a_getV {b k ci j index N : Nat} {C0 : String} {T : u_T} {v : Value} (hdg : decode cc pc = .ok (.getfield index, 3)) (hk : kd b k = some (0, ci)) (hc : classes[ci]? = some (C0, T, N)) (hj : j < nf ci) (hw : Cond.fieldLink own index (T j).1 (T j).2.1 (T j).2.2.1 ∈ gtbl) (hv : fval G.1 h b k ci j = v) (kk : AW l G d own cc nL ret (pc + 3) lv (v :: st) h Q) : AW l G d own cc nL ret pc lv (.ref (G.1 b k) :: st) h Q := by
  intro p e s m args below meth c H locs ls C hW hS hl
  obtain ⟨c1, -, -, c4⟩ := cls_ok ci _ hc
  exact va_get (C := C0) (T := T) (N := N) (ci := ci) (Ts := gtbl) (ref := (T j).1) (fs := fv G.1 h b k ci) C.1 C.2.1 C.2.2.2.2.1 c1 C.2.2.2.1 C.2.2.2.2.2.2.2.1 (hW.P hk) 0 rfl hc j (by rw [show N = nf ci from c4]; exact hj) (C.2.2.2.2.1 _ hw) (fun _ h9 => h9) (by rw [fv_get hj, hv]) hdg (kk p e s m args below meth c H locs ls C hW hS hl)
theorem a_getI {b k ci j index N : Nat} {C0 : String} {T : u_T} (hdg : decode cc pc = .ok (.getfield index, 3)) (hk : kd b k = some (0, ci)) (hc : classes[ci]? = some (C0, T, N)) (hj : j < nf ci) (hf : fk ci j = 0) (hw : Cond.fieldLink own index (T j).1 (T j).2.1 (T j).2.2.1 ∈ gtbl) (kk : AW l G d own cc nL ret (pc + 3) lv (.int (h.1 b k j) :: st) h Q) : AW l G d own cc nL ret pc lv (.ref (G.1 b k) :: st) h Q := a_getV hdg hk hc hj hw (by simp only [fval, hf]) kk
theorem a_getL {b k ci j index N : Nat} {C0 : String} {T : u_T} (hdg : decode cc pc = .ok (.getfield index, 3)) (hk : kd b k = some (0, ci)) (hc : classes[ci]? = some (C0, T, N)) (hj : j < nf ci) (hf : fk ci j = 1) (hw : Cond.fieldLink own index (T j).1 (T j).2.1 (T j).2.2.1 ∈ gtbl) (kk : AW l G d own cc nL ret (pc + 3) lv (.long (h.2 b k j) :: st) h Q) : AW l G d own cc nL ret pc lv (.ref (G.1 b k) :: st) h Q := a_getV hdg hk hc hj hw (by simp only [fval, hf]) kk
theorem a_getD {b k ci j index N : Nat} {C0 : String} {T : u_T} (hdg : decode cc pc = .ok (.getfield index, 3)) (hk : kd b k = some (0, ci)) (hc : classes[ci]? = some (C0, T, N)) (hj : j < nf ci) (hf : fk ci j = 2) (hw : Cond.fieldLink own index (T j).1 (T j).2.1 (T j).2.2.1 ∈ gtbl) {bb : Nat} (hbb : (h.1 b k j).toNatClampNeg = bb) (kk : AW l G d own cc nL ret (pc + 3) lv (.ref (G.1 bb 0) :: st) h Q) : AW l G d own cc nL ret pc lv (.ref (G.1 b k) :: st) h Q := a_getV hdg hk hc hj hw (by simp only [fval, hf, hbb]) kk
theorem a_getR {b k ci j index N t : Nat} {C0 : String} {T : u_T} (hdg : decode cc pc = .ok (.getfield index, 3)) (hk : kd b k = some (0, ci)) (hc : classes[ci]? = some (C0, T, N)) (hj : j < nf ci) (hf : fk ci j = t + 3) (hw : Cond.fieldLink own index (T j).1 (T j).2.1 (T j).2.2.1 ∈ gtbl) (kk : AW l G d own cc nL ret (pc + 3) lv (.ref (G.1 b t) :: st) h Q) : AW l G d own cc nL ret pc lv (.ref (G.1 b k) :: st) h Q := a_getV hdg hk hc hj hw (by simp only [fval, hf]) kk
theorem a_putV {b k ci j index N : Nat} {C0 : String} {T : u_T} {v : Value} {ty : FieldType} {h2 : AH} (hdg : decode cc pc = .ok (.putfield index, 3)) (hk : kd b k = some (0, ci)) (hc : classes[ci]? = some (C0, T, N)) (hj : j < nf ci) (hw : Cond.fieldLink own index (T j).1 (T j).2.1 (T j).2.2.1 ∈ gtbl) (hfin : (T j).2.2.2 = false) (hd : parseFieldDescriptor (T j).2.2.1 = some ty) (hn : narrow ty v = v) (hfit : fits ty v = true)
    (hs : ∀ b' k', ¬ (b' = b ∧ k' = k) → h2.1 b' k' = h.1 b' k' ∧ h2.2 b' k' = h.2 b' k') (hv : fval G.1 h2 b k ci j = v) (ho : ∀ i, i ≠ j → fval G.1 h2 b k ci i = fval G.1 h b k ci i) (kk : AW l G d own cc nL ret (pc + 3) lv st h2 Q) : AW l G d own cc nL ret pc lv (v :: .ref (G.1 b k) :: st) h Q := by
  intro p e s m args below meth c H locs ls C hW hS hl
  obtain ⟨hin, ⟨ty0, hty⟩, hnm, hN⟩ := cls_ok ci _ hc
  have hN : N = nf ci := hN
  have hk0 : j < N := by rw [hN]; exact hj
  have hK := C.2.2.2.2.2.2.2.1
  have hts := C.2.2.2.2.1
  have hap := va_apart (own := own) hts hin ty0 hty hnm hK hc
  obtain ⟨r, h1, cell, q1, q2, q3, q4⟩ := hW.2 b k _ hk
  have hr : r = (C0, T, N) := Option.some.inj (h1.symm.trans hc)
  subst hr
  obtain ⟨hSl, hfc, kC, hkC, hkind⟩ := hK.1 ci _ hc
  obtain ⟨cf, kf, fi, f, hi, hsl⟩ := hSl j hk0
  have hlay := hts _ (hin _ (u_in_lay hk0))
  unfold u_lay at hlay
  rw [if_neg (by rw [hfin]; decide)] at hlay
  have hst := (u_facts hfc hkC (u_lays hts hin hk0) hi).1
  have h6 := u_store hfc hkC hkind hlay hi hd hn hfit
  refine W.putK C.1 C.2.1 (f := f) ⟨C.2.2.2.1, hts _ hw, ⟨_, _, _, hi⟩, hst⟩ (by rw [q2]; exact h6) q1 q3 (by rw [hsl]; exact k2_hasslot (q4 j hk0)) rfl rfl hdg fun H' e1 e2 e3 => ?_
  rw [hsl] at e1 ⊢
  refine kk p e s m args below meth c H' _ ls C (hW.step hk hs ?_ e3) (hS.put e2 e3 (hW.lo hk)) hl
  refine ⟨_, hc, t_OB.to (V := updV (vp_V (fv G.1 h b k ci)) j v) ⟨_, e1, q2, q3, t_set q4 hap hk0 v⟩ (fun i _ => ?_)⟩
  rw [vp_updV_set (by rw [fv_len]; exact hj) v i, fv_set hj hv ho]
  try rfl
theorem a_putI {b k ci j index N : Nat} {C0 : String} {T : u_T} {x : Int32} (hdg : decode cc pc = .ok (.putfield index, 3)) (hk : kd b k = some (0, ci)) (hc : classes[ci]? = some (C0, T, N)) (hci : ci < 12) (hj : j < nf ci) (hf : fk ci j = 0) (hw : Cond.fieldLink own index (T j).1 (T j).2.1 (T j).2.2.1 ∈ gtbl) (kk : AW l G d own cc nL ret (pc + 3) lv st (ui h b k j x) Q) : AW l G d own cc nL ret pc lv (.int x :: .ref (G.1 b k) :: st) h Q := by
  obtain ⟨h1, h2⟩ := cls_int hc hci hj hf
  refine a_putV hdg hk hc hj hw h2 h1 rfl rfl (fun _ _ hn => ⟨ui_ne hn, rfl⟩) (by simp only [fval, hf, ui, and_self, if_true]) (fun i hi => ?_) kk
  have e : (ui h b k j x).1 b k i = h.1 b k i := by simp [ui, hi]
  simp only [fval, e]
  rfl
theorem a_putL {b k ci j index N : Nat} {C0 : String} {T : u_T} {x : Int64} (hdg : decode cc pc = .ok (.putfield index, 3)) (hk : kd b k = some (0, ci)) (hc : classes[ci]? = some (C0, T, N)) (hci : ci < 12) (hj : j < nf ci) (hf : fk ci j = 1) (hw : Cond.fieldLink own index (T j).1 (T j).2.1 (T j).2.2.1 ∈ gtbl) (kk : AW l G d own cc nL ret (pc + 3) lv st (ul h b k j x) Q) : AW l G d own cc nL ret pc lv (.long x :: .ref (G.1 b k) :: st) h Q := by
  obtain ⟨h1, h2⟩ := cls_lng hc hci hj hf
  refine a_putV (h2 := ul h b k j x) hdg hk hc hj hw h2 h1 rfl rfl (fun _ _ hn => ⟨rfl, ul_ne hn⟩) (by simp only [fval, hf, ul, and_self, if_true]) (fun i hi => ?_) kk
  have e : (ul h b k j x).2 b k i = h.2 b k i := by simp [ul, hi]
  have e2 : (ul h b k j x).1 = h.1 := rfl
  simp only [fval, e, e2]
theorem a_putD {b k ci j index N bb : Nat} {C0 : String} {T : u_T} (hdg : decode cc pc = .ok (.putfield index, 3)) (hk : kd b k = some (0, ci)) (hc : classes[ci]? = some (C0, T, N)) (hci : ci < 12) (hj : j < nf ci) (hf : fk ci j = 2) (hw : Cond.fieldLink own index (T j).1 (T j).2.1 (T j).2.2.1 ∈ gtbl) {x : Int32} (hx0 : x.toNatClampNeg = bb) (kk : AW l G d own cc nL ret (pc + 3) lv st (ui h b k j x) Q) : AW l G d own cc nL ret pc lv (.ref (G.1 bb 0) :: .ref (G.1 b k) :: st) h Q := by
  obtain ⟨h1, h2⟩ := cls_dyn hc hci hj hf
  refine a_putV hdg hk hc hj hw h2 h1 rfl rfl (fun _ _ hn => ⟨ui_ne hn, rfl⟩) (by simp only [fval, hf, ui, and_self, if_true, hx0]) (fun i hi => ?_) kk
  have e : (ui h b k j x).1 b k i = h.1 b k i := by simp [ui, hi]
  simp only [fval, e]
  rfl
/-- a method's own words -/
def WY (y : MethodName) (cy : ByteArray) (ny : Nat) (ry : Option FieldType) (n : Nat) : Prop := Cond.code y cy ny ry ∈ gtbl ∧ Cond.initialized y.cls ∈ gtbl ∧ ny ≤ 15 ∧ (y.cls ≠ "java/lang/invoke/MethodHandle" ∧ y.cls ≠ "java/lang/invoke/VarHandle" ∧ (parseMethodDescriptor y.desc).map (fun d => d.parameters.length) = some n)
def WV (y : MethodName) (cy : ByteArray) (ny : Nat) (ry : Option FieldType) (n : Nat) : Prop := WY y cy ny ry n ∧ Cond.instanceMethod y ∈ gtbl ∧ Cond.selects y.cls y y ∈ gtbl
def WS (y : MethodName) (cy : ByteArray) (ny : Nat) (ry : Option FieldType) (n : Nat) : Prop := WY y cy ny ry n ∧ Cond.static y ∈ gtbl
theorem preA_blind {G : GG} {h : AH} {av : List Value} : FrameBlind (va_Pc av (preA G h)) := fun a U g mk q => ⟨q.1, q.2.1, q.2.2.1, va_K.moved (u := U) (U := U.calling g mk a) (Vm.Alike.refl U.vm) q.2.2.2.1, q.2.2.2.2.blind⟩
theorem WY.callB {d d' : Nat} {s : State} {args : Array Value} {index n : Nat} {y : MethodName} {cy : ByteArray} {ny : Nat} {ry : Option FieldType} (h : WY y cy ny ry n) (hts : ∀ w ∈ gtbl, w.before args s = true) (hl : Cond.methodLink own index y ∈ gtbl) (hd : d' < d) : CallB (rmD d) s args own index y cy ny ry (Cond.code y cy ny ry :: gtbl) (rmD d') 0 0 n := by
  obtain ⟨h1, h2, h3, h4⟩ := h
  refine callB_of n hts (good_tbl h1) rfl rfl rfl (hts _ h2) (hts _ hl) h4 ⟨hd, ?_⟩
  show 8 + (ny + 11) + 36 * d' ≤ 36 * d
  omega
theorem preA_at {s U : State} {args : Array Value} {H : Heap} {locs : List Loc} {p : Program} {m : MethodId} {meth : Method} {c : Code} (C : Cx G own cc nL ret p s m args meth c) (hW : Wd G h H) (hS : va_S (Alo G) s.heap H locs) (hU : U.heap = H) (hw : s.WarmedH U.vm) : preA G h U := by
  obtain ⟨-, -, -, -, -, -, -, hK, hSF, hlo⟩ := C
  refine ⟨by rw [hU]; exact Nat.le_trans hlo hS.1, by rw [hU]; exact hW, va_K.moved hw.alike hK, hSF.warm hw (fun a h1 h2 => ?_)⟩
  rw [hU]
  exact hS.2.1 a h1 h2
theorem a_callG {d' mc0 : Nat} {rest : List Value} {P : Option Value → AH → Prop} {Av : Array Value} {st0 : List Value}
    (run : ∀ (p : Program) (e : Env) (s : State) (m : MethodId) (args : Array Value) (below : List Frame) (meth : Method) (c : Code) (H : Heap) (locs : List Loc) (ls : Array Slot), Cx G own cc nL ret p s m args meth c → Wd G h H → va_S (Alo G) s.heap H locs → hv ls nL lv →
      va_Run p l e (rmD d) s m args below meth c H locs 0 0 0 0 (F0 m pc ls st0) rest (QA G P Av) (Alo G))
    (kk : ∀ v h', P v h' → AW l G d own cc nL ret (pc + 3) lv (v.toList ++ rest) h' Q) : AW l G d own cc nL ret pc lv st0 h Q := by
  intro p e s m args below meth c H locs ls C hW hS hl T hT X
  obtain ⟨v, st₀, t, T', L, h0, X', hL, e1, e2, ⟨⟨v', h', hv', hP, hW'⟩, hF⟩, stp⟩ := run p e s m args below meth c H locs ls C hW hS hl T hT X
  cases hv'
  have hS' : va_S (Alo G) s.heap T'.heap (locs ++ L) := by
    obtain ⟨hz, hk⟩ := hF
    rw [h0] at hz hk
    refine ⟨Nat.le_trans hS.1 (by rw [e1]; exact hz), fun q h1 h2 => by rw [e1, hk q (Nat.lt_of_lt_of_le h1 hS.1) h2]; exact hS.2.1 q h1 h2, fun q hq => ?_⟩
    rcases List.mem_append.mp hq with h | h
    · exact hS.2.2 q h
    · exact hL q h
  obtain ⟨t2, a1, b1⟩ := kk v h' hP p e s m args below meth c T'.heap (locs ++ L) ls C (by rw [e1]; exact hW') hS' hl T' rfl X'
  exact ⟨t2, stp t2 a1, b1⟩
theorem a_callV {d' index b k ci N : Nat} {y : MethodName} {cy : ByteArray} {ny : Nat} {ry : Option FieldType} {As rest : List Value} {T : u_T} {P : Option Value → AH → Prop} (hdg : decode cc pc = .ok (.invokevirtual index, 3)) (hl : Cond.methodLink own index y ∈ gtbl) (hw : WV y cy ny ry As.length) (hk : kd b k = some (0, ci)) (hc : classes[ci]? = some (y.cls, T, N)) (hd : d' < d) (hr : (rest.map fun v => v.category).sum ≤ 8)
    (hM : Ct l G d' y cy ny ry (.ref (G.1 b k) :: As) h P) (kk : ∀ v h', P v h' → AW l G d own cc nL ret (pc + 3) lv (v.toList ++ rest) h' Q) : AW l G d own cc nL ret pc lv (As.reverse ++ .ref (G.1 b k) :: rest) h Q := by
  refine a_callG (Av := (Value.ref (G.1 b k) :: As).toArray) (P := P) (d' := d') (mc0 := 0) (fun p e s m args below meth c H locs ls C hW hS hlv => ?_) kk
  have hts := C.2.2.2.2.1
  exact va_runV (As := As) (rest := rest) ⟨C.1, C.2.1, C.2.2.1, C.2.2.2.1, hts⟩ hM ⟨hw.1.callB hts hl hd, hts _ hw.2.1, hts _ hw.2.2⟩ ⟨preA_blind, va_recv C.2.2.2.2.2.2.2.1 (hW.P hk) hc (q0 := 0) rfl, fun U hU hwU => ⟨rfl, preA_at C hW hS hU hwU⟩⟩ rfl rfl hlv.1 rfl (lv_room hr) hdg ⟨Nat.zero_le _, Nat.zero_le _⟩
theorem a_callS {d' index : Nat} {y : MethodName} {cy : ByteArray} {ny : Nat} {ry : Option FieldType} {As rest : List Value} {P : Option Value → AH → Prop} (hdg : decode cc pc = .ok (.invokestatic index, 3)) (hl : Cond.methodLink own index y ∈ gtbl) (hw : WS y cy ny ry As.length) (hd : d' < d) (hr : (rest.map fun v => v.category).sum ≤ 8)
    (hM : Ct l G d' y cy ny ry As h P) (kk : ∀ v h', P v h' → AW l G d own cc nL ret (pc + 3) lv (v.toList ++ rest) h' Q) : AW l G d own cc nL ret pc lv (As.reverse ++ rest) h Q := by
  refine a_callG (Av := As.toArray) (P := P) (d' := d') (mc0 := 0) (fun p e s m args below meth c H locs ls C hW hS hlv => ?_) kk
  have hts := C.2.2.2.2.1
  exact va_runS (As := As) (rest := rest) ⟨C.1, C.2.1, C.2.2.1, C.2.2.2.1, hts⟩ hM ⟨hw.1.callB hts hl hd, hts _ hw.2⟩ ⟨preA_blind, fun U hU hwU => ⟨rfl, preA_at C hW hS hU hwU⟩⟩ rfl rfl hlv.1 rfl (lv_room hr) hdg ⟨Nat.zero_le _, Nat.zero_le _⟩
theorem a_cV0 {d' index b k ci N : Nat} {y : MethodName} {cy : ByteArray} {ny : Nat} {ry : Option FieldType} {T : u_T} {rest : List Value} {P : Option Value → AH → Prop} (hdg : decode cc pc = .ok (.invokevirtual index, 3)) (hl : Cond.methodLink own index y ∈ gtbl) (hw : WV y cy ny ry 0) (hk : kd b k = some (0, ci)) (hc : classes[ci]? = some (y.cls, T, N)) (hd : d' < d) (hr : (rest.map fun v => v.category).sum ≤ 8) (hM : Ct l G d' y cy ny ry (.ref (G.1 b k) :: []) h P) (kk : ∀ v h', P v h' → AW l G d own cc nL ret (pc + 3) lv (v.toList ++ rest) h' Q) : AW l G d own cc nL ret pc lv (.ref (G.1 b k) :: rest) h Q := a_callV (As := []) hdg hl hw hk hc hd hr hM kk
theorem a_cV0i {d' index b k ci N : Nat} {y : MethodName} {cy : ByteArray} {ny : Nat} {ry : Option FieldType} {T : u_T} {rest : List Value} {r : Int32} {h2 : AH} (hdg : decode cc pc = .ok (.invokevirtual index, 3)) (hl : Cond.methodLink own index y ∈ gtbl) (hw : WV y cy ny ry 0) (hk : kd b k = some (0, ci)) (hc : classes[ci]? = some (y.cls, T, N)) (hd : d' < d) (hr : (rest.map fun v => v.category).sum ≤ 8) (hM : Ct l G d' y cy ny ry (.ref (G.1 b k) :: []) h (fun v h' => v = some (.int r) ∧ h' = h2)) (kk : AW l G d own cc nL ret (pc + 3) lv (.int r :: rest) h2 Q) : AW l G d own cc nL ret pc lv (.ref (G.1 b k) :: rest) h Q := a_callV (As := []) hdg hl hw hk hc hd hr hM (fun v h' q => by obtain ⟨rfl, rfl⟩ := q; exact kk)
theorem a_cV0l {d' index b k ci N : Nat} {y : MethodName} {cy : ByteArray} {ny : Nat} {ry : Option FieldType} {T : u_T} {rest : List Value} {r : Int64} {h2 : AH} (hdg : decode cc pc = .ok (.invokevirtual index, 3)) (hl : Cond.methodLink own index y ∈ gtbl) (hw : WV y cy ny ry 0) (hk : kd b k = some (0, ci)) (hc : classes[ci]? = some (y.cls, T, N)) (hd : d' < d) (hr : (rest.map fun v => v.category).sum ≤ 8) (hM : Ct l G d' y cy ny ry (.ref (G.1 b k) :: []) h (fun v h' => v = some (.long r) ∧ h' = h2)) (kk : AW l G d own cc nL ret (pc + 3) lv (.long r :: rest) h2 Q) : AW l G d own cc nL ret pc lv (.ref (G.1 b k) :: rest) h Q := a_callV (As := []) hdg hl hw hk hc hd hr hM (fun v h' q => by obtain ⟨rfl, rfl⟩ := q; exact kk)
theorem a_cV0v {d' index b k ci N : Nat} {y : MethodName} {cy : ByteArray} {ny : Nat} {ry : Option FieldType} {T : u_T} {rest : List Value} {h2 : AH} (hdg : decode cc pc = .ok (.invokevirtual index, 3)) (hl : Cond.methodLink own index y ∈ gtbl) (hw : WV y cy ny ry 0) (hk : kd b k = some (0, ci)) (hc : classes[ci]? = some (y.cls, T, N)) (hd : d' < d) (hr : (rest.map fun v => v.category).sum ≤ 8) (hM : Ct l G d' y cy ny ry (.ref (G.1 b k) :: []) h (fun v h' => v = none ∧ h' = h2)) (kk : AW l G d own cc nL ret (pc + 3) lv rest h2 Q) : AW l G d own cc nL ret pc lv (.ref (G.1 b k) :: rest) h Q := a_callV (As := []) hdg hl hw hk hc hd hr hM (fun v h' q => by obtain ⟨rfl, rfl⟩ := q; exact kk)
theorem a_cS0 {d' index : Nat} {y : MethodName} {cy : ByteArray} {ny : Nat} {ry : Option FieldType} {rest : List Value} {P : Option Value → AH → Prop} (hdg : decode cc pc = .ok (.invokestatic index, 3)) (hl : Cond.methodLink own index y ∈ gtbl) (hw : WS y cy ny ry 0) (hd : d' < d) (hr : (rest.map fun v => v.category).sum ≤ 8) (hM : Ct l G d' y cy ny ry [] h P) (kk : ∀ v h', P v h' → AW l G d own cc nL ret (pc + 3) lv (v.toList ++ rest) h' Q) : AW l G d own cc nL ret pc lv (rest) h Q := a_callS (As := []) hdg hl hw hd hr hM kk
theorem a_cS0i {d' index : Nat} {y : MethodName} {cy : ByteArray} {ny : Nat} {ry : Option FieldType} {rest : List Value} {r : Int32} {h2 : AH} (hdg : decode cc pc = .ok (.invokestatic index, 3)) (hl : Cond.methodLink own index y ∈ gtbl) (hw : WS y cy ny ry 0) (hd : d' < d) (hr : (rest.map fun v => v.category).sum ≤ 8) (hM : Ct l G d' y cy ny ry [] h (fun v h' => v = some (.int r) ∧ h' = h2)) (kk : AW l G d own cc nL ret (pc + 3) lv (.int r :: rest) h2 Q) : AW l G d own cc nL ret pc lv (rest) h Q := a_callS (As := []) hdg hl hw hd hr hM (fun v h' q => by obtain ⟨rfl, rfl⟩ := q; exact kk)
theorem a_cS0l {d' index : Nat} {y : MethodName} {cy : ByteArray} {ny : Nat} {ry : Option FieldType} {rest : List Value} {r : Int64} {h2 : AH} (hdg : decode cc pc = .ok (.invokestatic index, 3)) (hl : Cond.methodLink own index y ∈ gtbl) (hw : WS y cy ny ry 0) (hd : d' < d) (hr : (rest.map fun v => v.category).sum ≤ 8) (hM : Ct l G d' y cy ny ry [] h (fun v h' => v = some (.long r) ∧ h' = h2)) (kk : AW l G d own cc nL ret (pc + 3) lv (.long r :: rest) h2 Q) : AW l G d own cc nL ret pc lv (rest) h Q := a_callS (As := []) hdg hl hw hd hr hM (fun v h' q => by obtain ⟨rfl, rfl⟩ := q; exact kk)
theorem a_cS0v {d' index : Nat} {y : MethodName} {cy : ByteArray} {ny : Nat} {ry : Option FieldType} {rest : List Value} {h2 : AH} (hdg : decode cc pc = .ok (.invokestatic index, 3)) (hl : Cond.methodLink own index y ∈ gtbl) (hw : WS y cy ny ry 0) (hd : d' < d) (hr : (rest.map fun v => v.category).sum ≤ 8) (hM : Ct l G d' y cy ny ry [] h (fun v h' => v = none ∧ h' = h2)) (kk : AW l G d own cc nL ret (pc + 3) lv rest h2 Q) : AW l G d own cc nL ret pc lv (rest) h Q := a_callS (As := []) hdg hl hw hd hr hM (fun v h' q => by obtain ⟨rfl, rfl⟩ := q; exact kk)
theorem a_cV1 {d' index b k ci N : Nat} {y : MethodName} {cy : ByteArray} {ny : Nat} {ry : Option FieldType} {T : u_T} {x0 : Value} {rest : List Value} {P : Option Value → AH → Prop} (hdg : decode cc pc = .ok (.invokevirtual index, 3)) (hl : Cond.methodLink own index y ∈ gtbl) (hw : WV y cy ny ry 1) (hk : kd b k = some (0, ci)) (hc : classes[ci]? = some (y.cls, T, N)) (hd : d' < d) (hr : (rest.map fun v => v.category).sum ≤ 8) (hM : Ct l G d' y cy ny ry (.ref (G.1 b k) :: [x0]) h P) (kk : ∀ v h', P v h' → AW l G d own cc nL ret (pc + 3) lv (v.toList ++ rest) h' Q) : AW l G d own cc nL ret pc lv (x0 :: .ref (G.1 b k) :: rest) h Q := a_callV (As := [x0]) hdg hl hw hk hc hd hr hM kk
theorem a_cV1i {d' index b k ci N : Nat} {y : MethodName} {cy : ByteArray} {ny : Nat} {ry : Option FieldType} {T : u_T} {x0 : Value} {rest : List Value} {r : Int32} {h2 : AH} (hdg : decode cc pc = .ok (.invokevirtual index, 3)) (hl : Cond.methodLink own index y ∈ gtbl) (hw : WV y cy ny ry 1) (hk : kd b k = some (0, ci)) (hc : classes[ci]? = some (y.cls, T, N)) (hd : d' < d) (hr : (rest.map fun v => v.category).sum ≤ 8) (hM : Ct l G d' y cy ny ry (.ref (G.1 b k) :: [x0]) h (fun v h' => v = some (.int r) ∧ h' = h2)) (kk : AW l G d own cc nL ret (pc + 3) lv (.int r :: rest) h2 Q) : AW l G d own cc nL ret pc lv (x0 :: .ref (G.1 b k) :: rest) h Q := a_callV (As := [x0]) hdg hl hw hk hc hd hr hM (fun v h' q => by obtain ⟨rfl, rfl⟩ := q; exact kk)
theorem a_cV1l {d' index b k ci N : Nat} {y : MethodName} {cy : ByteArray} {ny : Nat} {ry : Option FieldType} {T : u_T} {x0 : Value} {rest : List Value} {r : Int64} {h2 : AH} (hdg : decode cc pc = .ok (.invokevirtual index, 3)) (hl : Cond.methodLink own index y ∈ gtbl) (hw : WV y cy ny ry 1) (hk : kd b k = some (0, ci)) (hc : classes[ci]? = some (y.cls, T, N)) (hd : d' < d) (hr : (rest.map fun v => v.category).sum ≤ 8) (hM : Ct l G d' y cy ny ry (.ref (G.1 b k) :: [x0]) h (fun v h' => v = some (.long r) ∧ h' = h2)) (kk : AW l G d own cc nL ret (pc + 3) lv (.long r :: rest) h2 Q) : AW l G d own cc nL ret pc lv (x0 :: .ref (G.1 b k) :: rest) h Q := a_callV (As := [x0]) hdg hl hw hk hc hd hr hM (fun v h' q => by obtain ⟨rfl, rfl⟩ := q; exact kk)
theorem a_cV1v {d' index b k ci N : Nat} {y : MethodName} {cy : ByteArray} {ny : Nat} {ry : Option FieldType} {T : u_T} {x0 : Value} {rest : List Value} {h2 : AH} (hdg : decode cc pc = .ok (.invokevirtual index, 3)) (hl : Cond.methodLink own index y ∈ gtbl) (hw : WV y cy ny ry 1) (hk : kd b k = some (0, ci)) (hc : classes[ci]? = some (y.cls, T, N)) (hd : d' < d) (hr : (rest.map fun v => v.category).sum ≤ 8) (hM : Ct l G d' y cy ny ry (.ref (G.1 b k) :: [x0]) h (fun v h' => v = none ∧ h' = h2)) (kk : AW l G d own cc nL ret (pc + 3) lv rest h2 Q) : AW l G d own cc nL ret pc lv (x0 :: .ref (G.1 b k) :: rest) h Q := a_callV (As := [x0]) hdg hl hw hk hc hd hr hM (fun v h' q => by obtain ⟨rfl, rfl⟩ := q; exact kk)
theorem a_cS1 {d' index : Nat} {y : MethodName} {cy : ByteArray} {ny : Nat} {ry : Option FieldType} {x0 : Value} {rest : List Value} {P : Option Value → AH → Prop} (hdg : decode cc pc = .ok (.invokestatic index, 3)) (hl : Cond.methodLink own index y ∈ gtbl) (hw : WS y cy ny ry 1) (hd : d' < d) (hr : (rest.map fun v => v.category).sum ≤ 8) (hM : Ct l G d' y cy ny ry [x0] h P) (kk : ∀ v h', P v h' → AW l G d own cc nL ret (pc + 3) lv (v.toList ++ rest) h' Q) : AW l G d own cc nL ret pc lv (x0 :: rest) h Q := a_callS (As := [x0]) hdg hl hw hd hr hM kk
theorem a_cS1i {d' index : Nat} {y : MethodName} {cy : ByteArray} {ny : Nat} {ry : Option FieldType} {x0 : Value} {rest : List Value} {r : Int32} {h2 : AH} (hdg : decode cc pc = .ok (.invokestatic index, 3)) (hl : Cond.methodLink own index y ∈ gtbl) (hw : WS y cy ny ry 1) (hd : d' < d) (hr : (rest.map fun v => v.category).sum ≤ 8) (hM : Ct l G d' y cy ny ry [x0] h (fun v h' => v = some (.int r) ∧ h' = h2)) (kk : AW l G d own cc nL ret (pc + 3) lv (.int r :: rest) h2 Q) : AW l G d own cc nL ret pc lv (x0 :: rest) h Q := a_callS (As := [x0]) hdg hl hw hd hr hM (fun v h' q => by obtain ⟨rfl, rfl⟩ := q; exact kk)
theorem a_cS1l {d' index : Nat} {y : MethodName} {cy : ByteArray} {ny : Nat} {ry : Option FieldType} {x0 : Value} {rest : List Value} {r : Int64} {h2 : AH} (hdg : decode cc pc = .ok (.invokestatic index, 3)) (hl : Cond.methodLink own index y ∈ gtbl) (hw : WS y cy ny ry 1) (hd : d' < d) (hr : (rest.map fun v => v.category).sum ≤ 8) (hM : Ct l G d' y cy ny ry [x0] h (fun v h' => v = some (.long r) ∧ h' = h2)) (kk : AW l G d own cc nL ret (pc + 3) lv (.long r :: rest) h2 Q) : AW l G d own cc nL ret pc lv (x0 :: rest) h Q := a_callS (As := [x0]) hdg hl hw hd hr hM (fun v h' q => by obtain ⟨rfl, rfl⟩ := q; exact kk)
theorem a_cS1v {d' index : Nat} {y : MethodName} {cy : ByteArray} {ny : Nat} {ry : Option FieldType} {x0 : Value} {rest : List Value} {h2 : AH} (hdg : decode cc pc = .ok (.invokestatic index, 3)) (hl : Cond.methodLink own index y ∈ gtbl) (hw : WS y cy ny ry 1) (hd : d' < d) (hr : (rest.map fun v => v.category).sum ≤ 8) (hM : Ct l G d' y cy ny ry [x0] h (fun v h' => v = none ∧ h' = h2)) (kk : AW l G d own cc nL ret (pc + 3) lv rest h2 Q) : AW l G d own cc nL ret pc lv (x0 :: rest) h Q := a_callS (As := [x0]) hdg hl hw hd hr hM (fun v h' q => by obtain ⟨rfl, rfl⟩ := q; exact kk)
theorem a_cV2 {d' index b k ci N : Nat} {y : MethodName} {cy : ByteArray} {ny : Nat} {ry : Option FieldType} {T : u_T} {x0 x1 : Value} {rest : List Value} {P : Option Value → AH → Prop} (hdg : decode cc pc = .ok (.invokevirtual index, 3)) (hl : Cond.methodLink own index y ∈ gtbl) (hw : WV y cy ny ry 2) (hk : kd b k = some (0, ci)) (hc : classes[ci]? = some (y.cls, T, N)) (hd : d' < d) (hr : (rest.map fun v => v.category).sum ≤ 8) (hM : Ct l G d' y cy ny ry (.ref (G.1 b k) :: [x0, x1]) h P) (kk : ∀ v h', P v h' → AW l G d own cc nL ret (pc + 3) lv (v.toList ++ rest) h' Q) : AW l G d own cc nL ret pc lv (x1 :: x0 :: .ref (G.1 b k) :: rest) h Q := a_callV (As := [x0, x1]) hdg hl hw hk hc hd hr hM kk
theorem a_cV2i {d' index b k ci N : Nat} {y : MethodName} {cy : ByteArray} {ny : Nat} {ry : Option FieldType} {T : u_T} {x0 x1 : Value} {rest : List Value} {r : Int32} {h2 : AH} (hdg : decode cc pc = .ok (.invokevirtual index, 3)) (hl : Cond.methodLink own index y ∈ gtbl) (hw : WV y cy ny ry 2) (hk : kd b k = some (0, ci)) (hc : classes[ci]? = some (y.cls, T, N)) (hd : d' < d) (hr : (rest.map fun v => v.category).sum ≤ 8) (hM : Ct l G d' y cy ny ry (.ref (G.1 b k) :: [x0, x1]) h (fun v h' => v = some (.int r) ∧ h' = h2)) (kk : AW l G d own cc nL ret (pc + 3) lv (.int r :: rest) h2 Q) : AW l G d own cc nL ret pc lv (x1 :: x0 :: .ref (G.1 b k) :: rest) h Q := a_callV (As := [x0, x1]) hdg hl hw hk hc hd hr hM (fun v h' q => by obtain ⟨rfl, rfl⟩ := q; exact kk)
theorem a_cV2l {d' index b k ci N : Nat} {y : MethodName} {cy : ByteArray} {ny : Nat} {ry : Option FieldType} {T : u_T} {x0 x1 : Value} {rest : List Value} {r : Int64} {h2 : AH} (hdg : decode cc pc = .ok (.invokevirtual index, 3)) (hl : Cond.methodLink own index y ∈ gtbl) (hw : WV y cy ny ry 2) (hk : kd b k = some (0, ci)) (hc : classes[ci]? = some (y.cls, T, N)) (hd : d' < d) (hr : (rest.map fun v => v.category).sum ≤ 8) (hM : Ct l G d' y cy ny ry (.ref (G.1 b k) :: [x0, x1]) h (fun v h' => v = some (.long r) ∧ h' = h2)) (kk : AW l G d own cc nL ret (pc + 3) lv (.long r :: rest) h2 Q) : AW l G d own cc nL ret pc lv (x1 :: x0 :: .ref (G.1 b k) :: rest) h Q := a_callV (As := [x0, x1]) hdg hl hw hk hc hd hr hM (fun v h' q => by obtain ⟨rfl, rfl⟩ := q; exact kk)
theorem a_cV2v {d' index b k ci N : Nat} {y : MethodName} {cy : ByteArray} {ny : Nat} {ry : Option FieldType} {T : u_T} {x0 x1 : Value} {rest : List Value} {h2 : AH} (hdg : decode cc pc = .ok (.invokevirtual index, 3)) (hl : Cond.methodLink own index y ∈ gtbl) (hw : WV y cy ny ry 2) (hk : kd b k = some (0, ci)) (hc : classes[ci]? = some (y.cls, T, N)) (hd : d' < d) (hr : (rest.map fun v => v.category).sum ≤ 8) (hM : Ct l G d' y cy ny ry (.ref (G.1 b k) :: [x0, x1]) h (fun v h' => v = none ∧ h' = h2)) (kk : AW l G d own cc nL ret (pc + 3) lv rest h2 Q) : AW l G d own cc nL ret pc lv (x1 :: x0 :: .ref (G.1 b k) :: rest) h Q := a_callV (As := [x0, x1]) hdg hl hw hk hc hd hr hM (fun v h' q => by obtain ⟨rfl, rfl⟩ := q; exact kk)
theorem a_cS2 {d' index : Nat} {y : MethodName} {cy : ByteArray} {ny : Nat} {ry : Option FieldType} {x0 x1 : Value} {rest : List Value} {P : Option Value → AH → Prop} (hdg : decode cc pc = .ok (.invokestatic index, 3)) (hl : Cond.methodLink own index y ∈ gtbl) (hw : WS y cy ny ry 2) (hd : d' < d) (hr : (rest.map fun v => v.category).sum ≤ 8) (hM : Ct l G d' y cy ny ry [x0, x1] h P) (kk : ∀ v h', P v h' → AW l G d own cc nL ret (pc + 3) lv (v.toList ++ rest) h' Q) : AW l G d own cc nL ret pc lv (x1 :: x0 :: rest) h Q := a_callS (As := [x0, x1]) hdg hl hw hd hr hM kk
theorem a_cS2i {d' index : Nat} {y : MethodName} {cy : ByteArray} {ny : Nat} {ry : Option FieldType} {x0 x1 : Value} {rest : List Value} {r : Int32} {h2 : AH} (hdg : decode cc pc = .ok (.invokestatic index, 3)) (hl : Cond.methodLink own index y ∈ gtbl) (hw : WS y cy ny ry 2) (hd : d' < d) (hr : (rest.map fun v => v.category).sum ≤ 8) (hM : Ct l G d' y cy ny ry [x0, x1] h (fun v h' => v = some (.int r) ∧ h' = h2)) (kk : AW l G d own cc nL ret (pc + 3) lv (.int r :: rest) h2 Q) : AW l G d own cc nL ret pc lv (x1 :: x0 :: rest) h Q := a_callS (As := [x0, x1]) hdg hl hw hd hr hM (fun v h' q => by obtain ⟨rfl, rfl⟩ := q; exact kk)
theorem a_cS2l {d' index : Nat} {y : MethodName} {cy : ByteArray} {ny : Nat} {ry : Option FieldType} {x0 x1 : Value} {rest : List Value} {r : Int64} {h2 : AH} (hdg : decode cc pc = .ok (.invokestatic index, 3)) (hl : Cond.methodLink own index y ∈ gtbl) (hw : WS y cy ny ry 2) (hd : d' < d) (hr : (rest.map fun v => v.category).sum ≤ 8) (hM : Ct l G d' y cy ny ry [x0, x1] h (fun v h' => v = some (.long r) ∧ h' = h2)) (kk : AW l G d own cc nL ret (pc + 3) lv (.long r :: rest) h2 Q) : AW l G d own cc nL ret pc lv (x1 :: x0 :: rest) h Q := a_callS (As := [x0, x1]) hdg hl hw hd hr hM (fun v h' q => by obtain ⟨rfl, rfl⟩ := q; exact kk)
theorem a_cS2v {d' index : Nat} {y : MethodName} {cy : ByteArray} {ny : Nat} {ry : Option FieldType} {x0 x1 : Value} {rest : List Value} {h2 : AH} (hdg : decode cc pc = .ok (.invokestatic index, 3)) (hl : Cond.methodLink own index y ∈ gtbl) (hw : WS y cy ny ry 2) (hd : d' < d) (hr : (rest.map fun v => v.category).sum ≤ 8) (hM : Ct l G d' y cy ny ry [x0, x1] h (fun v h' => v = none ∧ h' = h2)) (kk : AW l G d own cc nL ret (pc + 3) lv rest h2 Q) : AW l G d own cc nL ret pc lv (x1 :: x0 :: rest) h Q := a_callS (As := [x0, x1]) hdg hl hw hd hr hM (fun v h' q => by obtain ⟨rfl, rfl⟩ := q; exact kk)
theorem a_cV3 {d' index b k ci N : Nat} {y : MethodName} {cy : ByteArray} {ny : Nat} {ry : Option FieldType} {T : u_T} {x0 x1 x2 : Value} {rest : List Value} {P : Option Value → AH → Prop} (hdg : decode cc pc = .ok (.invokevirtual index, 3)) (hl : Cond.methodLink own index y ∈ gtbl) (hw : WV y cy ny ry 3) (hk : kd b k = some (0, ci)) (hc : classes[ci]? = some (y.cls, T, N)) (hd : d' < d) (hr : (rest.map fun v => v.category).sum ≤ 8) (hM : Ct l G d' y cy ny ry (.ref (G.1 b k) :: [x0, x1, x2]) h P) (kk : ∀ v h', P v h' → AW l G d own cc nL ret (pc + 3) lv (v.toList ++ rest) h' Q) : AW l G d own cc nL ret pc lv (x2 :: x1 :: x0 :: .ref (G.1 b k) :: rest) h Q := a_callV (As := [x0, x1, x2]) hdg hl hw hk hc hd hr hM kk
theorem a_cV3i {d' index b k ci N : Nat} {y : MethodName} {cy : ByteArray} {ny : Nat} {ry : Option FieldType} {T : u_T} {x0 x1 x2 : Value} {rest : List Value} {r : Int32} {h2 : AH} (hdg : decode cc pc = .ok (.invokevirtual index, 3)) (hl : Cond.methodLink own index y ∈ gtbl) (hw : WV y cy ny ry 3) (hk : kd b k = some (0, ci)) (hc : classes[ci]? = some (y.cls, T, N)) (hd : d' < d) (hr : (rest.map fun v => v.category).sum ≤ 8) (hM : Ct l G d' y cy ny ry (.ref (G.1 b k) :: [x0, x1, x2]) h (fun v h' => v = some (.int r) ∧ h' = h2)) (kk : AW l G d own cc nL ret (pc + 3) lv (.int r :: rest) h2 Q) : AW l G d own cc nL ret pc lv (x2 :: x1 :: x0 :: .ref (G.1 b k) :: rest) h Q := a_callV (As := [x0, x1, x2]) hdg hl hw hk hc hd hr hM (fun v h' q => by obtain ⟨rfl, rfl⟩ := q; exact kk)
theorem a_cV3l {d' index b k ci N : Nat} {y : MethodName} {cy : ByteArray} {ny : Nat} {ry : Option FieldType} {T : u_T} {x0 x1 x2 : Value} {rest : List Value} {r : Int64} {h2 : AH} (hdg : decode cc pc = .ok (.invokevirtual index, 3)) (hl : Cond.methodLink own index y ∈ gtbl) (hw : WV y cy ny ry 3) (hk : kd b k = some (0, ci)) (hc : classes[ci]? = some (y.cls, T, N)) (hd : d' < d) (hr : (rest.map fun v => v.category).sum ≤ 8) (hM : Ct l G d' y cy ny ry (.ref (G.1 b k) :: [x0, x1, x2]) h (fun v h' => v = some (.long r) ∧ h' = h2)) (kk : AW l G d own cc nL ret (pc + 3) lv (.long r :: rest) h2 Q) : AW l G d own cc nL ret pc lv (x2 :: x1 :: x0 :: .ref (G.1 b k) :: rest) h Q := a_callV (As := [x0, x1, x2]) hdg hl hw hk hc hd hr hM (fun v h' q => by obtain ⟨rfl, rfl⟩ := q; exact kk)
theorem a_cV3v {d' index b k ci N : Nat} {y : MethodName} {cy : ByteArray} {ny : Nat} {ry : Option FieldType} {T : u_T} {x0 x1 x2 : Value} {rest : List Value} {h2 : AH} (hdg : decode cc pc = .ok (.invokevirtual index, 3)) (hl : Cond.methodLink own index y ∈ gtbl) (hw : WV y cy ny ry 3) (hk : kd b k = some (0, ci)) (hc : classes[ci]? = some (y.cls, T, N)) (hd : d' < d) (hr : (rest.map fun v => v.category).sum ≤ 8) (hM : Ct l G d' y cy ny ry (.ref (G.1 b k) :: [x0, x1, x2]) h (fun v h' => v = none ∧ h' = h2)) (kk : AW l G d own cc nL ret (pc + 3) lv rest h2 Q) : AW l G d own cc nL ret pc lv (x2 :: x1 :: x0 :: .ref (G.1 b k) :: rest) h Q := a_callV (As := [x0, x1, x2]) hdg hl hw hk hc hd hr hM (fun v h' q => by obtain ⟨rfl, rfl⟩ := q; exact kk)
theorem a_cS3 {d' index : Nat} {y : MethodName} {cy : ByteArray} {ny : Nat} {ry : Option FieldType} {x0 x1 x2 : Value} {rest : List Value} {P : Option Value → AH → Prop} (hdg : decode cc pc = .ok (.invokestatic index, 3)) (hl : Cond.methodLink own index y ∈ gtbl) (hw : WS y cy ny ry 3) (hd : d' < d) (hr : (rest.map fun v => v.category).sum ≤ 8) (hM : Ct l G d' y cy ny ry [x0, x1, x2] h P) (kk : ∀ v h', P v h' → AW l G d own cc nL ret (pc + 3) lv (v.toList ++ rest) h' Q) : AW l G d own cc nL ret pc lv (x2 :: x1 :: x0 :: rest) h Q := a_callS (As := [x0, x1, x2]) hdg hl hw hd hr hM kk
theorem a_cS3i {d' index : Nat} {y : MethodName} {cy : ByteArray} {ny : Nat} {ry : Option FieldType} {x0 x1 x2 : Value} {rest : List Value} {r : Int32} {h2 : AH} (hdg : decode cc pc = .ok (.invokestatic index, 3)) (hl : Cond.methodLink own index y ∈ gtbl) (hw : WS y cy ny ry 3) (hd : d' < d) (hr : (rest.map fun v => v.category).sum ≤ 8) (hM : Ct l G d' y cy ny ry [x0, x1, x2] h (fun v h' => v = some (.int r) ∧ h' = h2)) (kk : AW l G d own cc nL ret (pc + 3) lv (.int r :: rest) h2 Q) : AW l G d own cc nL ret pc lv (x2 :: x1 :: x0 :: rest) h Q := a_callS (As := [x0, x1, x2]) hdg hl hw hd hr hM (fun v h' q => by obtain ⟨rfl, rfl⟩ := q; exact kk)
theorem a_cS3l {d' index : Nat} {y : MethodName} {cy : ByteArray} {ny : Nat} {ry : Option FieldType} {x0 x1 x2 : Value} {rest : List Value} {r : Int64} {h2 : AH} (hdg : decode cc pc = .ok (.invokestatic index, 3)) (hl : Cond.methodLink own index y ∈ gtbl) (hw : WS y cy ny ry 3) (hd : d' < d) (hr : (rest.map fun v => v.category).sum ≤ 8) (hM : Ct l G d' y cy ny ry [x0, x1, x2] h (fun v h' => v = some (.long r) ∧ h' = h2)) (kk : AW l G d own cc nL ret (pc + 3) lv (.long r :: rest) h2 Q) : AW l G d own cc nL ret pc lv (x2 :: x1 :: x0 :: rest) h Q := a_callS (As := [x0, x1, x2]) hdg hl hw hd hr hM (fun v h' q => by obtain ⟨rfl, rfl⟩ := q; exact kk)
theorem a_cS3v {d' index : Nat} {y : MethodName} {cy : ByteArray} {ny : Nat} {ry : Option FieldType} {x0 x1 x2 : Value} {rest : List Value} {h2 : AH} (hdg : decode cc pc = .ok (.invokestatic index, 3)) (hl : Cond.methodLink own index y ∈ gtbl) (hw : WS y cy ny ry 3) (hd : d' < d) (hr : (rest.map fun v => v.category).sum ≤ 8) (hM : Ct l G d' y cy ny ry [x0, x1, x2] h (fun v h' => v = none ∧ h' = h2)) (kk : AW l G d own cc nL ret (pc + 3) lv rest h2 Q) : AW l G d own cc nL ret pc lv (x2 :: x1 :: x0 :: rest) h Q := a_callS (As := [x0, x1, x2]) hdg hl hw hd hr hM (fun v h' q => by obtain ⟨rfl, rfl⟩ := q; exact kk)
theorem a_cV4 {d' index b k ci N : Nat} {y : MethodName} {cy : ByteArray} {ny : Nat} {ry : Option FieldType} {T : u_T} {x0 x1 x2 x3 : Value} {rest : List Value} {P : Option Value → AH → Prop} (hdg : decode cc pc = .ok (.invokevirtual index, 3)) (hl : Cond.methodLink own index y ∈ gtbl) (hw : WV y cy ny ry 4) (hk : kd b k = some (0, ci)) (hc : classes[ci]? = some (y.cls, T, N)) (hd : d' < d) (hr : (rest.map fun v => v.category).sum ≤ 8) (hM : Ct l G d' y cy ny ry (.ref (G.1 b k) :: [x0, x1, x2, x3]) h P) (kk : ∀ v h', P v h' → AW l G d own cc nL ret (pc + 3) lv (v.toList ++ rest) h' Q) : AW l G d own cc nL ret pc lv (x3 :: x2 :: x1 :: x0 :: .ref (G.1 b k) :: rest) h Q := a_callV (As := [x0, x1, x2, x3]) hdg hl hw hk hc hd hr hM kk
theorem a_cV4i {d' index b k ci N : Nat} {y : MethodName} {cy : ByteArray} {ny : Nat} {ry : Option FieldType} {T : u_T} {x0 x1 x2 x3 : Value} {rest : List Value} {r : Int32} {h2 : AH} (hdg : decode cc pc = .ok (.invokevirtual index, 3)) (hl : Cond.methodLink own index y ∈ gtbl) (hw : WV y cy ny ry 4) (hk : kd b k = some (0, ci)) (hc : classes[ci]? = some (y.cls, T, N)) (hd : d' < d) (hr : (rest.map fun v => v.category).sum ≤ 8) (hM : Ct l G d' y cy ny ry (.ref (G.1 b k) :: [x0, x1, x2, x3]) h (fun v h' => v = some (.int r) ∧ h' = h2)) (kk : AW l G d own cc nL ret (pc + 3) lv (.int r :: rest) h2 Q) : AW l G d own cc nL ret pc lv (x3 :: x2 :: x1 :: x0 :: .ref (G.1 b k) :: rest) h Q := a_callV (As := [x0, x1, x2, x3]) hdg hl hw hk hc hd hr hM (fun v h' q => by obtain ⟨rfl, rfl⟩ := q; exact kk)
theorem a_cV4l {d' index b k ci N : Nat} {y : MethodName} {cy : ByteArray} {ny : Nat} {ry : Option FieldType} {T : u_T} {x0 x1 x2 x3 : Value} {rest : List Value} {r : Int64} {h2 : AH} (hdg : decode cc pc = .ok (.invokevirtual index, 3)) (hl : Cond.methodLink own index y ∈ gtbl) (hw : WV y cy ny ry 4) (hk : kd b k = some (0, ci)) (hc : classes[ci]? = some (y.cls, T, N)) (hd : d' < d) (hr : (rest.map fun v => v.category).sum ≤ 8) (hM : Ct l G d' y cy ny ry (.ref (G.1 b k) :: [x0, x1, x2, x3]) h (fun v h' => v = some (.long r) ∧ h' = h2)) (kk : AW l G d own cc nL ret (pc + 3) lv (.long r :: rest) h2 Q) : AW l G d own cc nL ret pc lv (x3 :: x2 :: x1 :: x0 :: .ref (G.1 b k) :: rest) h Q := a_callV (As := [x0, x1, x2, x3]) hdg hl hw hk hc hd hr hM (fun v h' q => by obtain ⟨rfl, rfl⟩ := q; exact kk)
theorem a_cV4v {d' index b k ci N : Nat} {y : MethodName} {cy : ByteArray} {ny : Nat} {ry : Option FieldType} {T : u_T} {x0 x1 x2 x3 : Value} {rest : List Value} {h2 : AH} (hdg : decode cc pc = .ok (.invokevirtual index, 3)) (hl : Cond.methodLink own index y ∈ gtbl) (hw : WV y cy ny ry 4) (hk : kd b k = some (0, ci)) (hc : classes[ci]? = some (y.cls, T, N)) (hd : d' < d) (hr : (rest.map fun v => v.category).sum ≤ 8) (hM : Ct l G d' y cy ny ry (.ref (G.1 b k) :: [x0, x1, x2, x3]) h (fun v h' => v = none ∧ h' = h2)) (kk : AW l G d own cc nL ret (pc + 3) lv rest h2 Q) : AW l G d own cc nL ret pc lv (x3 :: x2 :: x1 :: x0 :: .ref (G.1 b k) :: rest) h Q := a_callV (As := [x0, x1, x2, x3]) hdg hl hw hk hc hd hr hM (fun v h' q => by obtain ⟨rfl, rfl⟩ := q; exact kk)
theorem a_cS4 {d' index : Nat} {y : MethodName} {cy : ByteArray} {ny : Nat} {ry : Option FieldType} {x0 x1 x2 x3 : Value} {rest : List Value} {P : Option Value → AH → Prop} (hdg : decode cc pc = .ok (.invokestatic index, 3)) (hl : Cond.methodLink own index y ∈ gtbl) (hw : WS y cy ny ry 4) (hd : d' < d) (hr : (rest.map fun v => v.category).sum ≤ 8) (hM : Ct l G d' y cy ny ry [x0, x1, x2, x3] h P) (kk : ∀ v h', P v h' → AW l G d own cc nL ret (pc + 3) lv (v.toList ++ rest) h' Q) : AW l G d own cc nL ret pc lv (x3 :: x2 :: x1 :: x0 :: rest) h Q := a_callS (As := [x0, x1, x2, x3]) hdg hl hw hd hr hM kk
theorem a_cS4i {d' index : Nat} {y : MethodName} {cy : ByteArray} {ny : Nat} {ry : Option FieldType} {x0 x1 x2 x3 : Value} {rest : List Value} {r : Int32} {h2 : AH} (hdg : decode cc pc = .ok (.invokestatic index, 3)) (hl : Cond.methodLink own index y ∈ gtbl) (hw : WS y cy ny ry 4) (hd : d' < d) (hr : (rest.map fun v => v.category).sum ≤ 8) (hM : Ct l G d' y cy ny ry [x0, x1, x2, x3] h (fun v h' => v = some (.int r) ∧ h' = h2)) (kk : AW l G d own cc nL ret (pc + 3) lv (.int r :: rest) h2 Q) : AW l G d own cc nL ret pc lv (x3 :: x2 :: x1 :: x0 :: rest) h Q := a_callS (As := [x0, x1, x2, x3]) hdg hl hw hd hr hM (fun v h' q => by obtain ⟨rfl, rfl⟩ := q; exact kk)
theorem a_cS4l {d' index : Nat} {y : MethodName} {cy : ByteArray} {ny : Nat} {ry : Option FieldType} {x0 x1 x2 x3 : Value} {rest : List Value} {r : Int64} {h2 : AH} (hdg : decode cc pc = .ok (.invokestatic index, 3)) (hl : Cond.methodLink own index y ∈ gtbl) (hw : WS y cy ny ry 4) (hd : d' < d) (hr : (rest.map fun v => v.category).sum ≤ 8) (hM : Ct l G d' y cy ny ry [x0, x1, x2, x3] h (fun v h' => v = some (.long r) ∧ h' = h2)) (kk : AW l G d own cc nL ret (pc + 3) lv (.long r :: rest) h2 Q) : AW l G d own cc nL ret pc lv (x3 :: x2 :: x1 :: x0 :: rest) h Q := a_callS (As := [x0, x1, x2, x3]) hdg hl hw hd hr hM (fun v h' q => by obtain ⟨rfl, rfl⟩ := q; exact kk)
theorem a_cS4v {d' index : Nat} {y : MethodName} {cy : ByteArray} {ny : Nat} {ry : Option FieldType} {x0 x1 x2 x3 : Value} {rest : List Value} {h2 : AH} (hdg : decode cc pc = .ok (.invokestatic index, 3)) (hl : Cond.methodLink own index y ∈ gtbl) (hw : WS y cy ny ry 4) (hd : d' < d) (hr : (rest.map fun v => v.category).sum ≤ 8) (hM : Ct l G d' y cy ny ry [x0, x1, x2, x3] h (fun v h' => v = none ∧ h' = h2)) (kk : AW l G d own cc nL ret (pc + 3) lv rest h2 Q) : AW l G d own cc nL ret pc lv (x3 :: x2 :: x1 :: x0 :: rest) h Q := a_callS (As := [x0, x1, x2, x3]) hdg hl hw hd hr hM (fun v h' q => by obtain ⟨rfl, rfl⟩ := q; exact kk)
theorem a_cV5 {d' index b k ci N : Nat} {y : MethodName} {cy : ByteArray} {ny : Nat} {ry : Option FieldType} {T : u_T} {x0 x1 x2 x3 x4 : Value} {rest : List Value} {P : Option Value → AH → Prop} (hdg : decode cc pc = .ok (.invokevirtual index, 3)) (hl : Cond.methodLink own index y ∈ gtbl) (hw : WV y cy ny ry 5) (hk : kd b k = some (0, ci)) (hc : classes[ci]? = some (y.cls, T, N)) (hd : d' < d) (hr : (rest.map fun v => v.category).sum ≤ 8) (hM : Ct l G d' y cy ny ry (.ref (G.1 b k) :: [x0, x1, x2, x3, x4]) h P) (kk : ∀ v h', P v h' → AW l G d own cc nL ret (pc + 3) lv (v.toList ++ rest) h' Q) : AW l G d own cc nL ret pc lv (x4 :: x3 :: x2 :: x1 :: x0 :: .ref (G.1 b k) :: rest) h Q := a_callV (As := [x0, x1, x2, x3, x4]) hdg hl hw hk hc hd hr hM kk
theorem a_cV5i {d' index b k ci N : Nat} {y : MethodName} {cy : ByteArray} {ny : Nat} {ry : Option FieldType} {T : u_T} {x0 x1 x2 x3 x4 : Value} {rest : List Value} {r : Int32} {h2 : AH} (hdg : decode cc pc = .ok (.invokevirtual index, 3)) (hl : Cond.methodLink own index y ∈ gtbl) (hw : WV y cy ny ry 5) (hk : kd b k = some (0, ci)) (hc : classes[ci]? = some (y.cls, T, N)) (hd : d' < d) (hr : (rest.map fun v => v.category).sum ≤ 8) (hM : Ct l G d' y cy ny ry (.ref (G.1 b k) :: [x0, x1, x2, x3, x4]) h (fun v h' => v = some (.int r) ∧ h' = h2)) (kk : AW l G d own cc nL ret (pc + 3) lv (.int r :: rest) h2 Q) : AW l G d own cc nL ret pc lv (x4 :: x3 :: x2 :: x1 :: x0 :: .ref (G.1 b k) :: rest) h Q := a_callV (As := [x0, x1, x2, x3, x4]) hdg hl hw hk hc hd hr hM (fun v h' q => by obtain ⟨rfl, rfl⟩ := q; exact kk)
theorem a_cV5l {d' index b k ci N : Nat} {y : MethodName} {cy : ByteArray} {ny : Nat} {ry : Option FieldType} {T : u_T} {x0 x1 x2 x3 x4 : Value} {rest : List Value} {r : Int64} {h2 : AH} (hdg : decode cc pc = .ok (.invokevirtual index, 3)) (hl : Cond.methodLink own index y ∈ gtbl) (hw : WV y cy ny ry 5) (hk : kd b k = some (0, ci)) (hc : classes[ci]? = some (y.cls, T, N)) (hd : d' < d) (hr : (rest.map fun v => v.category).sum ≤ 8) (hM : Ct l G d' y cy ny ry (.ref (G.1 b k) :: [x0, x1, x2, x3, x4]) h (fun v h' => v = some (.long r) ∧ h' = h2)) (kk : AW l G d own cc nL ret (pc + 3) lv (.long r :: rest) h2 Q) : AW l G d own cc nL ret pc lv (x4 :: x3 :: x2 :: x1 :: x0 :: .ref (G.1 b k) :: rest) h Q := a_callV (As := [x0, x1, x2, x3, x4]) hdg hl hw hk hc hd hr hM (fun v h' q => by obtain ⟨rfl, rfl⟩ := q; exact kk)
theorem a_cV5v {d' index b k ci N : Nat} {y : MethodName} {cy : ByteArray} {ny : Nat} {ry : Option FieldType} {T : u_T} {x0 x1 x2 x3 x4 : Value} {rest : List Value} {h2 : AH} (hdg : decode cc pc = .ok (.invokevirtual index, 3)) (hl : Cond.methodLink own index y ∈ gtbl) (hw : WV y cy ny ry 5) (hk : kd b k = some (0, ci)) (hc : classes[ci]? = some (y.cls, T, N)) (hd : d' < d) (hr : (rest.map fun v => v.category).sum ≤ 8) (hM : Ct l G d' y cy ny ry (.ref (G.1 b k) :: [x0, x1, x2, x3, x4]) h (fun v h' => v = none ∧ h' = h2)) (kk : AW l G d own cc nL ret (pc + 3) lv rest h2 Q) : AW l G d own cc nL ret pc lv (x4 :: x3 :: x2 :: x1 :: x0 :: .ref (G.1 b k) :: rest) h Q := a_callV (As := [x0, x1, x2, x3, x4]) hdg hl hw hk hc hd hr hM (fun v h' q => by obtain ⟨rfl, rfl⟩ := q; exact kk)
theorem a_cS5 {d' index : Nat} {y : MethodName} {cy : ByteArray} {ny : Nat} {ry : Option FieldType} {x0 x1 x2 x3 x4 : Value} {rest : List Value} {P : Option Value → AH → Prop} (hdg : decode cc pc = .ok (.invokestatic index, 3)) (hl : Cond.methodLink own index y ∈ gtbl) (hw : WS y cy ny ry 5) (hd : d' < d) (hr : (rest.map fun v => v.category).sum ≤ 8) (hM : Ct l G d' y cy ny ry [x0, x1, x2, x3, x4] h P) (kk : ∀ v h', P v h' → AW l G d own cc nL ret (pc + 3) lv (v.toList ++ rest) h' Q) : AW l G d own cc nL ret pc lv (x4 :: x3 :: x2 :: x1 :: x0 :: rest) h Q := a_callS (As := [x0, x1, x2, x3, x4]) hdg hl hw hd hr hM kk
theorem a_cS5i {d' index : Nat} {y : MethodName} {cy : ByteArray} {ny : Nat} {ry : Option FieldType} {x0 x1 x2 x3 x4 : Value} {rest : List Value} {r : Int32} {h2 : AH} (hdg : decode cc pc = .ok (.invokestatic index, 3)) (hl : Cond.methodLink own index y ∈ gtbl) (hw : WS y cy ny ry 5) (hd : d' < d) (hr : (rest.map fun v => v.category).sum ≤ 8) (hM : Ct l G d' y cy ny ry [x0, x1, x2, x3, x4] h (fun v h' => v = some (.int r) ∧ h' = h2)) (kk : AW l G d own cc nL ret (pc + 3) lv (.int r :: rest) h2 Q) : AW l G d own cc nL ret pc lv (x4 :: x3 :: x2 :: x1 :: x0 :: rest) h Q := a_callS (As := [x0, x1, x2, x3, x4]) hdg hl hw hd hr hM (fun v h' q => by obtain ⟨rfl, rfl⟩ := q; exact kk)
theorem a_cS5l {d' index : Nat} {y : MethodName} {cy : ByteArray} {ny : Nat} {ry : Option FieldType} {x0 x1 x2 x3 x4 : Value} {rest : List Value} {r : Int64} {h2 : AH} (hdg : decode cc pc = .ok (.invokestatic index, 3)) (hl : Cond.methodLink own index y ∈ gtbl) (hw : WS y cy ny ry 5) (hd : d' < d) (hr : (rest.map fun v => v.category).sum ≤ 8) (hM : Ct l G d' y cy ny ry [x0, x1, x2, x3, x4] h (fun v h' => v = some (.long r) ∧ h' = h2)) (kk : AW l G d own cc nL ret (pc + 3) lv (.long r :: rest) h2 Q) : AW l G d own cc nL ret pc lv (x4 :: x3 :: x2 :: x1 :: x0 :: rest) h Q := a_callS (As := [x0, x1, x2, x3, x4]) hdg hl hw hd hr hM (fun v h' q => by obtain ⟨rfl, rfl⟩ := q; exact kk)
theorem a_cS5v {d' index : Nat} {y : MethodName} {cy : ByteArray} {ny : Nat} {ry : Option FieldType} {x0 x1 x2 x3 x4 : Value} {rest : List Value} {h2 : AH} (hdg : decode cc pc = .ok (.invokestatic index, 3)) (hl : Cond.methodLink own index y ∈ gtbl) (hw : WS y cy ny ry 5) (hd : d' < d) (hr : (rest.map fun v => v.category).sum ≤ 8) (hM : Ct l G d' y cy ny ry [x0, x1, x2, x3, x4] h (fun v h' => v = none ∧ h' = h2)) (kk : AW l G d own cc nL ret (pc + 3) lv rest h2 Q) : AW l G d own cc nL ret pc lv (x4 :: x3 :: x2 :: x1 :: x0 :: rest) h Q := a_callS (As := [x0, x1, x2, x3, x4]) hdg hl hw hd hr hM (fun v h' q => by obtain ⟨rfl, rfl⟩ := q; exact kk)
theorem a_cS6 {d' index : Nat} {y : MethodName} {cy : ByteArray} {ny : Nat} {ry : Option FieldType} {x0 x1 x2 x3 x4 x5 : Value} {rest : List Value} {P : Option Value → AH → Prop} (hdg : decode cc pc = .ok (.invokestatic index, 3)) (hl : Cond.methodLink own index y ∈ gtbl) (hw : WS y cy ny ry 6) (hd : d' < d) (hr : (rest.map fun v => v.category).sum ≤ 8) (hM : Ct l G d' y cy ny ry [x0, x1, x2, x3, x4, x5] h P) (kk : ∀ v h', P v h' → AW l G d own cc nL ret (pc + 3) lv (v.toList ++ rest) h' Q) : AW l G d own cc nL ret pc lv (x5 :: x4 :: x3 :: x2 :: x1 :: x0 :: rest) h Q := a_callS (As := [x0, x1, x2, x3, x4, x5]) hdg hl hw hd hr hM kk
theorem a_cS6i {d' index : Nat} {y : MethodName} {cy : ByteArray} {ny : Nat} {ry : Option FieldType} {x0 x1 x2 x3 x4 x5 : Value} {rest : List Value} {r : Int32} {h2 : AH} (hdg : decode cc pc = .ok (.invokestatic index, 3)) (hl : Cond.methodLink own index y ∈ gtbl) (hw : WS y cy ny ry 6) (hd : d' < d) (hr : (rest.map fun v => v.category).sum ≤ 8) (hM : Ct l G d' y cy ny ry [x0, x1, x2, x3, x4, x5] h (fun v h' => v = some (.int r) ∧ h' = h2)) (kk : AW l G d own cc nL ret (pc + 3) lv (.int r :: rest) h2 Q) : AW l G d own cc nL ret pc lv (x5 :: x4 :: x3 :: x2 :: x1 :: x0 :: rest) h Q := a_callS (As := [x0, x1, x2, x3, x4, x5]) hdg hl hw hd hr hM (fun v h' q => by obtain ⟨rfl, rfl⟩ := q; exact kk)
theorem a_cS6l {d' index : Nat} {y : MethodName} {cy : ByteArray} {ny : Nat} {ry : Option FieldType} {x0 x1 x2 x3 x4 x5 : Value} {rest : List Value} {r : Int64} {h2 : AH} (hdg : decode cc pc = .ok (.invokestatic index, 3)) (hl : Cond.methodLink own index y ∈ gtbl) (hw : WS y cy ny ry 6) (hd : d' < d) (hr : (rest.map fun v => v.category).sum ≤ 8) (hM : Ct l G d' y cy ny ry [x0, x1, x2, x3, x4, x5] h (fun v h' => v = some (.long r) ∧ h' = h2)) (kk : AW l G d own cc nL ret (pc + 3) lv (.long r :: rest) h2 Q) : AW l G d own cc nL ret pc lv (x5 :: x4 :: x3 :: x2 :: x1 :: x0 :: rest) h Q := a_callS (As := [x0, x1, x2, x3, x4, x5]) hdg hl hw hd hr hM (fun v h' q => by obtain ⟨rfl, rfl⟩ := q; exact kk)
theorem a_cS6v {d' index : Nat} {y : MethodName} {cy : ByteArray} {ny : Nat} {ry : Option FieldType} {x0 x1 x2 x3 x4 x5 : Value} {rest : List Value} {h2 : AH} (hdg : decode cc pc = .ok (.invokestatic index, 3)) (hl : Cond.methodLink own index y ∈ gtbl) (hw : WS y cy ny ry 6) (hd : d' < d) (hr : (rest.map fun v => v.category).sum ≤ 8) (hM : Ct l G d' y cy ny ry [x0, x1, x2, x3, x4, x5] h (fun v h' => v = none ∧ h' = h2)) (kk : AW l G d own cc nL ret (pc + 3) lv rest h2 Q) : AW l G d own cc nL ret pc lv (x5 :: x4 :: x3 :: x2 :: x1 :: x0 :: rest) h Q := a_callS (As := [x0, x1, x2, x3, x4, x5]) hdg hl hw hd hr hM (fun v h' q => by obtain ⟨rfl, rfl⟩ := q; exact kk)
theorem a_mmax {index : Nat} {x y : Int32} (hdg : decode cc pc = .ok (.invokestatic index, 3)) (hl : Cond.methodLink own index Lib.Math.max.name ∈ gtbl) (hd : 0 < d) (hr : (st.map fun v => v.category).sum ≤ 8) (k : AW l G d own cc nL ret (pc + 3) lv (.int (if x < y then y else x) :: st) h Q) : AW l G d own cc nL ret pc lv (.int y :: .int x :: st) h Q := fun p e s m args below meth c H locs ls C hW hS hlv => va_mmax (R := rmD d) C.1 C.2.1 (by rw [hlv.1]; exact C.2.2.1) C.2.2.2.1 (C.2.2.2.2.1 _ hl) (C.2.2.2.2.1 _ mmax_st) (C.2.2.2.2.1 _ math_in) (C.2.2.2.2.1 _ mmax_cd) (show 1 ≤ (rmD d).frames from hd) (by show _ + 13 ≤ 36 * d; omega) (Nat.zero_le _) (Nat.zero_le _) hdg (k p e s m args below meth c H locs ls C hW hS hlv)
theorem a_mmin {index : Nat} {x y : Int32} (hdg : decode cc pc = .ok (.invokestatic index, 3)) (hl : Cond.methodLink own index Lib.Math.min.name ∈ gtbl) (hd : 0 < d) (hr : (st.map fun v => v.category).sum ≤ 8) (k : AW l G d own cc nL ret (pc + 3) lv (.int (if y < x then y else x) :: st) h Q) : AW l G d own cc nL ret pc lv (.int y :: .int x :: st) h Q := fun p e s m args below meth c H locs ls C hW hS hlv => va_mmin (R := rmD d) C.1 C.2.1 (by rw [hlv.1]; exact C.2.2.1) C.2.2.2.1 (C.2.2.2.2.1 _ hl) (C.2.2.2.2.1 _ mmin_st) (C.2.2.2.2.1 _ math_in) (C.2.2.2.2.1 _ mmin_cd) (show 1 ≤ (rmD d).frames from hd) (by show _ + 13 ≤ 36 * d; omega) (Nat.zero_le _) (Nat.zero_le _) hdg (k p e s m args below meth c H locs ls C hW hS hlv)
end AMEM
