/-! the constructors: worlds as lists, cell i at the law's own beginning + i -/
def mnL : List Cond := [.methodLinkNest RX10 9 yX7_init RX10, .methodLinkNest RX10 32 yX5_init RX10, .methodLinkNest RX10 39 yX1_init RX10, .methodLinkNest RX1 11 yX2_init RX10, .methodLinkNest RX1 20 yX4_init RX10, .methodLinkNest RX1 27 yX3_init RX10, .methodLinkNest RX1 34 yX9_init RX10, .methodLinkNest RX1 41 yX0_init RX10]
def NF (U : State) : Prop := ∀ w ∈ mnL, va_Nw w U
theorem NF.warm {s U : State} (hW : s.WarmedH U.vm) (h : NF s) : NF U := by
  intro w hw
  have := h w hw
  simp only [mnL, List.mem_cons, List.not_mem_nil, or_false] at hw
  rcases hw with rfl | rfl | rfl | rfl | rfl | rfl | rfl | rfl <;> exact va_Nw.warmM hW this
def VL (G : GG) (ws : List va_E) (H : Heap) : Prop := H.size = G.2.1 + ws.length ∧ ∀ i e, ws[i]? = some e → va_at G.2.2.1 classes (G.2.1 + i, e) H
theorem VL.push {G : GG} {ws : List va_E} {H H1 : Heap} {e : va_E} (h : VL G ws H) (hz : H1.size = G.2.1 + ws.length + 1) (ho : ∀ q, q < G.2.1 + ws.length → H1[q]? = H[q]?) (he : va_at G.2.2.1 classes (G.2.1 + ws.length, e) H1) : VL G (ws ++ [e]) H1 := by
  refine ⟨by rw [List.length_append]; exact hz, fun i x hx => ?_⟩
  by_cases hi : i < ws.length
  · rw [List.getElem?_append_left hi] at hx
    exact (h.2 i x hx).kept (ho _ (by show G.2.1 + i < _; omega))
  · rw [List.getElem?_append_right (by omega)] at hx
    have hz2 : i - ws.length < 1 := (List.getElem?_eq_some_iff.mp hx).1
    rw [show i - ws.length = 0 by omega] at hx
    cases hx
    rw [show i = ws.length by omega]
    exact he
theorem VL.put {G : GG} {ws : List va_E} {H H1 : Heap} {i : Nat} {e : va_E} (h : VL G ws H) (hi : i < ws.length) (hz : H1.size = H.size) (ho : ∀ q, q ≠ G.2.1 + i → H1[q]? = H[q]?) (he : va_at G.2.2.1 classes (G.2.1 + i, e) H1) : VL G (ws.set i e) H1 := by
  refine ⟨by rw [hz, List.length_set]; exact h.1, fun j x hx => ?_⟩
  by_cases hj : i = j
  · subst hj
    rw [List.getElem?_set_self hi] at hx
    cases hx
    exact he
  · rw [List.getElem?_set_ne hj] at hx
    exact (h.2 j x hx).kept (ho _ (by show G.2.1 + j ≠ _; omega))
def AN (l : Launch) (G : GG) (R : Room) (E : List Frame → Array Value → State → State → Prop) (Z : Array Value → State → Code → Prop) (nm own : String) (cc : ByteArray) (nL : Nat) (ret : Option FieldType) (cells slots pc : Nat) (lv : List (Option Value)) (st : List Value) (ws : List va_E) : Prop :=
  ∀ (p : Program) (e : Env) (s : State) (m : MethodId) (args : Array Value) (below : List Frame) (meth : Method) (c : Code) (H : Heap) (locs : List Loc) (ls : Array Slot),
    Cx G own cc nL ret p s m args meth c → (meth.name = nm ∧ NF s ∧ Z args s c) → VL G ws H → va_S (Alo G) s.heap H locs → hv ls nL lv →
    W p l e R s m args below meth c H locs cells slots (E below args s) (F0 m pc ls st)
section
variable {l : Launch} {G : GG} {R : Room} {E : List Frame → Array Value → State → State → Prop} {Z : Array Value → State → Code → Prop} {nm own : String} {cc : ByteArray} {nL : Nat} {ret : Option FieldType} {cells slots pc : Nat} {lv : List (Option Value)} {st : List Value} {ws : List va_E}
theorem n_iconst {n : Int} {v : Int32} (hdg : decode cc pc = .ok (.iconst n, 1)) (hv : Int32.ofInt n = v) (k : AN l G R E Z nm own cc nL ret cells slots (pc + 1) lv (.int v :: st) ws) : AN l G R E Z nm own cc nL ret cells slots pc lv st ws := fun p e s m args below meth c H locs ls C hZ hW hS hl => lv_iconst C.1 C.2.1 hdg hv (k p e s m args below meth c H locs ls C hZ hW hS hl)
theorem n_bipush {n : Int} {v : Int32} (hdg : decode cc pc = .ok (.bipush n, 2)) (hv : (Int8.ofInt n).toInt32 = v) (k : AN l G R E Z nm own cc nL ret cells slots (pc + 2) lv (.int v :: st) ws) : AN l G R E Z nm own cc nL ret cells slots pc lv st ws := fun p e s m args below meth c H locs ls C hZ hW hS hl => lv_bipush C.1 C.2.1 hdg hv (k p e s m args below meth c H locs ls C hZ hW hS hl)
theorem n_sipush {n : Int} {v : Int32} (hdg : decode cc pc = .ok (.sipush n, 3)) (hv : (Int16.ofInt n).toInt32 = v) (k : AN l G R E Z nm own cc nL ret cells slots (pc + 3) lv (.int v :: st) ws) : AN l G R E Z nm own cc nL ret cells slots pc lv st ws := fun p e s m args below meth c H locs ls C hZ hW hS hl => lv_sipush C.1 C.2.1 hdg hv (k p e s m args below meth c H locs ls C hZ hW hS hl)
theorem n_aload_n {n : Fin 4} {x : Nat} (hdg : decode cc pc = .ok (.aload_n n, 1)) (hx : lget lv (n : Nat) = some (.ref x)) (k : AN l G R E Z nm own cc nL ret cells slots (pc + 1) lv (.ref x :: st) ws) : AN l G R E Z nm own cc nL ret cells slots pc lv st ws := fun p e s m args below meth c H locs ls C hZ hW hS hl => lv_aload_n C.1 C.2.1 hdg rfl (hl.2.2 _ _ hx) (k p e s m args below meth c H locs ls C hZ hW hS hl)
theorem n_dup {v : Value} (hdg : decode cc pc = .ok (.dup, 1)) (hv1 : v.category = 1) (k : AN l G R E Z nm own cc nL ret cells slots (pc + 1) lv (v :: v :: st) ws) : AN l G R E Z nm own cc nL ret cells slots pc lv (v :: st) ws := fun p e s m args below meth c H locs ls C hZ hW hS hl => lv_dup C.1 C.2.1 hdg hv1 (k p e s m args below meth c H locs ls C hZ hW hS hl)
theorem n_astore_n {n : Fin 4} {x : Nat} (hdg : decode cc pc = .ok (.astore_n n, 1)) (hn : (n : Nat) < nL) (hk : okS lv (n : Nat) = true) (k : AN l G R E Z nm own cc nL ret cells slots (pc + 1) (lset lv (n : Nat) (some (.ref x))) st ws) : AN l G R E Z nm own cc nL ret cells slots pc lv (.ref x :: st) ws := by
  intro p e s m args below meth c H locs ls C hZ hW hS hl
  obtain ⟨ls', e', h'⟩ := hv_store1 (v := .ref x) hl hn rfl hk
  have hexec := C.1
  have hb := C.2.1
  intro T hT X
  obtain ⟨t, a, b⟩ := k p e s m args below meth c H locs ls' C hZ hW hS h' T hT X
  refine ⟨t, ?_, b⟩
  jvm_step X.here [X.here.top, ↓top_set X.here.top, hexec, hb, hdg, e', Value.isRef]
  exact a
theorem n_istore {n : Nat} {x : Int32} (hdg : decode cc pc = .ok (.istore n, 2)) (hn : n < nL) (hk : okS lv n = true) (k : AN l G R E Z nm own cc nL ret cells slots (pc + 2) (lset lv n (some (.int x))) st ws) : AN l G R E Z nm own cc nL ret cells slots pc lv (.int x :: st) ws := by
  intro p e s m args below meth c H locs ls C hZ hW hS hl
  obtain ⟨ls', e', h'⟩ := hv_store1 (v := .int x) hl hn rfl hk
  have hexec := C.1
  have hb := C.2.1
  intro T hT X
  obtain ⟨t, a, b⟩ := k p e s m args below meth c H locs ls' C hZ hW hS h' T hT X
  refine ⟨t, ?_, b⟩
  jvm_step X.here [X.here.top, ↓top_set X.here.top, hexec, hb, hdg, e', Value.isRef]
  exact a
theorem n_new {ci index N : Nat} {C0 : String} {T : u_T} (ty : Nat → FieldType) {fs : List Value} (hdg : decode cc pc = .ok (.new index, 3)) (hc : classes[ci]? = some (C0, T, N)) (hty : ∀ k, k < N → parseFieldDescriptor (T k).2.2.1 = some (ty k)) (hfs : ∀ j, j < N → defaultValue (ty j) = vp_V fs j) (hcl : Cond.classLink own index C0 ∈ gtbl) (hinst : Cond.instantiable C0 N ∈ gtbl) (hini : Cond.initialized C0 ∈ gtbl)
    (hcells : cells + 1 ≤ R.cells) (hslots : slots + N ≤ R.slots) (kk : AN l G R E Z nm own cc nL ret (cells + 1) (slots + N) (pc + 3) lv (.ref (G.2.1 + ws.length) :: st) (ws ++ [.inr (ci, fs)])) : AN l G R E Z nm own cc nL ret cells slots pc lv st ws := by
  intro p e s m args below meth c H locs ls C hZ hV hS hl
  have hK := C.2.2.2.2.2.2.2.1
  have hts := C.2.2.2.2.1
  obtain ⟨hin, -, -, -⟩ := cls_ok ci _ hc
  have hKn := hK.1 ci _ hc
  refine W.newcK C.1 C.2.1 C.2.2.2.1 (hts _ hcl) (hts _ hinst) (hts _ hini) rfl hdg hcells hslots hKn.2.1 hV.1 fun H1 kC hkC e1 z1 o1 => ?_
  refine kk p e s m args below meth c H1 locs ls C hZ (hV.push z1 o1 ⟨_, hc, (u_born ty hts hin hKn hkC e1 hty).to hfs⟩) ⟨Nat.le_trans hS.1 (by rw [z1, hV.1]; omega), fun x h1 h2 => (o1 x (by rw [← hV.1]; exact Nat.lt_of_lt_of_le h1 hS.1)).trans (hS.2.1 x h1 h2), hS.2.2⟩ hl
theorem n_newa {t0 N' : Nat} {n : Int32} {atype : ArrayType} {ty : FieldType} {cA : ClassId} {a0 : vp_A} (hdg : decode cc pc = .ok (.newarray atype, 2)) (hty : newarray.typeOf atype = ty) (hA : Cond.arrayClass ty ∈ gtbl) (ht : (tysG G)[t0]? = some (cA, ty)) (hRA : ∀ U cA, va_RA U cA ty → U.vm.findClass ("[" ++ ty.toString) = some cA) (ha : ∀ cA : ClassId, vp_cell cA a0 = arrV cA N' (fun _ => defaultValue ty)) (hn : ¬ n < 0) (hN : n.toNatClampNeg = N') (hbytes : N' * componentBytes ty ≤ 536870912)
    (hcells : cells + 1 ≤ R.cells) (hslots : slots + N' ≤ R.slots) (kk : AN l G R E Z nm own cc nL ret (cells + 1) (slots + N') (pc + 2) lv (.ref (G.2.1 + ws.length) :: st) (ws ++ [.inl (cA, a0)])) : AN l G R E Z nm own cc nL ret cells slots pc lv (.int n :: st) ws := by
  intro p e s m args below meth c H locs ls C hZ hV hS hl
  have hK := C.2.2.2.2.2.2.2.1
  have hts := C.2.2.2.2.1
  subst hty
  refine va_newaK C.1 C.2.1 (hts _ hA) rfl hdg rfl hn hN hbytes hcells hslots hV.1 fun H1 cB e1 z1 o1 hAr hNm => ?_
  have hcB : cB = cA := Option.some.inj (hNm.symm.trans (hRA _ _ (hK.2 t0 _ ht).2))
  subst hcB
  refine kk p e s m args below meth c H1 locs ls C hZ (hV.push z1 o1 ?_) ⟨Nat.le_trans hS.1 (by rw [z1, hV.1]; omega), fun x h1 h2 => (o1 x (by rw [← hV.1]; exact Nat.lt_of_lt_of_le h1 hS.1)).trans (hS.2.1 x h1 h2), hS.2.2⟩ hl
  show H1[G.2.1 + ws.length]? = some (vp_cell _ _)
  rw [ha]
  exact e1
theorem n_putF {i ci j index N : Nat} {C0 : String} {T : u_T} {v : Value} {ty : FieldType} {fs : List Value} (hdg : decode cc pc = .ok (.putfield index, 3)) (hnm : nm = "<init>") (hi : ws[i]? = some (.inr (ci, fs))) (hc : classes[ci]? = some (C0, T, N)) (hj : j < N) (hl2 : j < fs.length) (hw : Cond.fieldLink own index (T j).1 (T j).2.1 (T j).2.2.1 ∈ gtbl) (hfin : (T j).2.2.2 = true) (hdecl : (T j).1 = own) (hd : parseFieldDescriptor (T j).2.2.1 = some ty) (hn : narrow ty v = v) (hfit : fits ty v = true)
    (kk : AN l G R E Z nm own cc nL ret cells slots (pc + 3) lv st (ws.set i (.inr (ci, fs.set j v)))) : AN l G R E Z nm own cc nL ret cells slots pc lv (v :: .ref (G.2.1 + i) :: st) ws := by
  intro p e s m args below meth c H locs ls C hZ hV hS hl
  obtain ⟨hin, ⟨ty0, hty⟩, hnn, -⟩ := cls_ok ci _ hc
  have hK := C.2.2.2.2.2.2.2.1
  have hts := C.2.2.2.2.1
  have hap := va_apart (own := own) hts hin ty0 hty hnn hK hc
  obtain ⟨r, h1, cell, q1, q2, q3, q4⟩ := hV.2 i _ hi
  have hr : r = (C0, T, N) := Option.some.inj (h1.symm.trans hc)
  subst hr
  obtain ⟨hSl, hfc, kC, hkC, hkind⟩ := hK.1 ci _ hc
  obtain ⟨cf, kf, fi, f, hif, hsl⟩ := hSl j hj
  have hlay := hts _ (hin _ (u_in_lay hj))
  unfold u_lay at hlay
  rw [if_pos hfin] at hlay
  have hst := (u_facts hfc hkC (u_lays hts hin hj) hif).1
  have hcf : m.cls = cf := by
    obtain ⟨_, _, c', _, _, _, -, -, hf', -, -, -, hown2, -⟩ := Cond.laysFinal_spec hlay
    have e1 : c' = cf := by have := hif.symm.trans hf'; simp at this; exact this.1.symm
    rw [hdecl] at hown2
    rw [← e1]; exact Option.some.inj (C.2.2.2.1.symm.trans hown2)
  have h6 := u_fits hfc hkC hkind (Or.inr hlay) hif hd hn hfit
  refine W.putFinK C.1 C.2.1 C.2.2.2.1 (hts _ hw) hif hst hcf (hZ.1.trans hnm) (by rw [q2]; exact h6) q1 q3 (by rw [hsl]; exact k2_hasslot (q4 j hj)) rfl rfl hdg fun H' e1 e2 e3 => ?_
  rw [hsl] at e1 ⊢
  have hlen : i < ws.length := (List.getElem?_eq_some_iff.mp hi).1
  exact kk p e s m args below meth c H' _ ls C hZ (hV.put hlen e2 e3 ⟨_, hc, t_OB.to (V := updV (vp_V fs) j v) ⟨_, e1, q2, q3, t_set q4 hap hj v⟩ (fun j' _ => vp_updV_set hl2 v j')⟩) (hS.put e2 e3 (Nat.le_add_right _ _)) hl
theorem n_putN {i ci j index N : Nat} {C0 : String} {T : u_T} {v : Value} {ty : FieldType} {fs : List Value} (hdg : decode cc pc = .ok (.putfield index, 3)) (hi : ws[i]? = some (.inr (ci, fs))) (hc : classes[ci]? = some (C0, T, N)) (hj : j < N) (hl2 : j < fs.length) (hw : Cond.fieldLink own index (T j).1 (T j).2.1 (T j).2.2.1 ∈ gtbl) (hfin : (T j).2.2.2 = false) (hd : parseFieldDescriptor (T j).2.2.1 = some ty) (hn : narrow ty v = v) (hfit : fits ty v = true)
    (kk : AN l G R E Z nm own cc nL ret cells slots (pc + 3) lv st (ws.set i (.inr (ci, fs.set j v)))) : AN l G R E Z nm own cc nL ret cells slots pc lv (v :: .ref (G.2.1 + i) :: st) ws := by
  intro p e s m args below meth c H locs ls C hZ hV hS hl
  obtain ⟨hin, ⟨ty0, hty⟩, hnn, -⟩ := cls_ok ci _ hc
  have hK := C.2.2.2.2.2.2.2.1
  have hts := C.2.2.2.2.1
  have hap := va_apart (own := own) hts hin ty0 hty hnn hK hc
  obtain ⟨r, h1, cell, q1, q2, q3, q4⟩ := hV.2 i _ hi
  have hr : r = (C0, T, N) := Option.some.inj (h1.symm.trans hc)
  subst hr
  obtain ⟨hSl, hfc, kC, hkC, hkind⟩ := hK.1 ci _ hc
  obtain ⟨cf, kf, fi, f, hif, hsl⟩ := hSl j hj
  have hlay := hts _ (hin _ (u_in_lay hj))
  unfold u_lay at hlay
  rw [if_neg (by rw [hfin]; decide)] at hlay
  have hst := (u_facts hfc hkC (u_lays hts hin hj) hif).1
  have h6 := u_store hfc hkC hkind hlay hif hd hn hfit
  refine W.putK C.1 C.2.1 (f := f) ⟨C.2.2.2.1, hts _ hw, ⟨_, _, _, hif⟩, hst⟩ (by rw [q2]; exact h6) q1 q3 (by rw [hsl]; exact k2_hasslot (q4 j hj)) rfl rfl hdg fun H' e1 e2 e3 => ?_
  rw [hsl] at e1 ⊢
  have hlen : i < ws.length := (List.getElem?_eq_some_iff.mp hi).1
  exact kk p e s m args below meth c H' _ ls C hZ (hV.put hlen e2 e3 ⟨_, hc, t_OB.to (V := updV (vp_V fs) j v) ⟨_, e1, q2, q3, t_set q4 hap hj v⟩ (fun j' _ => vp_updV_set hl2 v j')⟩) (hS.put e2 e3 (Nat.le_add_right _ _)) hl
theorem n_get {i ci j index N : Nat} {C0 : String} {T : u_T} {v : Value} {fs : List Value} (hdg : decode cc pc = .ok (.getfield index, 3)) (hi : ws[i]? = some (.inr (ci, fs))) (hc : classes[ci]? = some (C0, T, N)) (hj : j < N) (hw : Cond.fieldLink own index (T j).1 (T j).2.1 (T j).2.2.1 ∈ gtbl) (hv2 : fs[j]? = some v)
    (kk : AN l G R E Z nm own cc nL ret cells slots (pc + 3) lv (v :: st) ws) : AN l G R E Z nm own cc nL ret cells slots pc lv (.ref (G.2.1 + i) :: st) ws := by
  intro p e s m args below meth c H locs ls C hZ hV hS hl
  obtain ⟨c1, -, -, c4⟩ := cls_ok ci _ hc
  have hP : va_P G.2.2.1 classes [(G.2.1 + i, .inr (ci, fs))] H := fun k q hk => by
    have hz : k < 1 := (List.getElem?_eq_some_iff.mp hk).1
    rw [show k = 0 by omega] at hk
    cases hk
    exact hV.2 i _ hi
  exact va_get (C := C0) (T := T) (N := N) (ci := ci) (Ts := gtbl) (ref := (T j).1) (fs := fs) C.1 C.2.1 C.2.2.2.2.1 c1 C.2.2.2.1 C.2.2.2.2.2.2.2.1 hP 0 rfl hc j hj (C.2.2.2.2.1 _ hw) (fun _ h9 => h9) hv2 hdg (kk p e s m args below meth c H locs ls C hZ hV hS hl)
theorem n_iast {i n : Nat} {x v : Int32} {f : Nat → Int32} (hdg : decode cc pc = .ok (.iastore, 1)) (hi : ws[i]? = some (.inl (G.2.2.2.1.1, n, .inl f))) (hin : vp_in x n) (kk : AN l G R E Z nm own cc nL ret cells slots (pc + 1) lv st (ws.set i (.inl (G.2.2.2.1.1, n, .inl (fun q => if q = x.toNatClampNeg then v else f q))))) : AN l G R E Z nm own cc nL ret cells slots pc lv (.int v :: .int x :: .ref (G.2.1 + i) :: st) ws := by
  intro p e s m args below meth c H locs ls C hZ hV hS hl
  have hat := hV.2 i _ hi
  have hK := C.2.2.2.2.2.2.2.1
  have hlen : i < ws.length := (List.getElem?_eq_some_iff.mp hi).1
  refine W.iast C.1 C.2.1 hat ((hK.2 0 _ rfl).1 n (fun j => .int (f j))) (fun q => by cases q) (by show ¬ (x < 0 ∨ (arrV _ _ _).slots.size ≤ _); rw [arrV_size]; exact hin) rfl rfl hdg fun H1 e1 z oq => ?_
  refine kk p e s m args below meth c H1 _ ls C hZ (hV.put hlen z oq ?_) (hS.put z oq (Nat.le_add_right _ _)) hl
  show H1[G.2.1 + i]? = some (vp_cell _ (n, _))
  rw [e1]
  rw [vp_cell_i, vp_cell_i, arrV_store]
  congr 2
  funext q
  by_cases hq : q = x.toNatClampNeg
  · subst hq
    simp [updV, vp_nar]
    try rfl
  · simp [updV, hq]
theorem n_obj {index : Nat} {x : Nat} (hdg : decode cc pc = .ok (.invokespecial index, 3)) (hl1 : Cond.methodLink own index objectInit ∈ gtbl) (hf : 2 ≤ R.frames) (hlo : 36 ≤ R.locals) (hs0 : st = []) (kk : AN l G R E Z nm own cc nL ret cells slots (pc + 3) lv st ws) : AN l G R E Z nm own cc nL ret cells slots pc lv (.ref x :: st) ws := by
  intro p e s m args below meth c H locs ls C hZ hV hS hl
  have hts := C.2.2.2.2.1
  subst hs0
  refine W.objInit C.1 C.2.1 C.2.2.2.1 (hts _ hl1) (hts (.instanceMethod objectInit) (memI 96 (by decide +kernel) (by decide +kernel))) (hts (.code objectInit ⟨#[0xb1]⟩ 1 none) (memI 97 (by decide +kernel) (by decide +kernel))) rfl (by rw [C.2.2.1]; exact hl.1) rfl hdg (by omega) (by simp; omega) ?_
  exact kk p e s m args below meth c H locs ls C hZ hV hS hl
end
