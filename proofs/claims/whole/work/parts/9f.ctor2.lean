/-! the constructors' contracts -/
def rmN (d mc ms : Nat) : Room := { frames := d, cells := mc, slots := ms, locals := 36 * d }
def preN (G : GG) (ws : List va_E) (U : State) : Prop := G.2.1 ≤ U.heap.size ∧ VL G ws U.heap ∧ va_K G.2.2.1 classes (tysG G) U ∧ SF G U ∧ NF U
def QN (G : GG) (ws' : List va_E) : Array Value → State → Outcome → State → Prop := fun _ st o t => o = .returned none ∧ VL G ws' t.heap ∧ va_F (Alo G) st t
def Nt (l : Launch) (G : GG) (d : Nat) (y : MethodName) (cc : ByteArray) (nL mc ms : Nat) (av : List Value) (ws ws' : List va_E) : Prop :=
  Met l y (Cond.code y cc nL none :: gtbl) (rmN d mc ms) (va_Pc av (preN G ws)) (QN G ws') mc ms (Alo G)
def EN (G : GG) (mc ms : Nat) (ws' : List va_E) : List Frame → Array Value → State → State → Prop := fun below args s => MQ below (QN G ws') args s mc ms (Alo G)
theorem Nt.of {l : Launch} {G : GG} {d : Nat} {y : MethodName} {cc : ByteArray} {nL mc ms : Nat} {av : List Value} {ws ws' : List va_E} (hy : plainName y.cls = true) (hi : y.name = "<init>") (hn : (lg_sl av).length ≤ nL) (K : AN l G (rmN d mc ms) (EN G mc ms ws') (fun _ _ _ => True) "<init>" y.cls cc nL none 0 0 0 (ent av) [] ws) : Nt l G d y cc nL mc ms av ws ws' := by
  refine Met.ofW (cc := cc) (maxL := nL) (ret := none) hy rfl ?_
  intro p e s m args below meth c s₁ B hml hv0
  obtain ⟨rfl, hlo, hV, hK, hSF, hNF⟩ := hv0
  have hts := atoms_spec (ws := Cond.code y cc nL none :: gtbl) B.pre
  have hl := lv_entry av (n := nL) hn
  rw [lg_entry_eq]
  refine K p e s m _ below meth c s.heap [] _ ⟨B.exec, B.bytes, hml, findClass_of_methodNamed B.named, fun w hw => hts w (List.mem_cons_of_mem _ hw), B.returns, B.notSynchronized, hK, hSF, hlo⟩ ⟨(name_of_methodNamed B.named B.method).1.trans hi, hNF, trivial⟩ hV va_S.rf ?_
  exact hv_iff.mpr ⟨hl.1, hl.2.1, fun q hq => hl.2.2 q (ent_args av 0 q hq)⟩
theorem preN_blind {G : GG} {ws : List va_E} {av : List Value} : FrameBlind (va_Pc av (preN G ws)) := fun a U g mk q => ⟨q.1, q.2.1, q.2.2.1, va_K.moved (u := U) (U := U.calling g mk a) (Vm.Alike.refl U.vm) q.2.2.2.1, q.2.2.2.2.1.blind, NF.warm (s := U) (U := U.calling g mk a) (State.WarmedH.refl U) q.2.2.2.2.2⟩
section
variable {l : Launch} {G : GG} {R : Room} {E : List Frame → Array Value → State → State → Prop} {Z : Array Value → State → Code → Prop} {nm own : String} {cc : ByteArray} {nL : Nat} {ret : Option FieldType} {cells slots pc : Nat} {lv : List (Option Value)} {st : List Value} {ws : List va_E}
theorem preN_at {s U : State} {args : Array Value} {H : Heap} {locs : List Loc} {p : Program} {m : MethodId} {meth : Method} {c : Code} (C : Cx G own cc nL ret p s m args meth c) (hN : NF s) (hV : VL G ws H) (hS : va_S (Alo G) s.heap H locs) (hU : U.heap = H) (hw : s.WarmedH U.vm) : preN G ws U := by
  obtain ⟨-, -, -, -, -, -, -, hK, hSF, hlo⟩ := C
  refine ⟨by rw [hU]; exact Nat.le_trans hlo hS.1, by rw [hU]; exact hV, va_K.moved hw.alike hK, hSF.warm hw (fun a h1 h2 => ?_), hN.warm hw⟩
  rw [hU]
  exact hS.2.1 a h1 h2
theorem n_vret {mc ms : Nat} (hdg : decode cc pc = .ok (.return_, 1)) : AN l G R (EN G mc ms ws) Z nm own cc nL none mc ms pc lv [] ws := fun p e s m args below meth c H locs ls C hZ hV hS hl =>
  W.vret C.1 C.2.1 C.2.2.2.2.2.1 (fun t ht _ => ⟨rfl, by rw [ht]; exact hV, hS.F ht⟩) hS.2.2 hdg C.2.2.2.2.2.2.1
theorem n_callG {mc ms : Nat} {rest st0 : List Value} {ws2 : List va_E} {Av : Array Value}
    (run : ∀ (p : Program) (e : Env) (s : State) (m : MethodId) (args : Array Value) (below : List Frame) (meth : Method) (c : Code) (H : Heap) (locs : List Loc) (ls : Array Slot), Cx G own cc nL ret p s m args meth c → NF s → VL G ws H → va_S (Alo G) s.heap H locs → hv ls nL lv →
      va_Run p l e R s m args below meth c H locs cells slots mc ms (F0 m pc ls st0) rest (QN G ws2 Av) (Alo G))
    (kk : AN l G R E Z nm own cc nL ret (cells + mc) (slots + ms) (pc + 3) lv rest ws2) : AN l G R E Z nm own cc nL ret cells slots pc lv st0 ws := by
  intro p e s m args below meth c H locs ls C hZ hV hS hl T hT X
  obtain ⟨v, st₀, t, T', L, h0, X', hL, e1, e2, ⟨hv', hV', hF⟩, stp⟩ := run p e s m args below meth c H locs ls C hZ.2.1 hV hS hl T hT X
  cases hv'
  have hS' : va_S (Alo G) s.heap T'.heap (locs ++ L) := by
    obtain ⟨hz, hk⟩ := hF
    rw [h0] at hz hk
    refine ⟨Nat.le_trans hS.1 (by rw [e1]; exact hz), fun q h1 h2 => by rw [e1, hk q (Nat.lt_of_lt_of_le h1 hS.1) h2]; exact hS.2.1 q h1 h2, fun q hq => ?_⟩
    rcases List.mem_append.mp hq with h | h
    · exact hS.2.2 q h
    · exact hL q h
  obtain ⟨t2, a1, b1⟩ := kk p e s m args below meth c T'.heap (locs ++ L) ls C hZ (by rw [e1]; exact hV') hS' hl T' rfl X'
  exact ⟨t2, stp t2 a1, b1⟩
/-- a constructor's own words -/
def WI (y : MethodName) (cy : ByteArray) (ny n : Nat) : Prop := Cond.code y cy ny none ∈ gtbl ∧ Cond.initialized y.cls ∈ gtbl ∧ Cond.instanceMethod y ∈ gtbl ∧ y.name = "<init>" ∧ (y.cls ≠ "java/lang/invoke/MethodHandle" ∧ y.cls ≠ "java/lang/invoke/VarHandle" ∧ (parseMethodDescriptor y.desc).map (fun d => d.parameters.length) = some n)
theorem n_ctorN {d' index i ny mc ms : Nat} {y : MethodName} {cy : ByteArray} {host : String} {As rest : List Value} {ws2 : List va_E} (hdg : decode cc pc = .ok (.invokespecial index, 3)) (hl : Cond.methodLinkNest own index y host ∈ mnL) (hw : WI y cy ny As.length) (hd : d' + 1 ≤ R.frames ∧ 8 + (ny + 11) + 36 * d' ≤ R.locals) (hf : cells + mc ≤ R.cells ∧ slots + ms ≤ R.slots) (hr : (rest.map fun v => v.category).sum ≤ 8)
    (hM : Nt l G d' y cy ny mc ms (.ref (G.2.1 + i) :: As) ws ws2) (kk : AN l G R E Z nm own cc nL ret (cells + mc) (slots + ms) (pc + 3) lv rest ws2) : AN l G R E Z nm own cc nL ret cells slots pc lv (As.reverse ++ .ref (G.2.1 + i) :: rest) ws := by
  refine n_callG (Av := (Value.ref (G.2.1 + i) :: As).toArray) (fun p e s m args below meth c H locs ls C hN hV hS hlv => ?_) kk
  have hts := C.2.2.2.2.1
  obtain ⟨w1, w2, w3, w4, w5⟩ := hw
  exact va_runIN (As := As) (rest := rest) ⟨C.1, C.2.1, C.2.2.1, C.2.2.2.1, hts⟩ hM ⟨va_cnB As.length hts (good_tbl w1) rfl rfl rfl (hN _ hl) (hts _ w2) w5 hd, w4, hts _ w3⟩ ⟨preN_blind, fun U hU hwU => ⟨rfl, preN_at C hN hV hS hU hwU⟩⟩ rfl rfl hlv.1 rfl (lv_room hr) hdg hf
theorem n_ctorP {d' index i ny mc ms : Nat} {y : MethodName} {cy : ByteArray} {As rest : List Value} {ws2 : List va_E} (hdg : decode cc pc = .ok (.invokespecial index, 3)) (hl : Cond.methodLink own index y ∈ gtbl) (hw : WI y cy ny As.length) (hd : d' + 1 ≤ R.frames ∧ 8 + (ny + 11) + 36 * d' ≤ R.locals) (hf : cells + mc ≤ R.cells ∧ slots + ms ≤ R.slots) (hr : (rest.map fun v => v.category).sum ≤ 8)
    (hM : Nt l G d' y cy ny mc ms (.ref (G.2.1 + i) :: As) ws ws2) (kk : AN l G R E Z nm own cc nL ret (cells + mc) (slots + ms) (pc + 3) lv rest ws2) : AN l G R E Z nm own cc nL ret cells slots pc lv (As.reverse ++ .ref (G.2.1 + i) :: rest) ws := by
  refine n_callG (Av := (Value.ref (G.2.1 + i) :: As).toArray) (fun p e s m args below meth c H locs ls C hN hV hS hlv => ?_) kk
  have hts := C.2.2.2.2.1
  obtain ⟨w1, w2, w3, w4, w5⟩ := hw
  exact va_runI (As := As) (rest := rest) ⟨C.1, C.2.1, C.2.2.1, C.2.2.2.1, hts⟩ hM ⟨callB_of As.length hts (good_tbl w1) rfl rfl rfl (hts _ w2) (hts _ hl) w5 hd, w4, hts _ w3⟩ ⟨preN_blind, fun U hU hwU => ⟨rfl, preN_at C hN hV hS hU hwU⟩⟩ rfl rfl hlv.1 rfl (lv_room hr) hdg hf
theorem wl_at {i : Nat} {x : va_E} {B : List va_E} (hi : i < ws.length) : (ws.set i x ++ B)[i]? = some x := by
  rw [List.getElem?_append_left (by rw [List.length_set]; exact hi), List.getElem?_set_self hi]
theorem wl_set {i : Nat} {x y : va_E} {B : List va_E} (hi : i < ws.length) : (ws.set i x ++ B).set i y = ws.set i y ++ B := by
  rw [List.set_append_left _ _ (by rw [List.length_set]; exact hi), List.set_set]
theorem wl_id {i : Nat} {x : va_E} (h : ws[i]? = some x) : ws.set i x ++ [] = ws := by
  rw [List.append_nil]
  obtain ⟨h1, h2⟩ := List.getElem?_eq_some_iff.mp h
  rw [← h2, List.set_getElem_self]
theorem wl_last {P A : List va_E} {e x : va_E} : (P ++ (A ++ [e])).set (P.length + A.length) x = P ++ (A ++ [x]) := by
  rw [List.set_append_right _ _ (by omega), List.set_append_right _ _ (by omega)]
  simp
theorem wl_lastat {P A : List va_E} {e : va_E} : (P ++ (A ++ [e]))[P.length + A.length]? = some e := by
  rw [List.getElem?_append_right (by omega), List.getElem?_append_right (by omega)]
  simp
theorem wl_in {i k : Nat} {x : va_E} {A : List va_E} : (ws.set i x ++ A)[ws.length + k]? = A[k]? := by
  rw [List.getElem?_append_right (by rw [List.length_set]; omega), List.length_set, Nat.add_sub_cancel_left]
theorem wl_seti {i k : Nat} {x y : va_E} {A : List va_E} : (ws.set i x ++ A).set (ws.length + k) y = ws.set i x ++ A.set k y := by
  rw [List.set_append_right _ _ (by rw [List.length_set]; omega), List.length_set, Nat.add_sub_cancel_left]
/-- new array, put into a field -/
theorem n_arr {i ci j index N t0 N' : Nat} {C0 : String} {T : u_T} {n : Int32} {atype : ArrayType} {ty ty2 : FieldType} {cA : ClassId} {a0 : vp_A} {fs : List Value} {A : List va_E} (hi : i < ws.length) (hnm : nm = "<init>") (d0 : decode cc pc = .ok (.newarray atype, 2)) (d1 : decode cc (pc + 2) = .ok (.putfield index, 3)) (hty : newarray.typeOf atype = ty) (hA : Cond.arrayClass ty ∈ gtbl) (ht : (tysG G)[t0]? = some (cA, ty)) (hRA : ∀ U cA, va_RA U cA ty → U.vm.findClass ("[" ++ ty.toString) = some cA) (ha : ∀ cA : ClassId, vp_cell cA a0 = arrV cA N' (fun _ => defaultValue ty)) (hn : ¬ n < 0) (hN : n.toNatClampNeg = N') (hbytes : N' * componentBytes ty ≤ 536870912)
    (hc : classes[ci]? = some (C0, T, N)) (hj : j < N) (hl2 : j < fs.length) (hw : Cond.fieldLink own index (T j).1 (T j).2.1 (T j).2.2.1 ∈ gtbl) (hfin : (T j).2.2.2 = true) (hdecl : (T j).1 = own) (hd : parseFieldDescriptor (T j).2.2.1 = some ty2) (hnr : ∀ a, narrow ty2 (.ref a) = .ref a) (hfit : ∀ a, fits ty2 (.ref a) = true)
    (hcells : cells + 1 ≤ R.cells) (hslots : slots + N' ≤ R.slots) (kk : AN l G R E Z nm own cc nL ret (cells + 1) (slots + N') (pc + 5) lv st (ws.set i (.inr (ci, fs.set j (.ref (G.2.1 + (ws.length + A.length))))) ++ (A ++ [.inl (cA, a0)]))) : AN l G R E Z nm own cc nL ret cells slots pc lv (.int n :: .ref (G.2.1 + i) :: st) (ws.set i (.inr (ci, fs)) ++ A) := by
  refine n_newa d0 hty hA ht hRA ha hn hN hbytes hcells hslots ?_
  rw [List.append_assoc, List.length_append, List.length_set]
  refine n_putF d1 hnm (wl_at hi) hc hj hl2 hw hfin hdecl hd (hnr _) (hfit _) ?_
  rw [wl_set hi]
  exact kk
/-- new object made by its constructor, put into a field -/
theorem n_sub {i ci j index index2 index3 N N2 ci2 d' mc ms : Nat} {C0 C2 : String} {T T2 : u_T} {ty : Nat → FieldType} {ty2 : FieldType} {y : MethodName} {cy : ByteArray} {host : String} {fs dfl : List Value} {FS : Nat → List Value} {NEWS : Nat → List va_E} {A : List va_E} (hi : i < ws.length) (hnm : nm = "<init>") (hlv : lget lv 0 = some (.ref (G.2.1 + i)))
    (d0 : decode cc pc = .ok (.aload_n 0, 1)) (d1 : decode cc (pc + 1) = .ok (.new index2, 3)) (d4 : decode cc (pc + 4) = .ok (.dup, 1)) (d5 : decode cc (pc + 5) = .ok (.invokespecial index3, 3)) (d8 : decode cc (pc + 8) = .ok (.putfield index, 3))
    (hc2 : classes[ci2]? = some (C2, T2, N2)) (hty : ∀ k, k < N2 → parseFieldDescriptor (T2 k).2.2.1 = some (ty k)) (hfs : ∀ j, j < N2 → defaultValue (ty j) = vp_V dfl j) (hcl : Cond.classLink own index2 C2 ∈ gtbl) (hinst : Cond.instantiable C2 N2 ∈ gtbl) (hini : Cond.initialized C2 ∈ gtbl)
    (hl : Cond.methodLinkNest own index3 y host ∈ mnL) (hwi : WI y cy 1 0) (hd' : d' + 1 ≤ R.frames ∧ 8 + (1 + 11) + 36 * d' ≤ R.locals) (hM : ∀ ws i, ws[i]? = some (.inr (ci2, dfl)) → Nt l G d' y cy 1 mc ms [.ref (G.2.1 + i)] ws (ws.set i (.inr (ci2, FS ws.length)) ++ NEWS ws.length))
    (hc : classes[ci]? = some (C0, T, N)) (hj : j < N) (hl2 : j < fs.length) (hw : Cond.fieldLink own index (T j).1 (T j).2.1 (T j).2.2.1 ∈ gtbl) (hdecl : (T j).1 = own) (hd : parseFieldDescriptor (T j).2.2.1 = some ty2) (hnr : ∀ a, narrow ty2 (.ref a) = .ref a) (hfit : ∀ a, fits ty2 (.ref a) = true)
    (hcells : cells + 1 + mc ≤ R.cells) (hslots : slots + N2 + ms ≤ R.slots) (kk : AN l G R E Z nm own cc nL ret (cells + 1 + mc) (slots + N2 + ms) (pc + 11) lv [] (ws.set i (.inr (ci, fs.set j (.ref (G.2.1 + (ws.length + A.length))))) ++ (A ++ (.inr (ci2, FS (ws.length + (A.length + 1))) :: NEWS (ws.length + (A.length + 1)))))) : AN l G R E Z nm own cc nL ret cells slots pc lv [] (ws.set i (.inr (ci, fs)) ++ A) := by
  refine n_aload_n d0 hlv ?_
  refine n_new ty d1 hc2 hty hfs hcl hinst hini (by omega) (by omega) ?_
  rw [List.append_assoc, List.length_append, List.length_set]
  refine n_dup d4 rfl ?_
  have hlen : (ws.set i (.inr (ci, fs))).length = ws.length := List.length_set
  have hA0 := wl_lastat (P := ws.set i (.inr (ci, fs))) (A := A) (e := .inr (ci2, dfl))
  rw [hlen] at hA0
  have hM0 := hM _ _ hA0
  have hS0 := wl_last (P := ws.set i (.inr (ci, fs))) (A := A) (e := .inr (ci2, dfl)) (x := .inr (ci2, FS (ws.length + (A.length + 1))))
  rw [hlen] at hS0
  have hL0 : (ws.set i (Sum.inr (ci, fs) : va_E) ++ (A ++ [(Sum.inr (ci2, dfl) : va_E)])).length = ws.length + (A.length + 1) := by
    rw [List.length_append, hlen, List.length_append]; rfl
  rw [hL0, hS0] at hM0
  refine n_ctorN (As := []) d5 hl hwi hd' ⟨hcells, hslots⟩ (Nat.le_of_ble_eq_true rfl) hM0 ?_
  have hq : ws.set i (.inr (ci, fs)) ++ (A ++ [.inr (ci2, FS (ws.length + (A.length + 1)))]) ++ NEWS (ws.length + (A.length + 1)) = ws.set i (.inr (ci, fs)) ++ (A ++ (.inr (ci2, FS (ws.length + (A.length + 1))) :: NEWS (ws.length + (A.length + 1)))) := by
    simp [List.append_assoc]
  rw [hq]
  cases hfin : (T j).2.2.2 with
  | true =>
    refine n_putF d8 hnm (wl_at hi) hc hj hl2 hw hfin hdecl hd (hnr _) (hfit _) ?_
    rw [wl_set hi]
    exact kk
  | false =>
    refine n_putN d8 (wl_at hi) hc hj hl2 hw hfin hd (hnr _) (hfit _) ?_
    rw [wl_set hi]
    exact kk
end
