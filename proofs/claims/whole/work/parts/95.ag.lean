/-! the rows once more, for any end and any room: methods that throw, the law and its helpers -/
def AG (l : Launch) (G : GG) (R : Room) (E : List Frame → Array Value → State → State → Prop) (Z : Array Value → State → Code → Prop) (own : String) (cc : ByteArray) (nL : Nat) (ret : Option FieldType) (cells slots pc : Nat) (lv : List (Option Value)) (st : List Value) (h : AH) (_ : Unit) : Prop :=
  ∀ (p : Program) (e : Env) (s : State) (m : MethodId) (args : Array Value) (below : List Frame) (meth : Method) (c : Code) (H : Heap) (locs : List Loc) (ls : Array Slot),
    Cx G own cc nL ret p s m args meth c → Z args s c → Wd G h H → va_S (Alo G) s.heap H locs → hv ls nL lv →
    W p l e R s m args below meth c H locs cells slots (E below args s) (F0 m pc ls st)
section
variable {l : Launch} {G : GG} {R : Room} {E : List Frame → Array Value → State → State → Prop} {Z : Array Value → State → Code → Prop} {own : String} {cc : ByteArray} {nL : Nat} {ret : Option FieldType} {cells slots pc : Nat} {lv : List (Option Value)} {st : List Value} {h : AH} {Q : Unit}
theorem g_iconst {n : Int} {v : Int32} (hdg : decode cc pc = .ok (.iconst n, 1)) (hv : Int32.ofInt n = v) (k : AG l G R E Z own cc nL ret cells slots (pc + 1) lv (.int v :: st) h Q) : AG l G R E Z own cc nL ret cells slots pc lv st h Q := fun p e s m args below meth c H locs ls C hZ hW hS hl => lv_iconst C.1 C.2.1 hdg hv (k p e s m args below meth c H locs ls C hZ hW hS hl)
theorem g_bipush {n : Int} {v : Int32} (hdg : decode cc pc = .ok (.bipush n, 2)) (hv : (Int8.ofInt n).toInt32 = v) (k : AG l G R E Z own cc nL ret cells slots (pc + 2) lv (.int v :: st) h Q) : AG l G R E Z own cc nL ret cells slots pc lv st h Q := fun p e s m args below meth c H locs ls C hZ hW hS hl => lv_bipush C.1 C.2.1 hdg hv (k p e s m args below meth c H locs ls C hZ hW hS hl)
theorem g_sipush {n : Int} {v : Int32} (hdg : decode cc pc = .ok (.sipush n, 3)) (hv : (Int16.ofInt n).toInt32 = v) (k : AG l G R E Z own cc nL ret cells slots (pc + 3) lv (.int v :: st) h Q) : AG l G R E Z own cc nL ret cells slots pc lv st h Q := fun p e s m args below meth c H locs ls C hZ hW hS hl => lv_sipush C.1 C.2.1 hdg hv (k p e s m args below meth c H locs ls C hZ hW hS hl)
theorem g_iload_n {n : Fin 4} {x : Int32} (hdg : decode cc pc = .ok (.iload_n n, 1)) (hx : lget lv (n : Nat) = some (.int x)) (k : AG l G R E Z own cc nL ret cells slots (pc + 1) lv (.int x :: st) h Q) : AG l G R E Z own cc nL ret cells slots pc lv st h Q := fun p e s m args below meth c H locs ls C hZ hW hS hl => lv_iload_n C.1 C.2.1 hdg rfl (hl.2.2 _ _ hx) (k p e s m args below meth c H locs ls C hZ hW hS hl)
theorem g_iload {n : Nat} {x : Int32} (hdg : decode cc pc = .ok (.iload n, 2)) (hx : lget lv n = some (.int x)) (k : AG l G R E Z own cc nL ret cells slots (pc + 2) lv (.int x :: st) h Q) : AG l G R E Z own cc nL ret cells slots pc lv st h Q := fun p e s m args below meth c H locs ls C hZ hW hS hl => lv_iload C.1 C.2.1 hdg (hl.2.2 _ _ hx) (k p e s m args below meth c H locs ls C hZ hW hS hl)
theorem g_aload_n {n : Fin 4} {x : Nat} (hdg : decode cc pc = .ok (.aload_n n, 1)) (hx : lget lv (n : Nat) = some (.ref x)) (k : AG l G R E Z own cc nL ret cells slots (pc + 1) lv (.ref x :: st) h Q) : AG l G R E Z own cc nL ret cells slots pc lv st h Q := fun p e s m args below meth c H locs ls C hZ hW hS hl => lv_aload_n C.1 C.2.1 hdg rfl (hl.2.2 _ _ hx) (k p e s m args below meth c H locs ls C hZ hW hS hl)
theorem g_aload {n : Nat} {x : Nat} (hdg : decode cc pc = .ok (.aload n, 2)) (hx : lget lv n = some (.ref x)) (k : AG l G R E Z own cc nL ret cells slots (pc + 2) lv (.ref x :: st) h Q) : AG l G R E Z own cc nL ret cells slots pc lv st h Q := fun p e s m args below meth c H locs ls C hZ hW hS hl => lv_aload C.1 C.2.1 hdg (hl.2.2 _ _ hx) (k p e s m args below meth c H locs ls C hZ hW hS hl)
theorem g_istore_n {n : Fin 4} {x : Int32} (hdg : decode cc pc = .ok (.istore_n n, 1)) (hn : (n : Nat) < nL) (hk : okS lv (n : Nat) = true) (k : AG l G R E Z own cc nL ret cells slots (pc + 1) (lset lv (n : Nat) (some (.int x))) st h Q) : AG l G R E Z own cc nL ret cells slots pc lv (.int x :: st) h Q := by
  intro p e s m args below meth c H locs ls C hZ hW hS hl
  obtain ⟨ls', e', h'⟩ := hv_store1 (v := .int x) hl hn rfl hk
  have hexec := C.1
  have hb := C.2.1
  intro T hT X
  obtain ⟨t, a, b⟩ := k p e s m args below meth c H locs ls' C hZ hW hS h' T hT X
  refine ⟨t, ?_, b⟩
  jvm_step X.here [X.here.top, ↓top_set X.here.top, hexec, hb, hdg, e', Value.isRef]
  exact a
theorem g_istore {n : Nat} {x : Int32} (hdg : decode cc pc = .ok (.istore n, 2)) (hn : n < nL) (hk : okS lv n = true) (k : AG l G R E Z own cc nL ret cells slots (pc + 2) (lset lv n (some (.int x))) st h Q) : AG l G R E Z own cc nL ret cells slots pc lv (.int x :: st) h Q := by
  intro p e s m args below meth c H locs ls C hZ hW hS hl
  obtain ⟨ls', e', h'⟩ := hv_store1 (v := .int x) hl hn rfl hk
  have hexec := C.1
  have hb := C.2.1
  intro T hT X
  obtain ⟨t, a, b⟩ := k p e s m args below meth c H locs ls' C hZ hW hS h' T hT X
  refine ⟨t, ?_, b⟩
  jvm_step X.here [X.here.top, ↓top_set X.here.top, hexec, hb, hdg, e', Value.isRef]
  exact a
theorem g_astore_n {n : Fin 4} {x : Nat} (hdg : decode cc pc = .ok (.astore_n n, 1)) (hn : (n : Nat) < nL) (hk : okS lv (n : Nat) = true) (k : AG l G R E Z own cc nL ret cells slots (pc + 1) (lset lv (n : Nat) (some (.ref x))) st h Q) : AG l G R E Z own cc nL ret cells slots pc lv (.ref x :: st) h Q := by
  intro p e s m args below meth c H locs ls C hZ hW hS hl
  obtain ⟨ls', e', h'⟩ := hv_store1 (v := .ref x) hl hn rfl hk
  have hexec := C.1
  have hb := C.2.1
  intro T hT X
  obtain ⟨t, a, b⟩ := k p e s m args below meth c H locs ls' C hZ hW hS h' T hT X
  refine ⟨t, ?_, b⟩
  jvm_step X.here [X.here.top, ↓top_set X.here.top, hexec, hb, hdg, e', Value.isRef]
  exact a
theorem g_astore {n : Nat} {x : Nat} (hdg : decode cc pc = .ok (.astore n, 2)) (hn : n < nL) (hk : okS lv n = true) (k : AG l G R E Z own cc nL ret cells slots (pc + 2) (lset lv n (some (.ref x))) st h Q) : AG l G R E Z own cc nL ret cells slots pc lv (.ref x :: st) h Q := by
  intro p e s m args below meth c H locs ls C hZ hW hS hl
  obtain ⟨ls', e', h'⟩ := hv_store1 (v := .ref x) hl hn rfl hk
  have hexec := C.1
  have hb := C.2.1
  intro T hT X
  obtain ⟨t, a, b⟩ := k p e s m args below meth c H locs ls' C hZ hW hS h' T hT X
  refine ⟨t, ?_, b⟩
  jvm_step X.here [X.here.top, ↓top_set X.here.top, hexec, hb, hdg, e', Value.isRef]
  exact a
theorem g_iinc {i : Nat} {n : Int} {x v : Int32} (hdg : decode cc pc = .ok (.iinc i n, 3)) (hx : lget lv i = some (.int x)) (hv2 : x + Int32.ofInt n = v) (hn : i < nL) (hk : okS lv i = true) (k : AG l G R E Z own cc nL ret cells slots (pc + 3) (lset lv i (some (.int v))) st h Q) : AG l G R E Z own cc nL ret cells slots pc lv st h Q := by
  intro p e s m args below meth c H locs ls C hZ hW hS hl
  subst hv2
  have hg := hl.2.2 _ _ hx
  obtain ⟨ls', e', h'⟩ := hv_store1 (v := .int (x + Int32.ofInt n)) hl hn rfl hk
  have hexec := C.1
  have hb := C.2.1
  intro T hT X
  obtain ⟨t, a, b⟩ := k p e s m args below meth c H locs ls' C hZ hW hS h' T hT X
  refine ⟨t, ?_, b⟩
  jvm_step X.here [X.here.top, ↓top_set X.here.top, hexec, hb, hdg, hg, e']
  exact a
theorem g_iadd {x y : Int32} (hdg : decode cc pc = .ok (.iadd, 1)) (k : AG l G R E Z own cc nL ret cells slots (pc + 1) lv (.int (x + y) :: st) h Q) : AG l G R E Z own cc nL ret cells slots pc lv (.int y :: .int x :: st) h Q := fun p e s m args below meth c H locs ls C hZ hW hS hl => lv_iadd C.1 C.2.1 hdg (k p e s m args below meth c H locs ls C hZ hW hS hl)
theorem g_isub {x y : Int32} (hdg : decode cc pc = .ok (.isub, 1)) (k : AG l G R E Z own cc nL ret cells slots (pc + 1) lv (.int (x - y) :: st) h Q) : AG l G R E Z own cc nL ret cells slots pc lv (.int y :: .int x :: st) h Q := fun p e s m args below meth c H locs ls C hZ hW hS hl => lv_isub C.1 C.2.1 hdg (k p e s m args below meth c H locs ls C hZ hW hS hl)
theorem g_iand {x y : Int32} (hdg : decode cc pc = .ok (.iand, 1)) (k : AG l G R E Z own cc nL ret cells slots (pc + 1) lv (.int (x &&& y) :: st) h Q) : AG l G R E Z own cc nL ret cells slots pc lv (.int y :: .int x :: st) h Q := fun p e s m args below meth c H locs ls C hZ hW hS hl => lv_iand C.1 C.2.1 hdg (k p e s m args below meth c H locs ls C hZ hW hS hl)
theorem g_i2l {x : Int32} (hdg : decode cc pc = .ok (.i2l, 1)) (k : AG l G R E Z own cc nL ret cells slots (pc + 1) lv (.long x.toInt64 :: st) h Q) : AG l G R E Z own cc nL ret cells slots pc lv (.int x :: st) h Q := fun p e s m args below meth c H locs ls C hZ hW hS hl => lv_i2l C.1 C.2.1 hdg rfl (k p e s m args below meth c H locs ls C hZ hW hS hl)
theorem g_lcmp {x y : Int64} (hdg : decode cc pc = .ok (.lcmp, 1)) (k : AG l G R E Z own cc nL ret cells slots (pc + 1) lv (.int (lg_cmp x y) :: st) h Q) : AG l G R E Z own cc nL ret cells slots pc lv (.long y :: .long x :: st) h Q := fun p e s m args below meth c H locs ls C hZ hW hS hl => W.lcmp C.1 C.2.1 hdg (k p e s m args below meth c H locs ls C hZ hW hS hl)
theorem g_dup {v : Value} (hdg : decode cc pc = .ok (.dup, 1)) (hv1 : v.category = 1) (k : AG l G R E Z own cc nL ret cells slots (pc + 1) lv (v :: v :: st) h Q) : AG l G R E Z own cc nL ret cells slots pc lv (v :: st) h Q := fun p e s m args below meth c H locs ls C hZ hW hS hl => lv_dup C.1 C.2.1 hdg hv1 (k p e s m args below meth c H locs ls C hZ hW hS hl)
theorem g_pop {v : Value} (hdg : decode cc pc = .ok (.pop, 1)) (hv1 : v.category = 1) (k : AG l G R E Z own cc nL ret cells slots (pc + 1) lv st h Q) : AG l G R E Z own cc nL ret cells slots pc lv (v :: st) h Q := fun p e s m args below meth c H locs ls C hZ hW hS hl => lv_pop C.1 C.2.1 hdg hv1 (k p e s m args below meth c H locs ls C hZ hW hS hl)
theorem g_if_eq {x : Int32} {off : Int} {tgt : Nat} (hdg : decode cc pc = .ok (.ifCond .eq off, 3)) (ht : (pc : Int) + off = (tgt : Int)) (kt : x = 0 → AG l G R E Z own cc nL ret cells slots tgt lv st h Q) (kf : ¬ x = 0 → AG l G R E Z own cc nL ret cells slots (pc + 3) lv st h Q) : AG l G R E Z own cc nL ret cells slots pc lv (.int x :: st) h Q := fun p e s m args below meth c H locs ls C hZ hW hS hl => lv_if_eq C.1 C.2.1 hdg ht (fun q => kt q p e s m args below meth c H locs ls C hZ hW hS hl) (fun q => kf q p e s m args below meth c H locs ls C hZ hW hS hl)
theorem g_icmp_eq {x y : Int32} {off : Int} {tgt : Nat} (hdg : decode cc pc = .ok (.if_icmp .eq off, 3)) (ht : (pc : Int) + off = (tgt : Int)) (kt : x = y → AG l G R E Z own cc nL ret cells slots tgt lv st h Q) (kf : ¬ x = y → AG l G R E Z own cc nL ret cells slots (pc + 3) lv st h Q) : AG l G R E Z own cc nL ret cells slots pc lv (.int y :: .int x :: st) h Q := fun p e s m args below meth c H locs ls C hZ hW hS hl => lv_icmp_eq C.1 C.2.1 hdg ht (fun q => kt q p e s m args below meth c H locs ls C hZ hW hS hl) (fun q => kf q p e s m args below meth c H locs ls C hZ hW hS hl)
theorem g_if_lt {x : Int32} {off : Int} {tgt : Nat} (hdg : decode cc pc = .ok (.ifCond .lt off, 3)) (ht : (pc : Int) + off = (tgt : Int)) (kt : x < 0 → AG l G R E Z own cc nL ret cells slots tgt lv st h Q) (kf : ¬ x < 0 → AG l G R E Z own cc nL ret cells slots (pc + 3) lv st h Q) : AG l G R E Z own cc nL ret cells slots pc lv (.int x :: st) h Q := fun p e s m args below meth c H locs ls C hZ hW hS hl => lv_if_lt C.1 C.2.1 hdg ht (fun q => kt q p e s m args below meth c H locs ls C hZ hW hS hl) (fun q => kf q p e s m args below meth c H locs ls C hZ hW hS hl)
theorem g_icmp_lt {x y : Int32} {off : Int} {tgt : Nat} (hdg : decode cc pc = .ok (.if_icmp .lt off, 3)) (ht : (pc : Int) + off = (tgt : Int)) (kt : x < y → AG l G R E Z own cc nL ret cells slots tgt lv st h Q) (kf : ¬ x < y → AG l G R E Z own cc nL ret cells slots (pc + 3) lv st h Q) : AG l G R E Z own cc nL ret cells slots pc lv (.int y :: .int x :: st) h Q := fun p e s m args below meth c H locs ls C hZ hW hS hl => lv_icmp_lt C.1 C.2.1 hdg ht (fun q => kt q p e s m args below meth c H locs ls C hZ hW hS hl) (fun q => kf q p e s m args below meth c H locs ls C hZ hW hS hl)
theorem g_if_ge {x : Int32} {off : Int} {tgt : Nat} (hdg : decode cc pc = .ok (.ifCond .ge off, 3)) (ht : (pc : Int) + off = (tgt : Int)) (kt : 0 ≤ x → AG l G R E Z own cc nL ret cells slots tgt lv st h Q) (kf : ¬ 0 ≤ x → AG l G R E Z own cc nL ret cells slots (pc + 3) lv st h Q) : AG l G R E Z own cc nL ret cells slots pc lv (.int x :: st) h Q := fun p e s m args below meth c H locs ls C hZ hW hS hl => lv_if_ge C.1 C.2.1 hdg ht (fun q => kt q p e s m args below meth c H locs ls C hZ hW hS hl) (fun q => kf q p e s m args below meth c H locs ls C hZ hW hS hl)
theorem g_icmp_ge {x y : Int32} {off : Int} {tgt : Nat} (hdg : decode cc pc = .ok (.if_icmp .ge off, 3)) (ht : (pc : Int) + off = (tgt : Int)) (kt : y ≤ x → AG l G R E Z own cc nL ret cells slots tgt lv st h Q) (kf : ¬ y ≤ x → AG l G R E Z own cc nL ret cells slots (pc + 3) lv st h Q) : AG l G R E Z own cc nL ret cells slots pc lv (.int y :: .int x :: st) h Q := fun p e s m args below meth c H locs ls C hZ hW hS hl => lv_icmp_ge C.1 C.2.1 hdg ht (fun q => kt q p e s m args below meth c H locs ls C hZ hW hS hl) (fun q => kf q p e s m args below meth c H locs ls C hZ hW hS hl)
theorem g_if_gt {x : Int32} {off : Int} {tgt : Nat} (hdg : decode cc pc = .ok (.ifCond .gt off, 3)) (ht : (pc : Int) + off = (tgt : Int)) (kt : 0 < x → AG l G R E Z own cc nL ret cells slots tgt lv st h Q) (kf : ¬ 0 < x → AG l G R E Z own cc nL ret cells slots (pc + 3) lv st h Q) : AG l G R E Z own cc nL ret cells slots pc lv (.int x :: st) h Q := fun p e s m args below meth c H locs ls C hZ hW hS hl => lv_if_gt C.1 C.2.1 hdg ht (fun q => kt q p e s m args below meth c H locs ls C hZ hW hS hl) (fun q => kf q p e s m args below meth c H locs ls C hZ hW hS hl)
theorem g_icmp_gt {x y : Int32} {off : Int} {tgt : Nat} (hdg : decode cc pc = .ok (.if_icmp .gt off, 3)) (ht : (pc : Int) + off = (tgt : Int)) (kt : y < x → AG l G R E Z own cc nL ret cells slots tgt lv st h Q) (kf : ¬ y < x → AG l G R E Z own cc nL ret cells slots (pc + 3) lv st h Q) : AG l G R E Z own cc nL ret cells slots pc lv (.int y :: .int x :: st) h Q := fun p e s m args below meth c H locs ls C hZ hW hS hl => lv_icmp_gt C.1 C.2.1 hdg ht (fun q => kt q p e s m args below meth c H locs ls C hZ hW hS hl) (fun q => kf q p e s m args below meth c H locs ls C hZ hW hS hl)
theorem g_if_le {x : Int32} {off : Int} {tgt : Nat} (hdg : decode cc pc = .ok (.ifCond .le off, 3)) (ht : (pc : Int) + off = (tgt : Int)) (kt : x ≤ 0 → AG l G R E Z own cc nL ret cells slots tgt lv st h Q) (kf : ¬ x ≤ 0 → AG l G R E Z own cc nL ret cells slots (pc + 3) lv st h Q) : AG l G R E Z own cc nL ret cells slots pc lv (.int x :: st) h Q := fun p e s m args below meth c H locs ls C hZ hW hS hl => lv_if_le C.1 C.2.1 hdg ht (fun q => kt q p e s m args below meth c H locs ls C hZ hW hS hl) (fun q => kf q p e s m args below meth c H locs ls C hZ hW hS hl)
theorem g_icmp_le {x y : Int32} {off : Int} {tgt : Nat} (hdg : decode cc pc = .ok (.if_icmp .le off, 3)) (ht : (pc : Int) + off = (tgt : Int)) (kt : x ≤ y → AG l G R E Z own cc nL ret cells slots tgt lv st h Q) (kf : ¬ x ≤ y → AG l G R E Z own cc nL ret cells slots (pc + 3) lv st h Q) : AG l G R E Z own cc nL ret cells slots pc lv (.int y :: .int x :: st) h Q := fun p e s m args below meth c H locs ls C hZ hW hS hl => lv_icmp_le C.1 C.2.1 hdg ht (fun q => kt q p e s m args below meth c H locs ls C hZ hW hS hl) (fun q => kf q p e s m args below meth c H locs ls C hZ hW hS hl)
theorem g_if_ne {x : Int32} {off : Int} {tgt : Nat} (hdg : decode cc pc = .ok (.ifCond .ne off, 3)) (ht : (pc : Int) + off = (tgt : Int)) (kt : ¬ x = 0 → AG l G R E Z own cc nL ret cells slots tgt lv st h Q) (kf : x = 0 → AG l G R E Z own cc nL ret cells slots (pc + 3) lv st h Q) : AG l G R E Z own cc nL ret cells slots pc lv (.int x :: st) h Q := fun p e s m args below meth c H locs ls C hZ hW hS hl => lv_if_ne C.1 C.2.1 hdg ht (fun q => kt q p e s m args below meth c H locs ls C hZ hW hS hl) (fun q => kf q p e s m args below meth c H locs ls C hZ hW hS hl)
theorem g_icmp_ne {x y : Int32} {off : Int} {tgt : Nat} (hdg : decode cc pc = .ok (.if_icmp .ne off, 3)) (ht : (pc : Int) + off = (tgt : Int)) (kt : ¬ x = y → AG l G R E Z own cc nL ret cells slots tgt lv st h Q) (kf : x = y → AG l G R E Z own cc nL ret cells slots (pc + 3) lv st h Q) : AG l G R E Z own cc nL ret cells slots pc lv (.int y :: .int x :: st) h Q := fun p e s m args below meth c H locs ls C hZ hW hS hl => lv_icmp_ne C.1 C.2.1 hdg ht (fun q => kt q p e s m args below meth c H locs ls C hZ hW hS hl) (fun q => kf q p e s m args below meth c H locs ls C hZ hW hS hl)
theorem g_goto {off : Int} {tgt : Nat} (hdg : decode cc pc = .ok (.goto off, 3)) (ht : (pc : Int) + off = (tgt : Int)) (k : AG l G R E Z own cc nL ret cells slots tgt lv st h Q) : AG l G R E Z own cc nL ret cells slots pc lv st h Q := fun p e s m args below meth c H locs ls C hZ hW hS hl => lv_goto C.1 C.2.1 hdg ht (k p e s m args below meth c H locs ls C hZ hW hS hl)
theorem g_tableIn {dflt lo hi off : Int} {offs : Array Int} {len tgt : Nat} {x : Int32} (hdg : decode cc pc = .ok (.tableswitch dflt lo hi offs, len)) (h1 : ¬ x.toInt < lo) (h2 : ¬ hi < x.toInt) (ho : offs[(x.toInt - lo).toNat]? = some off) (ht : (pc : Int) + off = (tgt : Int)) (k : AG l G R E Z own cc nL ret cells slots tgt lv st h Q) : AG l G R E Z own cc nL ret cells slots pc lv (.int x :: st) h Q := fun p e s m args below meth c H locs ls C hZ hW hS hl => lv_tableIn C.1 C.2.1 hdg h1 h2 ho ht (k p e s m args below meth c H locs ls C hZ hW hS hl)
theorem g_tableOut {dflt lo hi : Int} {offs : Array Int} {len tgt : Nat} {x : Int32} (hdg : decode cc pc = .ok (.tableswitch dflt lo hi offs, len)) (hx : x.toInt < lo ∨ hi < x.toInt) (ht : (pc : Int) + dflt = (tgt : Int)) (k : AG l G R E Z own cc nL ret cells slots tgt lv st h Q) : AG l G R E Z own cc nL ret cells slots pc lv (.int x :: st) h Q := fun p e s m args below meth c H locs ls C hZ hW hS hl => lv_tableOut C.1 C.2.1 hdg hx ht (k p e s m args below meth c H locs ls C hZ hW hS hl)
theorem g_iaload {b k n : Nat} {i : Int32} (hdg : decode cc pc = .ok (.iaload, 1)) (hk : kd b k = some (1, n)) (hin : vp_in i n) (kk : AG l G R E Z own cc nL ret cells slots (pc + 1) lv (.int (h.1 b k i.toNatClampNeg) :: st) h Q) : AG l G R E Z own cc nL ret cells slots pc lv (.int i :: .ref (G.1 b k) :: st) h Q := by
  intro p e s m args below meth c H locs ls C hZ hW hS hl
  have hat := hW.2 b k _ hk
  have hP : va_P G.2.2.1 classes [(G.1 b k, cellE G.1 G.2.2.2.1 h b k (1, n))] H := fun j q hj => by
    cases j with
    | zero => cases hj; exact hat
    | succ j => simp at hj
  exact va_iald C.1 C.2.1 C.2.2.2.2.2.2.2.1 hP 0 0 (n := n) (f := h.1 b k) rfl rfl hin hdg (kk p e s m args below meth c H locs ls C hZ hW hS hl)
theorem g_laload {b k n : Nat} {i : Int32} (hdg : decode cc pc = .ok (.laload, 1)) (hk : kd b k = some (3, n)) (hin : vp_in i n) (kk : AG l G R E Z own cc nL ret cells slots (pc + 1) lv (.long (h.2 b k i.toNatClampNeg) :: st) h Q) : AG l G R E Z own cc nL ret cells slots pc lv (.int i :: .ref (G.1 b k) :: st) h Q := by
  intro p e s m args below meth c H locs ls C hZ hW hS hl
  have hat := hW.2 b k _ hk
  have hP : va_P G.2.2.1 classes [(G.1 b k, cellE G.1 G.2.2.2.1 h b k (3, n))] H := fun j q hj => by
    cases j with
    | zero => cases hj; exact hat
    | succ j => simp at hj
  exact va_lald C.1 C.2.1 C.2.2.2.2.2.2.2.1 hP 0 2 (n := n) (f := h.2 b k) rfl rfl hin hdg (kk p e s m args below meth c H locs ls C hZ hW hS hl)
theorem g_iastore {b k n : Nat} {i : Int32} {x : Int32} (hdg : decode cc pc = .ok (.iastore, 1)) (hk : kd b k = some (1, n)) (hin : vp_in i n) (kk : AG l G R E Z own cc nL ret cells slots (pc + 1) lv st (ui h b k i.toNatClampNeg x) Q) : AG l G R E Z own cc nL ret cells slots pc lv (.int x :: .int i :: .ref (G.1 b k) :: st) h Q := by
  intro p e s m args below meth c H locs ls C hZ hW hS hl
  have hat := hW.2 b k _ hk
  have hK := C.2.2.2.2.2.2.2.1
  refine W.iast C.1 C.2.1 hat ((hK.2 0 _ rfl).1 n (fun j => .int (h.1 b k j))) (fun q => by cases q) (by show ¬ (i < 0 ∨ (arrV _ _ _).slots.size ≤ _); rw [arrV_size]; exact hin) rfl rfl hdg fun H1 e1 z oq => ?_
  refine kk p e s m args below meth c H1 _ ls C hZ (hW.ui hk ?_ oq) (hS.put z oq (hW.lo hk)) hl
  show H1[G.1 b k]? = some (vp_cell _ (n, _))
  rw [ui_self, e1]
  rw [vp_cell_i, vp_cell_i, arrV_store]
  congr 2
  funext q
  by_cases hq : q = i.toNatClampNeg
  · subst hq
    simp [updV, upd, vp_nar]
    try rfl
  · simp [updV, upd, hq]
theorem g_lastore {b k n : Nat} {i : Int32} {x : Int64} (hdg : decode cc pc = .ok (.lastore, 1)) (hk : kd b k = some (3, n)) (hin : vp_in i n) (kk : AG l G R E Z own cc nL ret cells slots (pc + 1) lv st (ul h b k i.toNatClampNeg x) Q) : AG l G R E Z own cc nL ret cells slots pc lv (.long x :: .int i :: .ref (G.1 b k) :: st) h Q := by
  intro p e s m args below meth c H locs ls C hZ hW hS hl
  have hat := hW.2 b k _ hk
  have hK := C.2.2.2.2.2.2.2.1
  refine W.last C.1 C.2.1 hat ((hK.2 2 _ rfl).1 n (fun j => .long (h.2 b k j))) (fun q => by cases q) (by show ¬ (i < 0 ∨ (arrV _ _ _).slots.size ≤ _); rw [arrV_size]; exact hin) rfl rfl hdg fun H1 e1 z oq => ?_
  refine kk p e s m args below meth c H1 _ ls C hZ (hW.ul hk ?_ oq) (hS.put z oq (hW.lo hk)) hl
  show H1[G.1 b k]? = some (vp_cell _ (n, _))
  rw [ul_self, e1]
  rw [vp_cell_l, vp_cell_l, arrV_store]
  congr 2
  funext q
  by_cases hq : q = i.toNatClampNeg
  · subst hq
    simp [updV, vp_updL, vp_nar]
    try rfl
  · simp [updV, vp_updL, hq]
theorem g_getV {b k ci j index N : Nat} {C0 : String} {T : u_T} {v : Value} (hdg : decode cc pc = .ok (.getfield index, 3)) (hk : kd b k = some (0, ci)) (hc : classes[ci]? = some (C0, T, N)) (hj : j < nf ci) (hw : Cond.fieldLink own index (T j).1 (T j).2.1 (T j).2.2.1 ∈ gtbl) (hv : fval G.1 h b k ci j = v) (kk : AG l G R E Z own cc nL ret cells slots (pc + 3) lv (v :: st) h Q) : AG l G R E Z own cc nL ret cells slots pc lv (.ref (G.1 b k) :: st) h Q := by
  intro p e s m args below meth c H locs ls C hZ hW hS hl
  obtain ⟨c1, -, -, c4⟩ := cls_ok ci _ hc
  exact va_get (C := C0) (T := T) (N := N) (ci := ci) (Ts := gtbl) (ref := (T j).1) (fs := fv G.1 h b k ci) C.1 C.2.1 C.2.2.2.2.1 c1 C.2.2.2.1 C.2.2.2.2.2.2.2.1 (hW.P hk) 0 rfl hc j (by rw [show N = nf ci from c4]; exact hj) (C.2.2.2.2.1 _ hw) (fun _ h9 => h9) (by rw [fv_get hj, hv]) hdg (kk p e s m args below meth c H locs ls C hZ hW hS hl)
theorem g_getI {b k ci j index N : Nat} {C0 : String} {T : u_T} (hdg : decode cc pc = .ok (.getfield index, 3)) (hk : kd b k = some (0, ci)) (hc : classes[ci]? = some (C0, T, N)) (hj : j < nf ci) (hf : fk ci j = 0) (hw : Cond.fieldLink own index (T j).1 (T j).2.1 (T j).2.2.1 ∈ gtbl) (kk : AG l G R E Z own cc nL ret cells slots (pc + 3) lv (.int (h.1 b k j) :: st) h Q) : AG l G R E Z own cc nL ret cells slots pc lv (.ref (G.1 b k) :: st) h Q := g_getV hdg hk hc hj hw (by simp only [fval, hf]) kk
theorem g_getL {b k ci j index N : Nat} {C0 : String} {T : u_T} (hdg : decode cc pc = .ok (.getfield index, 3)) (hk : kd b k = some (0, ci)) (hc : classes[ci]? = some (C0, T, N)) (hj : j < nf ci) (hf : fk ci j = 1) (hw : Cond.fieldLink own index (T j).1 (T j).2.1 (T j).2.2.1 ∈ gtbl) (kk : AG l G R E Z own cc nL ret cells slots (pc + 3) lv (.long (h.2 b k j) :: st) h Q) : AG l G R E Z own cc nL ret cells slots pc lv (.ref (G.1 b k) :: st) h Q := g_getV hdg hk hc hj hw (by simp only [fval, hf]) kk
theorem g_getD {b k ci j index N : Nat} {C0 : String} {T : u_T} (hdg : decode cc pc = .ok (.getfield index, 3)) (hk : kd b k = some (0, ci)) (hc : classes[ci]? = some (C0, T, N)) (hj : j < nf ci) (hf : fk ci j = 2) (hw : Cond.fieldLink own index (T j).1 (T j).2.1 (T j).2.2.1 ∈ gtbl) {bb : Nat} (hbb : (h.1 b k j).toNatClampNeg = bb) (kk : AG l G R E Z own cc nL ret cells slots (pc + 3) lv (.ref (G.1 bb 0) :: st) h Q) : AG l G R E Z own cc nL ret cells slots pc lv (.ref (G.1 b k) :: st) h Q := g_getV hdg hk hc hj hw (by simp only [fval, hf, hbb]) kk
theorem g_getR {b k ci j index N t : Nat} {C0 : String} {T : u_T} (hdg : decode cc pc = .ok (.getfield index, 3)) (hk : kd b k = some (0, ci)) (hc : classes[ci]? = some (C0, T, N)) (hj : j < nf ci) (hf : fk ci j = t + 3) (hw : Cond.fieldLink own index (T j).1 (T j).2.1 (T j).2.2.1 ∈ gtbl) (kk : AG l G R E Z own cc nL ret cells slots (pc + 3) lv (.ref (G.1 b t) :: st) h Q) : AG l G R E Z own cc nL ret cells slots pc lv (.ref (G.1 b k) :: st) h Q := g_getV hdg hk hc hj hw (by simp only [fval, hf]) kk
/-- calls -/
def RmOk (R : Room) (cells slots d ny : Nat) : Prop := d < R.frames ∧ 8 + (ny + 11) + 36 * d ≤ R.locals ∧ cells ≤ R.cells ∧ slots ≤ R.slots
theorem WY.callR {d' : Nat} {s : State} {args : Array Value} {index n : Nat} {y : MethodName} {cy : ByteArray} {ny : Nat} {ry : Option FieldType} (h : WY y cy ny ry n) (hts : ∀ w ∈ gtbl, w.before args s = true) (hl : Cond.methodLink own index y ∈ gtbl) (hd : RmOk R cells slots d' ny) : CallB R s args own index y cy ny ry (Cond.code y cy ny ry :: gtbl) (rmD d') 0 0 n := by
  obtain ⟨h1, h2, h3, h4⟩ := h
  exact callB_of n hts (good_tbl h1) rfl rfl rfl (hts _ h2) (hts _ hl) h4 ⟨hd.1, hd.2.1⟩
theorem g_callG {rest : List Value} {P : Option Value → AH → Prop} {Av : Array Value} {st0 : List Value}
    (run : ∀ (p : Program) (e : Env) (s : State) (m : MethodId) (args : Array Value) (below : List Frame) (meth : Method) (c : Code) (H : Heap) (locs : List Loc) (ls : Array Slot), Cx G own cc nL ret p s m args meth c → Wd G h H → va_S (Alo G) s.heap H locs → hv ls nL lv →
      va_Run p l e R s m args below meth c H locs cells slots 0 0 (F0 m pc ls st0) rest (QA G P Av) (Alo G))
    (kk : ∀ v h', P v h' → AG l G R E Z own cc nL ret cells slots (pc + 3) lv (v.toList ++ rest) h' Q) : AG l G R E Z own cc nL ret cells slots pc lv st0 h Q := by
  intro p e s m args below meth c H locs ls C hZ hW hS hl T hT X
  obtain ⟨v, st₀, t, T', L, h0, X', hL, e1, e2, ⟨⟨v', h', hv', hP, hW'⟩, hF⟩, stp⟩ := run p e s m args below meth c H locs ls C hW hS hl T hT X
  cases hv'
  have hS' : va_S (Alo G) s.heap T'.heap (locs ++ L) := by
    obtain ⟨hz, hk⟩ := hF
    rw [h0] at hz hk
    refine ⟨Nat.le_trans hS.1 (by rw [e1]; exact hz), fun q h1 h2 => by rw [e1, hk q (Nat.lt_of_lt_of_le h1 hS.1) h2]; exact hS.2.1 q h1 h2, fun q hq => ?_⟩
    rcases List.mem_append.mp hq with h | h
    · exact hS.2.2 q h
    · exact hL q h
  obtain ⟨t2, a1, b1⟩ := kk v h' hP p e s m args below meth c T'.heap (locs ++ L) ls C hZ (by rw [e1]; exact hW') hS' hl T' rfl X'
  exact ⟨t2, stp t2 a1, b1⟩
theorem g_callV {d' index b k ci N : Nat} {y : MethodName} {cy : ByteArray} {ny : Nat} {ry : Option FieldType} {As rest : List Value} {T : u_T} {P : Option Value → AH → Prop} (hdg : decode cc pc = .ok (.invokevirtual index, 3)) (hl : Cond.methodLink own index y ∈ gtbl) (hw : WV y cy ny ry As.length) (hk : kd b k = some (0, ci)) (hc : classes[ci]? = some (y.cls, T, N)) (hd : RmOk R cells slots d' ny) (hr : (rest.map fun v => v.category).sum ≤ 8)
    (hM : Ct l G d' y cy ny ry (.ref (G.1 b k) :: As) h P) (kk : ∀ v h', P v h' → AG l G R E Z own cc nL ret cells slots (pc + 3) lv (v.toList ++ rest) h' Q) : AG l G R E Z own cc nL ret cells slots pc lv (As.reverse ++ .ref (G.1 b k) :: rest) h Q := by
  refine g_callG (Av := (Value.ref (G.1 b k) :: As).toArray) (P := P) (fun p e s m args below meth c H locs ls C hW hS hlv => ?_) kk
  have hts := C.2.2.2.2.1
  exact va_runV (As := As) (rest := rest) ⟨C.1, C.2.1, C.2.2.1, C.2.2.2.1, hts⟩ hM ⟨hw.1.callR hts hl hd, hts _ hw.2.1, hts _ hw.2.2⟩ ⟨preA_blind, va_recv C.2.2.2.2.2.2.2.1 (hW.P hk) hc (q0 := 0) rfl, fun U hU hwU => ⟨rfl, preA_at C hW hS hU hwU⟩⟩ rfl rfl hlv.1 rfl (lv_room hr) hdg ⟨hd.2.2.1, hd.2.2.2⟩
theorem g_callS {d' index : Nat} {y : MethodName} {cy : ByteArray} {ny : Nat} {ry : Option FieldType} {As rest : List Value} {P : Option Value → AH → Prop} (hdg : decode cc pc = .ok (.invokestatic index, 3)) (hl : Cond.methodLink own index y ∈ gtbl) (hw : WS y cy ny ry As.length) (hd : RmOk R cells slots d' ny) (hr : (rest.map fun v => v.category).sum ≤ 8)
    (hM : Ct l G d' y cy ny ry As h P) (kk : ∀ v h', P v h' → AG l G R E Z own cc nL ret cells slots (pc + 3) lv (v.toList ++ rest) h' Q) : AG l G R E Z own cc nL ret cells slots pc lv (As.reverse ++ rest) h Q := by
  refine g_callG (Av := As.toArray) (P := P) (fun p e s m args below meth c H locs ls C hW hS hlv => ?_) kk
  have hts := C.2.2.2.2.1
  exact va_runS (As := As) (rest := rest) ⟨C.1, C.2.1, C.2.2.1, C.2.2.2.1, hts⟩ hM ⟨hw.1.callR hts hl hd, hts _ hw.2⟩ ⟨preA_blind, fun U hU hwU => ⟨rfl, preA_at C hW hS hU hwU⟩⟩ rfl rfl hlv.1 rfl (lv_room hr) hdg ⟨hd.2.2.1, hd.2.2.2⟩
end
