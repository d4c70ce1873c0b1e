/-! THE ROWS: an instruction each, goal first -/
section AROWS
variable {l : Launch} {G : GG} {d : Nat} {own : String} {cc : ByteArray} {nL : Nat} {ret : Option FieldType} {pc : Nat} {lv : List (Option Value)} {st : List Value} {h : AH} {Q : Option Value → AH → Prop}
theorem a_iconst {n : Int} {v : Int32} (hdg : decode cc pc = .ok (.iconst n, 1)) (hv : Int32.ofInt n = v) (k : AW l G d own cc nL ret (pc + 1) lv (.int v :: st) h Q) : AW l G d own cc nL ret pc lv st h Q := fun p e s m args below meth c H locs ls C hW hS hl => lv_iconst C.1 C.2.1 hdg hv (k p e s m args below meth c H locs ls C hW hS hl)
theorem a_bipush {n : Int} {v : Int32} (hdg : decode cc pc = .ok (.bipush n, 2)) (hv : (Int8.ofInt n).toInt32 = v) (k : AW l G d own cc nL ret (pc + 2) lv (.int v :: st) h Q) : AW l G d own cc nL ret pc lv st h Q := fun p e s m args below meth c H locs ls C hW hS hl => lv_bipush C.1 C.2.1 hdg hv (k p e s m args below meth c H locs ls C hW hS hl)
theorem a_sipush {n : Int} {v : Int32} (hdg : decode cc pc = .ok (.sipush n, 3)) (hv : (Int16.ofInt n).toInt32 = v) (k : AW l G d own cc nL ret (pc + 3) lv (.int v :: st) h Q) : AW l G d own cc nL ret pc lv st h Q := fun p e s m args below meth c H locs ls C hW hS hl => lv_sipush C.1 C.2.1 hdg hv (k p e s m args below meth c H locs ls C hW hS hl)
theorem a_lconst {n : Fin 2} {v : Int64} (hdg : decode cc pc = .ok (.lconst n, 1)) (hv : Int64.ofNat (n : Nat) = v) (k : AW l G d own cc nL ret (pc + 1) lv (.long v :: st) h Q) : AW l G d own cc nL ret pc lv st h Q := fun p e s m args below meth c H locs ls C hW hS hl => lv_lconst C.1 C.2.1 hdg hv (k p e s m args below meth c H locs ls C hW hS hl)
theorem a_iload_n {n : Fin 4} {x : Int32} (hdg : decode cc pc = .ok (.iload_n n, 1)) (hx : lget lv (n : Nat) = some (.int x)) (k : AW l G d own cc nL ret (pc + 1) lv (.int x :: st) h Q) : AW l G d own cc nL ret pc lv st h Q := fun p e s m args below meth c H locs ls C hW hS hl => lv_iload_n C.1 C.2.1 hdg rfl (hl.2.2 _ _ hx) (k p e s m args below meth c H locs ls C hW hS hl)
theorem a_iload {n : Nat} {x : Int32} (hdg : decode cc pc = .ok (.iload n, 2)) (hx : lget lv n = some (.int x)) (k : AW l G d own cc nL ret (pc + 2) lv (.int x :: st) h Q) : AW l G d own cc nL ret pc lv st h Q := fun p e s m args below meth c H locs ls C hW hS hl => lv_iload C.1 C.2.1 hdg (hl.2.2 _ _ hx) (k p e s m args below meth c H locs ls C hW hS hl)
theorem a_lload_n {n : Fin 4} {x : Int64} (hdg : decode cc pc = .ok (.lload_n n, 1)) (hx : lget lv (n : Nat) = some (.long x)) (k : AW l G d own cc nL ret (pc + 1) lv (.long x :: st) h Q) : AW l G d own cc nL ret pc lv st h Q := fun p e s m args below meth c H locs ls C hW hS hl => lv_lload_n C.1 C.2.1 hdg rfl (hl.2.2 _ _ hx) (k p e s m args below meth c H locs ls C hW hS hl)
theorem a_lload {n : Nat} {x : Int64} (hdg : decode cc pc = .ok (.lload n, 2)) (hx : lget lv n = some (.long x)) (k : AW l G d own cc nL ret (pc + 2) lv (.long x :: st) h Q) : AW l G d own cc nL ret pc lv st h Q := fun p e s m args below meth c H locs ls C hW hS hl => lv_lload C.1 C.2.1 hdg (hl.2.2 _ _ hx) (k p e s m args below meth c H locs ls C hW hS hl)
theorem a_aload_n {n : Fin 4} {x : Nat} (hdg : decode cc pc = .ok (.aload_n n, 1)) (hx : lget lv (n : Nat) = some (.ref x)) (k : AW l G d own cc nL ret (pc + 1) lv (.ref x :: st) h Q) : AW l G d own cc nL ret pc lv st h Q := fun p e s m args below meth c H locs ls C hW hS hl => lv_aload_n C.1 C.2.1 hdg rfl (hl.2.2 _ _ hx) (k p e s m args below meth c H locs ls C hW hS hl)
theorem a_aload {n : Nat} {x : Nat} (hdg : decode cc pc = .ok (.aload n, 2)) (hx : lget lv n = some (.ref x)) (k : AW l G d own cc nL ret (pc + 2) lv (.ref x :: st) h Q) : AW l G d own cc nL ret pc lv st h Q := fun p e s m args below meth c H locs ls C hW hS hl => lv_aload C.1 C.2.1 hdg (hl.2.2 _ _ hx) (k p e s m args below meth c H locs ls C hW hS hl)
theorem a_istore_n {n : Fin 4} {x : Int32} (hdg : decode cc pc = .ok (.istore_n n, 1)) (hn : (n : Nat) < nL) (hk : okS lv (n : Nat) = true) (k : AW l G d own cc nL ret (pc + 1) (lset lv (n : Nat) (some (.int x))) st h Q) : AW l G d own cc nL ret pc lv (.int x :: st) h Q := by
  intro p e s m args below meth c H locs ls C hW hS hl
  obtain ⟨ls', e', h'⟩ := hv_store1 (v := .int x) hl hn rfl hk
  have hexec := C.1
  have hb := C.2.1
  intro T hT X
  obtain ⟨t, a, b⟩ := k p e s m args below meth c H locs ls' C hW hS h' T hT X
  refine ⟨t, ?_, b⟩
  jvm_step X.here [X.here.top, ↓top_set X.here.top, hexec, hb, hdg, e', Value.isRef]
  exact a
theorem a_istore {n : Nat} {x : Int32} (hdg : decode cc pc = .ok (.istore n, 2)) (hn : n < nL) (hk : okS lv n = true) (k : AW l G d own cc nL ret (pc + 2) (lset lv n (some (.int x))) st h Q) : AW l G d own cc nL ret pc lv (.int x :: st) h Q := by
  intro p e s m args below meth c H locs ls C hW hS hl
  obtain ⟨ls', e', h'⟩ := hv_store1 (v := .int x) hl hn rfl hk
  have hexec := C.1
  have hb := C.2.1
  intro T hT X
  obtain ⟨t, a, b⟩ := k p e s m args below meth c H locs ls' C hW hS h' T hT X
  refine ⟨t, ?_, b⟩
  jvm_step X.here [X.here.top, ↓top_set X.here.top, hexec, hb, hdg, e', Value.isRef]
  exact a
theorem a_astore_n {n : Fin 4} {x : Nat} (hdg : decode cc pc = .ok (.astore_n n, 1)) (hn : (n : Nat) < nL) (hk : okS lv (n : Nat) = true) (k : AW l G d own cc nL ret (pc + 1) (lset lv (n : Nat) (some (.ref x))) st h Q) : AW l G d own cc nL ret pc lv (.ref x :: st) h Q := by
  intro p e s m args below meth c H locs ls C hW hS hl
  obtain ⟨ls', e', h'⟩ := hv_store1 (v := .ref x) hl hn rfl hk
  have hexec := C.1
  have hb := C.2.1
  intro T hT X
  obtain ⟨t, a, b⟩ := k p e s m args below meth c H locs ls' C hW hS h' T hT X
  refine ⟨t, ?_, b⟩
  jvm_step X.here [X.here.top, ↓top_set X.here.top, hexec, hb, hdg, e', Value.isRef]
  exact a
theorem a_astore {n : Nat} {x : Nat} (hdg : decode cc pc = .ok (.astore n, 2)) (hn : n < nL) (hk : okS lv n = true) (k : AW l G d own cc nL ret (pc + 2) (lset lv n (some (.ref x))) st h Q) : AW l G d own cc nL ret pc lv (.ref x :: st) h Q := by
  intro p e s m args below meth c H locs ls C hW hS hl
  obtain ⟨ls', e', h'⟩ := hv_store1 (v := .ref x) hl hn rfl hk
  have hexec := C.1
  have hb := C.2.1
  intro T hT X
  obtain ⟨t, a, b⟩ := k p e s m args below meth c H locs ls' C hW hS h' T hT X
  refine ⟨t, ?_, b⟩
  jvm_step X.here [X.here.top, ↓top_set X.here.top, hexec, hb, hdg, e', Value.isRef]
  exact a
theorem a_lstore_n {n : Fin 4} {x : Int64} (hdg : decode cc pc = .ok (.lstore_n n, 1)) (hn : (n : Nat) + 1 < nL) (hk : okS lv (n : Nat) = true) (k : AW l G d own cc nL ret (pc + 1) (lset (lset lv (n : Nat) (some (.long x))) ((n : Nat) + 1) none) st h Q) : AW l G d own cc nL ret pc lv (.long x :: st) h Q := by
  intro p e s m args below meth c H locs ls C hW hS hl
  obtain ⟨ls', e', h'⟩ := hv_store2 (v := .long x) hl hn rfl hk
  have hexec := C.1
  have hb := C.2.1
  intro T hT X
  obtain ⟨t, a, b⟩ := k p e s m args below meth c H locs ls' C hW hS h' T hT X
  refine ⟨t, ?_, b⟩
  jvm_step X.here [X.here.top, ↓top_set X.here.top, hexec, hb, hdg, e']
  exact a
theorem a_lstore {n : Nat} {x : Int64} (hdg : decode cc pc = .ok (.lstore n, 2)) (hn : n + 1 < nL) (hk : okS lv n = true) (k : AW l G d own cc nL ret (pc + 2) (lset (lset lv n (some (.long x))) (n + 1) none) st h Q) : AW l G d own cc nL ret pc lv (.long x :: st) h Q := by
  intro p e s m args below meth c H locs ls C hW hS hl
  obtain ⟨ls', e', h'⟩ := hv_store2 (v := .long x) hl hn rfl hk
  have hexec := C.1
  have hb := C.2.1
  intro T hT X
  obtain ⟨t, a, b⟩ := k p e s m args below meth c H locs ls' C hW hS h' T hT X
  refine ⟨t, ?_, b⟩
  jvm_step X.here [X.here.top, ↓top_set X.here.top, hexec, hb, hdg, e']
  exact a
theorem a_iinc {i : Nat} {n : Int} {x v : Int32} (hdg : decode cc pc = .ok (.iinc i n, 3)) (hx : lget lv i = some (.int x)) (hv2 : x + Int32.ofInt n = v) (hn : i < nL) (hk : okS lv i = true) (k : AW l G d own cc nL ret (pc + 3) (lset lv i (some (.int v))) st h Q) : AW l G d own cc nL ret pc lv st h Q := by
  intro p e s m args below meth c H locs ls C hW hS hl
  subst hv2
  have hg := hl.2.2 _ _ hx
  obtain ⟨ls', e', h'⟩ := hv_store1 (v := .int (x + Int32.ofInt n)) hl hn rfl hk
  have hexec := C.1
  have hb := C.2.1
  intro T hT X
  obtain ⟨t, a, b⟩ := k p e s m args below meth c H locs ls' C hW hS h' T hT X
  refine ⟨t, ?_, b⟩
  jvm_step X.here [X.here.top, ↓top_set X.here.top, hexec, hb, hdg, hg, e']
  exact a
theorem a_iadd {x y : Int32} (hdg : decode cc pc = .ok (.iadd, 1)) (k : AW l G d own cc nL ret (pc + 1) lv (.int (x + y) :: st) h Q) : AW l G d own cc nL ret pc lv (.int y :: .int x :: st) h Q := fun p e s m args below meth c H locs ls C hW hS hl => lv_iadd C.1 C.2.1 hdg (k p e s m args below meth c H locs ls C hW hS hl)
theorem a_isub {x y : Int32} (hdg : decode cc pc = .ok (.isub, 1)) (k : AW l G d own cc nL ret (pc + 1) lv (.int (x - y) :: st) h Q) : AW l G d own cc nL ret pc lv (.int y :: .int x :: st) h Q := fun p e s m args below meth c H locs ls C hW hS hl => lv_isub C.1 C.2.1 hdg (k p e s m args below meth c H locs ls C hW hS hl)
theorem a_imul {x y : Int32} (hdg : decode cc pc = .ok (.imul, 1)) (k : AW l G d own cc nL ret (pc + 1) lv (.int (x * y) :: st) h Q) : AW l G d own cc nL ret pc lv (.int y :: .int x :: st) h Q := fun p e s m args below meth c H locs ls C hW hS hl => lv_imul C.1 C.2.1 hdg (k p e s m args below meth c H locs ls C hW hS hl)
theorem a_iand {x y : Int32} (hdg : decode cc pc = .ok (.iand, 1)) (k : AW l G d own cc nL ret (pc + 1) lv (.int (x &&& y) :: st) h Q) : AW l G d own cc nL ret pc lv (.int y :: .int x :: st) h Q := fun p e s m args below meth c H locs ls C hW hS hl => lv_iand C.1 C.2.1 hdg (k p e s m args below meth c H locs ls C hW hS hl)
theorem a_ior {x y : Int32} (hdg : decode cc pc = .ok (.ior, 1)) (k : AW l G d own cc nL ret (pc + 1) lv (.int (x ||| y) :: st) h Q) : AW l G d own cc nL ret pc lv (.int y :: .int x :: st) h Q := fun p e s m args below meth c H locs ls C hW hS hl => lv_ior C.1 C.2.1 hdg (k p e s m args below meth c H locs ls C hW hS hl)
theorem a_ixor {x y : Int32} (hdg : decode cc pc = .ok (.ixor, 1)) (k : AW l G d own cc nL ret (pc + 1) lv (.int (x ^^^ y) :: st) h Q) : AW l G d own cc nL ret pc lv (.int y :: .int x :: st) h Q := fun p e s m args below meth c H locs ls C hW hS hl => lv_ixor C.1 C.2.1 hdg (k p e s m args below meth c H locs ls C hW hS hl)
theorem a_ishl {x y : Int32} (hdg : decode cc pc = .ok (.ishl, 1)) (k : AW l G d own cc nL ret (pc + 1) lv (.int (x <<< (y &&& 31)) :: st) h Q) : AW l G d own cc nL ret pc lv (.int y :: .int x :: st) h Q := fun p e s m args below meth c H locs ls C hW hS hl => lv_ishl C.1 C.2.1 hdg (k p e s m args below meth c H locs ls C hW hS hl)
theorem a_ishr {x y : Int32} (hdg : decode cc pc = .ok (.ishr, 1)) (k : AW l G d own cc nL ret (pc + 1) lv (.int (x >>> (y &&& 31)) :: st) h Q) : AW l G d own cc nL ret pc lv (.int y :: .int x :: st) h Q := fun p e s m args below meth c H locs ls C hW hS hl => lv_ishr C.1 C.2.1 hdg (k p e s m args below meth c H locs ls C hW hS hl)
theorem a_iushr {x y : Int32} (hdg : decode cc pc = .ok (.iushr, 1)) (k : AW l G d own cc nL ret (pc + 1) lv (.int ((x.toUInt32 >>> (y.toUInt32 &&& Int32.toUInt32 31)).toInt32) :: st) h Q) : AW l G d own cc nL ret pc lv (.int y :: .int x :: st) h Q := fun p e s m args below meth c H locs ls C hW hS hl => lv_iushr C.1 C.2.1 hdg rfl (k p e s m args below meth c H locs ls C hW hS hl)
theorem a_ineg {x : Int32} (hdg : decode cc pc = .ok (.ineg, 1)) (k : AW l G d own cc nL ret (pc + 1) lv (.int (-x) :: st) h Q) : AW l G d own cc nL ret pc lv (.int x :: st) h Q := fun p e s m args below meth c H locs ls C hW hS hl => lv_ineg C.1 C.2.1 hdg (k p e s m args below meth c H locs ls C hW hS hl)
theorem a_ladd {x y : Int64} (hdg : decode cc pc = .ok (.ladd, 1)) (k : AW l G d own cc nL ret (pc + 1) lv (.long (x + y) :: st) h Q) : AW l G d own cc nL ret pc lv (.long y :: .long x :: st) h Q := fun p e s m args below meth c H locs ls C hW hS hl => lv_ladd C.1 C.2.1 hdg (k p e s m args below meth c H locs ls C hW hS hl)
theorem a_lsub {x y : Int64} (hdg : decode cc pc = .ok (.lsub, 1)) (k : AW l G d own cc nL ret (pc + 1) lv (.long (x - y) :: st) h Q) : AW l G d own cc nL ret pc lv (.long y :: .long x :: st) h Q := fun p e s m args below meth c H locs ls C hW hS hl => lv_lsub C.1 C.2.1 hdg (k p e s m args below meth c H locs ls C hW hS hl)
theorem a_lmul {x y : Int64} (hdg : decode cc pc = .ok (.lmul, 1)) (k : AW l G d own cc nL ret (pc + 1) lv (.long (x * y) :: st) h Q) : AW l G d own cc nL ret pc lv (.long y :: .long x :: st) h Q := fun p e s m args below meth c H locs ls C hW hS hl => lv_lmul C.1 C.2.1 hdg (k p e s m args below meth c H locs ls C hW hS hl)
theorem a_i2l {x : Int32} (hdg : decode cc pc = .ok (.i2l, 1)) (k : AW l G d own cc nL ret (pc + 1) lv (.long x.toInt64 :: st) h Q) : AW l G d own cc nL ret pc lv (.int x :: st) h Q := fun p e s m args below meth c H locs ls C hW hS hl => lv_i2l C.1 C.2.1 hdg rfl (k p e s m args below meth c H locs ls C hW hS hl)
theorem a_i2b {x : Int32} (hdg : decode cc pc = .ok (.i2b, 1)) (k : AW l G d own cc nL ret (pc + 1) lv (.int x.toInt8.toInt32 :: st) h Q) : AW l G d own cc nL ret pc lv (.int x :: st) h Q := fun p e s m args below meth c H locs ls C hW hS hl => lv_i2b C.1 C.2.1 hdg rfl (k p e s m args below meth c H locs ls C hW hS hl)
theorem a_i2c {x : Int32} (hdg : decode cc pc = .ok (.i2c, 1)) (k : AW l G d own cc nL ret (pc + 1) lv (.int ((x.toUInt32 % 65536).toInt32) :: st) h Q) : AW l G d own cc nL ret pc lv (.int x :: st) h Q := fun p e s m args below meth c H locs ls C hW hS hl => lv_i2c C.1 C.2.1 hdg rfl (k p e s m args below meth c H locs ls C hW hS hl)
theorem a_lcmp {x y : Int64} (hdg : decode cc pc = .ok (.lcmp, 1)) (k : AW l G d own cc nL ret (pc + 1) lv (.int (lg_cmp x y) :: st) h Q) : AW l G d own cc nL ret pc lv (.long y :: .long x :: st) h Q := fun p e s m args below meth c H locs ls C hW hS hl => W.lcmp C.1 C.2.1 hdg (k p e s m args below meth c H locs ls C hW hS hl)
theorem a_dup {v : Value} (hdg : decode cc pc = .ok (.dup, 1)) (hv1 : v.category = 1) (k : AW l G d own cc nL ret (pc + 1) lv (v :: v :: st) h Q) : AW l G d own cc nL ret pc lv (v :: st) h Q := fun p e s m args below meth c H locs ls C hW hS hl => lv_dup C.1 C.2.1 hdg hv1 (k p e s m args below meth c H locs ls C hW hS hl)
theorem a_pop {v : Value} (hdg : decode cc pc = .ok (.pop, 1)) (hv1 : v.category = 1) (k : AW l G d own cc nL ret (pc + 1) lv st h Q) : AW l G d own cc nL ret pc lv (v :: st) h Q := fun p e s m args below meth c H locs ls C hW hS hl => lv_pop C.1 C.2.1 hdg hv1 (k p e s m args below meth c H locs ls C hW hS hl)
theorem a_dup2 {v w : Value} (hdg : decode cc pc = .ok (.dup2, 1)) (hv1 : v.category = 1) (hv2 : w.category = 1) (k : AW l G d own cc nL ret (pc + 1) lv (v :: w :: v :: w :: st) h Q) : AW l G d own cc nL ret pc lv (v :: w :: st) h Q := fun p e s m args below meth c H locs ls C hW hS hl => lv_dup2_11 C.1 C.2.1 hdg hv1 hv2 (k p e s m args below meth c H locs ls C hW hS hl)
theorem a_dup_x1 {v w : Value} (hdg : decode cc pc = .ok (.dup_x1, 1)) (hv1 : v.category = 1) (hv2 : w.category = 1) (k : AW l G d own cc nL ret (pc + 1) lv (v :: w :: v :: st) h Q) : AW l G d own cc nL ret pc lv (v :: w :: st) h Q := fun p e s m args below meth c H locs ls C hW hS hl => lv_dup_x1 C.1 C.2.1 hdg hv1 hv2 (k p e s m args below meth c H locs ls C hW hS hl)
theorem a_if_eq {x : Int32} {off : Int} {tgt : Nat} (hdg : decode cc pc = .ok (.ifCond .eq off, 3)) (ht : (pc : Int) + off = (tgt : Int)) (kt : x = 0 → AW l G d own cc nL ret tgt lv st h Q) (kf : ¬ x = 0 → AW l G d own cc nL ret (pc + 3) lv st h Q) : AW l G d own cc nL ret pc lv (.int x :: st) h Q := fun p e s m args below meth c H locs ls C hW hS hl => lv_if_eq C.1 C.2.1 hdg ht (fun q => kt q p e s m args below meth c H locs ls C hW hS hl) (fun q => kf q p e s m args below meth c H locs ls C hW hS hl)
theorem a_icmp_eq {x y : Int32} {off : Int} {tgt : Nat} (hdg : decode cc pc = .ok (.if_icmp .eq off, 3)) (ht : (pc : Int) + off = (tgt : Int)) (kt : x = y → AW l G d own cc nL ret tgt lv st h Q) (kf : ¬ x = y → AW l G d own cc nL ret (pc + 3) lv st h Q) : AW l G d own cc nL ret pc lv (.int y :: .int x :: st) h Q := fun p e s m args below meth c H locs ls C hW hS hl => lv_icmp_eq C.1 C.2.1 hdg ht (fun q => kt q p e s m args below meth c H locs ls C hW hS hl) (fun q => kf q p e s m args below meth c H locs ls C hW hS hl)
theorem a_if_lt {x : Int32} {off : Int} {tgt : Nat} (hdg : decode cc pc = .ok (.ifCond .lt off, 3)) (ht : (pc : Int) + off = (tgt : Int)) (kt : x < 0 → AW l G d own cc nL ret tgt lv st h Q) (kf : ¬ x < 0 → AW l G d own cc nL ret (pc + 3) lv st h Q) : AW l G d own cc nL ret pc lv (.int x :: st) h Q := fun p e s m args below meth c H locs ls C hW hS hl => lv_if_lt C.1 C.2.1 hdg ht (fun q => kt q p e s m args below meth c H locs ls C hW hS hl) (fun q => kf q p e s m args below meth c H locs ls C hW hS hl)
theorem a_icmp_lt {x y : Int32} {off : Int} {tgt : Nat} (hdg : decode cc pc = .ok (.if_icmp .lt off, 3)) (ht : (pc : Int) + off = (tgt : Int)) (kt : x < y → AW l G d own cc nL ret tgt lv st h Q) (kf : ¬ x < y → AW l G d own cc nL ret (pc + 3) lv st h Q) : AW l G d own cc nL ret pc lv (.int y :: .int x :: st) h Q := fun p e s m args below meth c H locs ls C hW hS hl => lv_icmp_lt C.1 C.2.1 hdg ht (fun q => kt q p e s m args below meth c H locs ls C hW hS hl) (fun q => kf q p e s m args below meth c H locs ls C hW hS hl)
theorem a_if_ge {x : Int32} {off : Int} {tgt : Nat} (hdg : decode cc pc = .ok (.ifCond .ge off, 3)) (ht : (pc : Int) + off = (tgt : Int)) (kt : 0 ≤ x → AW l G d own cc nL ret tgt lv st h Q) (kf : ¬ 0 ≤ x → AW l G d own cc nL ret (pc + 3) lv st h Q) : AW l G d own cc nL ret pc lv (.int x :: st) h Q := fun p e s m args below meth c H locs ls C hW hS hl => lv_if_ge C.1 C.2.1 hdg ht (fun q => kt q p e s m args below meth c H locs ls C hW hS hl) (fun q => kf q p e s m args below meth c H locs ls C hW hS hl)
theorem a_icmp_ge {x y : Int32} {off : Int} {tgt : Nat} (hdg : decode cc pc = .ok (.if_icmp .ge off, 3)) (ht : (pc : Int) + off = (tgt : Int)) (kt : y ≤ x → AW l G d own cc nL ret tgt lv st h Q) (kf : ¬ y ≤ x → AW l G d own cc nL ret (pc + 3) lv st h Q) : AW l G d own cc nL ret pc lv (.int y :: .int x :: st) h Q := fun p e s m args below meth c H locs ls C hW hS hl => lv_icmp_ge C.1 C.2.1 hdg ht (fun q => kt q p e s m args below meth c H locs ls C hW hS hl) (fun q => kf q p e s m args below meth c H locs ls C hW hS hl)
theorem a_if_gt {x : Int32} {off : Int} {tgt : Nat} (hdg : decode cc pc = .ok (.ifCond .gt off, 3)) (ht : (pc : Int) + off = (tgt : Int)) (kt : 0 < x → AW l G d own cc nL ret tgt lv st h Q) (kf : ¬ 0 < x → AW l G d own cc nL ret (pc + 3) lv st h Q) : AW l G d own cc nL ret pc lv (.int x :: st) h Q := fun p e s m args below meth c H locs ls C hW hS hl => lv_if_gt C.1 C.2.1 hdg ht (fun q => kt q p e s m args below meth c H locs ls C hW hS hl) (fun q => kf q p e s m args below meth c H locs ls C hW hS hl)
theorem a_icmp_gt {x y : Int32} {off : Int} {tgt : Nat} (hdg : decode cc pc = .ok (.if_icmp .gt off, 3)) (ht : (pc : Int) + off = (tgt : Int)) (kt : y < x → AW l G d own cc nL ret tgt lv st h Q) (kf : ¬ y < x → AW l G d own cc nL ret (pc + 3) lv st h Q) : AW l G d own cc nL ret pc lv (.int y :: .int x :: st) h Q := fun p e s m args below meth c H locs ls C hW hS hl => lv_icmp_gt C.1 C.2.1 hdg ht (fun q => kt q p e s m args below meth c H locs ls C hW hS hl) (fun q => kf q p e s m args below meth c H locs ls C hW hS hl)
theorem a_if_le {x : Int32} {off : Int} {tgt : Nat} (hdg : decode cc pc = .ok (.ifCond .le off, 3)) (ht : (pc : Int) + off = (tgt : Int)) (kt : x ≤ 0 → AW l G d own cc nL ret tgt lv st h Q) (kf : ¬ x ≤ 0 → AW l G d own cc nL ret (pc + 3) lv st h Q) : AW l G d own cc nL ret pc lv (.int x :: st) h Q := fun p e s m args below meth c H locs ls C hW hS hl => lv_if_le C.1 C.2.1 hdg ht (fun q => kt q p e s m args below meth c H locs ls C hW hS hl) (fun q => kf q p e s m args below meth c H locs ls C hW hS hl)
theorem a_icmp_le {x y : Int32} {off : Int} {tgt : Nat} (hdg : decode cc pc = .ok (.if_icmp .le off, 3)) (ht : (pc : Int) + off = (tgt : Int)) (kt : x ≤ y → AW l G d own cc nL ret tgt lv st h Q) (kf : ¬ x ≤ y → AW l G d own cc nL ret (pc + 3) lv st h Q) : AW l G d own cc nL ret pc lv (.int y :: .int x :: st) h Q := fun p e s m args below meth c H locs ls C hW hS hl => lv_icmp_le C.1 C.2.1 hdg ht (fun q => kt q p e s m args below meth c H locs ls C hW hS hl) (fun q => kf q p e s m args below meth c H locs ls C hW hS hl)
theorem a_if_ne {x : Int32} {off : Int} {tgt : Nat} (hdg : decode cc pc = .ok (.ifCond .ne off, 3)) (ht : (pc : Int) + off = (tgt : Int)) (kt : ¬ x = 0 → AW l G d own cc nL ret tgt lv st h Q) (kf : x = 0 → AW l G d own cc nL ret (pc + 3) lv st h Q) : AW l G d own cc nL ret pc lv (.int x :: st) h Q := fun p e s m args below meth c H locs ls C hW hS hl => lv_if_ne C.1 C.2.1 hdg ht (fun q => kt q p e s m args below meth c H locs ls C hW hS hl) (fun q => kf q p e s m args below meth c H locs ls C hW hS hl)
theorem a_icmp_ne {x y : Int32} {off : Int} {tgt : Nat} (hdg : decode cc pc = .ok (.if_icmp .ne off, 3)) (ht : (pc : Int) + off = (tgt : Int)) (kt : ¬ x = y → AW l G d own cc nL ret tgt lv st h Q) (kf : x = y → AW l G d own cc nL ret (pc + 3) lv st h Q) : AW l G d own cc nL ret pc lv (.int y :: .int x :: st) h Q := fun p e s m args below meth c H locs ls C hW hS hl => lv_icmp_ne C.1 C.2.1 hdg ht (fun q => kt q p e s m args below meth c H locs ls C hW hS hl) (fun q => kf q p e s m args below meth c H locs ls C hW hS hl)
theorem a_goto {off : Int} {tgt : Nat} (hdg : decode cc pc = .ok (.goto off, 3)) (ht : (pc : Int) + off = (tgt : Int)) (k : AW l G d own cc nL ret tgt lv st h Q) : AW l G d own cc nL ret pc lv st h Q := fun p e s m args below meth c H locs ls C hW hS hl => lv_goto C.1 C.2.1 hdg ht (k p e s m args below meth c H locs ls C hW hS hl)
theorem a_tableIn {dflt lo hi off : Int} {offs : Array Int} {len tgt : Nat} {x : Int32} (hdg : decode cc pc = .ok (.tableswitch dflt lo hi offs, len)) (h1 : ¬ x.toInt < lo) (h2 : ¬ hi < x.toInt) (ho : offs[(x.toInt - lo).toNat]? = some off) (ht : (pc : Int) + off = (tgt : Int)) (k : AW l G d own cc nL ret tgt lv st h Q) : AW l G d own cc nL ret pc lv (.int x :: st) h Q := fun p e s m args below meth c H locs ls C hW hS hl => lv_tableIn C.1 C.2.1 hdg h1 h2 ho ht (k p e s m args below meth c H locs ls C hW hS hl)
theorem a_tableOut {dflt lo hi : Int} {offs : Array Int} {len tgt : Nat} {x : Int32} (hdg : decode cc pc = .ok (.tableswitch dflt lo hi offs, len)) (hx : x.toInt < lo ∨ hi < x.toInt) (ht : (pc : Int) + dflt = (tgt : Int)) (k : AW l G d own cc nL ret tgt lv st h Q) : AW l G d own cc nL ret pc lv (.int x :: st) h Q := fun p e s m args below meth c H locs ls C hW hS hl => lv_tableOut C.1 C.2.1 hdg hx ht (k p e s m args below meth c H locs ls C hW hS hl)
theorem a_lookup {dflt off : Int} {ps : Array (Int × Int)} {len tgt : Nat} {x : Int32} (hdg : decode cc pc = .ok (.lookupswitch dflt ps, len)) (hp : (ps.toList.zip (ps.toList.drop 1)).all (fun (a, next) => a.1 < next.1) = true) (ho : Op.lookupswitch.offset ps.toList dflt x.toInt = off) (ht : (pc : Int) + off = (tgt : Int)) (k : AW l G d own cc nL ret tgt lv st h Q) : AW l G d own cc nL ret pc lv (.int x :: st) h Q := fun p e s m args below meth c H locs ls C hW hS hl => lv_lookup C.1 C.2.1 hdg hp ho ht (k p e s m args below meth c H locs ls C hW hS hl)
theorem a_idiv {x y : Int32} (hdg : decode cc pc = .ok (.idiv, 1)) (hne : ¬ y = 0) (k : AW l G d own cc nL ret (pc + 1) lv (.int (x / y) :: st) h Q) : AW l G d own cc nL ret pc lv (.int y :: .int x :: st) h Q := fun p e s m args below meth c H locs ls C hW hS hl => lv_idiv C.1 C.2.1 hdg hne (k p e s m args below meth c H locs ls C hW hS hl)
theorem a_irem {x y : Int32} (hdg : decode cc pc = .ok (.irem, 1)) (hne : ¬ y = 0) (k : AW l G d own cc nL ret (pc + 1) lv (.int (x - x / y * y) :: st) h Q) : AW l G d own cc nL ret pc lv (.int y :: .int x :: st) h Q := fun p e s m args below meth c H locs ls C hW hS hl => lv_irem C.1 C.2.1 hdg hne (k p e s m args below meth c H locs ls C hW hS hl)
theorem a_ldc2 {index : Nat} {v : Int64} (hw : Cond.constantLong own index v ∈ gtbl) (hdg : decode cc pc = .ok (.ldc2_w index, 3)) (k : AW l G d own cc nL ret (pc + 3) lv (.long v :: st) h Q) : AW l G d own cc nL ret pc lv st h Q := fun p e s m args below meth c H locs ls C hW hS hl => lv_ldc2 C.1 C.2.1 C.2.2.2.1 (C.2.2.2.2.1 _ hw) hdg (k p e s m args below meth c H locs ls C hW hS hl)
theorem a_iret {v : Int32} (hdg : decode cc pc = .ok (.ireturn, 1)) (hr : ret = some .int) (hq : Q (some (.int v)) h) : AW l G d own cc nL ret pc lv [.int v] h Q := fun p e s m args below meth c H locs ls C hW hS hl => W.iret C.1 C.2.1 (C.2.2.2.2.2.1.trans hr) (fun t ht _ => ⟨⟨some (.int v), h, rfl, hq, by rw [ht]; exact hW⟩, hS.F ht⟩) hS.2.2 hdg C.2.2.2.2.2.2.1
theorem a_zret {v : Int32} {ty : FieldType} (hdg : decode cc pc = .ok (.ireturn, 1)) (hr : ret = some ty) (hn : narrow ty (.int v) = .int v) (hq : Q (some (.int v)) h) : AW l G d own cc nL ret pc lv [.int v] h Q := fun p e s m args below meth c H locs ls C hW hS hl => W.zret C.1 C.2.1 (C.2.2.2.2.2.1.trans hr) hn (fun t ht _ => ⟨⟨some (.int v), h, rfl, hq, by rw [ht]; exact hW⟩, hS.F ht⟩) hS.2.2 hdg C.2.2.2.2.2.2.1
theorem a_lret {v : Int64} (hdg : decode cc pc = .ok (.lreturn, 1)) (hr : ret = some .long) (hq : Q (some (.long v)) h) : AW l G d own cc nL ret pc lv [.long v] h Q := fun p e s m args below meth c H locs ls C hW hS hl => W.lret C.1 C.2.1 (C.2.2.2.2.2.1.trans hr) (fun t ht _ => ⟨⟨some (.long v), h, rfl, hq, by rw [ht]; exact hW⟩, hS.F ht⟩) hS.2.2 hdg C.2.2.2.2.2.2.1
theorem a_vret (hdg : decode cc pc = .ok (.return_, 1)) (hr : ret = none) (hq : Q none h) : AW l G d own cc nL ret pc lv [] h Q := fun p e s m args below meth c H locs ls C hW hS hl => W.vret C.1 C.2.1 (C.2.2.2.2.2.1.trans hr) (fun t ht _ => ⟨⟨none, h, rfl, hq, by rw [ht]; exact hW⟩, hS.F ht⟩) hS.2.2 hdg C.2.2.2.2.2.2.1
theorem a_iaload {b k n : Nat} {i : Int32} (hdg : decode cc pc = .ok (.iaload, 1)) (hk : kd b k = some (1, n)) (hin : vp_in i n) (kk : AW l G d own cc nL ret (pc + 1) lv (.int (h.1 b k i.toNatClampNeg) :: st) h Q) : AW l G d own cc nL ret pc lv (.int i :: .ref (G.1 b k) :: st) h Q := by
  intro p e s m args below meth c H locs ls C hW hS hl
  have hat := hW.2 b k _ hk
  have hP : va_P G.2.2.1 classes [(G.1 b k, cellE G.1 G.2.2.2.1 h b k (1, n))] H := fun j q hj => by
    cases j with
    | zero => cases hj; exact hat
    | succ j => simp at hj
  exact va_iald C.1 C.2.1 C.2.2.2.2.2.2.2.1 hP 0 0 (n := n) (f := h.1 b k) rfl rfl hin hdg (kk p e s m args below meth c H locs ls C hW hS hl)
theorem a_baload {b k n : Nat} {i : Int32} (hdg : decode cc pc = .ok (.baload, 1)) (hk : kd b k = some (2, n)) (hin : vp_in i n) (kk : AW l G d own cc nL ret (pc + 1) lv (.int (h.1 b k i.toNatClampNeg) :: st) h Q) : AW l G d own cc nL ret pc lv (.int i :: .ref (G.1 b k) :: st) h Q := by
  intro p e s m args below meth c H locs ls C hW hS hl
  have hat := hW.2 b k _ hk
  have hP : va_P G.2.2.1 classes [(G.1 b k, cellE G.1 G.2.2.2.1 h b k (2, n))] H := fun j q hj => by
    cases j with
    | zero => cases hj; exact hat
    | succ j => simp at hj
  exact va_bald C.1 C.2.1 C.2.2.2.2.2.2.2.1 hP 0 1 (n := n) (f := h.1 b k) rfl rfl hin hdg (kk p e s m args below meth c H locs ls C hW hS hl)
theorem a_laload {b k n : Nat} {i : Int32} (hdg : decode cc pc = .ok (.laload, 1)) (hk : kd b k = some (3, n)) (hin : vp_in i n) (kk : AW l G d own cc nL ret (pc + 1) lv (.long (h.2 b k i.toNatClampNeg) :: st) h Q) : AW l G d own cc nL ret pc lv (.int i :: .ref (G.1 b k) :: st) h Q := by
  intro p e s m args below meth c H locs ls C hW hS hl
  have hat := hW.2 b k _ hk
  have hP : va_P G.2.2.1 classes [(G.1 b k, cellE G.1 G.2.2.2.1 h b k (3, n))] H := fun j q hj => by
    cases j with
    | zero => cases hj; exact hat
    | succ j => simp at hj
  exact va_lald C.1 C.2.1 C.2.2.2.2.2.2.2.1 hP 0 2 (n := n) (f := h.2 b k) rfl rfl hin hdg (kk p e s m args below meth c H locs ls C hW hS hl)
theorem a_zaload {b k n : Nat} {i : Int32} (hdg : decode cc pc = .ok (.baload, 1)) (hk : kd b k = some (4, n)) (hin : vp_in i n) (kk : AW l G d own cc nL ret (pc + 1) lv (.int (h.1 b k i.toNatClampNeg) :: st) h Q) : AW l G d own cc nL ret pc lv (.int i :: .ref (G.1 b k) :: st) h Q := by
  intro p e s m args below meth c H locs ls C hW hS hl
  have hat := hW.2 b k _ hk
  have hP : va_P G.2.2.1 classes [(G.1 b k, cellE G.1 G.2.2.2.1 h b k (4, n))] H := fun j q hj => by
    cases j with
    | zero => cases hj; exact hat
    | succ j => simp at hj
  exact va_zald C.1 C.2.1 C.2.2.2.2.2.2.2.1 hP 0 3 (n := n) (f := h.1 b k) rfl rfl hin hdg (kk p e s m args below meth c H locs ls C hW hS hl)
end AROWS
