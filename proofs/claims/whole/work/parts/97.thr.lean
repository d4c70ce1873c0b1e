/-! lorry, home: where they throw -/
section
variable {p : Program} {l : Launch} {e : Env} {R : Room} {s : State} {m : MethodId} {args : Array Value} {below : List Frame} {meth : Method} {c : Code} {H : Heap} {locs : List Loc} {cells slots : Nat} {Q : State → Prop}
variable {mc ms : Nat} {free : Addr → Prop} {A0 A1 : Nat → Prop} {H0 : Heap} {a : Array Value} {ls : Array Slot} {st0 rest : List Value}
variable {Qc : Array Value → State → Outcome → State → Prop} {XC : String → State → State → Prop}
set_option maxHeartbeats 1000000 in
theorem xc_throwW {cc : ByteArray} {pc : Nat} (hexec : p.tables.exec = Jvm.exec) (hb : c.code = cc) (hl : l.stackTraces = false) {own cls C1 text : String} {r : List String} {ik is ic ix mc ms sa : Nat} {rx : ByteArray} (x0 : decode rx 0 = .ok (.aload_n 0, 1)) (x1 : decode rx 1 = .ok (.aload_n 1, 1)) (x2 : decode rx 2 = .ok (.invokespecial ix, 3)) (x5 : decode rx 5 = .ok (.return_, 1)) {A : Nat → Prop}
    (hown : s.vm.findClass own = some m.cls) (hcls : Bundle.fit cls = true) (hC1 : Bundle.fit C1 = true) (hnames : ∀ n ∈ r, Bundle.fit n = true)
    (hk : (Cond.classLink own ik cls).before args s = true) (hini : (Cond.initialized cls).before args s = true) (hstr : vk_R own is text sa s) (hat : ∀ w ∈ (xc_own own ic cls C1 ix rx r).filter vx_no, w.before args s = true)
    (hgood : ∀ w ∈ Cond.classLink own ik cls :: Cond.initialized cls :: (xc_own own ic cls C1 ix rx r).filter vx_no, vx_ot w = true)
    (hU : vx_Zq Bundle.tN "UNASSIGNED_STACK" Bundle.steD A s s.heap) (hN : vx_Zq Bundle.tN "SUPPRESSED_SENTINEL" Bundle.listD A s s.heap) (hS : va_S A s.heap H locs) (hsize : ls.size = c.maxLocals)
    (d0 : decode cc pc = .ok (.new ik, 3)) (d3 : decode cc (pc + 3) = .ok (.dup, 1)) (d4 : decode cc (pc + 4) = .ok (.ldc_w is, 3)) (d7 : decode cc (pc + 7) = .ok (.invokespecial ic, 3)) (d10 : decode cc (pc + 10) = .ok (.athrow, 1))
    (hout : ∀ x ∈ c.exceptionTable.toList, covers x (pc + 10) = false)
    (hRframes : (r.length + 1) + 3 < R.frames) (hRlocals : (rest.map fun v => v.category).sum + (13 * ((r.length + 1) + 1) + 43) ≤ R.locals) (hRcells : cells + 1 ≤ R.cells) (hRslots : slots + 6 ≤ R.slots) (hlocks : meth.locks = false)
    (hx : ∀ t : State, s.vm.Alike t.vm → H.size ≤ t.heap.size → (∀ q : Nat, q < H.size → t.heap[q]? = H[q]?) → XC cls s t)
    (hf : ∀ z ∈ locs, free z.base) (hc : cells + 1 ≤ mc) (hs : slots + 6 ≤ ms) :
    W p l e R s m args below meth c H locs cells slots (vx_MQ below Qc XC args s mc ms free) (F0 m pc ls rest) := by
  intro T hT X
  have htr : e.platform.stackTraces = false := (show e.platform.stackTraces = l.stackTraces by rw [X.admits.platform]).trans hl
  have Y := vx_rebase X (R' := { frames := R.frames, locals := R.locals, cells := 1, slots := 6 }) (Nat.le_refl _) (Nat.le_refl _) hRcells hRslots
  obtain ⟨s', hA⟩ : ∃ z, z = (T.setVm s.vm).setFrames (.invoking m args :: below) := ⟨_, rfl⟩
  rw [← hA] at Y
  have hvm : s'.vm = s.vm := by rw [hA]; rfl
  have hhp : s'.heap = H := by rw [hA]; exact hT
  have hW0 : s.WarmedH s'.vm := by rw [hvm]; exact State.WarmedH.refl s
  have hat' : ∀ w ∈ (xc_own own ic cls C1 ix rx r).filter vx_no, w.before args s' = true := fun w hw => vx_ot_at hW0 hvm.symm (hgood w (List.mem_cons_of_mem _ (List.mem_cons_of_mem _ hw))) (hat w hw)
  have hk' : (Cond.classLink own ik cls).before args s' = true := vx_ot_at hW0 hvm.symm (hgood _ List.mem_cons_self) hk
  have hini' : (Cond.initialized cls).before args s' = true := vx_ot_at hW0 hvm.symm (hgood _ (List.mem_cons_of_mem _ List.mem_cons_self)) hini
  have hU' : vx_Zq Bundle.tN "UNASSIGNED_STACK" Bundle.steD A s' s'.heap := by rw [hhp]; exact vx_Zq.moved hW0.alike (hU.kept hS.2.1)
  have hN' : vx_Zq Bundle.tN "SUPPRESSED_SENTINEL" Bundle.listD A s' s'.heap := by rw [hhp]; exact vx_Zq.moved hW0.alike (hN.kept hS.2.1)
  have h : ∀ w ∈ xc_own own ic cls C1 ix rx r, w.before args s' = true := vx_own hat' (vx_isRefq hU'.1) (vx_isRefq hN'.1) hU'.2.word hN'.2.word
  have hown' : s'.vm.findClass own = some m.cls := by rw [hvm]; exact hown
  have hins : (Cond.instantiable cls 6).before args s' = true := h _ (by simp [xc_own])
  obtain ⟨vm₁, cX, kX, hfX, hkX, -, -, X₁, st1⟩ := Y.newCold hexec (own := own) (C := cls) (index := ik) (n := 6) hown' hk' hins hini'
    (g := F0 m pc ls rest) rfl (by rw [hb]; exact d0) (Nat.le_refl _) (Nat.le_refl _)
  generalize hT1 : (T.setVm vm₁).pushCell { cls := cX, slots := kX.instanceTypes.map defaultValue, vm := .none } = T1 at X₁ st1
  have hcat : (Value.ref T.heap.size).category = 1 := rfl
  have hcellA : T1.heap[T.heap.size]? = some (freshCell cX kX) := by rw [← hT1]; exact State.heap_pushCell_size _ _
  have d3' : decode c.code (pc + 3) = .ok (.dup, 1) := by rw [hb]; exact d3
  have d4' : decode c.code (pc + 4) = .ok (.ldc_w is, 3) := by rw [hb]; exact d4
  have hstr' : vk_R own is text sa s' := vk_R.warm hW0 hstr
  obtain ⟨V, ce, Lq, X₂, hLq, hltV, hclE, hvmE, st2⟩ := xc_made X₁ hexec htr x0 x1 x2 x5 (own := own) (cls := cls) (C1 := C1) (r := r) (ic := ic) hown' hcls hC1 hnames h (fun x hx => nomatch hx) hfX hkX hcellA (by rw [hhp, hT]; exact Nat.le_refl _) (msg := .ref sa) rfl
    (g := { method := m, pc := pc + 7, locals := ls, stack := .ref sa :: .ref T.heap.size :: .ref T.heap.size :: rest, locked := none }) rfl hsize (rest := rest) rfl
    (by rw [hb]; exact d7) hRframes (by simp only [List.map_cons, List.sum_cons, hcat]; omega)
  have X₃ := Stand.forget (locs := []) X₂ (fun y hy => by rw [hLq y hy, hhp, ← hT]; exact Nat.le_refl _)
  obtain ⟨hwalk, hrun, hend, hW, hsame⟩ := X₃.athrowLeaves hexec (g := { method := m, pc := pc + 10, locals := ls, stack := .ref T.heap.size :: rest, locked := none }) rfl rfl rfl hout (a := T.heap.size) (rest := rest) rfl (by rw [hb]; exact d10) hlocks
  obtain ⟨U, hUe⟩ : ∃ z, z = (V.setCell T.heap.size ce).setFrames (Frame.throwing T.heap.size :: below) := ⟨_, rfl⟩
  rw [← hUe] at hwalk hrun hend hW hsame
  have hsteps := st2 _ hwalk
  have hce : U.heap[T.heap.size]? = some ce := by rw [hUe]; exact heapAt_setCell_self (s := V) ce hltV
  obtain ⟨f1, f2⟩ := vx_frame hsame
  rw [hhp] at f1 f2
  have hWs : s.WarmedH U.vm := State.WarmedH.trans hW0 hW
  have hcl : s.vm.findClass cls = some ce.cls := by
    rw [hvm] at hfX
    rw [hclE]
    exact hfX
  have hall : s.sameButNew ({ U with vm := s.vm } : State) locs mc ms := by
    subst hA
    obtain ⟨e1, e2⟩ := hsame
    rw [State.setFrames_setFrames] at e1
    have h2 : (T.setVm s.vm).sameButNew ({ U with vm := s.vm } : State) [] (0 + 1) (0 + 6) := ⟨e1, e2⟩
    have h3 := X.same.trans h2
    rw [List.append_nil] at h3
    exact h3.mono hc hs
  refine ⟨U, ?_, .threw T.heap.size, hrun, hend, Or.inr ⟨T.heap.size, rfl, cls, ce, locs, hx U hWs.alike f1 (fun q hq => f2 q hq (fun z hz => nomatch hz)), hce, hvmE, hcl, hWs, hall, hf⟩⟩
  refine st1 _ ?_
  show Steps p.tables e below (T1.setTop { method := m, pc := pc + 3, locals := ls, stack := .ref T.heap.size :: rest, locked := none }) _
  jvm_step X₁.here [X₁.here.top, hexec, d3', Value.category]
  exact X₁.ldcStringW hexec (own := own) (text := text) (index := is) (a := sa) hown' hstr'.1 hstr'.2
    (g := { method := m, pc := pc + 4, locals := ls, stack := .ref T.heap.size :: .ref T.heap.size :: rest, locked := none }) rfl d4' _ hsteps
end
def xcW : List Cond := (xc_own RX10 177 "java/util/NoSuchElementException" "java/lang/RuntimeException" 13 prog_26_method_4_code ["java/lang/Exception"]).filter vx_no
def xcD : List Cond := [.declares ⟨"java/lang/RuntimeException", "<init>", "(Ljava/lang/String;)V"⟩, .declares ⟨"java/lang/Exception", "<init>", "(Ljava/lang/String;)V"⟩, .declares ⟨"java/lang/Throwable", "<init>", "(Ljava/lang/String;)V"⟩, .castable "java/util/NoSuchElementException" "java/util/NoSuchElementException"]
theorem xcB : ∀ w ∈ xcW.filter (fun w => !goodWord w), w ∈ xcD := by decide +kernel
theorem xcO : ∀ w ∈ Cond.classLink RX10 173 "java/util/NoSuchElementException" :: Cond.initialized "java/util/NoSuchElementException" :: xcW, vx_ot w = true := by decide +kernel
theorem xcG0 : ∀ w ∈ Cond.classLink RX10 173 "java/util/NoSuchElementException" :: Cond.initialized "java/util/NoSuchElementException" :: xcW.filter goodWord, w ∈ lw_tbl ∧ goodWord w = true := by decide +kernel
theorem xcG : ∀ w ∈ Cond.classLink RX10 173 "java/util/NoSuchElementException" :: Cond.initialized "java/util/NoSuchElementException" :: xcW.filter goodWord, w ∈ gtbl := fun w hw => List.mem_filter.mpr (xcG0 w hw)
theorem xc_r0 : decode prog_26_method_4_code 0 = .ok (.aload_n 0, 1) := by decide +kernel
theorem xc_r1 : decode prog_26_method_4_code 1 = .ok (.aload_n 1, 1) := by decide +kernel
theorem xc_r2 : decode prog_26_method_4_code 2 = .ok (.invokespecial 13, 3) := by decide +kernel
theorem xc_r5 : decode prog_26_method_4_code 5 = .ok (.return_, 1) := by decide +kernel
/-- what a throw asks of what stood there before -/
def XF (G : GG) (U : State) : Prop := (∀ w ∈ xcD, va_Nw w U) ∧ vx_Zq Bundle.tN "UNASSIGNED_STACK" Bundle.steD (Alo G) U U.heap ∧ vx_Zq Bundle.tN "SUPPRESSED_SENTINEL" Bundle.listD (Alo G) U U.heap
theorem xcD_w {s U : State} (hW : s.WarmedH U.vm) (h : ∀ w ∈ xcD, va_Nw w s) : ∀ w ∈ xcD, va_Nw w U := by
  intro w hw
  have := h w hw
  simp only [xcD, List.mem_cons, List.not_mem_nil, or_false] at hw
  rcases hw with rfl | rfl | rfl | rfl
  · exact va_Nw.warmD hW this
  · exact va_Nw.warmD hW this
  · exact va_Nw.warmD hW this
  · exact va_Nw.warmC hW this
theorem xcD_t : ∀ w ∈ xcD, w.onTables = true := by decide +kernel
theorem XF.warm {G : GG} {s U : State} (hW : s.WarmedH U.vm) (hq : ∀ a : Nat, a < s.heap.size → ¬ Alo G a → U.heap[a]? = s.heap[a]?) (h : XF G s) : XF G U :=
  ⟨xcD_w hW h.1, vx_Zq.kept (vx_Zq.moved hW.alike h.2.1) hq, vx_Zq.kept (vx_Zq.moved hW.alike h.2.2) hq⟩
theorem XF.blind {G : GG} {U : State} {g : JFrame} {mk : MethodId} {a : Array Value} (h : XF G U) : XF G (U.calling g mk a) :=
  ⟨xcD_w (s := U) (U := U.calling g mk a) (State.WarmedH.refl U) h.1, vx_Zq.moved (Vm.Alike.refl U.vm) h.2.1, vx_Zq.moved (Vm.Alike.refl U.vm) h.2.2⟩
def preX (G : GG) (h : AH) (U : State) : Prop := preA G h U ∧ XF G U
def rmX : Room := { frames := 6, cells := 1, slots := 6, locals := 100 }
def XCx (G : GG) (h : AH) : String → State → State → Prop := fun E st t => E = "java/util/NoSuchElementException" ∧ Wd G h t.heap ∧ va_F (Alo G) st t
/-- a call that throws and leaves the cells as they are -/
def TC (l : Launch) (G : GG) (y : MethodName) (cc : ByteArray) (nL : Nat) (ret : Option FieldType) (av : List Value) (h : AH) : Prop :=
  vx_Met l y (Cond.code y cc nL ret :: gtbl) rmX (va_Pc av (preX G h)) (fun _ _ _ _ => False) (XCx G h) 1 6 (Alo G)
def ETh (G : GG) (h : AH) : List Frame → Array Value → State → State → Prop := fun below args s => vx_MQ below (fun _ _ _ _ => False) (XCx G h) args s 1 6 (Alo G)
def ZTh (G : GG) : Array Value → State → Code → Prop := fun _ s c => XF G s ∧ ∀ x ∈ c.exceptionTable.toList, False
theorem TC.of {l : Launch} {G : GG} {y : MethodName} {cc : ByteArray} {nL : Nat} {ret : Option FieldType} {av : List Value} {h : AH} (hy : plainName y.cls = true) (hn : (lg_sl av).length ≤ nL) (K : AG l G rmX (ETh G h) (ZTh G) y.cls cc nL ret 0 0 0 (ent av) [] h ()) : TC l G y cc nL ret av h := by
  refine vx_ofW (cc := cc) (maxL := nL) (ret := ret) hy rfl ?_
  intro p e s m args below meth c s₁ B hml hx hv0
  obtain ⟨rfl, ⟨hlo, hW, hK, hSF⟩, hXF⟩ := hv0
  have hts := atoms_spec (ws := Cond.code y cc nL ret :: gtbl) B.pre
  have hl := lv_entry av (n := nL) hn
  rw [lg_entry_eq]
  refine K p e s m _ below meth c s.heap [] _ ⟨B.exec, B.bytes, hml, findClass_of_methodNamed B.named, fun w hw => hts w (List.mem_cons_of_mem _ hw), B.returns, B.notSynchronized, hK, hSF, hlo⟩ ⟨hXF, hx⟩ hW va_S.rf ?_
  exact hv_iff.mpr ⟨hl.1, hl.2.1, fun q hq => hl.2.2 q (ent_args av 0 q hq)⟩
theorem Wd.ext {G : GG} {h : AH} {H H1 : Heap} (hW : Wd G h H) (he : ∀ q : Nat, q < H.size → H1[q]? = H[q]?) : Wd G h H1 := by
  refine ⟨hW.1, fun b k q hk => ?_⟩
  have hat := hW.2 b k q hk
  exact hat.kept (he _ hat.lt)
section
variable {l : Launch} {G : GG} {cc : ByteArray} {nL : Nat} {ret : Option FieldType} {pc : Nat} {lv : List (Option Value)} {h : AH}
theorem g_throw {i is : Nat} {tx : String} (hi : i < 10) (ho : ownS i = RX10) (his : idxS.getD i 0 = is) (htx : txtS.getD i "" = tx) (hl : l.stackTraces = false) (d0 : decode cc pc = .ok (.new 173, 3)) (d3 : decode cc (pc + 3) = .ok (.dup, 1)) (d4 : decode cc (pc + 4) = .ok (.ldc is, 2)) (d6 : decode cc (pc + 6) = .ok (.invokespecial 177, 3)) (d9 : decode cc (pc + 9) = .ok (.athrow, 1)) :
    AG l G rmX (ETh G h) (ZTh G) RX10 cc nL ret 0 0 pc lv [] h () := by
  intro p e s m args below meth c H locs ls C hZ hW hS hlv
  have hts := C.2.2.2.2.1
  have hstr := C.2.2.2.2.2.2.2.2.1.2.2.2.2.2.2.2 i hi
  rw [ho, his, htx] at hstr
  have hat : ∀ w ∈ xcW, w.before args s = true := vx_hat (fun w hw => hts w (xcG w (List.mem_cons_of_mem _ (List.mem_cons_of_mem _ hw)))) xcB (fun w hw => va_tabs (xcD_t w hw) rfl (hZ.1.1 w hw))
  exact xc_throw C.1 C.2.1 hl xc_r0 xc_r1 xc_r2 xc_r5 C.2.2.2.1 (by decide) (by decide) (by decide) (hts _ (xcG _ List.mem_cons_self)) (hts _ (xcG _ (List.mem_cons_of_mem _ List.mem_cons_self))) hstr hat xcO hZ.1.2.1 hZ.1.2.2 hS (hlv.1.trans C.2.2.1.symm) d0 d3 d4 d6 d9 (fun x hx => (hZ.2 x hx).elim) (by decide) (by decide) (by decide) (by decide) C.2.2.2.2.2.2.1
    (fun t _ hz he => ⟨rfl, hW.ext he, Nat.le_trans hS.1 hz, fun q h1 h2 => (he q (Nat.lt_of_lt_of_le h1 hS.1)).trans (hS.2.1 q h1 h2)⟩) hS.2.2 (by decide) (by decide)
theorem g_throwW {i is : Nat} {tx : String} (hi : i < 10) (ho : ownS i = RX10) (his : idxS.getD i 0 = is) (htx : txtS.getD i "" = tx) (hl : l.stackTraces = false) (d0 : decode cc pc = .ok (.new 173, 3)) (d3 : decode cc (pc + 3) = .ok (.dup, 1)) (d4 : decode cc (pc + 4) = .ok (.ldc_w is, 3)) (d6 : decode cc (pc + 7) = .ok (.invokespecial 177, 3)) (d9 : decode cc (pc + 10) = .ok (.athrow, 1)) :
    AG l G rmX (ETh G h) (ZTh G) RX10 cc nL ret 0 0 pc lv [] h () := by
  intro p e s m args below meth c H locs ls C hZ hW hS hlv
  have hts := C.2.2.2.2.1
  have hstr := C.2.2.2.2.2.2.2.2.1.2.2.2.2.2.2.2 i hi
  rw [ho, his, htx] at hstr
  have hat : ∀ w ∈ xcW, w.before args s = true := vx_hat (fun w hw => hts w (xcG w (List.mem_cons_of_mem _ (List.mem_cons_of_mem _ hw)))) xcB (fun w hw => va_tabs (xcD_t w hw) rfl (hZ.1.1 w hw))
  exact xc_throwW C.1 C.2.1 hl xc_r0 xc_r1 xc_r2 xc_r5 C.2.2.2.1 (by decide) (by decide) (by decide) (hts _ (xcG _ List.mem_cons_self)) (hts _ (xcG _ (List.mem_cons_of_mem _ List.mem_cons_self))) hstr hat xcO hZ.1.2.1 hZ.1.2.2 hS (hlv.1.trans C.2.2.1.symm) d0 d3 d4 d6 d9 (fun x hx => (hZ.2 x hx).elim) (by decide) (by decide) (by decide) (by decide) C.2.2.2.2.2.2.1
    (fun t _ hz he => ⟨rfl, hW.ext he, Nat.le_trans hS.1 hz, fun q h1 h2 => (he q (Nat.lt_of_lt_of_le h1 hS.1)).trans (hS.2.1 q h1 h2)⟩) hS.2.2 (by decide) (by decide)
end
