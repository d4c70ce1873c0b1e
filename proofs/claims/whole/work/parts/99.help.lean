/-! the law's two helpers, which catch -/
def RL : String := "PermitOfficeLaw"
abbrev cL_lorry : ByteArray := method_3_code
def yL_lorry : MethodName := ⟨RL, "lorry", "(LPermitOffice;II[J)I"⟩
abbrev cL_home : ByteArray := method_4_code
def yL_home : MethodName := ⟨RL, "home", "(LPermitOffice;I[J)I"⟩
abbrev cL_law : ByteArray := code
def yL_law : MethodName := ⟨RL, "law", "([I)Z"⟩
theorem dL_lorry_0 : decode cL_lorry 0 = .ok (.aload_n 3, 1) := by decide +kernel
theorem dL_lorry_1 : decode cL_lorry 1 = .ok (.iconst 0, 1) := by decide +kernel
theorem dL_lorry_2 : decode cL_lorry 2 = .ok (.aload_n 0, 1) := by decide +kernel
theorem dL_lorry_3 : decode cL_lorry 3 = .ok (.iload_n 1, 1) := by decide +kernel
theorem dL_lorry_4 : decode cL_lorry 4 = .ok (.iload_n 2, 1) := by decide +kernel
theorem dL_lorry_5 : decode cL_lorry 5 = .ok (.invokevirtual 7, 3) := by decide +kernel
theorem dL_lorry_8 : decode cL_lorry 8 = .ok (.i2l, 1) := by decide +kernel
theorem dL_lorry_9 : decode cL_lorry 9 = .ok (.lastore, 1) := by decide +kernel
theorem dL_lorry_10 : decode cL_lorry 10 = .ok (.goto 7, 3) := by decide +kernel
theorem dL_lorry_13 : decode cL_lorry 13 = .ok (.astore 4, 2) := by decide +kernel
theorem dL_lorry_15 : decode cL_lorry 15 = .ok (.iconst 1, 1) := by decide +kernel
theorem dL_lorry_16 : decode cL_lorry 16 = .ok (.ireturn, 1) := by decide +kernel
theorem dL_lorry_17 : decode cL_lorry 17 = .ok (.iconst 0, 1) := by decide +kernel
theorem dL_lorry_18 : decode cL_lorry 18 = .ok (.ireturn, 1) := by decide +kernel
theorem dL_home_0 : decode cL_home 0 = .ok (.aload_n 2, 1) := by decide +kernel
theorem dL_home_1 : decode cL_home 1 = .ok (.iconst 0, 1) := by decide +kernel
theorem dL_home_2 : decode cL_home 2 = .ok (.aload_n 0, 1) := by decide +kernel
theorem dL_home_3 : decode cL_home 3 = .ok (.iload_n 1, 1) := by decide +kernel
theorem dL_home_4 : decode cL_home 4 = .ok (.invokevirtual 15, 3) := by decide +kernel
theorem dL_home_7 : decode cL_home 7 = .ok (.i2l, 1) := by decide +kernel
theorem dL_home_8 : decode cL_home 8 = .ok (.lastore, 1) := by decide +kernel
theorem dL_home_9 : decode cL_home 9 = .ok (.goto 6, 3) := by decide +kernel
theorem dL_home_12 : decode cL_home 12 = .ok (.astore_n 3, 1) := by decide +kernel
theorem dL_home_13 : decode cL_home 13 = .ok (.iconst 1, 1) := by decide +kernel
theorem dL_home_14 : decode cL_home 14 = .ok (.ireturn, 1) := by decide +kernel
theorem dL_home_15 : decode cL_home 15 = .ok (.iconst 0, 1) := by decide +kernel
theorem dL_home_16 : decode cL_home 16 = .ok (.ireturn, 1) := by decide +kernel
theorem Ct.weak {l : Launch} {G : GG} {d : Nat} {y : MethodName} {cc : ByteArray} {nL : Nat} {ret : Option FieldType} {av : List Value} {h : AH} {Q Q' : Option Value → AH → Prop} (hC : Ct l G d y cc nL ret av h Q) (hq : ∀ v h', Q v h' → Q' v h') : Ct l G d y cc nL ret av h Q' := by
  unfold Ct Met at hC ⊢
  exact MetFree.mono hC (fun _ _ z => z) (fun _ _ _ _ _ z => z) (fun a s o s' _ z => by
    obtain ⟨⟨⟨v, h', a1, a2, a3⟩, a4⟩, a5⟩ := z
    exact ⟨⟨⟨v, h', a1, hq v h' a2, a3⟩, a4⟩, a5⟩)
theorem preX_blind {G : GG} {h : AH} {av : List Value} : FrameBlind (va_Pc av (preX G h)) := fun a U g mk q => ⟨q.1, ⟨q.2.1.1, q.2.1.2.1, va_K.moved (u := U) (U := U.calling g mk a) (Vm.Alike.refl U.vm) q.2.1.2.2.1, q.2.1.2.2.2.blind⟩, q.2.2.blind⟩
section
variable {l : Launch} {G : GG} {R : Room} {E : List Frame → Array Value → State → State → Prop} {Z : Array Value → State → Code → Prop} {own : String} {cc : ByteArray} {nL : Nat} {ret : Option FieldType} {cells slots pc : Nat} {lv : List (Option Value)} {st : List Value} {h : AH} {Q : Unit}
theorem preX_at {s U : State} {args : Array Value} {H : Heap} {locs : List Loc} {p : Program} {m : MethodId} {meth : Method} {c : Code} (C : Cx G own cc nL ret p s m args meth c) (hX : XF G s) (hW : Wd G h H) (hS : va_S (Alo G) s.heap H locs) (hU : U.heap = H) (hw : s.WarmedH U.vm) : preX G h U :=
  ⟨preA_at C hW hS hU hw, hX.warm hw (fun a h1 h2 => by rw [hU]; exact hS.2.1 a h1 h2)⟩
/-- a call that throws, caught here -/
theorem g_catchV {index b k ci N : Nat} {y : MethodName} {cy : ByteArray} {ny : Nat} {ry : Option FieldType} {As rest : List Value} {T : u_T} {x : ExceptionTableEntry} (hdg : decode cc pc = .ok (.invokevirtual index, 3)) (hl : Cond.methodLink own index y ∈ gtbl) (hw : WV y cy ny ry As.length) (hk : kd b k = some (0, ci)) (hc : classes[ci]? = some (y.cls, T, N)) (hr : (rest.map fun v => v.category).sum ≤ 8)
    (hM : TC l G y cy ny ry (.ref (G.1 b k) :: As) h) (hx : covers x pc = true) (h0 : x.catchType ≠ 0) (hlk : Cond.classLink own x.catchType "java/util/NoSuchElementException" ∈ gtbl) (hZ0 : ∀ args s c, Z args s c → XF G s ∧ c.exceptionTable.toList = [x])
    (hR : rmX.frames + 1 ≤ R.frames ∧ 8 + (ny + 11) + rmX.locals ≤ R.locals) (hf : cells + 1 ≤ R.cells ∧ slots + 6 ≤ R.slots)
    (kk : ∀ q, AG l G R E Z own cc nL ret (cells + 1) (slots + 6) x.handlerPc lv [.ref q] h Q) : AG l G R E Z own cc nL ret cells slots pc lv (As.reverse ++ .ref (G.1 b k) :: rest) h Q := by
  intro p e s m args below meth c H locs ls C hZ hW hS hlv T0 hT X
  have hts := C.2.2.2.2.1
  obtain ⟨hXF, htab⟩ := hZ0 _ _ _ hZ
  obtain ⟨⟨h1, h2, h3, h4⟩, h5, h6⟩ := hw
  have run := vx_runV (p := p) (e := e) (below := below) (meth := meth) (locs := locs) (g := F0 m pc ls (As.reverse ++ .ref (G.1 b k) :: rest)) (As := As) (rest := rest) (cells := cells) (slots := slots) (R := R) ⟨C.1, C.2.1, C.2.2.1, C.2.2.2.1, hts⟩ hM ⟨callB_of As.length hts (good_tbl h1) rfl rfl rfl (hts _ h2) (hts _ hl) h4 hR, hts _ h5, hts _ h6⟩ ⟨preX_blind, va_recv C.2.2.2.2.2.2.2.1 (hW.P hk) hc (q0 := 0) rfl, fun U hU hwU => ⟨rfl, preX_at C hXF hW hS hU hwU⟩⟩ rfl rfl hlv.1 rfl (lv_room hr) hdg hf
  rcases run T0 hT X with ⟨v, st₀, t, T', L, e0, X', hL, e1, e2, hF, stp⟩ | ⟨q, st₀, t, T', L, E', ce, e0, X', hL, e1, e2, ⟨rfl, hW', hF⟩, hce, hcv, hcl, stp⟩
  · exact hF.elim
  · have hS' : va_S (Alo G) s.heap T'.heap (locs ++ L) := by
      obtain ⟨hz, hk⟩ := hF
      rw [e0] at hz hk
      refine ⟨Nat.le_trans hS.1 (by rw [e1]; exact hz), fun q h1 h2 => by rw [e1, hk q (Nat.lt_of_lt_of_le h1 hS.1) h2]; exact hS.2.1 q h1 h2, fun q hq => ?_⟩
      rcases List.mem_append.mp hq with h | h
      · exact hS.2.2 q h
      · exact hL q h
    have hcat : vx_W p l e R s m args below meth c T'.heap (locs ++ L) (cells + 1) (slots + 6) (E below args s) (F0 m pc ls rest) q :=
      vx_catch C.2.2.2.1 [] x [] htab (fun z hz => nomatch hz) hx h0 (hts _ hlk) (va_tabs (c := .castable "java/util/NoSuchElementException" "java/util/NoSuchElementException") rfl rfl (hXF.1 _ (by simp [xcD]))) (by rw [e1]; exact hce) hcv hcl
        (kk q p e s m args below meth c T'.heap (locs ++ L) ls C hZ (by rw [e1]; exact hW') hS' hlv)
    obtain ⟨t2, a1, b1⟩ := hcat T' rfl X'
    exact ⟨t2, stp.trans a1, b1⟩
end
def rmH : Room := { frames := 7, cells := 1, slots := 6, locals := 160 }
def EHc (G : GG) (P : Option Value → AH → Prop) : List Frame → Array Value → State → State → Prop := fun below args s => MQ below (QA G P) args s 1 6 (Alo G)
def ZHc (G : GG) (hh : List (Nat × Nat × Nat × Nat)) : Array Value → State → Code → Prop := fun _ s c => XF G s ∧ c.exceptionTable.toList = tableOf hh
/-- a helper's contract -/
def HC (l : Launch) (G : GG) (y : MethodName) (cc : ByteArray) (nL : Nat) (hh : List (Nat × Nat × Nat × Nat)) (av : List Value) (h : AH) (P : Option Value → AH → Prop) : Prop :=
  Met l y (Cond.codeWith y cc nL (some .int) hh :: gtbl) rmH (va_Pc av (preX G h)) (QA G P) 1 6 (Alo G)
theorem HC.of {l : Launch} {G : GG} {y : MethodName} {cc : ByteArray} {nL : Nat} {hh : List (Nat × Nat × Nat × Nat)} {av : List Value} {h : AH} {P : Option Value → AH → Prop} (hy : plainName y.cls = true) (hn : (lg_sl av).length ≤ nL) (K : AG l G rmH (EHc G P) (ZHc G hh) y.cls cc nL (some .int) 0 0 0 (ent av) [] h ()) : HC l G y cc nL hh av h P := by
  refine va_MetW (cc := cc) (maxL := nL) (ret := some .int) (hh := hh) hy rfl ?_
  intro p e s m args below meth c s₁ B hml hv0
  obtain ⟨rfl, ⟨hlo, hW, hK, hSF⟩, hXF⟩ := hv0
  have hts := atoms_spec (ws := Cond.codeWith y cc nL (some .int) hh :: gtbl) B.pre
  have hl := lv_entry av (n := nL) hn
  rw [lg_entry_eq]
  refine K p e s m _ below meth c s.heap [] _ ⟨B.exec, B.bytes, hml, findClass_of_methodNamed B.named, fun w hw => hts w (List.mem_cons_of_mem _ hw), B.returns, B.notSynchronized, hK, hSF, hlo⟩ ⟨hXF, vx_table (x := y) B (hts _ List.mem_cons_self)⟩ hW va_S.rf ?_
  exact hv_iff.mpr ⟨hl.1, hl.2.1, fun q hq => hl.2.2 q (ent_args av 0 q hq)⟩
theorem g_retH {l : Launch} {G : GG} {R : Room} {Z : Array Value → State → Code → Prop} {own : String} {cc : ByteArray} {nL cells slots pc : Nat} {lv : List (Option Value)} {h : AH} {P : Option Value → AH → Prop} {v : Int32} (hdg : decode cc pc = .ok (.ireturn, 1)) (h1 : cells ≤ 1) (h6 : slots ≤ 6) (hq : P (some (.int v)) h) : AG l G R (EHc G P) Z own cc nL (some .int) cells slots pc lv [.int v] h () := fun p e s m args below meth c H locs ls C hZ hW hS hl =>
  W.widen h1 h6 (W.iret C.1 C.2.1 C.2.2.2.2.2.1 (fun t ht _ => ⟨⟨some (.int v), h, rfl, hq, by rw [ht]; exact hW⟩, hS.F ht⟩) hS.2.2 hdg C.2.2.2.2.2.2.1)
theorem hlkL : Cond.classLink RL 13 "java/util/NoSuchElementException" ∈ gtbl := memI 941 (by decide +kernel) (by decide +kernel)
theorem ml_L_7 : Cond.methodLink RL 7 yX10_lorry ∈ gtbl := memI 942 (by decide +kernel) (by decide +kernel)
theorem ml_L_15 : Cond.methodLink RL 15 yX10_home ∈ gtbl := memI 1015 (by decide +kernel) (by decide +kernel)
theorem wv_10_lorry : WV yX10_lorry cX10_lorry 4 (some .int) 2 := ⟨⟨memI 945 (by decide +kernel) (by decide +kernel), memI 69 (by decide +kernel) (by decide +kernel), by decide, by decide +kernel⟩, memI 943 (by decide +kernel) (by decide +kernel), memI 944 (by decide +kernel) (by decide +kernel)⟩
theorem wv_10_home : WV yX10_home cX10_home 3 (some .int) 1 := ⟨⟨memI 1018 (by decide +kernel) (by decide +kernel), memI 69 (by decide +kernel) (by decide +kernel), by decide, by decide +kernel⟩, memI 1016 (by decide +kernel) (by decide +kernel), memI 1017 (by decide +kernel) (by decide +kernel)⟩
def hhL : List (Nat × Nat × Nat × Nat) := [(0, 10, 13, 13)]
def hhH : List (Nat × Nat × Nat × Nat) := [(0, 9, 12, 13)]
theorem rmH_ok {d ny : Nat} (hd : d ≤ 3) (hn : ny ≤ 15) : RmOk rmH 0 0 d ny := ⟨by show d < 7; omega, by show 8 + (ny + 11) + 36 * d ≤ 160; omega, Nat.zero_le _, Nat.zero_le _⟩
/-- the helper of the law: 0 and the answer, or 1; then the reference -/
theorem hc_lorry {l : Launch} {G : GG} {h : AH} {B : Nat} {x y : Int32} (hl : l.stackTraces = false) (hC : CPL h B) (h9 : B + 9 ≤ 9000) : HC l G yL_lorry cL_lorry 5 hhL [.ref (G.1 0 0), .int x, .int y, .ref (G.1 4 0)] h
    (fun v h1 => ∃ f : Int32, v = some (.int f) ∧ (f = 0 ∨ f = 1) ∧ Ct l G 2 yX11_lorry cX11_lorry 3 (some .int) [.ref (G.1 3 0), .int x, .int y] h1 (fun v2 h2 => ∃ r : Int32, v2 = some (.int r) ∧ h2.1 3 0 0 = f ∧ (f = 0 → h2.2 4 0 0 = r.toInt64) ∧ CPL h2 (B + 9))) := by
  refine HC.of (by decide) (Nat.le_of_ble_eq_true rfl) ?_
  show AG l G rmH _ (ZHc G hhL) RL cL_lorry 5 (some .int) 0 0 0 [some (.ref (G.1 0 0)), some (.int x), some (.int y), some (.ref (G.1 4 0))] [] h ()
  refine g_aload_n dL_lorry_0 rfl ?_
  refine g_iconst (v := 0) dL_lorry_1 (by decide) ?_
  refine g_aload_n dL_lorry_2 rfl ?_
  refine g_iload_n dL_lorry_3 rfl ?_
  refine g_iload_n dL_lorry_4 rfl ?_
  rcases pair_lorry (l := l) (G := G) hC h9 (x := x) (y := y) with ⟨r, h1, c1, c2⟩ | ⟨hT, c2⟩
  · refine g_callV (As := [.int x, .int y]) (rest := [.int 0, .ref (G.1 4 0)]) (b := 0) (k := 0) dL_lorry_5 ml_L_7 wv_10_lorry rfl rfl (rmH_ok (by decide) (by decide)) (Nat.le_of_ble_eq_true rfl) c1 (fun v h' q => ?_)
    obtain ⟨rfl, rfl⟩ := q
    refine g_i2l dL_lorry_8 ?_
    refine g_lastore (b := 4) (k := 0) (n := 1) dL_lorry_9 rfl (by rw [vp_in_iff]; decide) ?_
    refine g_goto dL_lorry_10 (tgt := 17) (by decide) ?_
    refine g_iconst (v := 0) dL_lorry_17 (by decide) ?_
    refine g_retH dL_lorry_18 (by decide) (by decide) ⟨0, rfl, Or.inl rfl, ?_⟩
    refine Ct.weak (c2 r.toInt64) (fun v2 h2 q => ⟨r, q.1, q.2.1, fun _ => q.2.2.1, q.2.2.2⟩)
  · refine g_catchV (As := [.int x, .int y]) (rest := [.int 0, .ref (G.1 4 0)]) (b := 0) (k := 0) (x := ⟨0, 10, 13, 13⟩) dL_lorry_5 ml_L_7 wv_10_lorry rfl rfl (Nat.le_of_ble_eq_true rfl) (tc_lorry hl hT) (by decide) (by decide) hlkL (fun _ _ _ q => q) (by decide) (by decide) (fun q => ?_)
    refine g_astore dL_lorry_13 (by decide) rfl ?_
    refine g_iconst (v := 1) dL_lorry_15 (by decide) ?_
    refine g_retH dL_lorry_16 (by decide) (by decide) ⟨1, rfl, Or.inr rfl, ?_⟩
    refine Ct.weak c2 (fun v2 h2 q => ?_)
    obtain ⟨⟨r, q1⟩, q2, q3⟩ := q
    exact ⟨r, q1, q2, fun z => absurd z (by decide), q3⟩
theorem hc_home {l : Launch} {G : GG} {h : AH} {B : Nat} {x : Int32} (hl : l.stackTraces = false) (hC : CPL h B) (h9 : B + 9 ≤ 9000) : HC l G yL_home cL_home 4 hhH [.ref (G.1 0 0), .int x, .ref (G.1 4 0)] h
    (fun v h1 => ∃ f : Int32, v = some (.int f) ∧ (f = 0 ∨ f = 1) ∧ Ct l G 2 yX11_home cX11_home 6 (some .int) [.ref (G.1 3 0), .int x] h1 (fun v2 h2 => ∃ r : Int32, v2 = some (.int r) ∧ h2.1 3 0 0 = f ∧ (f = 0 → h2.2 4 0 0 = r.toInt64) ∧ CPL h2 (B + 9))) := by
  refine HC.of (by decide) (Nat.le_of_ble_eq_true rfl) ?_
  show AG l G rmH _ (ZHc G hhH) RL cL_home 4 (some .int) 0 0 0 [some (.ref (G.1 0 0)), some (.int x), some (.ref (G.1 4 0))] [] h ()
  refine g_aload_n dL_home_0 rfl ?_
  refine g_iconst (v := 0) dL_home_1 (by decide) ?_
  refine g_aload_n dL_home_2 rfl ?_
  refine g_iload_n dL_home_3 rfl ?_
  rcases pair_home (l := l) (G := G) hC h9 (x := x) with ⟨r, h1, c1, c2⟩ | ⟨hT, c2⟩
  · refine g_callV (As := [.int x]) (rest := [.int 0, .ref (G.1 4 0)]) (b := 0) (k := 0) dL_home_4 ml_L_15 wv_10_home rfl rfl (rmH_ok (by decide) (by decide)) (Nat.le_of_ble_eq_true rfl) c1 (fun v h' q => ?_)
    obtain ⟨rfl, rfl⟩ := q
    refine g_i2l dL_home_7 ?_
    refine g_lastore (b := 4) (k := 0) (n := 1) dL_home_8 rfl (by rw [vp_in_iff]; decide) ?_
    refine g_goto dL_home_9 (tgt := 15) (by decide) ?_
    refine g_iconst (v := 0) dL_home_15 (by decide) ?_
    refine g_retH dL_home_16 (by decide) (by decide) ⟨0, rfl, Or.inl rfl, ?_⟩
    refine Ct.weak (c2 r.toInt64) (fun v2 h2 q => ⟨r, q.1, q.2.1, fun _ => q.2.2.1, q.2.2.2⟩)
  · refine g_catchV (As := [.int x]) (rest := [.int 0, .ref (G.1 4 0)]) (b := 0) (k := 0) (x := ⟨0, 9, 12, 13⟩) dL_home_4 ml_L_15 wv_10_home rfl rfl (Nat.le_of_ble_eq_true rfl) (tc_home hl hT) (by decide) (by decide) hlkL (fun _ _ _ q => q) (by decide) (by decide) (fun q => ?_)
    refine g_astore_n dL_home_12 (by decide) rfl ?_
    refine g_iconst (v := 1) dL_home_13 (by decide) ?_
    refine g_retH dL_home_14 (by decide) (by decide) ⟨1, rfl, Or.inr rfl, ?_⟩
    refine Ct.weak c2 (fun v2 h2 q => ?_)
    obtain ⟨⟨r, q1⟩, q2, q3⟩ := q
    exact ⟨r, q1, q2, fun z => absurd z (by decide), q3⟩
