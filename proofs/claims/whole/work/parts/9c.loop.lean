/-! the law's loop -/
theorem lg_cmp_self (x : Int64) : lg_cmp x x = 0 := by
  unfold lg_cmp
  simp
theorem h4_lorry : yL_lorry.cls ≠ "java/lang/invoke/MethodHandle" ∧ yL_lorry.cls ≠ "java/lang/invoke/VarHandle" ∧ (parseMethodDescriptor yL_lorry.desc).map (fun d => d.parameters.length) = some 4 := by decide +kernel
theorem h4_home : yL_home.cls ≠ "java/lang/invoke/MethodHandle" ∧ yL_home.cls ≠ "java/lang/invoke/VarHandle" ∧ (parseMethodDescriptor yL_home.desc).map (fun d => d.parameters.length) = some 3 := by decide +kernel
section
variable {l : Launch} {G : GG} {R : Room} {E : List Frame → Array Value → State → State → Prop} {Z : Array Value → State → Code → Prop} {own : String} {cc : ByteArray} {nL : Nat} {ret : Option FieldType} {cells slots pc : Nat} {lv : List (Option Value)} {st : List Value} {h : AH} {Q : Unit}
theorem good_tblW {y : MethodName} {cy : ByteArray} {ny : Nat} {ry : Option FieldType} {hh : List (Nat × Nat × Nat × Nat)} (hc : Cond.codeWith y cy ny ry hh ∈ gtbl) : GoodIn gtbl (Cond.codeWith y cy ny ry hh :: gtbl) := by
  have key : ∀ w ∈ gtbl, w ∈ gtbl ∧ ((w.onTables && w.keeps) = true ∨ ∃ ty, w = .arrayClass ty) := fun w hw => ⟨hw, good_of_word (List.mem_filter.mp hw).2⟩
  intro w hw
  rcases List.mem_cons.mp hw with rfl | h
  · exact key _ hc
  · exact key _ h
theorem g_weak {lv' : List (Option Value)} (hlv : ∀ i v, lget lv' i = some v → lget lv i = some v) (kk : AG l G R E Z own cc nL ret cells slots pc lv' st h Q) : AG l G R E Z own cc nL ret cells slots pc lv st h Q := fun p e s m args below meth c H locs ls C hZ hW hS hl =>
  kk p e s m args below meth c H locs ls C hZ hW hS ⟨hl.1, hl.2.1, fun i v q => hl.2.2 i v (hlv i v q)⟩
theorem g_widen {cells' slots' : Nat} (h1 : cells ≤ cells') (h2 : slots ≤ slots') (kk : AG l G R E Z own cc nL ret cells' slots' pc lv st h Q) : AG l G R E Z own cc nL ret cells slots pc lv st h Q := fun p e s m args below meth c H locs ls C hZ hW hS hl =>
  W.widen h1 h2 (kk p e s m args below meth c H locs ls C hZ hW hS hl)
theorem g_callH {index : Nat} {y : MethodName} {cy : ByteArray} {ny : Nat} {hh : List (Nat × Nat × Nat × Nat)} {As rest : List Value} {P : Option Value → AH → Prop} (hdg : decode cc pc = .ok (.invokestatic index, 3)) (hl : Cond.methodLink own index y ∈ gtbl) (hcw : Cond.codeWith y cy ny (some .int) hh ∈ gtbl) (hst : Cond.static y ∈ gtbl) (hin : Cond.initialized y.cls ∈ gtbl)
    (h4 : y.cls ≠ "java/lang/invoke/MethodHandle" ∧ y.cls ≠ "java/lang/invoke/VarHandle" ∧ (parseMethodDescriptor y.desc).map (fun d => d.parameters.length) = some As.length) (hR : rmH.frames + 1 ≤ R.frames ∧ 8 + (ny + 11) + rmH.locals ≤ R.locals) (hf : cells + 1 ≤ R.cells ∧ slots + 6 ≤ R.slots) (hr : (rest.map fun v => v.category).sum ≤ 8)
    (hZ0 : ∀ args s c, Z args s c → XF G s) (hM : HC l G y cy ny hh As h P) (kk : ∀ v h', P v h' → AG l G R E Z own cc nL ret (cells + 1) (slots + 6) (pc + 3) lv (v.toList ++ rest) h' Q) : AG l G R E Z own cc nL ret cells slots pc lv (As.reverse ++ rest) h Q := by
  intro p e s m args below meth c H locs ls C hZ hW hS hlv T hT X
  have hts := C.2.2.2.2.1
  have hXF := hZ0 _ _ _ hZ
  have run : va_Run p l e R s m args below meth c H locs cells slots 1 6 (F0 m pc ls (As.reverse ++ rest)) rest (QA G P As.toArray) (Alo G) :=
    vx_runSW (As := As) (rest := rest) (n := As.length) ⟨C.1, C.2.1, C.2.2.1, C.2.2.2.1, hts⟩ hM ⟨⟨rfl, rfl, hR.1, hR.2, pay_in hts (good_tblW hcw), List.mem_cons_self⟩, hts _ hcw, hts _ hin, ⟨h4.1, h4.2.1⟩, fun sig hs => by have h2 := h4.2.2; rw [hs] at h2; exact (Option.some.inj h2).symm, hts _ hl, hts _ hst⟩ ⟨preX_blind, fun U hU hwU => ⟨rfl, preX_at C hXF hW hS hU hwU⟩⟩ rfl rfl hlv.1 rfl (lv_room hr) hdg hf
  obtain ⟨v, st₀, t, T', L, h0, X', hL, e1, e2, ⟨⟨v', h', hv', hP, hW'⟩, hF⟩, stp⟩ := run T hT X
  cases hv'
  have hS' : va_S (Alo G) s.heap T'.heap (locs ++ L) := by
    obtain ⟨hz, hk⟩ := hF
    rw [h0] at hz hk
    refine ⟨Nat.le_trans hS.1 (by rw [e1]; exact hz), fun q h1 h2 => by rw [e1, hk q (Nat.lt_of_lt_of_le h1 hS.1) h2]; exact hS.2.1 q h1 h2, fun q hq => ?_⟩
    rcases List.mem_append.mp hq with h | h
    · exact hS.2.2 q h
    · exact hL q h
  obtain ⟨t2, a1, b1⟩ := kk v h' hP p e s m args below meth c T'.heap (locs ++ L) ls C hZ (by rw [e1]; exact hW') hS' hlv T' rfl X'
  exact ⟨t2, stp t2 a1, b1⟩
end
def ZL (G : GG) (b L : Nat) (xs : Nat → Int32) : Array Value → State → Code → Prop := fun args s _ => args = #[Value.ref b] ∧ XF G s ∧ va_X b L xs s s.heap ∧ b < s.heap.size ∧ ¬ Alo G b ∧ G.2.1 = s.heap.size
abbrev AL (l : Launch) (G : GG) (b L : Nat) (xs : Nat → Int32) (cells slots pc : Nat) (lv : List (Option Value)) (st : List Value) (h : AH) : Prop := AG l G room_1 lw_Z (ZL G b L xs) RL cL_law 7 (some .boolean) cells slots pc lv st h ()
abbrev lvL (G : GG) (b k : Nat) : List (Option Value) := [some (.ref b), some (.ref (G.1 0 0)), some (.ref (G.1 3 0)), some (.ref (G.1 4 0)), some (.int (nI (6 * k)))]
theorem rmL_ok {cells slots d ny : Nat} (hd : d ≤ 9) (hn : ny ≤ 15) (h1 : cells ≤ 1125) (h2 : slots ≤ 18635) : RmOk room_1 cells slots d ny := ⟨by show d < 13; omega, by show 8 + (ny + 11) + 36 * d ≤ 474; omega, h1, h2⟩
section
variable {l : Launch} {G : GG} {b L : Nat} {xs : Nat → Int32} {cells slots pc : Nat} {lv : List (Option Value)} {st : List Value} {h : AH} {k B : Nat}
theorem g_sld {i : Nat} (hi : i < L) (hL : L ≤ 3072) (hdg : decode cL_law pc = .ok (.iaload, 1)) (kk : AL l G b L xs cells slots (pc + 1) lv (.int (xs i) :: st) h) : AL l G b L xs cells slots pc lv (.int (nI i) :: .ref b :: st) h := fun p e s m args below meth c H locs ls C hZ hW hS hl => by
  refine va_sld C.1 C.2.1 hZ.2.2.1 hZ.2.2.2.1 hZ.2.2.2.2.1 hS (vp_in_nI hi (by omega)) hdg ?_
  rw [nI_clamp (show i < 2 ^ 31 by omega)]
  exact kk p e s m args below meth c H locs ls C hZ hW hS hl
theorem g_slen (hdg : decode cL_law pc = .ok (.arraylength, 1)) (kk : AL l G b L xs cells slots (pc + 1) lv (.int (Int32.ofNat L) :: st) h) : AL l G b L xs cells slots pc lv (.ref b :: st) h := fun p e s m args below meth c H locs ls C hZ hW hS hl =>
  va_slen C.1 C.2.1 hZ.2.2.1 hZ.2.2.2.1 hZ.2.2.2.2.1 hS hdg (kk p e s m args below meth c H locs ls C hZ hW hS hl)
theorem l_ld {j : Nat} {n : Int} (hk : 6 * k + 6 ≤ L) (hL : L ≤ 3072) (hj : j < 6) (hn : Int32.ofInt n = nI j) (d0 : decode cL_law pc = .ok (.aload_n 0, 1)) (d1 : decode cL_law (pc + 1) = .ok (.iload 4, 2)) (d2 : decode cL_law (pc + 3) = .ok (.iconst n, 1)) (d3 : decode cL_law (pc + 4) = .ok (.iadd, 1)) (d4 : decode cL_law (pc + 5) = .ok (.iaload, 1))
    (kk : AL l G b L xs cells slots (pc + 6) (lvL G b k) (.int (xs (6 * k + j)) :: st) h) : AL l G b L xs cells slots pc (lvL G b k) st h := by
  refine g_aload_n d0 rfl ?_
  refine g_iload d1 rfl ?_
  refine g_iconst d2 hn ?_
  refine g_iadd d3 ?_
  rw [nI_add]
  exact g_sld (by omega) hL d4 kk
theorem l_feed (hC : CPL h B) (h9 : B + 9 ≤ 9000) (hk : 6 * k + 6 ≤ L) (hL : L ≤ 3072) (hc : cells ≤ 1125) (hs : slots ≤ 18635) (K : ∀ h2, CPL h2 (B + 9) → AL l G b L xs cells slots 970 (lvL G b k) [] h2) : AL l G b L xs cells slots 152 (lvL G b k) [] h := by
  refine g_aload_n dL_law_152 rfl ?_
  refine l_ld (j := 1) hk hL (by decide) (by decide) dL_law_153 dL_law_154 dL_law_156 dL_law_157 dL_law_158 ?_
  refine l_ld (j := 2) hk hL (by decide) (by decide) dL_law_159 dL_law_160 dL_law_162 dL_law_163 dL_law_164 ?_
  refine l_ld (j := 3) hk hL (by decide) (by decide) dL_law_165 dL_law_166 dL_law_168 dL_law_169 dL_law_170 ?_
  refine l_ld (j := 4) hk hL (by decide) (by decide) dL_law_171 dL_law_172 dL_law_174 dL_law_175 dL_law_176 ?_
  refine l_ld (j := 5) hk hL (by decide) (by decide) dL_law_177 dL_law_178 dL_law_180 dL_law_181 dL_law_182 ?_
  refine g_callV (As := [.int (xs (6 * k + 1)), .int (xs (6 * k + 2)), .int (xs (6 * k + 3)), .int (xs (6 * k + 4)), .int (xs (6 * k + 5))]) (rest := []) (b := 0) (k := 0) dL_law_183 ll_23 wl_10_feed rfl rfl (rmL_ok (by decide) (by decide) hc hs) (Nat.le_of_ble_eq_true rfl) (call_feed hC h9) (fun v h1 q => ?_)
  obtain ⟨r, rfl, c2⟩ := q
  refine g_aload_n dL_law_186 rfl ?_
  refine l_ld (j := 1) hk hL (by decide) (by decide) dL_law_187 dL_law_188 dL_law_190 dL_law_191 dL_law_192 ?_
  refine l_ld (j := 2) hk hL (by decide) (by decide) dL_law_193 dL_law_194 dL_law_196 dL_law_197 dL_law_198 ?_
  refine l_ld (j := 3) hk hL (by decide) (by decide) dL_law_199 dL_law_200 dL_law_202 dL_law_203 dL_law_204 ?_
  refine l_ld (j := 4) hk hL (by decide) (by decide) dL_law_205 dL_law_206 dL_law_208 dL_law_209 dL_law_210 ?_
  refine l_ld (j := 5) hk hL (by decide) (by decide) dL_law_211 dL_law_212 dL_law_214 dL_law_215 dL_law_216 ?_
  refine g_callV (As := [.int (xs (6 * k + 1)), .int (xs (6 * k + 2)), .int (xs (6 * k + 3)), .int (xs (6 * k + 4)), .int (xs (6 * k + 5))]) (rest := [.int r]) (b := 3) (k := 0) dL_law_217 ll_27 wl_11_feed rfl rfl (rmL_ok (by decide) (by decide) hc hs) (Nat.le_of_ble_eq_true rfl) c2 (fun v h2 q => ?_)
  obtain ⟨rfl, hC2⟩ := q
  exact g_icmp_eq dL_law_220 (tgt := 970) (by decide) (fun _ => K h2 hC2) (fun c => absurd rfl c)
theorem l_end (hC : CPL h B) (h9 : B + 9 ≤ 9000) (hk : 6 * k + 6 ≤ L) (hL : L ≤ 3072) (hc : cells ≤ 1125) (hs : slots ≤ 18635) (K : ∀ h2, CPL h2 (B + 9) → AL l G b L xs cells slots 970 (lvL G b k) [] h2) : AL l G b L xs cells slots 225 (lvL G b k) [] h := by
  refine g_aload_n dL_law_225 rfl ?_
  refine l_ld (j := 1) hk hL (by decide) (by decide) dL_law_226 dL_law_227 dL_law_229 dL_law_230 dL_law_231 ?_
  refine g_callV (As := [.int (xs (6 * k + 1))]) (rest := []) (b := 0) (k := 0) dL_law_232 ll_28 wl_10_end rfl rfl (rmL_ok (by decide) (by decide) hc hs) (Nat.le_of_ble_eq_true rfl) (call_end hC h9) (fun v h1 q => ?_)
  obtain ⟨r, rfl, c2⟩ := q
  refine g_aload_n dL_law_235 rfl ?_
  refine l_ld (j := 1) hk hL (by decide) (by decide) dL_law_236 dL_law_237 dL_law_239 dL_law_240 dL_law_241 ?_
  refine g_callV (As := [.int (xs (6 * k + 1))]) (rest := [.int r]) (b := 3) (k := 0) dL_law_242 ll_32 wl_11_end rfl rfl (rmL_ok (by decide) (by decide) hc hs) (Nat.le_of_ble_eq_true rfl) c2 (fun v h2 q => ?_)
  obtain ⟨rfl, hC2⟩ := q
  exact g_icmp_eq dL_law_245 (tgt := 970) (by decide) (fun _ => K h2 hC2) (fun c => absurd rfl c)
theorem l_text (hC : CPL h B) (h9 : B + 9 ≤ 9000) (hk : 6 * k + 6 ≤ L) (hL : L ≤ 3072) (hc : cells ≤ 1125) (hs : slots ≤ 18635) (K : ∀ h2, CPL h2 (B + 9) → AL l G b L xs cells slots 970 (lvL G b k) [] h2) : AL l G b L xs cells slots 250 (lvL G b k) [] h := by
  refine g_aload_n dL_law_250 rfl ?_
  refine g_callV (As := []) (rest := []) (b := 0) (k := 0) dL_law_251 ll_33 wl_10_text rfl rfl (rmL_ok (by decide) (by decide) hc hs) (Nat.le_of_ble_eq_true rfl) (call_text hC h9) (fun v h1 q => ?_)
  obtain ⟨r, rfl, c2⟩ := q
  refine g_aload_n dL_law_254 rfl ?_
  refine g_callV (As := []) (rest := [.int r]) (b := 3) (k := 0) dL_law_255 ll_37 wl_11_text rfl rfl (rmL_ok (by decide) (by decide) hc hs) (Nat.le_of_ble_eq_true rfl) c2 (fun v h2 q => ?_)
  obtain ⟨rfl, hC2⟩ := q
  exact g_icmp_eq dL_law_258 (tgt := 970) (by decide) (fun _ => K h2 hC2) (fun c => absurd rfl c)
theorem l_fault (hC : CPL h B) (h9 : B + 9 ≤ 9000) (hk : 6 * k + 6 ≤ L) (hL : L ≤ 3072) (hc : cells ≤ 1125) (hs : slots ≤ 18635) (K : ∀ h2, CPL h2 (B + 9) → AL l G b L xs cells slots 970 (lvL G b k) [] h2) : AL l G b L xs cells slots 263 (lvL G b k) [] h := by
  refine g_aload_n dL_law_263 rfl ?_
  refine g_callV (As := []) (rest := []) (b := 0) (k := 0) dL_law_264 ll_38 wl_10_fault rfl rfl (rmL_ok (by decide) (by decide) hc hs) (Nat.le_of_ble_eq_true rfl) (call_fault hC h9) (fun v h1 q => ?_)
  obtain ⟨r, rfl, c2⟩ := q
  refine g_aload_n dL_law_267 rfl ?_
  refine g_callV (As := []) (rest := [.int r]) (b := 3) (k := 0) dL_law_268 ll_41 wl_11_fault rfl rfl (rmL_ok (by decide) (by decide) hc hs) (Nat.le_of_ble_eq_true rfl) c2 (fun v h2 q => ?_)
  obtain ⟨rfl, hC2⟩ := q
  exact g_icmp_eq dL_law_271 (tgt := 970) (by decide) (fun _ => K h2 hC2) (fun c => absurd rfl c)
theorem l_now (hC : CPL h B) (h9 : B + 9 ≤ 9000) (hk : 6 * k + 6 ≤ L) (hL : L ≤ 3072) (hc : cells ≤ 1125) (hs : slots ≤ 18635) (K : ∀ h2, CPL h2 (B + 9) → AL l G b L xs cells slots 970 (lvL G b k) [] h2) : AL l G b L xs cells slots 276 (lvL G b k) [] h := by
  refine g_aload_n dL_law_276 rfl ?_
  refine l_ld (j := 1) hk hL (by decide) (by decide) dL_law_277 dL_law_278 dL_law_280 dL_law_281 dL_law_282 ?_
  refine g_callV (As := [.int (xs (6 * k + 1))]) (rest := []) (b := 0) (k := 0) dL_law_283 ll_42 wl_10_now rfl rfl (rmL_ok (by decide) (by decide) hc hs) (Nat.le_of_ble_eq_true rfl) (call_now hC h9) (fun v h1 q => ?_)
  obtain ⟨r, rfl, c2⟩ := q
  refine g_aload_n dL_law_286 rfl ?_
  refine l_ld (j := 1) hk hL (by decide) (by decide) dL_law_287 dL_law_288 dL_law_290 dL_law_291 dL_law_292 ?_
  refine g_callV (As := [.int (xs (6 * k + 1))]) (rest := [.int r]) (b := 3) (k := 0) dL_law_293 ll_45 wl_11_now rfl rfl (rmL_ok (by decide) (by decide) hc hs) (Nat.le_of_ble_eq_true rfl) c2 (fun v h2 q => ?_)
  obtain ⟨rfl, hC2⟩ := q
  exact g_icmp_eq dL_law_296 (tgt := 970) (by decide) (fun _ => K h2 hC2) (fun c => absurd rfl c)
theorem l_type (hC : CPL h B) (h9 : B + 9 ≤ 9000) (hk : 6 * k + 6 ≤ L) (hL : L ≤ 3072) (hc : cells ≤ 1125) (hs : slots ≤ 18635) (K : ∀ h2, CPL h2 (B + 9) → AL l G b L xs cells slots 970 (lvL G b k) [] h2) : AL l G b L xs cells slots 301 (lvL G b k) [] h := by
  refine g_aload_n dL_law_301 rfl ?_
  refine l_ld (j := 1) hk hL (by decide) (by decide) dL_law_302 dL_law_303 dL_law_305 dL_law_306 dL_law_307 ?_
  refine l_ld (j := 2) hk hL (by decide) (by decide) dL_law_308 dL_law_309 dL_law_311 dL_law_312 dL_law_313 ?_
  refine g_callV (As := [.int (xs (6 * k + 1)), .int (xs (6 * k + 2))]) (rest := []) (b := 0) (k := 0) dL_law_314 ll_46 wl_10_type rfl rfl (rmL_ok (by decide) (by decide) hc hs) (Nat.le_of_ble_eq_true rfl) (call_type hC h9) (fun v h1 q => ?_)
  obtain ⟨r, rfl, c2⟩ := q
  refine g_aload_n dL_law_317 rfl ?_
  refine l_ld (j := 1) hk hL (by decide) (by decide) dL_law_318 dL_law_319 dL_law_321 dL_law_322 dL_law_323 ?_
  refine l_ld (j := 2) hk hL (by decide) (by decide) dL_law_324 dL_law_325 dL_law_327 dL_law_328 dL_law_329 ?_
  refine g_callV (As := [.int (xs (6 * k + 1)), .int (xs (6 * k + 2))]) (rest := [.int r]) (b := 3) (k := 0) dL_law_330 ll_49 wl_11_type rfl rfl (rmL_ok (by decide) (by decide) hc hs) (Nat.le_of_ble_eq_true rfl) c2 (fun v h2 q => ?_)
  obtain ⟨rfl, hC2⟩ := q
  exact g_icmp_eq dL_law_333 (tgt := 970) (by decide) (fun _ => K h2 hC2) (fun c => absurd rfl c)
theorem l_ledger (hC : CPL h B) (h9 : B + 9 ≤ 9000) (hk : 6 * k + 6 ≤ L) (hL : L ≤ 3072) (hc : cells ≤ 1125) (hs : slots ≤ 18635) (K : ∀ h2, CPL h2 (B + 9) → AL l G b L xs cells slots 970 (lvL G b k) [] h2) : AL l G b L xs cells slots 338 (lvL G b k) [] h := by
  refine g_aload_n dL_law_338 rfl ?_
  refine l_ld (j := 1) hk hL (by decide) (by decide) dL_law_339 dL_law_340 dL_law_342 dL_law_343 dL_law_344 ?_
  refine l_ld (j := 2) hk hL (by decide) (by decide) dL_law_345 dL_law_346 dL_law_348 dL_law_349 dL_law_350 ?_
  refine g_callV (As := [.int (xs (6 * k + 1)), .int (xs (6 * k + 2))]) (rest := []) (b := 0) (k := 0) dL_law_351 ll_50 wl_10_ledger rfl rfl (rmL_ok (by decide) (by decide) hc hs) (Nat.le_of_ble_eq_true rfl) (call_ledger hC h9) (fun v h1 q => ?_)
  obtain ⟨r, rfl, c2⟩ := q
  refine g_aload_n dL_law_354 rfl ?_
  refine l_ld (j := 1) hk hL (by decide) (by decide) dL_law_355 dL_law_356 dL_law_358 dL_law_359 dL_law_360 ?_
  refine l_ld (j := 2) hk hL (by decide) (by decide) dL_law_361 dL_law_362 dL_law_364 dL_law_365 dL_law_366 ?_
  refine g_callV (As := [.int (xs (6 * k + 1)), .int (xs (6 * k + 2))]) (rest := [.int r]) (b := 3) (k := 0) dL_law_367 ll_53 wl_11_ledger rfl rfl (rmL_ok (by decide) (by decide) hc hs) (Nat.le_of_ble_eq_true rfl) c2 (fun v h2 q => ?_)
  obtain ⟨rfl, hC2⟩ := q
  exact g_icmp_eq dL_law_370 (tgt := 970) (by decide) (fun _ => K h2 hC2) (fun c => absurd rfl c)
theorem l_lorry (hC : CPL h B) (h9 : B + 9 ≤ 9000) (hk : 6 * k + 6 ≤ L) (hL : L ≤ 3072) (hl : l.stackTraces = false) (hc : cells + 1 ≤ 1125) (hs : slots + 6 ≤ 18635) (K : ∀ h2, CPL h2 (B + 9) → AL l G b L xs (cells + 1) (slots + 6) 970 (lvL G b k) [] h2) : AL l G b L xs cells slots 375 (lvL G b k) [] h := by
  refine g_aload_n dL_law_375 rfl ?_
  refine l_ld (j := 1) hk hL (by decide) (by decide) dL_law_376 dL_law_377 dL_law_379 dL_law_380 dL_law_381 ?_
  refine l_ld (j := 2) hk hL (by decide) (by decide) dL_law_382 dL_law_383 dL_law_385 dL_law_386 dL_law_387 ?_
  refine g_aload_n dL_law_388 rfl ?_
  refine g_callH (As := [.ref (G.1 0 0), .int (xs (6 * k + 1)), .int (xs (6 * k + 2)), .ref (G.1 4 0)]) (rest := []) dL_law_389 ll_54 lc_lorry ls_lorry li_law h4_lorry (by decide) ⟨hc, hs⟩ (Nat.le_of_ble_eq_true rfl) (fun _ _ _ q => q.2.1) (hc_lorry hl hC h9) (fun v h1 q => ?_)
  obtain ⟨f, rfl, hf, c2⟩ := q
  refine g_istore dL_law_392 (by decide) rfl ?_
  refine g_aload_n dL_law_394 rfl ?_
  refine g_aload_n dL_law_395 rfl ?_
  refine g_iload dL_law_396 rfl ?_
  refine g_iconst (v := nI 1) dL_law_398 (by decide) ?_
  refine g_iadd dL_law_399 ?_
  rw [nI_add]
  refine g_sld (by omega) hL dL_law_400 ?_
  refine g_aload_n dL_law_401 rfl ?_
  refine g_iload dL_law_402 rfl ?_
  refine g_iconst (v := nI 2) dL_law_404 (by decide) ?_
  refine g_iadd dL_law_405 ?_
  rw [nI_add]
  refine g_sld (by omega) hL dL_law_406 ?_
  refine g_callV (As := [.int (xs (6 * k + 1)), .int (xs (6 * k + 2))]) (rest := []) (b := 3) (k := 0) dL_law_407 ll_59 wl_11_lorry rfl rfl (rmL_ok (by decide) (by decide) hc hs) (Nat.le_of_ble_eq_true rfl) c2 (fun v h2 q => ?_)
  obtain ⟨r, rfl, e3, e4, hC2⟩ := q
  refine g_istore dL_law_410 (by decide) rfl ?_
  refine g_aload_n dL_law_412 rfl ?_
  refine g_callV (As := []) (rest := []) (b := 3) (k := 0) dL_law_413 ll_60 wl_11_thrown rfl rfl (rmL_ok (d := 0) (by decide) (by decide) hc hs) (Nat.le_of_ble_eq_true rfl) (c11_thrown (Q := fun v h' => v = some (.int (h2.1 3 0 0)) ∧ h' = h2) ⟨rfl, rfl⟩) (fun v h3 q => ?_)
  obtain ⟨rfl, rfl⟩ := q
  rw [e3]
  refine g_iload dL_law_416 rfl ?_
  refine g_icmp_eq dL_law_418 (tgt := 423) (by decide) (fun _ => ?_) (fun c => absurd rfl c)
  refine g_iload dL_law_423 rfl ?_
  refine g_if_ne dL_law_425 (tgt := 440) (by decide) (fun _ => g_goto dL_law_440 (tgt := 970) (by decide) (g_weak (lv' := lvL G b k) (fun i v q => by
    rcases i with _ | _ | _ | _ | _ | i
    all_goals first | exact q | (exact absurd q (by simp [lget]))) (K _ hC2))) (fun c => ?_)
  refine g_aload_n dL_law_428 rfl ?_
  refine g_iconst (v := 0) dL_law_429 (by decide) ?_
  refine g_laload (b := 4) (k := 0) (n := 1) dL_law_430 rfl (by rw [vp_in_iff]; decide) ?_
  refine g_iload dL_law_431 rfl ?_
  refine g_i2l dL_law_433 ?_
  refine g_lcmp dL_law_434 ?_
  rw [show h3.2 4 0 (0 : Int32).toNatClampNeg = r.toInt64 from e4 c]
  refine g_if_eq dL_law_435 (tgt := 440) (by decide) (fun _ => g_goto dL_law_440 (tgt := 970) (by decide) (g_weak (lv' := lvL G b k) (fun i v q => by
    rcases i with _ | _ | _ | _ | _ | i
    all_goals first | exact q | (exact absurd q (by simp [lget]))) (K _ hC2))) (fun c => absurd (lg_cmp_self _) c)
theorem l_trip (hC : CPL h B) (h9 : B + 9 ≤ 9000) (hk : 6 * k + 6 ≤ L) (hL : L ≤ 3072) (hc : cells ≤ 1125) (hs : slots ≤ 18635) (K : ∀ h2, CPL h2 (B + 9) → AL l G b L xs cells slots 970 (lvL G b k) [] h2) : AL l G b L xs cells slots 443 (lvL G b k) [] h := by
  refine g_aload_n dL_law_443 rfl ?_
  refine l_ld (j := 1) hk hL (by decide) (by decide) dL_law_444 dL_law_445 dL_law_447 dL_law_448 dL_law_449 ?_
  refine l_ld (j := 2) hk hL (by decide) (by decide) dL_law_450 dL_law_451 dL_law_453 dL_law_454 dL_law_455 ?_
  refine g_callV (As := [.int (xs (6 * k + 1)), .int (xs (6 * k + 2))]) (rest := []) (b := 0) (k := 0) dL_law_456 ll_63 wl_10_trip rfl rfl (rmL_ok (by decide) (by decide) hc hs) (Nat.le_of_ble_eq_true rfl) (call_trip hC h9) (fun v h1 q => ?_)
  obtain ⟨r, rfl, c2⟩ := q
  refine g_aload_n dL_law_459 rfl ?_
  refine l_ld (j := 1) hk hL (by decide) (by decide) dL_law_460 dL_law_461 dL_law_463 dL_law_464 dL_law_465 ?_
  refine l_ld (j := 2) hk hL (by decide) (by decide) dL_law_466 dL_law_467 dL_law_469 dL_law_470 dL_law_471 ?_
  refine g_callV (As := [.int (xs (6 * k + 1)), .int (xs (6 * k + 2))]) (rest := [.int r]) (b := 3) (k := 0) dL_law_472 ll_66 wl_11_trip rfl rfl (rmL_ok (by decide) (by decide) hc hs) (Nat.le_of_ble_eq_true rfl) c2 (fun v h2 q => ?_)
  obtain ⟨rfl, hC2⟩ := q
  exact g_icmp_eq dL_law_475 (tgt := 970) (by decide) (fun _ => K h2 hC2) (fun c => absurd rfl c)
theorem l_fits (hC : CPL h B) (h9 : B + 9 ≤ 9000) (hk : 6 * k + 6 ≤ L) (hL : L ≤ 3072) (hc : cells ≤ 1125) (hs : slots ≤ 18635) (K : ∀ h2, CPL h2 (B + 9) → AL l G b L xs cells slots 970 (lvL G b k) [] h2) : AL l G b L xs cells slots 480 (lvL G b k) [] h := by
  refine g_aload_n dL_law_480 rfl ?_
  refine l_ld (j := 1) hk hL (by decide) (by decide) dL_law_481 dL_law_482 dL_law_484 dL_law_485 dL_law_486 ?_
  refine l_ld (j := 2) hk hL (by decide) (by decide) dL_law_487 dL_law_488 dL_law_490 dL_law_491 dL_law_492 ?_
  refine g_callV (As := [.int (xs (6 * k + 1)), .int (xs (6 * k + 2))]) (rest := []) (b := 0) (k := 0) dL_law_493 ll_67 wl_10_fits rfl rfl (rmL_ok (by decide) (by decide) hc hs) (Nat.le_of_ble_eq_true rfl) (call_fits hC h9) (fun v h1 q => ?_)
  obtain ⟨r, rfl, c2⟩ := q
  refine g_aload_n dL_law_496 rfl ?_
  refine l_ld (j := 1) hk hL (by decide) (by decide) dL_law_497 dL_law_498 dL_law_500 dL_law_501 dL_law_502 ?_
  refine l_ld (j := 2) hk hL (by decide) (by decide) dL_law_503 dL_law_504 dL_law_506 dL_law_507 dL_law_508 ?_
  refine g_callV (As := [.int (xs (6 * k + 1)), .int (xs (6 * k + 2))]) (rest := [.int r]) (b := 3) (k := 0) dL_law_509 ll_71 wl_11_fits rfl rfl (rmL_ok (by decide) (by decide) hc hs) (Nat.le_of_ble_eq_true rfl) c2 (fun v h2 q => ?_)
  obtain ⟨rfl, hC2⟩ := q
  exact g_icmp_eq dL_law_512 (tgt := 970) (by decide) (fun _ => K h2 hC2) (fun c => absurd rfl c)
theorem l_plan (hC : CPL h B) (h9 : B + 9 ≤ 9000) (hk : 6 * k + 6 ≤ L) (hL : L ≤ 3072) (hc : cells ≤ 1125) (hs : slots ≤ 18635) (K : ∀ h2, CPL h2 (B + 9) → AL l G b L xs cells slots 970 (lvL G b k) [] h2) : AL l G b L xs cells slots 517 (lvL G b k) [] h := by
  refine g_aload_n dL_law_517 rfl ?_
  refine l_ld (j := 1) hk hL (by decide) (by decide) dL_law_518 dL_law_519 dL_law_521 dL_law_522 dL_law_523 ?_
  refine g_callV (As := [.int (xs (6 * k + 1))]) (rest := []) (b := 0) (k := 0) dL_law_524 ll_72 wl_10_plan rfl rfl (rmL_ok (by decide) (by decide) hc hs) (Nat.le_of_ble_eq_true rfl) (call_plan hC h9) (fun v h1 q => ?_)
  obtain ⟨r, rfl, c2⟩ := q
  refine g_aload_n dL_law_527 rfl ?_
  refine l_ld (j := 1) hk hL (by decide) (by decide) dL_law_528 dL_law_529 dL_law_531 dL_law_532 dL_law_533 ?_
  refine g_callV (As := [.int (xs (6 * k + 1))]) (rest := [.int r]) (b := 3) (k := 0) dL_law_534 ll_75 wl_11_plan rfl rfl (rmL_ok (by decide) (by decide) hc hs) (Nat.le_of_ble_eq_true rfl) c2 (fun v h2 q => ?_)
  obtain ⟨rfl, hC2⟩ := q
  exact g_icmp_eq dL_law_537 (tgt := 970) (by decide) (fun _ => K h2 hC2) (fun c => absurd rfl c)
theorem l_served (hC : CPL h B) (h9 : B + 9 ≤ 9000) (hk : 6 * k + 6 ≤ L) (hL : L ≤ 3072) (hc : cells ≤ 1125) (hs : slots ≤ 18635) (K : ∀ h2, CPL h2 (B + 9) → AL l G b L xs cells slots 970 (lvL G b k) [] h2) : AL l G b L xs cells slots 542 (lvL G b k) [] h := by
  refine g_aload_n dL_law_542 rfl ?_
  refine l_ld (j := 1) hk hL (by decide) (by decide) dL_law_543 dL_law_544 dL_law_546 dL_law_547 dL_law_548 ?_
  refine l_ld (j := 2) hk hL (by decide) (by decide) dL_law_549 dL_law_550 dL_law_552 dL_law_553 dL_law_554 ?_
  refine g_callV (As := [.int (xs (6 * k + 1)), .int (xs (6 * k + 2))]) (rest := []) (b := 0) (k := 0) dL_law_555 ll_76 wl_10_served rfl rfl (rmL_ok (by decide) (by decide) hc hs) (Nat.le_of_ble_eq_true rfl) (call_served hC h9) (fun v h1 q => ?_)
  obtain ⟨r, rfl, c2⟩ := q
  refine g_aload_n dL_law_558 rfl ?_
  refine l_ld (j := 1) hk hL (by decide) (by decide) dL_law_559 dL_law_560 dL_law_562 dL_law_563 dL_law_564 ?_
  refine l_ld (j := 2) hk hL (by decide) (by decide) dL_law_565 dL_law_566 dL_law_568 dL_law_569 dL_law_570 ?_
  refine g_callV (As := [.int (xs (6 * k + 1)), .int (xs (6 * k + 2))]) (rest := [.int r]) (b := 3) (k := 0) dL_law_571 ll_79 wl_11_served rfl rfl (rmL_ok (by decide) (by decide) hc hs) (Nat.le_of_ble_eq_true rfl) c2 (fun v h2 q => ?_)
  obtain ⟨rfl, hC2⟩ := q
  exact g_icmp_eq dL_law_574 (tgt := 970) (by decide) (fun _ => K h2 hC2) (fun c => absurd rfl c)
theorem l_needs (hC : CPL h B) (h9 : B + 9 ≤ 9000) (hk : 6 * k + 6 ≤ L) (hL : L ≤ 3072) (hc : cells ≤ 1125) (hs : slots ≤ 18635) (K : ∀ h2, CPL h2 (B + 9) → AL l G b L xs cells slots 970 (lvL G b k) [] h2) : AL l G b L xs cells slots 579 (lvL G b k) [] h := by
  refine g_aload_n dL_law_579 rfl ?_
  refine l_ld (j := 1) hk hL (by decide) (by decide) dL_law_580 dL_law_581 dL_law_583 dL_law_584 dL_law_585 ?_
  refine g_callV (As := [.int (xs (6 * k + 1))]) (rest := []) (b := 0) (k := 0) dL_law_586 ll_80 wl_10_needs rfl rfl (rmL_ok (by decide) (by decide) hc hs) (Nat.le_of_ble_eq_true rfl) (call_needs hC h9) (fun v h1 q => ?_)
  obtain ⟨r, rfl, c2⟩ := q
  refine g_aload_n dL_law_589 rfl ?_
  refine l_ld (j := 1) hk hL (by decide) (by decide) dL_law_590 dL_law_591 dL_law_593 dL_law_594 dL_law_595 ?_
  refine g_callV (As := [.int (xs (6 * k + 1))]) (rest := [.int r]) (b := 3) (k := 0) dL_law_596 ll_83 wl_11_needs rfl rfl (rmL_ok (by decide) (by decide) hc hs) (Nat.le_of_ble_eq_true rfl) c2 (fun v h2 q => ?_)
  obtain ⟨rfl, hC2⟩ := q
  exact g_icmp_eq dL_law_599 (tgt := 970) (by decide) (fun _ => K h2 hC2) (fun c => absurd rfl c)
theorem l_free (hC : CPL h B) (h9 : B + 9 ≤ 9000) (hk : 6 * k + 6 ≤ L) (hL : L ≤ 3072) (hc : cells ≤ 1125) (hs : slots ≤ 18635) (K : ∀ h2, CPL h2 (B + 9) → AL l G b L xs cells slots 970 (lvL G b k) [] h2) : AL l G b L xs cells slots 604 (lvL G b k) [] h := by
  refine g_aload_n dL_law_604 rfl ?_
  refine l_ld (j := 1) hk hL (by decide) (by decide) dL_law_605 dL_law_606 dL_law_608 dL_law_609 dL_law_610 ?_
  refine l_ld (j := 2) hk hL (by decide) (by decide) dL_law_611 dL_law_612 dL_law_614 dL_law_615 dL_law_616 ?_
  refine g_callV (As := [.int (xs (6 * k + 1)), .int (xs (6 * k + 2))]) (rest := []) (b := 0) (k := 0) dL_law_617 ll_84 wl_10_free rfl rfl (rmL_ok (by decide) (by decide) hc hs) (Nat.le_of_ble_eq_true rfl) (call_free hC h9) (fun v h1 q => ?_)
  obtain ⟨r, rfl, c2⟩ := q
  refine g_aload_n dL_law_620 rfl ?_
  refine l_ld (j := 1) hk hL (by decide) (by decide) dL_law_621 dL_law_622 dL_law_624 dL_law_625 dL_law_626 ?_
  refine l_ld (j := 2) hk hL (by decide) (by decide) dL_law_627 dL_law_628 dL_law_630 dL_law_631 dL_law_632 ?_
  refine g_callV (As := [.int (xs (6 * k + 1)), .int (xs (6 * k + 2))]) (rest := [.int r]) (b := 3) (k := 0) dL_law_633 ll_87 wl_11_free rfl rfl (rmL_ok (by decide) (by decide) hc hs) (Nat.le_of_ble_eq_true rfl) c2 (fun v h2 q => ?_)
  obtain ⟨rfl, hC2⟩ := q
  exact g_icmp_eq dL_law_636 (tgt := 970) (by decide) (fun _ => K h2 hC2) (fun c => absurd rfl c)
theorem l_shortest (hC : CPL h B) (h9 : B + 9 ≤ 9000) (hk : 6 * k + 6 ≤ L) (hL : L ≤ 3072) (hc : cells ≤ 1125) (hs : slots ≤ 18635) (K : ∀ h2, CPL h2 (B + 9) → AL l G b L xs cells slots 970 (lvL G b k) [] h2) : AL l G b L xs cells slots 641 (lvL G b k) [] h := by
  refine g_aload_n dL_law_641 rfl ?_
  refine l_ld (j := 1) hk hL (by decide) (by decide) dL_law_642 dL_law_643 dL_law_645 dL_law_646 dL_law_647 ?_
  refine l_ld (j := 2) hk hL (by decide) (by decide) dL_law_648 dL_law_649 dL_law_651 dL_law_652 dL_law_653 ?_
  refine g_callV (As := [.int (xs (6 * k + 1)), .int (xs (6 * k + 2))]) (rest := []) (b := 0) (k := 0) dL_law_654 ll_88 wl_10_shortest rfl rfl (rmL_ok (by decide) (by decide) hc hs) (Nat.le_of_ble_eq_true rfl) (call_shortest hC h9) (fun v h1 q => ?_)
  obtain ⟨r, rfl, c2⟩ := q
  refine g_aload_n dL_law_657 rfl ?_
  refine l_ld (j := 1) hk hL (by decide) (by decide) dL_law_658 dL_law_659 dL_law_661 dL_law_662 dL_law_663 ?_
  refine l_ld (j := 2) hk hL (by decide) (by decide) dL_law_664 dL_law_665 dL_law_667 dL_law_668 dL_law_669 ?_
  refine g_callV (As := [.int (xs (6 * k + 1)), .int (xs (6 * k + 2))]) (rest := [.int r]) (b := 3) (k := 0) dL_law_670 ll_91 wl_11_shortest rfl rfl (rmL_ok (by decide) (by decide) hc hs) (Nat.le_of_ble_eq_true rfl) c2 (fun v h2 q => ?_)
  obtain ⟨rfl, hC2⟩ := q
  exact g_icmp_eq dL_law_673 (tgt := 970) (by decide) (fun _ => K h2 hC2) (fun c => absurd rfl c)
theorem l_lawful (hC : CPL h B) (h9 : B + 9 ≤ 9000) (hk : 6 * k + 6 ≤ L) (hL : L ≤ 3072) (hc : cells ≤ 1125) (hs : slots ≤ 18635) (K : ∀ h2, CPL h2 (B + 9) → AL l G b L xs cells slots 970 (lvL G b k) [] h2) : AL l G b L xs cells slots 678 (lvL G b k) [] h := by
  refine g_aload_n dL_law_678 rfl ?_
  refine l_ld (j := 1) hk hL (by decide) (by decide) dL_law_679 dL_law_680 dL_law_682 dL_law_683 dL_law_684 ?_
  refine l_ld (j := 2) hk hL (by decide) (by decide) dL_law_685 dL_law_686 dL_law_688 dL_law_689 dL_law_690 ?_
  refine g_callV (As := [.int (xs (6 * k + 1)), .int (xs (6 * k + 2))]) (rest := []) (b := 0) (k := 0) dL_law_691 ll_92 wl_10_lawful rfl rfl (rmL_ok (by decide) (by decide) hc hs) (Nat.le_of_ble_eq_true rfl) (call_lawful hC h9) (fun v h1 q => ?_)
  obtain ⟨r, rfl, c2⟩ := q
  refine g_aload_n dL_law_694 rfl ?_
  refine l_ld (j := 1) hk hL (by decide) (by decide) dL_law_695 dL_law_696 dL_law_698 dL_law_699 dL_law_700 ?_
  refine l_ld (j := 2) hk hL (by decide) (by decide) dL_law_701 dL_law_702 dL_law_704 dL_law_705 dL_law_706 ?_
  refine g_callV (As := [.int (xs (6 * k + 1)), .int (xs (6 * k + 2))]) (rest := [.int r]) (b := 3) (k := 0) dL_law_707 ll_95 wl_11_lawful rfl rfl (rmL_ok (by decide) (by decide) hc hs) (Nat.le_of_ble_eq_true rfl) c2 (fun v h2 q => ?_)
  obtain ⟨rfl, hC2⟩ := q
  exact g_icmp_eq dL_law_710 (tgt := 970) (by decide) (fun _ => K h2 hC2) (fun c => absurd rfl c)
theorem l_ask (hC : CPL h B) (h9 : B + 9 ≤ 9000) (hk : 6 * k + 6 ≤ L) (hL : L ≤ 3072) (hc : cells ≤ 1125) (hs : slots ≤ 18635) (K : ∀ h2, CPL h2 (B + 9) → AL l G b L xs cells slots 970 (lvL G b k) [] h2) : AL l G b L xs cells slots 715 (lvL G b k) [] h := by
  refine g_aload_n dL_law_715 rfl ?_
  refine l_ld (j := 1) hk hL (by decide) (by decide) dL_law_716 dL_law_717 dL_law_719 dL_law_720 dL_law_721 ?_
  refine l_ld (j := 2) hk hL (by decide) (by decide) dL_law_722 dL_law_723 dL_law_725 dL_law_726 dL_law_727 ?_
  refine l_ld (j := 3) hk hL (by decide) (by decide) dL_law_728 dL_law_729 dL_law_731 dL_law_732 dL_law_733 ?_
  refine g_callV (As := [.int (xs (6 * k + 1)), .int (xs (6 * k + 2)), .int (xs (6 * k + 3))]) (rest := []) (b := 0) (k := 0) dL_law_734 ll_96 wl_10_ask rfl rfl (rmL_ok (by decide) (by decide) hc hs) (Nat.le_of_ble_eq_true rfl) (call_ask hC h9) (fun v h1 q => ?_)
  obtain ⟨r, rfl, c2⟩ := q
  refine g_aload_n dL_law_737 rfl ?_
  refine l_ld (j := 1) hk hL (by decide) (by decide) dL_law_738 dL_law_739 dL_law_741 dL_law_742 dL_law_743 ?_
  refine l_ld (j := 2) hk hL (by decide) (by decide) dL_law_744 dL_law_745 dL_law_747 dL_law_748 dL_law_749 ?_
  refine l_ld (j := 3) hk hL (by decide) (by decide) dL_law_750 dL_law_751 dL_law_753 dL_law_754 dL_law_755 ?_
  refine g_callV (As := [.int (xs (6 * k + 1)), .int (xs (6 * k + 2)), .int (xs (6 * k + 3))]) (rest := [.int r]) (b := 3) (k := 0) dL_law_756 ll_100 wl_11_ask rfl rfl (rmL_ok (by decide) (by decide) hc hs) (Nat.le_of_ble_eq_true rfl) c2 (fun v h2 q => ?_)
  obtain ⟨rfl, hC2⟩ := q
  exact g_icmp_eq dL_law_759 (tgt := 970) (by decide) (fun _ => K h2 hC2) (fun c => absurd rfl c)
theorem l_drop (hC : CPL h B) (h9 : B + 9 ≤ 9000) (hk : 6 * k + 6 ≤ L) (hL : L ≤ 3072) (hc : cells ≤ 1125) (hs : slots ≤ 18635) (K : ∀ h2, CPL h2 (B + 9) → AL l G b L xs cells slots 970 (lvL G b k) [] h2) : AL l G b L xs cells slots 764 (lvL G b k) [] h := by
  refine g_aload_n dL_law_764 rfl ?_
  refine l_ld (j := 1) hk hL (by decide) (by decide) dL_law_765 dL_law_766 dL_law_768 dL_law_769 dL_law_770 ?_
  refine g_callV (As := [.int (xs (6 * k + 1))]) (rest := []) (b := 0) (k := 0) dL_law_771 ll_101 wl_10_drop rfl rfl (rmL_ok (by decide) (by decide) hc hs) (Nat.le_of_ble_eq_true rfl) (call_drop hC h9) (fun v h1 q => ?_)
  obtain ⟨r, rfl, c2⟩ := q
  refine g_aload_n dL_law_774 rfl ?_
  refine l_ld (j := 1) hk hL (by decide) (by decide) dL_law_775 dL_law_776 dL_law_778 dL_law_779 dL_law_780 ?_
  refine g_callV (As := [.int (xs (6 * k + 1))]) (rest := [.int r]) (b := 3) (k := 0) dL_law_781 ll_104 wl_11_drop rfl rfl (rmL_ok (by decide) (by decide) hc hs) (Nat.le_of_ble_eq_true rfl) c2 (fun v h2 q => ?_)
  obtain ⟨rfl, hC2⟩ := q
  exact g_icmp_eq dL_law_784 (tgt := 970) (by decide) (fun _ => K h2 hC2) (fun c => absurd rfl c)
theorem l_assign (hC : CPL h B) (h9 : B + 9 ≤ 9000) (hk : 6 * k + 6 ≤ L) (hL : L ≤ 3072) (hc : cells ≤ 1125) (hs : slots ≤ 18635) (K : ∀ h2, CPL h2 (B + 9) → AL l G b L xs cells slots 970 (lvL G b k) [] h2) : AL l G b L xs cells slots 789 (lvL G b k) [] h := by
  refine g_aload_n dL_law_789 rfl ?_
  refine g_callV (As := []) (rest := []) (b := 0) (k := 0) dL_law_790 ll_105 wl_10_assign rfl rfl (rmL_ok (by decide) (by decide) hc hs) (Nat.le_of_ble_eq_true rfl) (call_assign hC h9) (fun v h1 q => ?_)
  obtain ⟨r, rfl, c2⟩ := q
  refine g_aload_n dL_law_793 rfl ?_
  refine g_callV (As := []) (rest := [.int r]) (b := 3) (k := 0) dL_law_794 ll_108 wl_11_assign rfl rfl (rmL_ok (by decide) (by decide) hc hs) (Nat.le_of_ble_eq_true rfl) c2 (fun v h2 q => ?_)
  obtain ⟨rfl, hC2⟩ := q
  exact g_icmp_eq dL_law_797 (tgt := 970) (by decide) (fun _ => K h2 hC2) (fun c => absurd rfl c)
theorem l_home (hC : CPL h B) (h9 : B + 9 ≤ 9000) (hk : 6 * k + 6 ≤ L) (hL : L ≤ 3072) (hl : l.stackTraces = false) (hc : cells + 1 ≤ 1125) (hs : slots + 6 ≤ 18635) (K : ∀ h2, CPL h2 (B + 9) → AL l G b L xs (cells + 1) (slots + 6) 970 (lvL G b k) [] h2) : AL l G b L xs cells slots 802 (lvL G b k) [] h := by
  refine g_aload_n dL_law_802 rfl ?_
  refine l_ld (j := 1) hk hL (by decide) (by decide) dL_law_803 dL_law_804 dL_law_806 dL_law_807 dL_law_808 ?_
  refine g_aload_n dL_law_809 rfl ?_
  refine g_callH (As := [.ref (G.1 0 0), .int (xs (6 * k + 1)), .ref (G.1 4 0)]) (rest := []) dL_law_810 ll_109 lc_home ls_home li_law h4_home (by decide) ⟨hc, hs⟩ (Nat.le_of_ble_eq_true rfl) (fun _ _ _ q => q.2.1) (hc_home hl hC h9) (fun v h1 q => ?_)
  obtain ⟨f, rfl, hf, c2⟩ := q
  refine g_istore dL_law_813 (by decide) rfl ?_
  refine g_aload_n dL_law_815 rfl ?_
  refine g_aload_n dL_law_816 rfl ?_
  refine g_iload dL_law_817 rfl ?_
  refine g_iconst (v := nI 1) dL_law_819 (by decide) ?_
  refine g_iadd dL_law_820 ?_
  rw [nI_add]
  refine g_sld (by omega) hL dL_law_821 ?_
  refine g_callV (As := [.int (xs (6 * k + 1))]) (rest := []) (b := 3) (k := 0) dL_law_822 ll_112 wl_11_home rfl rfl (rmL_ok (by decide) (by decide) hc hs) (Nat.le_of_ble_eq_true rfl) c2 (fun v h2 q => ?_)
  obtain ⟨r, rfl, e3, e4, hC2⟩ := q
  refine g_istore dL_law_825 (by decide) rfl ?_
  refine g_aload_n dL_law_827 rfl ?_
  refine g_callV (As := []) (rest := []) (b := 3) (k := 0) dL_law_828 ll_60 wl_11_thrown rfl rfl (rmL_ok (d := 0) (by decide) (by decide) hc hs) (Nat.le_of_ble_eq_true rfl) (c11_thrown (Q := fun v h' => v = some (.int (h2.1 3 0 0)) ∧ h' = h2) ⟨rfl, rfl⟩) (fun v h3 q => ?_)
  obtain ⟨rfl, rfl⟩ := q
  rw [e3]
  refine g_iload dL_law_831 rfl ?_
  refine g_icmp_eq dL_law_833 (tgt := 838) (by decide) (fun _ => ?_) (fun c => absurd rfl c)
  refine g_iload dL_law_838 rfl ?_
  refine g_if_ne dL_law_840 (tgt := 855) (by decide) (fun _ => g_goto dL_law_855 (tgt := 970) (by decide) (g_weak (lv' := lvL G b k) (fun i v q => by
    rcases i with _ | _ | _ | _ | _ | i
    all_goals first | exact q | (exact absurd q (by simp [lget]))) (K _ hC2))) (fun c => ?_)
  refine g_aload_n dL_law_843 rfl ?_
  refine g_iconst (v := 0) dL_law_844 (by decide) ?_
  refine g_laload (b := 4) (k := 0) (n := 1) dL_law_845 rfl (by rw [vp_in_iff]; decide) ?_
  refine g_iload dL_law_846 rfl ?_
  refine g_i2l dL_law_848 ?_
  refine g_lcmp dL_law_849 ?_
  rw [show h3.2 4 0 (0 : Int32).toNatClampNeg = r.toInt64 from e4 c]
  refine g_if_eq dL_law_850 (tgt := 855) (by decide) (fun _ => g_goto dL_law_855 (tgt := 970) (by decide) (g_weak (lv' := lvL G b k) (fun i v q => by
    rcases i with _ | _ | _ | _ | _ | i
    all_goals first | exact q | (exact absurd q (by simp [lget]))) (K _ hC2))) (fun c => absurd (lg_cmp_self _) c)
theorem l_stop (hC : CPL h B) (h9 : B + 9 ≤ 9000) (hk : 6 * k + 6 ≤ L) (hL : L ≤ 3072) (hc : cells ≤ 1125) (hs : slots ≤ 18635) (K : ∀ h2, CPL h2 (B + 9) → AL l G b L xs cells slots 970 (lvL G b k) [] h2) : AL l G b L xs cells slots 858 (lvL G b k) [] h := by
  refine g_aload_n dL_law_858 rfl ?_
  refine l_ld (j := 1) hk hL (by decide) (by decide) dL_law_859 dL_law_860 dL_law_862 dL_law_863 dL_law_864 ?_
  refine l_ld (j := 2) hk hL (by decide) (by decide) dL_law_865 dL_law_866 dL_law_868 dL_law_869 dL_law_870 ?_
  refine g_callV (As := [.int (xs (6 * k + 1)), .int (xs (6 * k + 2))]) (rest := []) (b := 0) (k := 0) dL_law_871 ll_113 wl_10_stop rfl rfl (rmL_ok (by decide) (by decide) hc hs) (Nat.le_of_ble_eq_true rfl) (call_stop hC h9) (fun v h1 q => ?_)
  obtain ⟨r, rfl, c2⟩ := q
  refine g_aload_n dL_law_874 rfl ?_
  refine l_ld (j := 1) hk hL (by decide) (by decide) dL_law_875 dL_law_876 dL_law_878 dL_law_879 dL_law_880 ?_
  refine l_ld (j := 2) hk hL (by decide) (by decide) dL_law_881 dL_law_882 dL_law_884 dL_law_885 dL_law_886 ?_
  refine g_callV (As := [.int (xs (6 * k + 1)), .int (xs (6 * k + 2))]) (rest := [.int r]) (b := 3) (k := 0) dL_law_887 ll_116 wl_11_stop rfl rfl (rmL_ok (by decide) (by decide) hc hs) (Nat.le_of_ble_eq_true rfl) c2 (fun v h2 q => ?_)
  obtain ⟨rfl, hC2⟩ := q
  exact g_icmp_eq dL_law_890 (tgt := 970) (by decide) (fun _ => K h2 hC2) (fun c => absurd rfl c)
theorem l_handBack (hC : CPL h B) (h9 : B + 9 ≤ 9000) (hk : 6 * k + 6 ≤ L) (hL : L ≤ 3072) (hc : cells ≤ 1125) (hs : slots ≤ 18635) (K : ∀ h2, CPL h2 (B + 9) → AL l G b L xs cells slots 970 (lvL G b k) [] h2) : AL l G b L xs cells slots 895 (lvL G b k) [] h := by
  refine g_aload_n dL_law_895 rfl ?_
  refine l_ld (j := 1) hk hL (by decide) (by decide) dL_law_896 dL_law_897 dL_law_899 dL_law_900 dL_law_901 ?_
  refine l_ld (j := 2) hk hL (by decide) (by decide) dL_law_902 dL_law_903 dL_law_905 dL_law_906 dL_law_907 ?_
  refine g_callV (As := [.int (xs (6 * k + 1)), .int (xs (6 * k + 2))]) (rest := []) (b := 0) (k := 0) dL_law_908 ll_117 wl_10_handBack rfl rfl (rmL_ok (by decide) (by decide) hc hs) (Nat.le_of_ble_eq_true rfl) (call_handBack hC h9) (fun v h1 q => ?_)
  obtain ⟨r, rfl, c2⟩ := q
  refine g_aload_n dL_law_911 rfl ?_
  refine l_ld (j := 1) hk hL (by decide) (by decide) dL_law_912 dL_law_913 dL_law_915 dL_law_916 dL_law_917 ?_
  refine l_ld (j := 2) hk hL (by decide) (by decide) dL_law_918 dL_law_919 dL_law_921 dL_law_922 dL_law_923 ?_
  refine g_callV (As := [.int (xs (6 * k + 1)), .int (xs (6 * k + 2))]) (rest := [.int r]) (b := 3) (k := 0) dL_law_924 ll_120 wl_11_handBack rfl rfl (rmL_ok (by decide) (by decide) hc hs) (Nat.le_of_ble_eq_true rfl) c2 (fun v h2 q => ?_)
  obtain ⟨rfl, hC2⟩ := q
  exact g_icmp_eq dL_law_927 (tgt := 970) (by decide) (fun _ => K h2 hC2) (fun c => absurd rfl c)
theorem l_pass (hC : CPL h B) (h9 : B + 9 ≤ 9000) (hk : 6 * k + 6 ≤ L) (hL : L ≤ 3072) (hc : cells ≤ 1125) (hs : slots ≤ 18635) (K : ∀ h2, CPL h2 (B + 9) → AL l G b L xs cells slots 970 (lvL G b k) [] h2) : AL l G b L xs cells slots 932 (lvL G b k) [] h := by
  refine g_aload_n dL_law_932 rfl ?_
  refine l_ld (j := 1) hk hL (by decide) (by decide) dL_law_933 dL_law_934 dL_law_936 dL_law_937 dL_law_938 ?_
  refine g_callV (As := [.int (xs (6 * k + 1))]) (rest := []) (b := 0) (k := 0) dL_law_939 ll_121 wl_10_pass rfl rfl (rmL_ok (by decide) (by decide) hc hs) (Nat.le_of_ble_eq_true rfl) (call_pass hC h9) (fun v h1 q => ?_)
  obtain ⟨r, rfl, c2⟩ := q
  refine g_aload_n dL_law_942 rfl ?_
  refine l_ld (j := 1) hk hL (by decide) (by decide) dL_law_943 dL_law_944 dL_law_946 dL_law_947 dL_law_948 ?_
  refine g_callV (As := [.int (xs (6 * k + 1))]) (rest := [.int r]) (b := 3) (k := 0) dL_law_949 ll_124 wl_11_pass rfl rfl (rmL_ok (by decide) (by decide) hc hs) (Nat.le_of_ble_eq_true rfl) c2 (fun v h2 q => ?_)
  obtain ⟨rfl, hC2⟩ := q
  exact g_icmp_eq dL_law_952 (tgt := 970) (by decide) (fun _ => K h2 hC2) (fun c => absurd rfl c)
theorem l_undo (hC : CPL h B) (h9 : B + 9 ≤ 9000) (hk : 6 * k + 6 ≤ L) (hL : L ≤ 3072) (hc : cells ≤ 1125) (hs : slots ≤ 18635) (K : ∀ h2, CPL h2 (B + 9) → AL l G b L xs cells slots 970 (lvL G b k) [] h2) : AL l G b L xs cells slots 957 (lvL G b k) [] h := by
  refine g_aload_n dL_law_957 rfl ?_
  refine g_callV (As := []) (rest := []) (b := 0) (k := 0) dL_law_958 ll_125 wl_10_undo rfl rfl (rmL_ok (by decide) (by decide) hc hs) (Nat.le_of_ble_eq_true rfl) (call_undo hC h9) (fun v h1 q => ?_)
  obtain ⟨r, rfl, c2⟩ := q
  refine g_aload_n dL_law_961 rfl ?_
  refine g_callV (As := []) (rest := [.int r]) (b := 3) (k := 0) dL_law_962 ll_128 wl_11_undo rfl rfl (rmL_ok (by decide) (by decide) hc hs) (Nat.le_of_ble_eq_true rfl) c2 (fun v h2 q => ?_)
  obtain ⟨rfl, hC2⟩ := q
  exact g_icmp_eq dL_law_965 (tgt := 970) (by decide) (fun _ => K h2 hC2) (fun c => absurd rfl c)
end
