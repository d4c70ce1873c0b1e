/-! THE LAW, from its entry -/
set_option maxHeartbeats 4000000 in
theorem whole_start {p : Program} {e : Env} {s : State} {m : MethodId} {below : List Frame} {meth : Method} {c : Code} (l : Launch) (hflags : l.flags = flags0) {b L : Nat} {xs : Nat → Int32} (hL : L ≤ 3072) (C0 : lw_At p s m meth c b L xs) : W p l e room_1 s m #[Value.ref b] below meth c s.heap [] 0 0 (lw_Z below #[Value.ref b] s) (entryFrame m ([Value.ref b] : List Value).toArray 7) := by
  obtain ⟨hx, hb, hr, hml, hown, hts, hX, hbl, hlocks, hgv⟩ := id C0
  have htr : l.stackTraces = false := by unfold Launch.stackTraces; rw [hflags]; decide
  have hs : ∀ w ∈ gN, w.before #[Value.ref b] s = true := flat_of_before _ hgv
  have htl : ∀ w ∈ gtbl, w.before #[Value.ref b] s = true := fun w hw => hts w (List.mem_filter.mp hw).1
  have hA : ∀ a : Nat, a < s.heap.size → ¬ (fun q : Nat => s.heap.size ≤ q) a := fun a h => Nat.not_le.mpr h
  have hk : ∀ k : Nat, ∃ z : ClassId × (Nat → Nat), ∀ q : vw_C, classes[k]? = some q → u_Kn s q.1 q.2.1 q.2.2 z.1 z.2 := fun k => by
    cases hq : classes[k]? with
    | none => exact ⟨(m.cls, fun _ => 0), fun q h => by cases h⟩
    | some q =>
      obtain ⟨c9, i9, h9⟩ := u_known htl (cls_ok k q hq).1 (hts _ (tn_i q (List.mem_of_getElem? hq)))
      exact ⟨(c9, i9), fun q' h' => by cases h'; exact h9⟩
  obtain ⟨D, hD⟩ : ∃ D : va_G, ∀ (k : Nat) (q : vw_C), classes[k]? = some q → u_Kn s q.1 q.2.1 q.2.2 (D.1 k) (D.2 k) := ⟨(fun k => (hk k).choose.1, fun k => (hk k).choose.2), fun k q hq => (hk k).choose_spec q hq⟩
  obtain ⟨cI, kI, pI, i1, i2, i3⟩ := Cond.arrayClass_spec (type := .int) (htl _ ac_i)
  obtain ⟨cB, kB, pB, b1, b2, b3⟩ := Cond.arrayClass_spec (type := .byte) (htl _ ac_b)
  obtain ⟨cJ, kJ, pJ, j1, j2, j3⟩ := Cond.arrayClass_spec (type := .long) (htl _ ac_l)
  obtain ⟨cZ, kZ, pZ, z1, z2, z3⟩ := Cond.arrayClass_spec (type := .boolean) (htl _ ac_z)
  obtain ⟨tL, eL, hTL⟩ := va_Tof (args := #[Value.ref b]) (s := s) (tm := .static RX6 "LEAST" "[I") (ty := .int) (N := 7) (f := fun j => .int (lstV.getD j 0)) (A := fun q => s.heap.size ≤ q) (by decide) (hs _ gn_la) (va_eqt (hs _ gn_ll)) (fun j hj => va_eqt (hs _ (gn_lx j hj))) hA
  obtain ⟨tM, eM, hTM⟩ := va_Tof (args := #[Value.ref b]) (s := s) (tm := .static RX6 "MOST" "[I") (ty := .int) (N := 7) (f := fun j => .int (mstV.getD j 0)) (A := fun q => s.heap.size ≤ q) (by decide) (hs _ gn_ma) (va_eqt (hs _ gn_ml)) (fun j hj => va_eqt (hs _ (gn_mx j hj))) hA
  obtain ⟨adK, adV, hVS, hev⟩ := vk_Sof (args := #[Value.ref b]) (s := s) (N := 10) (tm := tmS) (len := lenS) (byt := bytS) (A := fun q => s.heap.size ≤ q) gn_len (fun i hi => hs _ (gn_ex i hi)) (fun i hi => hs _ (gn_co i hi)) (fun i hi => hs _ (gn_ar i hi)) (fun i hi => hs _ (gn_le i hi)) (fun i hi j hj => hs _ (gn_el i hi j hj)) (fun i j hi hj hn => (gn_ne i hi j hj hn).imp (fun h => hs _ h) (fun h => hs _ h)) hA
  obtain ⟨sa, s0, s1, sK, sV⟩ : ∃ sa : Nat → Nat, sa 0 = tL ∧ sa 1 = tM ∧ (∀ i, i < 10 → sa (2 + i) = adK i) ∧ (∀ i, i < 10 → sa (12 + i) = adV i) := by
    refine ⟨fun n => if n = 0 then tL else if n = 1 then tM else if n < 12 then adK (n - 2) else adV (n - 12), rfl, rfl, fun i hi => ?_, fun i hi => ?_⟩
    · show (if 2 + i = 0 then tL else if 2 + i = 1 then tM else if 2 + i < 12 then adK (2 + i - 2) else adV (2 + i - 12)) = adK i
      rw [if_neg (by omega), if_neg (by omega), if_pos (by omega), show 2 + i - 2 = i by omega]
    · show (if 12 + i = 0 then tL else if 12 + i = 1 then tM else if 12 + i < 12 then adK (12 + i - 2) else adV (12 + i - 12)) = adV i
      rw [if_neg (by omega), if_neg (by omega), if_neg (by omega), show 12 + i - 12 = i by omega]
  have hK : va_K (GO s.heap.size D (cI, cB, cJ, cZ) sa).2.2.1 classes (tysG (GO s.heap.size D (cI, cB, cJ, cZ) sa)) s := by
    refine ⟨hD, fun k q hq => ?_⟩
    match k, hq with
    | 0, hq => cases hq; exact ⟨fun n z => ⟨fun k h => (by cases h), kI, i2, pI, i3⟩, i1⟩
    | 1, hq => cases hq; exact ⟨fun n z => ⟨fun k h => (by cases h), kB, b2, pB, b3⟩, b1⟩
    | 2, hq => cases hq; exact ⟨fun n z => ⟨fun k h => (by cases h), kJ, j2, pJ, j3⟩, j1⟩
    | 3, hq => cases hq; exact ⟨fun n z => ⟨fun k h => (by cases h), kZ, z2, pZ, z3⟩, z1⟩
    | k + 4, hq => simp [tysG] at hq
  have hSF : SF (GO s.heap.size D (cI, cB, cJ, cZ) sa) s := by
    refine ⟨va_Zof (hts _ (tn_l _ (by simp))) (hts _ (tn_l _ (by simp))) (va_eqt (hs _ gn_cs)) hA, ?_, ?_, ?_, ?_, va_Zqof (hts _ (tn_l _ (by simp))) (hts _ (tn_l _ (by simp))) (hs _ gn_pf) hA, ?_, fun i hi => ?_⟩
    · show va_Z RX6 "LEAST" "[I" (.ref (sa 0)) _ s s.heap
      rw [s0]
      exact va_Zref (hts _ (tn_l _ (by simp))) (hts _ (tn_l _ (by simp))) eL hA
    · show va_Z RX6 "MOST" "[I" (.ref (sa 1)) _ s s.heap
      rw [s1]
      exact va_Zref (hts _ (tn_l _ (by simp))) (hts _ (tn_l _ (by simp))) eM hA
    · show va_T .int (sa 0) 7 _ _ s s.heap
      rw [s0]
      exact hTL
    · show va_T .int (sa 1) 7 _ _ s s.heap
      rw [s1]
      exact hTM
    · refine ⟨fun i hi => ?_, fun i j hi hj => ?_⟩
      · show va_O "java/lang/String" (sa (2 + i)) _ s s.heap ∧ va_OF "java/lang/String" "coder" "B" (.int 0) (sa (2 + i)) _ s s.heap ∧ va_OF "java/lang/String" "value" "[B" (.ref (sa (12 + i))) (sa (2 + i)) _ s s.heap ∧ va_T .byte (sa (12 + i)) _ _ _ s s.heap
        rw [sK i hi, sV i hi]
        exact hVS.1 i hi
      · show sa (2 + i) = sa (2 + j) → i = j
        rw [sK i hi, sK j hj]
        exact hVS.2 i j hi hj
    · show vk_R (ownS i) (idxS.getD i 0) (txtS.getD i "") (sa (2 + i)) s
      rw [sK i hi]
      exact vk_R.of (hts _ (tn_s i hi)) (hev i hi)
  have hXF : XF (GO s.heap.size D (cI, cB, cJ, cZ) sa) s := ⟨fun w hw => va_tabs (xcD_t w hw) rfl (hts w (tn_x w hw)), vx_Zqof (hts _ (tn_l _ (by simp))) (hts _ (tn_l _ (by simp))) (hs _ gn_us) hA, vx_Zqof (hts _ (tn_l _ (by simp))) (hts _ (tn_l _ (by simp))) (hs _ gn_ss) hA⟩
  have hNF : NF s := fun w hw => va_tabs (tn_m w hw).2 rfl (hts w (tn_m w hw).1)
  have hlv := lv_entry ([.ref b]) (n := 7) (Nat.le_of_ble_eq_true rfl)
  rw [lg_entry_eq]
  exact l_start (base := s.heap.size) (D := D) (ids := (cI, cB, cJ, cZ)) (sa := sa) (b := b) (L := L) (xs := xs) (nm := meth.name) htr hL p e s m _ below meth c s.heap [] _ ⟨hx, hb, hml, hown, htl, hr, hlocks, hK, hSF, Nat.le_refl _⟩ ⟨rfl, hNF, rfl, hXF, hX, hbl, Nat.not_le.mpr hbl, rfl⟩ ⟨rfl, fun i x h => by simp at h⟩ va_S.rf
    (hv_iff.mpr ⟨hlv.1, hlv.2.1, fun q hq => hlv.2.2 q (ent_args [.ref b] 0 q hq)⟩)
