section
variable {h : AH} {b d nl np nq nt sm ax L B : Nat} {l : Launch} {G : GG}
theorem nH_b {g : AH} {N S : Nat → Int32} {s : Int32} {b' : Nat} (hb : b' ≠ 3) : (nH g N S s).1 b' = g.1 b' := funext fun k => funext fun j => by
  show (if b' = 3 then _ else g.1 b' k j) = _
  rw [if_neg hb]
theorem acH_b {g : AH} {sm : Nat} {N : Nat → Int32} {b' : Nat} (hb : b' ≠ 3) : (acH g sm N).1 b' = g.1 b' := by
  unfold acH
  rw [nH_b hb]
  funext k j
  exact ui_b hb
/-- an act of both, the reference's heap as acH has it -/
theorem CX.act (hC : CX h b d nl np nq nt sm ax L B) {g : AH} {N' : Nat → Int32} {kd wh am : Int32} {nt' : Nat} (h9 : B + 9 ≤ 9000)
    (gf : frU g h b) (hS : SR (g.1 b) N' nl np nq nt') (hW : WN N' nl np nq nt' (B + 9)) (hL : LNK nl np nq kd wh am (h.1 3 2) N') (hz : ∀ j, 631 ≤ j → N' j = 0) :
    CPL (acH (keepF g b kd wh am) sm N') (B + 9) ∧ (keepF g b kd wh am).1 3 = h.1 3 := by
  obtain ⟨hb3, hb0, hd3, hd0⟩ := hC.b3
  have hbd : b ≠ d := hC.1.2.2.1
  have e3 : (keepF g b kd wh am).1 3 = h.1 3 := by
    rw [keepF_b hb3.symm]
    funext k j
    exact gf.1 3 k j (Or.inl hb3.symm)
  have g0 : g.1 0 = h.1 0 := funext fun k => funext fun j => gf.1 0 k j (Or.inl hb0.symm)
  refine ⟨⟨b, d, nl, np, nq, nt', snapM sm, (ax + 1) % 10, L, hC.push (g := g) (h2 := acH (keepF g b kd wh am) sm N') (by omega) h9 (fun k hk => funext fun j => gf.1 b k j (Or.inr hk)) (funext fun k => funext fun j => gf.1 d k j (Or.inl hbd.symm)) (by rw [g0]) (by rw [g0]) (by rw [g0]) (by rw [g0]; exact hC.2.2.2.1) hS hW hL hz (fun b' hb' => acH_b hb') ?_ rfl ?_ ?_ ?_ rfl⟩, e3⟩
  · funext j
    show (ui (keepF g b kd wh am) 3 0 0 0).1 3 1 j = _
    rw [ui_k (by decide), e3]
  · show snapS ((keepF g b kd wh am).1 3 4) ((keepF g b kd wh am).1 3 2) sm = _
    rw [e3]
  · show (ui (keepF g b kd wh am) 3 0 0 0).1 3 0 2 = _
    rw [ui_j (by decide), e3]
  · show (ui (keepF g b kd wh am) 3 0 0 0).1 3 0 8 = _
    rw [ui_j (by decide), e3]
theorem hz_T {N : Nat → Int32} (hz : ∀ j, 631 ≤ j → N j = 0) {i : Nat} {v : Int32} (hi : i < 631) : ∀ j, 631 ≤ j → upd N i v j = 0 := fun j hj => by rw [pk_un (by omega)]; exact hz j hj
theorem call_pass (hC : CPL h B) (h9 : B + 9 ≤ 9000) {x : Int32} : Ct l G 2 yX10_pass cX10_pass 2 (some .int) [.ref (G.1 0 0), .int x] h (RK l G 2 yX11_pass cX11_pass 2 (some .int) [.ref (G.1 3 0), .int x] B) := by
  obtain ⟨b, d, nl, np, nq, nt, sm, ax, L, hX⟩ := hC
  have hX0 := hX
  obtain ⟨-, -, -, hg, hS, hW, hz, -, -⟩ := hX
  refine c10_pass hX0.WB ⟨_, rfl, ?_⟩
  unfold passF
  have hno : isInF x 1 99 = 0 ∨ ¬ h.1 3 2 6 + x ≤ 999 → mPass h sm x = (-1, ui h 3 0 0 0) := fun z => by
    unfold mPass
    rcases z with z | z
    · rw [if_pos z]
    · rw [if_neg z]; split <;> rfl
  by_cases e1 : x < 1
  · rw [if_pos e1]
    exact c11_pass hX0.WM (by rw [hno (Or.inl (isIn_lo e1))]; exact ⟨rfl, hX0.thr.cpl h9⟩)
  · rw [if_neg e1]
    by_cases e2 : 99 < x
    · rw [if_pos e2]
      exact c11_pass hX0.WM (by rw [hno (Or.inl (isIn_hi e2))]; exact ⟨rfl, hX0.thr.cpl h9⟩)
    · rw [if_neg e2, hS.1.2.2.2.2.2.1]
      by_cases e3 : h.1 3 2 6 + x ≤ 999
      · rw [if_pos e3]
        obtain ⟨a1, a2, a3⟩ := act_pass hS hW e1 e2 e3
        rw [hS.1.2.2.2.2.2.1] at a1
        obtain ⟨c1, c2⟩ := hX0.act h9 (frU.rf.ui (by omega)) a1 (a2.mono (by omega) h9) a3 (hz_T hz (by omega))
        refine c11_pass (hX0.WM.fr c2) ?_
        unfold mPass
        rw [c2, if_neg (by rw [isIn_in e1 e2]; decide), if_pos e3]
        exact ⟨rfl, c1⟩
      · rw [if_neg e3]
        exact c11_pass hX0.WM (by rw [hno (Or.inr e3)]; exact ⟨rfl, hX0.thr.cpl h9⟩)
theorem why_01 {N : Nat → Int32} {x y : Int32} : whyF N nt x y = 0 ∨ ¬ whyF N nt x y ≤ 0 := by
  unfold whyF
  split
  · right; decide
  · split
    · split
      · right; decide
      · split
        · left; rfl
        · right; decide
    · right; decide
theorem upd_id {N : Nat → Int32} {i : Nat} : upd N i (N i) = N := funext fun j => by
  by_cases e : j = i
  · rw [e, pk_us]
  · rw [pk_un e]
theorem call_stop (hC : CPL h B) (h9 : B + 9 ≤ 9000) {x y : Int32} : Ct l G 3 yX10_stop cX10_stop 5 (some .int) [.ref (G.1 0 0), .int x, .int y] h (RK l G 3 yX11_stop cX11_stop 4 (some .int) [.ref (G.1 3 0), .int x, .int y] B) := by
  obtain ⟨b, d, nl, np, nq, nt, sm, ax, L, hX⟩ := hC
  have hX0 := hX
  obtain ⟨-, -, -, hg, hS, hW, hz, -, -⟩ := hX
  have hq8 : nq ≤ 8 := hW.1.2.2.2.2.2.1
  refine c10_stop hX0.WB ⟨_, rfl, ?_⟩
  unfold stopF
  rw [hS.1.2.2.1, hS.1.1]
  rcases hasI_cs nq (by omega) x with e | ⟨q, hq, rfl, e⟩
  · rw [if_pos e]
    refine c11_stop hX0.WM ?_
    unfold mStop
    rw [if_pos e]
    exact ⟨rfl, hX0.thr.cpl h9⟩
  · rw [if_neg e]
    by_cases e2 : hasI (nI nl) y = 0
    · rw [if_pos e2]
      refine c11_stop hX0.WM ?_
      unfold mStop
      rw [if_neg e, if_pos e2]
      exact ⟨rfl, hX0.thr.cpl h9⟩
    · rw [if_neg e2, q_judge hS hW hq, nI_clamp (show q < 2 ^ 31 by omega)]
      obtain ⟨a1, a2, a3⟩ := act_mis hS hW hq (if whyF (h.1 3 2) nt (nI q) y = 0 then 0 else 1)
      have hN : stpN (h.1 3 2) q (whyF (h.1 3 2) nt (nI q) y) = upd (h.1 3 2) (79 + 3 * q + 2) (mQ (h.1 3 2) q 2 + (if whyF (h.1 3 2) nt (nI q) y = 0 then 0 else 1)) := by
        unfold stpN
        rcases why_01 (N := h.1 3 2) (nt := nt) (x := nI q) (y := y) with z | z
        · rw [z, if_pos (by decide), if_pos rfl]
          rw [show mQ (h.1 3 2) q 2 + 0 = h.1 3 2 (79 + 3 * q + 2) from by rw [Int32.add_zero]; rfl, upd_id]
        · rw [if_neg z, if_neg (fun w => z (by rw [w]; decide))]
          rfl
      rw [← hN] at a1 a2 a3
      obtain ⟨c1, c2⟩ := hX0.act h9 (frU.rf.ui (by omega)) a1 (a2.mono (by omega) h9) a3 (by rw [hN]; exact hz_T hz (by omega))
      refine c11_stop (hX0.WM.fr c2) ?_
      unfold mStop
      rw [c2, if_neg e, if_neg e2, nI_clamp (show q < 2 ^ 31 by omega)]
      exact ⟨rfl, c1⟩
theorem hz_hb {N : Nat → Int32} (hz : ∀ j, 631 ≤ j → N j = 0) {k : Nat} {n : Int32} (hk : k < 6) : ∀ j, 631 ≤ j → hbN N k n j = 0 := fun j hj => by rw [lo_hb hk (by omega)]; exact hz j hj
theorem frU_move {g : AH} {x n : Int32} : frU (moveF g b x n) g b := by
  unfold moveF
  split
  · exact frU.rf
  · exact (frU.rf.ui (by omega)).ui (by omega)
theorem call_handBack (hC : CPL h B) (h9 : B + 9 ≤ 9000) {x n : Int32} : Ct l G 2 yX10_handBack cX10_handBack 5 (some .int) [.ref (G.1 0 0), .int x, .int n] h (RK l G 2 yX11_handBack cX11_handBack 5 (some .int) [.ref (G.1 3 0), .int x, .int n] B) := by
  obtain ⟨b, d, nl, np, nq, nt, sm, ax, L, hX⟩ := hC
  have hX0 := hX
  obtain ⟨-, -, -, hg, hS, hW, hz, -, -⟩ := hX
  have hp6 : np ≤ 6 := hW.1.2.2.2.1
  have hre : ¬ h.1 3 2 1 = 0 := by
    obtain ⟨r, r1, r9, er, -⟩ := hW.2.1
    rw [er]; exact nI_ne0 (by omega) (by omega)
  refine c10_handBack hX0.WB ⟨_, rfl, ?_⟩
  unfold backF
  rw [hS.1.2.1]
  rcases hasI_cs np (by omega) x with e | ⟨k, hk, rfl, e⟩
  · rw [if_pos e]
    refine c11_handBack hX0.WM hre ?_
    unfold mBack
    rw [if_pos e]
    exact ⟨rfl, hX0.thr.cpl h9⟩
  · rw [if_neg e, nI_clamp (show k < 2 ^ 31 by omega), (hS.2.2.1 k hk).2.2.2.2.2.2.2.2.1]
    by_cases e2 : n < 1
    · rw [if_pos e2]
      refine c11_handBack hX0.WM hre ?_
      unfold mBack
      rw [if_neg e, if_pos e2]
      exact ⟨rfl, hX0.thr.cpl h9⟩
    · rw [if_neg e2]
      by_cases e3 : n ≤ mY (h.1 3 2) k 7
      · rw [if_pos e3]
        obtain ⟨j, hj, rfl⟩ := nI_of (x := n) (fun z => e2 (Int32.lt_trans z (by decide)))
        have hj1 : 1 ≤ j := by
          rcases Nat.lt_or_ge j 1 with z | z
          · exact absurd (show nI j < nI 1 from nI_ltU z (by omega)) e2
          · exact z
        obtain ⟨a1, a2, a3, a4⟩ := act_back hS hW h9 hk hj1 hj e3
        obtain ⟨c1, c2⟩ := hX0.act h9 frU_move a1 a2 a3 (hz_hb hz (by omega))
        refine c11_handBack (hX0.WM.fr c2) (by rw [c2]; exact hre) ?_
        unfold mBack
        rw [c2, if_neg e, if_neg e2, nI_clamp (show k < 2 ^ 31 by omega), if_pos e3]
        refine ⟨?_, c1⟩
        rw [← a4]
        congr 2
        unfold reisF
        rw [keepF_c (by omega), keepF_c (by omega)]
      · rw [if_neg e3]
        refine c11_handBack hX0.WM hre ?_
        unfold mBack
        rw [if_neg e, if_neg e2, nI_clamp (show k < 2 ^ 31 by omega), if_neg e3]
        exact ⟨rfl, hX0.thr.cpl h9⟩
theorem finF_fr {g : AH} {x : Int32} : frU (finF g b x) g b := by
  unfold finF
  split
  · exact frU.rf
  · split
    · exact frU.rf
    · exact (((giveF_fr (((frU.rf.ui (by omega)).ui (by omega)).ui (by omega))).ui (by omega)).ui (by omega)).ui (by omega)
theorem call_drop (hC : CPL h B) (h9 : B + 9 ≤ 9000) {x : Int32} : Ct l G 3 yX10_drop cX10_drop 2 (some .boolean) [.ref (G.1 0 0), .int x] h (RK l G 2 yX11_drop cX11_drop 2 (some .boolean) [.ref (G.1 3 0), .int x] B) := by
  obtain ⟨b, d, nl, np, nq, nt, sm, ax, L, hX⟩ := hC
  have hX0 := hX
  obtain ⟨-, -, -, hg, hS, hW, hz, -, -⟩ := hX
  have h40 : nt ≤ 40 := hW.1.2.2.2.2.2.2.2
  have hq8 : nq ≤ 8 := hW.1.2.2.2.2.2.1
  refine c10_drop hX0.WB ⟨_, rfl, ?_⟩
  unfold dropF
  rw [hS.1.2.2.2.1]
  rcases hasI_cs nt (by omega) x with e | ⟨t, ht, rfl, e⟩
  · rw [if_pos e]
    refine c11_drop hX0.WM ?_
    unfold mDrop
    rw [if_pos e]
    exact ⟨rfl, hX0.thr.cpl h9⟩
  · rw [if_neg e, nI_clamp (show t < 2 ^ 31 by omega), (hS.2.2.2.2 t ht).2.2.2.1]
    by_cases e2 : mT (h.1 3 2) t 2 = 0
    · rw [if_pos e2]
      obtain ⟨⟨q, hq, h0, -⟩, -, -⟩ := hW.2.2.2.2.1 t ht
      have hst : mT (h.1 3 2) t 3 = -1 ∧ mT (h.1 3 2) t 4 = -1 ∧ mT (h.1 3 2) t 5 = -1 ∧ mT (h.1 3 2) t 6 = 0 := by
        rcases hW.st ht with z | z | z
        · exact z.2
        · rw [z.1] at e2; exact absurd e2 (by decide)
        · rw [z.1] at e2; exact absurd e2 (by decide)
      obtain ⟨s3, s4, s5, s6⟩ := hst
      have hF : FN (h.1 3 2) (upd (upd (h.1 3 2) (111 + 13 * t + 2) 2) (111 + 13 * t + 5) (h.1 3 2 6)) t q 0 := drop_FN s3 s6
      have hP : FP (h.1 3 2) np t 0 := Or.inl ⟨e2, s3, s4, s5, s6, rfl⟩
      have hla : (if lateF h b (nI t) = 0 then (0 : Int32) else 1) = 0 := by
        unfold lateF
        rw [hS.1.2.1, nI_clamp (show t < 2 ^ 31 by omega), (hS.2.2.2.2 t ht).2.2.2.2.1, s3, hasI_m, if_pos rfl]
        split <;> rfl
      obtain ⟨c1, c2⟩ := hX0.act h9 finF_fr (fn_SR hS hW hF hP ht h0 hq hla) ((fn_WN hW hF hP ht).mono (by omega) h9) (fn_LNK hW hF hP ht h0 hq) (hz_T (hz_T hz (by omega)) (by omega))
      refine c11_drop (hX0.WM.fr c2) ?_
      unfold mDrop
      rw [c2, if_neg e, nI_clamp (show t < 2 ^ 31 by omega), if_pos e2]
      exact ⟨rfl, c1⟩
    · rw [if_neg e2]
      refine c11_drop hX0.WM ?_
      unfold mDrop
      rw [if_neg e, nI_clamp (show t < 2 ^ 31 by omega), if_neg e2]
      exact ⟨rfl, hX0.thr.cpl h9⟩
theorem hz_ask {N : Nat → Int32} (hz : ∀ j, 631 ≤ j → N j = 0) {t m : Nat} {x row : Int32} (ht : t < 40) : ∀ j, 631 ≤ j → askN N t m x row j = 0 := fun j hj => by
  unfold askN ask1
  rw [pk_un (by omega), awG_at, if_neg (by omega), pk_un (by omega), pk_un (by omega), pk_un (by omega), pk_un (by omega), pk_un (by omega), pk_un (by omega), pk_un (by omega)]
  exact hz j hj
theorem set_ask {g : AH} {w2 : Nat → Int32} {b' : Nat} (hb : b' ≠ 3) : (setI (ui g 3 0 0 0) 3 11 w2).1 b' = g.1 b' := by
  funext k
  rw [setI_b hb]
  funext j
  exact ui_b hb
theorem ask_same (hX : CX h b d nl np nq nt sm ax L B) (h9 : B + 9 ≤ 9000) {w2 : Nat → Int32} : CPL (setI (ui h 3 0 0 0) 3 11 w2) (B + 9) := by
  refine ⟨b, d, nl, np, nq, nt, sm, ax, L, hX.same (by omega) h9 (set_ask (by decide)) (set_ask (by decide)) (by rw [set_ask (by decide)]) (by rw [set_ask (by decide)]) (by rw [set_ask (by decide)]) (by rw [set_ask (by decide)]; exact hX.2.2.2.1) ?_ ?_ ?_ ?_ ?_ ?_⟩
  · rw [setI_k (by decide)]; funext j; exact ui_k (by decide)
  · rw [setI_k (by decide)]; funext j; exact ui_k (by decide)
  · rw [setI_k (by decide)]; funext j; exact ui_k (by decide)
  · rw [setI_k (by decide)]; exact ui_j (by decide)
  · rw [setI_k (by decide)]; exact ui_j (by decide)
  · rw [setI_k (by decide)]; exact ui_j (by decide)
theorem addT_fr {g : AH} {x row z y : Int32} : frU (addT g b x row z y) g b := by
  unfold addT
  exact (((((((((frU.rf.ui (by omega)).ui (by omega)).ui (by omega)).ui (by omega)).ui (by omega)).ui (by omega)).ui (by omega)).ui (by omega)).ui (by omega)).ui (by omega)
theorem call_ask (hC : CPL h B) (h9 : B + 9 ≤ 9000) {x row z : Int32} : Ct l G 3 yX10_ask cX10_ask 6 (some .int) [.ref (G.1 0 0), .int x, .int row, .int z] h (RK l G 3 yX11_ask cX11_ask 7 (some .int) [.ref (G.1 3 0), .int x, .int row, .int z] B) := by
  obtain ⟨b, d, nl, np, nq, nt, sm, ax, L, hX⟩ := hC
  have hX0 := hX
  obtain ⟨-, -, -, hg, hS, hW, hz, -, -⟩ := hX
  have h40 : nt ≤ 40 := hW.1.2.2.2.2.2.2.2
  have hq8 : nq ≤ 8 := hW.1.2.2.2.2.2.1
  have hl8 : nl ≤ 8 := hW.1.2.1
  have hno : ¬ cgOK (h.1 3 2) nl nq x row z → Ct l G 3 yX11_ask cX11_ask 7 (some .int) [.ref (G.1 3 0), .int x, .int row, .int z] h (fun v2 h2 => v2 = some (.int (-1)) ∧ CPL h2 (B + 9)) := fun hn => c11_ask hX0.WM (fun _ w2 => ⟨rfl, ask_same hX0 h9⟩) (fun y => absurd y hn) (fun y => absurd y hn) (fun y => absurd y hn)
  refine c10_ask hX0.WB ⟨_, rfl, ?_⟩
  unfold askF
  rw [hS.1.2.2.1]
  rcases hasI_cs nq (by omega) x with e | ⟨q, hq, rfl, e⟩
  · rw [if_pos e]
    exact hno (fun c => c.1 e)
  · rw [if_neg e]
    by_cases e2 : z < 2
    · rw [if_pos e2]
      exact hno (fun c => c.2.1 (isIn_lo e2))
    · rw [if_neg e2]
      by_cases e3 : 6 < z
      · rw [if_pos e3]
        exact hno (fun c => c.2.1 (isIn_hi e3))
      · rw [if_neg e3]
        by_cases e4 : 0 ≤ row
        · rw [if_pos e4]
          obtain ⟨m, hm, rfl⟩ := nI_of (x := z) (fun w => e2 (Int32.lt_trans w (by decide)))
          have hm2 : 2 ≤ m := by
            rcases Nat.lt_or_ge m 2 with w | w
            · exact absurd (show nI m < nI 2 from nI_ltU w (by omega)) e2
            · exact w
          have hm6 : m ≤ 6 := by
            rcases Nat.lt_or_ge 6 m with w | w
            · exact absurd (show nI 6 < nI m from nI_ltU w hm) e3
            · exact w
          obtain ⟨a, ha, h0⟩ := hW.2.2.2.1 q hq
          rw [nI_clamp (show q < 2 ^ 31 by omega), nI_clamp hm]
          have h16 : h.1 b 16 q = nI a := by rw [(hS.2.2.2.1 q hq).1, h0]
          have hcg : cgOK (h.1 3 2) nl nq (nI q) row (nI m) ↔ (∀ j, j < m → okG (h.1 3 2) nl (nI a) row j) ∧ lfG row m = 0 := by
            unfold cgOK
            rw [nI_clamp (show q < 2 ^ 31 by omega), nI_clamp hm, h0]
            exact ⟨fun c => c.2.2.2, fun c => ⟨e, by rw [isIn_in e2 e3]; decide, Int32.not_lt.mpr e4, c⟩⟩
          rw [h16]
          rcases rowF_n hS hl8 ha hm2 row with ⟨i1, i2⟩ | ⟨i1, i2, i3, i4⟩
          · rw [if_pos i1]
            exact hno (fun c => i2 (hcg.mp c))
          · have hok := hcg.mpr ⟨i3, i4⟩
            rw [if_neg (by rw [i1]; exact i2), (hS.2.2.2.1 q hq).2.2.1]
            by_cases e5 : tOG (h.1 3 2) (nI q) nt 0 = -1
            · rw [if_pos e5, hS.1.2.2.2.1]
              by_cases e6 : nt < 40
              · rw [if_pos (show nI nt < 40 from nI_ltU (b := 40) e6 (by omega))]
                have hr : rowF h b (mQ (h.1 3 2) q 0) row m = bnG row m := by rw [h0]; exact i1
                obtain ⟨a1, a2, a3⟩ := act_ask hS hW hq hm2 hm6 hr (by rw [h0]; exact (i3 0 (by omega)).2.2.1 rfl) e5 e6
                have eH : askH h b (nI q) row m = keepF (ui (addT h b (nI q) row (nI m) (rowF h b (h.1 b 16 q) row m)) b 18 q (nI nt)) b 0 (nI q) 0 := by
                  unfold askH
                  rw [nI_clamp (show q < 2 ^ 31 by omega), hS.1.2.2.2.1]
                have hfr : frU (ui (addT h b (nI q) row (nI m) (rowF h b (h.1 b 16 q) row m)) b 18 q (nI nt)) h b := addT_fr.ui (by omega)
                obtain ⟨⟨b2, d2, nl2, np2, nq2, nt2, sm2, ax2, L2, c1⟩, c2⟩ := hX0.act h9 hfr a1 (a2.mono (by omega) h9) a3 (hz_ask hz e6)
                rw [eH]
                refine c11_ask (hX0.WM.fr c2) (fun y => ?_) (fun _ y => ?_) (fun _ _ y => ?_) (fun _ _ _ w2 => ⟨rfl, b2, d2, nl2, np2, nq2, nt2, sm2, ax2, L2, ?_⟩)
                · rw [c2] at y; exact absurd hok y
                · rw [c2] at y; exact absurd e5 y
                · omega
                · rw [c2, nI_clamp hm]
                  refine c1.same (Nat.le_refl _) h9 ?_ ?_ ?_ ?_ ?_ ?_ ?_ rfl ?_ ?_ ?_ rfl
                  · rw [nH_b (by decide), set_ask (by decide), acH_b (by decide)]
                  · rw [nH_b (by decide), set_ask (by decide), acH_b (by decide)]
                  · rw [nH_b (by decide), set_ask (by decide), acH_b (by decide)]
                  · rw [nH_b (by decide), set_ask (by decide), acH_b (by decide)]
                  · rw [nH_b (by decide), set_ask (by decide), acH_b (by decide)]
                  · rw [nH_b (by decide), set_ask (by decide)]
                    have := c1.2.2.2.1
                    rw [acH_b (by decide)] at this
                    exact this
                  · show (setI (ui _ 3 0 0 0) 3 11 w2).1 3 1 = (ui _ 3 0 0 0).1 3 1
                    rw [setI_k (by decide)]
                  · show snapS (h.1 3 4) (h.1 3 2) sm = snapS ((keepF _ b 0 (nI q) 0).1 3 4) ((keepF _ b 0 (nI q) 0).1 3 2) sm
                    rw [c2]
                  · show (setI (ui _ 3 0 0 0) 3 11 w2).1 3 0 2 = (ui _ 3 0 0 0).1 3 0 2
                    rw [setI_k (by decide)]
                  · show (setI (ui _ 3 0 0 0) 3 11 w2).1 3 0 8 = (ui _ 3 0 0 0).1 3 0 8
                    rw [setI_k (by decide)]
              · rw [if_neg (show ¬ nI nt < 40 from nI_nlt (b := 40) (by omega) (by omega))]
                exact c11_ask hX0.WM (fun y => absurd hok y) (fun _ y => absurd e5 y) (fun _ _ _ w2 => ⟨rfl, ask_same hX0 h9⟩) (fun _ _ y => absurd y e6)
            · rw [if_neg e5]
              exact c11_ask hX0.WM (fun y => absurd hok y) (fun _ _ w2 => ⟨rfl, ask_same hX0 h9⟩) (fun _ y => absurd y e5) (fun _ y => absurd y e5)
        · rw [if_neg e4]
          exact hno (fun c => c.2.2.1 (Int32.not_le.mp e4))
end
