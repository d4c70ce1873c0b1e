section
variable {h : AH} {b d nl np nq nt sm ax L B : Nat} {l : Launch} {G : GG}
theorem qH_b {g : AH} {fr us gv cm qu st : Nat → Int32} {b' : Nat} (hb : b' ≠ 3) : (qH g fr us gv cm qu st).1 b' = g.1 b' := funext fun k => funext fun j => by
  show (if b' = 3 then _ else g.1 b' k j) = _
  rw [if_neg hb]
theorem SM_b {g : AH} {a c : Int32} {b' : Nat} (hb : b' ≠ 3) : (SM g a c).1 b' = g.1 b' := by
  unfold SM
  funext k j
  rw [ui_b hb, ui_b hb]
theorem pl_same (hX : CX h b d nl np nq nt sm ax L B) (h9 : B + 9 ≤ 9000) {g : AH} (hF : FR0 g h) (hg : rngG (g.1 0 11)) (a c : Int32) (fr us gv cm qu st : Nat → Int32) : CPL (qH (SM (ui g 3 0 0 0) a c) fr us gv cm qu st) (B + 9) := by
  have e : ∀ b', b' ≠ 3 → (qH (SM (ui g 3 0 0 0) a c) fr us gv cm qu st).1 b' = g.1 b' := fun b' hb => by
    rw [qH_b hb, SM_b hb]
    funext k j
    exact ui_b hb
  have g3 : g.1 3 = h.1 3 := hF.1 3 (by decide)
  refine ⟨b, d, nl, np, nq, nt, sm, ax, L, hX.same (by omega) h9 ?_ ?_ ?_ ?_ ?_ ?_ ?_ ?_ ?_ ?_ ?_ ?_⟩
  · rw [e 1 (by decide), hF.1 1 (by decide)]
  · rw [e 2 (by decide), hF.1 2 (by decide)]
  · rw [e 0 (by decide), hF.2 0 (by omega)]
  · rw [e 0 (by decide), hF.2 1 (by omega)]
  · rw [e 0 (by decide), hF.2 2 (by omega)]
  · rw [e 0 (by decide)]; exact hg
  · funext j
    show (SM (ui g 3 0 0 0) a c).1 3 1 j = _
    unfold SM
    rw [ui_k (by decide), ui_k (by decide), ui_k (by decide), g3]
  · funext j
    show (SM (ui g 3 0 0 0) a c).1 3 2 j = _
    unfold SM
    rw [ui_k (by decide), ui_k (by decide), ui_k (by decide), g3]
  · funext j
    show (SM (ui g 3 0 0 0) a c).1 3 4 j = _
    unfold SM
    rw [ui_k (by decide), ui_k (by decide), ui_k (by decide), g3]
  · show (SM (ui g 3 0 0 0) a c).1 3 0 2 = _
    unfold SM
    rw [ui_j (by decide), ui_j (by decide), ui_j (by decide), g3]
  · show (SM (ui g 3 0 0 0) a c).1 3 0 8 = _
    unfold SM
    rw [ui_j (by decide), ui_j (by decide), ui_j (by decide), g3]
  · show (SM (ui g 3 0 0 0) a c).1 3 0 14 = _
    unfold SM
    rw [ui_j (by decide), ui_j (by decide), ui_j (by decide), g3]
theorem pl_thr (hX : CX h b d nl np nq nt sm ax L B) (h9 : B + 9 ≤ 9000) {g : AH} (hF : FR0 g h) (hg : rngG (g.1 0 11)) : CPL (ui g 3 0 0 0) (B + 9) := by
  have := pl_same hX h9 hF hg ((ui g 3 0 0 0).1 3 0 22) ((ui g 3 0 0 0).1 3 0 23) ((ui g 3 0 0 0).1 3 5) ((ui g 3 0 0 0).1 3 6) ((ui g 3 0 0 0).1 3 7) ((ui g 3 0 0 0).1 3 8) ((ui g 3 0 0 0).1 3 9) ((ui g 3 0 0 0).1 3 10)
  rw [SM_self, qH_self] at this
  exact this
theorem call_served (hC : CPL h B) (h9 : B + 9 ≤ 9000) {x y : Int32} : Ct l G 5 yX10_served cX10_served 3 (some .int) [.ref (G.1 0 0), .int x, .int y] h (RK l G 7 yX11_served cX11_served 3 (some .int) [.ref (G.1 3 0), .int x, .int y] B) := by
  obtain ⟨b, d, nl, np, nq, nt, sm, ax, L, hX⟩ := hC
  have hX0 := hX
  obtain ⟨-, -, -, hg, hS, hW, hz, -, -⟩ := hX
  obtain ⟨hb3, hb0, hd3, hd0⟩ := hX0.b3
  have hp6 : np ≤ 6 := hW.1.2.2.2.1
  have hno : ¬ seOk np x y → Ct l G 7 yX11_served cX11_served 3 (some .int) [.ref (G.1 3 0), .int x, .int y] h (fun v2 h2 => v2 = some (.int (-1)) ∧ CPL h2 (B + 9)) := fun hn => c11_served hX0.WM hW.PP (fun _ => ⟨rfl, hX0.thr.cpl h9⟩) (fun z => absurd z hn)
  refine c10_served hX0.WB hg ⟨_, rfl, ?_⟩
  unfold servF
  rw [hS.1.2.1]
  rcases hasI_cs np (by omega) x with e | ⟨k, hk, rfl, e⟩
  · rw [if_pos e]
    exact hno (fun z => z.1 e)
  · rw [if_neg e]
    by_cases e2 : y < -99
    · rw [if_pos e2]
      exact hno (fun z => z.2 (isIn_lo e2))
    · rw [if_neg e2]
      by_cases e3 : y ≤ 99
      · rw [if_pos e3]
        obtain ⟨s1, s2⟩ := su_SU hS hW hb0 hg
        have s3 := ad_SU (k := k) (y := y) (by omega) s1
        rw [s2]
        obtain ⟨s4, ix, Gg, q1, q2, q3, q4, q5, q6⟩ := sol_SU hW.PW hW.w8 s3
        have hF : FR0 (solveF (adF (setUpF h b nt) (nI k) y) (wN (h.1 3 2) nt)) h := FR0_sol.tr (FR0_ad.tr FR0_su)
        have e3' : (solveF (adF (setUpF h b nt) (nI k) y) (wN (h.1 3 2) nt)).1 3 = h.1 3 := hF.1 3 (by decide)
        refine c11_served (hX0.WM.fr e3') (by rw [e3']; exact hW.PP) (fun z => absurd ⟨e, by rw [isIn_in e2 (Int32.not_lt.mpr e3)]; decide⟩ z) (fun _ v h2 hR => ?_)
        obtain ⟨fr, us, gv, cm, qu, st, rfl, rfl, hM, -⟩ := hR
        have e32 : (ui (solveF (adF (setUpF h b nt) (nI k) y) (wN (h.1 3 2) nt)) 3 0 0 0).1 3 2 = h.1 3 2 := by
          funext j
          rw [ui_k (by decide), e3']
        rw [e32, nI_clamp (show k < 2 ^ 31 by omega)] at hM
        rw [e32, q6]
        exact ⟨by rw [(MR_srv hW.PW hW.w8 q4 hM).1], pl_same hX0 h9 hF s4.choose_spec.2.2.2.2.2.2 _ _ _ _ _ _ _ _⟩
      · rw [if_neg e3]
        exact hno (fun z => z.2 (isIn_hi (Int32.not_le.mp e3)))
/-! needs -/
def AllS (N : Nat → Int32) (np nt k n : Nat) : Prop := ∃ g, MR N np nt (frn N np nt k (nI n)) g ∧ srvN N nt g = wN N nt
theorem AllS_no {N : Nat → Int32} {k n : Nat} (hP : PW N np nt) (hw : wN N nt ≤ 8) {g : Nat → Int32} (h1 : MR N np nt (frn N np nt k (nI n)) g) (h2 : ¬ srvN N nt g = wN N nt) : ¬ AllS N np nt k n := fun ⟨g', a, c⟩ => h2 (by rw [(MR_srv hP hw h1 a).1, c])
theorem frn_s {N : Nat → Int32} {k m : Nat} (hW : WN N nl np nq nt B) (hk : k < np) (hm : m < 100) : frn N np nt k (nI (m + 1)) = upd (frn N np nt k (nI m)) k (if 0 ≤ frn N np nt k (nI m) k + 1 then frn N np nt k (nI m) k + 1 else 0) := by
  obtain ⟨f, f1, f2⟩ := mFree_n hW hk
  have e : mfr N np nt k = nI f := by unfold mfr; rw [if_pos hk, f2]
  have hk2 : ∀ n, n < 200 → frn N np nt k (nI n) k = nI (f + n) := fun n hn => by
    unfold frn
    rw [pk_us, e, nI_add, if_pos (nI_pos' (by omega))]
  funext j
  by_cases z : j = k
  · subst z
    rw [pk_us, hk2 _ (by omega), hk2 _ (by omega), nI_1, if_pos (nI_pos' (by omega))]
    rfl
  · rw [pk_un z]
    unfold frn
    rw [pk_un z, pk_un z]
theorem need_spec {N : Nat → Int32} {k : Nat} (hW : WN N nl np nq nt B) (hk : k < np) : ∀ f m g, m + f ≤ 9 → SU g N np nt (frn N np nt k (nI m)) → (FR0 (needG (wN N nt) (nI k) f m g).2 g ∧ rngG ((needG (wN N nt) (nI k) f m g).2.1 0 11)) ∧
    ((∃ n, m ≤ n ∧ n < m + f ∧ (needG (wN N nt) (nI k) f m g).1 = nI n ∧ AllS N np nt k n ∧ ∀ n', m ≤ n' → n' < n → ¬ AllS N np nt k n') ∨ ((needG (wN N nt) (nI k) f m g).1 = -2 ∧ ∀ n', m ≤ n' → n' < m + f → ¬ AllS N np nt k n'))
  | 0, m, g, _, hS => ⟨⟨⟨fun _ _ => rfl, fun _ _ => rfl⟩, hS.choose_spec.2.2.2.2.2.2⟩, Or.inr ⟨rfl, fun n' a c => absurd a (by omega)⟩⟩
  | f + 1, m, g, hm, hS => by
    have hp6 : np ≤ 6 := hW.1.2.2.2.1
    obtain ⟨s4, ix, Gg, q1, q2, q3, q4, q5, q6⟩ := sol_SU hW.PW hW.w8 hS
    rw [show needG (wN N nt) (nI k) (f + 1) m g = if (solveF g (wN N nt)).1 0 6 8 = (solveF g (wN N nt)).1 0 6 7 then (nI m, solveF g (wN N nt)) else needG (wN N nt) (nI k) f (m + 1) (adF (solveF g (wN N nt)) (nI k) 1) from rfl]
    have e67 : (solveF g (wN N nt)).1 0 6 7 = nI (wN N nt) := s4.choose_spec.2.2.2.1
    have hsl : srvN N nt (gOf N Gg) ≤ 40 := Nat.le_trans (sN_le (fun _ _ => if01_le _)) hW.1.2.2.2.2.2.2.2
    have hw8 := hW.w8
    rw [q6, e67]
    by_cases e : srvN N nt (gOf N Gg) = wN N nt
    · rw [if_pos (by rw [e])]
      exact ⟨⟨FR0_sol, s4.choose_spec.2.2.2.2.2.2⟩, Or.inl ⟨m, Nat.le_refl _, by omega, rfl, ⟨_, q4, e⟩, fun n' a c => absurd a (by omega)⟩⟩
    · rw [if_neg (fun z => e (nI_inj (by omega) (by omega) z))]
      have s5 := ad_SU (k := k) (y := 1) (by omega) s4
      rw [← frn_s hW hk (by omega)] at s5
      obtain ⟨⟨i1, i2⟩, i3⟩ := need_spec hW hk f (m + 1) _ (by omega) s5
      refine ⟨⟨i1.tr (FR0_ad.tr FR0_sol), i2⟩, ?_⟩
      have hno := AllS_no hW.PW hW.w8 q4 e
      rcases i3 with ⟨n, a1, a2, a3, a4, a5⟩ | ⟨a1, a2⟩
      · refine Or.inl ⟨n, by omega, by omega, a3, a4, fun n' c1 c2 => ?_⟩
        by_cases z : n' = m
        · rw [z]; exact hno
        · exact a5 n' (by omega) c2
      · refine Or.inr ⟨a1, fun n' c1 c2 => ?_⟩
        by_cases z : n' = m
        · rw [z]; exact hno
        · exact a2 n' (by omega) (by omega)
/-- more pieces than trips wait never help -/
theorem AllS_w {N : Nat → Int32} {k n : Nat} (hW : WN N nl np nq nt B) (hk : k < np) (hn : n < 100) (h1 : AllS N np nt k n) (h2 : wN N nt ≤ n) {g' : Nat → Int32} (hM : MR N np nt (frn N np nt k (nI (wN N nt))) g') : srvN N nt g' = wN N nt := by
  have hP := hW.PW
  have hw8 := hW.w8
  have hp6 : np ≤ 6 := hW.1.2.2.2.1
  obtain ⟨g, a, c⟩ := h1
  obtain ⟨f, f1, f2⟩ := mFree_n hW hk
  have e : mfr N np nt k = nI f := by unfold mfr; rw [if_pos hk, f2]
  have hk2 : ∀ n, n < 200 → frn N np nt k (nI n) k = nI (f + n) := fun n hn => by
    unfold frn
    rw [pk_us, e, nI_add, if_pos (nI_pos' (by omega))]
  have hkn : ∀ n j, j ≠ k → frn N np nt k (nI n) j = mfr N np nt j := fun n j hj => by unfold frn; rw [pk_un hj]
  have hld : ∀ j, ldN N nt g j ≤ wN N nt := fun j => sN_mono (fun t ht => by
    (try dsimp only)
    by_cases z : mT N t 2 = 0
    · rw [if_pos z]; exact if01_le _
    · rw [if_neg z, if_neg (fun y => z y.1)]; exact Nat.le_refl _)
  have hFE : FE N np nt (frn N np nt k (nI (wN N nt))) g := by
    refine ⟨fun t ht hwt => ?_, fun j hj => ?_⟩
    · rcases a.1.1 t ht hwt with q | ⟨j, q1, q2, q3, q4⟩
      · exact Or.inl q
      · refine Or.inr ⟨j, q1, q2, ?_, q4⟩
        by_cases z : j = k
        · subst z
          have hpos : 0 < wN N nt := by have := wN_lt (N := N) ht hwt; omega
          rw [hk2 _ (by omega), nle0, nI_toInt (by omega)]
          omega
        · rw [hkn _ _ z] at q3 ⊢; exact q3
    · by_cases z : j = k
      · subst z
        have := hld j
        rw [hk2 _ (by omega), nI_toInt (by omega)]
        omega
      · have := a.1.2 j hj
        rw [hkn _ _ z] at this ⊢; exact this
  have hle := hM.2 g hFE
  have hcs : ∀ k, k < np → cst N k ≤ 99 := fun k hk => (cst_of hP hk).2
  have u1 := UU_eq (nt := nt) hp6 hcs (fun t ht hwt => (a.1.1 t ht hwt).rng)
  have u2 := UU_eq (nt := nt) hp6 hcs (fun t ht hwt => (hM.1.1 t ht hwt).rng)
  omega
theorem call_needs (hC : CPL h B) (h9 : B + 9 ≤ 9000) {x : Int32} : Ct l G 5 yX10_needs cX10_needs 3 (some .int) [.ref (G.1 0 0), .int x] h (RK l G 7 yX11_needs cX11_needs 4 (some .int) [.ref (G.1 3 0), .int x] B) := by
  obtain ⟨b, d, nl, np, nq, nt, sm, ax, L, hX⟩ := hC
  have hX0 := hX
  obtain ⟨-, -, -, hg, hS, hW, hz, -, -⟩ := hX
  obtain ⟨hb3, hb0, hd3, hd0⟩ := hX0.b3
  have hp6 : np ≤ 6 := hW.1.2.2.2.1
  refine c10_needs hX0.WB hg ⟨_, rfl, ?_⟩
  unfold needF
  rw [hS.1.2.1]
  rcases hasI_cs np (by omega) x with e | ⟨k, hk, rfl, e⟩
  · rw [if_pos e]
    exact c11_needs hX0.WM hW.PP (fun _ => ⟨rfl, hX0.thr.cpl h9⟩) (fun z => absurd e z)
  · rw [if_neg e]
    obtain ⟨s1, s2⟩ := su_SU hS hW hb0 hg
    rw [s2]
    have s0 : SU (setUpF h b nt) (h.1 3 2) np nt (frn (h.1 3 2) np nt k (nI 0)) := by
      have : frn (h.1 3 2) np nt k (nI 0) = mfr (h.1 3 2) np nt := by
        obtain ⟨f, f1, f2⟩ := mFree_n hW hk
        have e : mfr (h.1 3 2) np nt k = nI f := by unfold mfr; rw [if_pos hk, f2]
        funext j
        by_cases z : j = k
        · subst z
          unfold frn
          rw [pk_us, e, nI_add, if_pos (nI_pos' (by omega))]; rfl
        · unfold frn; rw [pk_un z]
      rw [this]; exact s1
    obtain ⟨⟨i1, i2⟩, i3⟩ := need_spec hW hk 9 0 _ (by omega) s0
    generalize needG (wN (h.1 3 2) nt) (nI k) 9 0 (setUpF h b nt) = R at *
    have hF : FR0 R.2 h := i1.tr FR0_su
    have e3' : R.2.1 3 = h.1 3 := hF.1 3 (by decide)
    have hw8 := hW.w8
    refine c11_needs (hX0.WM.fr e3') (by rw [e3']; exact hW.PP) (fun z => absurd z e) (fun _ r fr us gv cm qu st a c hR => ⟨?_, pl_same hX0 h9 hF i2 _ _ _ _ _ _ _ _⟩)
    rw [e3', nI_clamp (show k < 2 ^ 31 by omega)] at hR
    have : R.1 = r := by
      rcases hR with ⟨n2, b1, b2, ⟨g2, b3, -, b4⟩, b5⟩ | ⟨b1, b2⟩
      · have hA : AllS (h.1 3 2) np nt k n2 := ⟨g2, b3, b4⟩
        rcases i3 with ⟨n, a1, a2, a3, a4, a5⟩ | ⟨a1, a2⟩
        · rcases Nat.lt_trichotomy n n2 with z | z | z
          · obtain ⟨g3, c1, -, c2⟩ := b5 n z
            exact absurd a4 (AllS_no hW.PW hW.w8 c1 c2)
          · rw [a3, b2, z]
          · exact absurd hA (a5 n2 (by omega) z)
        · exact absurd hA (a2 n2 (by omega) (by omega))
      · rcases i3 with ⟨n, a1, a2, a3, a4, a5⟩ | ⟨a1, a2⟩
        · obtain ⟨g3, c1, -, c2⟩ := b2 (wN (h.1 3 2) nt) (by omega)
          rcases Nat.lt_or_ge n (wN (h.1 3 2) nt) with z | z
          · obtain ⟨g4, c3, -, c4⟩ := b2 n (by omega)
            exact absurd a4 (AllS_no hW.PW hW.w8 c3 c4)
          · exact absurd (AllS_w hW hk (by omega) a4 z c1) c2
        · rw [a1, b1]
    rw [this]
/-! plan -/
theorem typ_no {tr g : Nat → Int32} {x : Int32} : ∀ f k, (∀ j, k ≤ j → j < k + f → ¬ tr j = x ∨ g j = 6) → typG tr g x f k = -1
  | 0, _, _ => rfl
  | f + 1, k, hh => by
    rw [show typG tr g x (f + 1) k = if tr k = x then (if g k = 6 then typG tr g x f (k + 1) else g k) else typG tr g x f (k + 1) from rfl, typ_no f (k + 1) (fun j a c => hh j (by omega) (by omega))]
    rcases hh k (by omega) (by omega) with z | z
    · rw [if_neg z]
    · rw [if_pos z]; split <;> rfl
theorem typ_yes {tr g : Nat → Int32} {x : Int32} {j : Nat} (h1 : tr j = x) (h2 : ¬ g j = 6) : ∀ f k, k ≤ j → j < k + f → (∀ j', k ≤ j' → j' < j → ¬ tr j' = x) → typG tr g x f k = g j
  | 0, k, a, c, _ => by omega
  | f + 1, k, a, c, hh => by
    rw [show typG tr g x (f + 1) k = if tr k = x then (if g k = 6 then typG tr g x f (k + 1) else g k) else typG tr g x f (k + 1) from rfl]
    by_cases z : k = j
    · subst z
      rw [if_pos h1, if_neg h2]
    · rw [if_neg (hh k (Nat.le_refl _) (by omega))]
      exact typ_yes h1 h2 f (k + 1) (by omega) (by omega) (fun j' c1 c2 => hh j' (by omega) c2)
theorem cost_n {N : Nat → Int32} {g : AH} {Gg : Nat → Nat} (hP : PW N np nt) (h3 : g.1 b 3 11 = nI np) (h7 : ∀ k, k < np → g.1 b 7 k = mY N k 3) : ∀ w, (∀ k, k < w → g.1 0 11 k = nI (Gg k) ∧ (Gg k = 6 ∨ Gg k < np)) → costG g b w = nI (sN (fun k => if Gg k = 6 then 0 else cst N (Gg k)) w)
  | 0, _ => rfl
  | w + 1, hh => by
    have hp6 : np ≤ 6 := hP.2.1
    rw [show costG g b (w + 1) = if hasI (g.1 b 3 11) (g.1 0 11 w) = 0 then costG g b w else costG g b w + g.1 b 7 (g.1 0 11 w).toNatClampNeg from rfl,
      show sN (fun k => if Gg k = 6 then 0 else cst N (Gg k)) (w + 1) = sN (fun k => if Gg k = 6 then 0 else cst N (Gg k)) w + (if Gg w = 6 then 0 else cst N (Gg w)) from rfl, cost_n hP h3 h7 w (fun k hk => hh k (by omega)), h3, (hh w (by omega)).1]
    by_cases e : Gg w = 6
    · rw [if_pos e, e, if_pos]
      · rfl
      · rcases hasI_cs np (by omega) (nI 6) with q | ⟨c', q1, q2, -⟩
        · exact q
        · exact absurd (nI_inj (by omega) (by omega) q2) (by omega)
    · have hn : Gg w < np := by
        rcases (hh w (by omega)).2 with z | z
        · exact absurd z e
        · exact z
      rw [if_neg e, if_neg (by rw [hasI_p hn (by omega)]; decide), nI_clamp (by omega), h7 _ hn, (cst_of hP hn).1, nI_add]
theorem gOf_np {N : Nat → Int32} {ix Gg : Nat → Nat} {fr : Nat → Int32} (hI : IX N nt ix) (hM : FE N np nt fr (gOf N Gg)) {k : Nat} (hk : k < wN N nt) (h7 : Gg k < 7) : Gg k = 6 ∨ Gg k < np := by
  obtain ⟨i1, i2, i3⟩ := hI.inv hk
  by_cases z : Gg k = 6
  · exact Or.inl z
  · have hg := gOf_ix (G := Gg) hI hk
    rw [if_neg z] at hg
    rcases hM.1 _ i1 i2 with q | ⟨k', q1, q2, -⟩
    · rw [hg] at q; exact absurd q (nIm (by omega))
    · rw [hg] at q2
      have : np < 2 ^ 31 → Gg k = k' := fun _ => by
        rcases Nat.lt_or_ge k' (2 ^ 31) with y | y
        · exact nI_inj (by omega) y q2
        · omega
      rcases Nat.lt_or_ge np (2 ^ 31) with y | y
      · right; rw [this y]; exact q1
      · right; omega
theorem sc_gOf {N : Nat → Int32} {ix Gg : Nat → Nat} (hI : IX N nt ix) (h7 : ∀ k, k < wN N nt → Gg k < 7) : scN N nt (gOf N Gg) = sN (fun k => if Gg k = 6 then 0 else cst N (Gg k)) (wN N nt) := by
  rw [sc_ix hI]
  refine sN_congr (fun k hk => ?_)
  (try dsimp only)
  rw [gOf_ix hI hk]
  have := h7 k hk
  by_cases z : Gg k = 6
  · rw [if_pos z, if_pos z, if_pos rfl]
  · rw [if_neg z, if_neg z, if_neg (nIm (by omega)), nI_clamp (by omega)]
theorem call_plan (hC : CPL h B) (h9 : B + 9 ≤ 9000) {x : Int32} : Ct l G 5 yX10_plan cX10_plan 2 (some .int) [.ref (G.1 0 0), .int x] h (RK l G 8 yX11_plan cX11_plan 2 (some .int) [.ref (G.1 3 0), .int x] B) := by
  obtain ⟨b, d, nl, np, nq, nt, sm, ax, L, hX⟩ := hC
  have hX0 := hX
  obtain ⟨-, -, -, hg, hS, hW, hz, -, -⟩ := hX
  obtain ⟨hb3, hb0, hd3, hd0⟩ := hX0.b3
  have hp6 : np ≤ 6 := hW.1.2.2.2.1
  have h40 : nt ≤ 40 := hW.1.2.2.2.2.2.2.2
  refine c10_plan hX0.WB hg ⟨_, rfl, ?_⟩
  unfold planF
  obtain ⟨s1, s2⟩ := su_SU hS hW hb0 hg
  obtain ⟨s4, ix, Gg, q1, q2, q3, q4, q5, q6⟩ := sol_SU hW.PW hW.w8 s1
  have hF : FR0 (planH h b nt) h := by unfold planH; exact FR0_sol.tr FR0_su
  have e3' : (planH h b nt).1 3 = h.1 3 := hF.1 3 (by decide)
  rw [s2]
  have hH : planH h b nt = solveF (setUpF h b nt) (wN (h.1 3 2) nt) := by unfold planH; rw [s2]
  rw [← hH] at q2 q3 q6 s4
  have hrg : rngG ((planH h b nt).1 0 11) := s4.choose_spec.2.2.2.2.2.2
  have hMR : ∀ gv, LR (h.1 3 2) np nt (mfr (h.1 3 2) np nt) gv → MR (h.1 3 2) np nt (mfr (h.1 3 2) np nt) gv := fun gv hL => ⟨hL.1, hL.2.1⟩
  by_cases e0 : x = 0
  · rw [if_pos e0]
    subst e0
    refine c11_plan (hX0.WM.fr e3') (by rw [e3']; exact hW.PP) (fun z => absurd (Or.inl (by decide)) z) (fun _ fr us gv cm qu st hL _ => ⟨?_, pl_same hX0 h9 hF hrg _ _ _ _ _ _ _ _⟩)
    rw [e3'] at hL ⊢
    rw [q6, (MR_srv hW.PW hW.w8 q4 (hMR gv hL)).1]
    rfl
  · rw [if_neg e0]
    by_cases e1 : x = 1
    · rw [if_pos e1]
      subst e1
      refine c11_plan (hX0.WM.fr e3') (by rw [e3']; exact hW.PP) (fun z => absurd (Or.inl (by decide)) z) (fun _ fr us gv cm qu st hL _ => ⟨?_, pl_same hX0 h9 hF hrg _ _ _ _ _ _ _ _⟩)
      rw [e3'] at hL ⊢
      have eb : (planH h b nt).1 b = h.1 b := hF.1 b hb0
      rw [cost_n (N := h.1 3 2) (Gg := Gg) (np := np) (nt := nt) hW.PW (by rw [eb]; exact hS.1.2.1) (fun k hk => by rw [eb]; exact (hS.2.2.1 k hk).2.2.2.1) _ (fun k hk => ⟨(q3 k hk).1, gOf_np q1 q4.1 hk (q3 k hk).2⟩), ← sc_gOf q1 (fun k hk => (q3 k hk).2), (MR_srv hW.PW hW.w8 q4 (hMR gv hL)).2]
      rfl
    · rw [if_neg e1]
      have hin : isInF x 0 1 = 0 := by
        by_cases z : isInF x 0 1 = 0
        · exact z
        · obtain ⟨j, hj, rfl⟩ := isIn_n (m := 1) rfl (by omega) z
          obtain rfl | rfl : j = 0 ∨ j = 1 := by omega
          · exact absurd rfl e0
          · exact absurd rfl e1
      by_cases e10 : 10 ≤ x
      · rw [if_pos e10]
        by_cases ok : plOk (h.1 3 2) nt x
        · have hok : ¬ hasI (nI nt) (x - 10) = 0 ∧ mT (h.1 3 2) (x - 10).toNatClampNeg 2 = 0 := by
            rcases ok with z | z
            · exact absurd hin z
            · exact z.2
          obtain ⟨t, ht, et⟩ : ∃ t, t < nt ∧ x - 10 = nI t := by
            rcases hasI_cs nt (by omega) (x - 10) with z | ⟨t, a, c, -⟩
            · exact absurd z hok.1
            · exact ⟨t, a, c⟩
          have hwt : mT (h.1 3 2) t 2 = 0 := by have := hok.2; rw [et, nI_clamp (by omega)] at this; exact this
          have hkw := wN_lt ht hwt
          have hix := q1 t ht hwt
          refine c11_plan (hX0.WM.fr e3') (by rw [e3']; exact hW.PP) (fun z => absurd (by rw [e3']; exact ok) z) (fun _ fr us gv cm qu st hL _ => ⟨?_, pl_same hX0 h9 hF hrg _ _ _ _ _ _ _ _⟩)
          rw [e3'] at hL ⊢
          have hcd := q5 gv hL _ hkw
          rw [hix] at hcd
          have hval : plV (h.1 3 2) nt gv x = gv t := by
            unfold plV
            rw [if_neg e0, if_neg e1, et, nI_clamp (by omega)]
          rw [hval, et]
          have huniq : ∀ j, j < wN (h.1 3 2) nt → (planH h b nt).1 0 7 j = nI t → j = wN (h.1 3 2) t := fun j hj z => by
            obtain ⟨i1, i2, i3⟩ := q1.inv hj
            rw [q2 j hj] at z
            rw [← i3, nI_inj (by omega) (by omega) z]
          rcases hL.1.1 t ht hwt with z | ⟨c, c1, c2, -⟩
          · rw [cd_n hwt z] at hcd
            rw [typ_no _ _ (fun j _ hj => ?_), z]
            by_cases y : (planH h b nt).1 0 7 j = nI t
            · right
              have := huniq j (by omega) y
              subst this
              rw [(q3 _ hkw).1, hcd]; rfl
            · exact Or.inl y
          · rw [cd_k (by omega) hwt c2] at hcd
            rw [typ_yes (j := wN (h.1 3 2) t) (by rw [q2 _ hkw, hix]) (by rw [(q3 _ hkw).1, hcd]; exact fun y => absurd (nI_inj (b := 6) (by omega) (by omega) y) (by omega)) _ 0 (by omega) (by omega) (fun j' _ y w => by have := huniq j' (by omega) w; omega), (q3 _ hkw).1, hcd, c2]
        · refine c11_plan (hX0.WM.fr e3') (by rw [e3']; exact hW.PP) (fun _ => ⟨?_, pl_thr hX0 h9 hF hrg⟩) (fun z => absurd (by rw [e3'] at z; exact z) ok)
          rw [typ_no _ _ (fun j _ hj => ?_)]
          left
          intro y
          obtain ⟨i1, i2, i3⟩ := q1.inv (show j < wN (h.1 3 2) nt by omega)
          rw [q2 j (by omega)] at y
          refine ok (Or.inr ⟨Int32.not_lt.mpr e10, ?_, ?_⟩)
          · rw [← y, hasI_p i1 (by omega)]; decide
          · rw [← y, nI_clamp (by omega)]; exact i2
      · rw [if_neg e10]
        refine c11_plan hX0.WM hW.PP (fun _ => ⟨rfl, hX0.thr.cpl h9⟩) (fun z => ?_)
        rcases z with z | z
        · exact absurd hin z
        · exact absurd (Int32.not_lt.mp z.1) e10
end
