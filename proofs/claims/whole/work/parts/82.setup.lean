section
variable {N : Nat → Int32} {nl np nq nt B : Nat} {h : AH} {b : Nat}
theorem col_spec {st tr : Nat → Int32} (hs : ∀ t, t < nt → st t = mT N t 2) : ∀ n, n ≤ nt → wN N n ≤ 8 → (colG st tr n).2 = wN N n ∧ ∀ t, t < n → mT N t 2 = 0 → (colG st tr n).1 (wN N t) = nI t
  | 0, _, _ => ⟨rfl, fun t ht => absurd ht (Nat.not_lt_zero _)⟩
  | n + 1, hn, h8 => by
    have hm := wN_mono (N := N) (show n ≤ n + 1 by omega)
    obtain ⟨a, c⟩ := col_spec (st := st) (tr := tr) hs n (by omega) (by omega)
    rw [show colG st tr (n + 1) = if st n = 0 then (if 8 ≤ (colG st tr n).2 then colG st tr n else (upd (colG st tr n).1 (colG st tr n).2 (nI n), (colG st tr n).2 + 1)) else colG st tr n from rfl, hs n (by omega), wN_s]
    rw [wN_s] at h8
    by_cases e : mT N n 2 = 0
    · rw [if_pos e] at h8
      rw [if_pos e, if_pos e, a, if_neg (by omega)]
      refine ⟨rfl, fun t ht hw => ?_⟩
      by_cases z : t = n
      · rw [z]; exact pk_us
      · have : wN N t < wN N n := wN_lt (by omega) hw
        show upd (colG st tr n).1 (wN N n) (nI n) (wN N t) = nI t
        rw [pk_un (by omega)]
        exact c t (by omega) hw
    · rw [if_neg e, if_neg e]
      refine ⟨a, fun t ht hw => ?_⟩
      by_cases z : t = n
      · rw [z] at hw; exact absurd hw e
      · exact c t (by omega) hw
theorem pow7_n : ∀ n, pow7 n = lN (7 ^ n)
  | 0 => by decide +kernel
  | n + 1 => by
    show pow7 n * 7 = lN (7 ^ (n + 1))
    rw [pow7_n n, show (7 : Int64) = lN 7 by decide +kernel, lN_mul, Nat.pow_succ]
theorem pr_spec {g : AH} {P : Nat → Int64} {w : Nat} : ∀ i, i ≤ w → ∀ k, w - i ≤ k → k < w → ∀ c, c < 7 → prG g b w P i (k * 7 + c) = if c = 6 then 5764801000 + 6 * pow7 (w - 1 - k) else prF g b k (pow7 (w - 1 - k)) c
  | 0, _, k, h1, h2, c, _ => by omega
  | i + 1, hi, k, h1, h2, c, hc => by
    show prP g b (w - (i + 1)) (pow7 i) (prG g b w P i) (k * 7 + c) = _
    unfold prP
    by_cases e : k = w - (i + 1)
    · subst e
      rw [show w - 1 - (w - (i + 1)) = i by omega]
      by_cases z : c = 6
      · subst z
        rw [pk_uLs, if_pos rfl]
      · rw [pk_uLn (by omega), if_neg z]
        unfold filL
        rw [if_pos (by omega), show (w - (i + 1)) * 7 + c - (w - (i + 1)) * 7 = c by omega]
    · rw [pk_uLn (by omega)]
      unfold filL
      rw [if_neg (by omega)]
      exact pr_spec i (by omega) k (by omega) h2 c hc
/-- the planner is set up -/
def SU (S : AH) (N : Nat → Int32) (np nt : Nat) (fr : Nat → Int32) : Prop := ∃ ix, IX N nt ix ∧ PRC N np (wN N nt) (S.2 0 8) ix ∧ (∀ k, k < wN N nt → S.1 0 7 k = nI (ix k)) ∧ S.1 0 6 7 = nI (wN N nt) ∧ (∀ c, c < 6 → S.1 0 9 c = fr c ∧ 0 ≤ (fr c).toInt) ∧ S.1 0 9 6 = 8 ∧ rngG (S.1 0 11)
def FR0 (g h : AH) : Prop := (∀ b', b' ≠ 0 → g.1 b' = h.1 b') ∧ ∀ k, k < 6 → g.1 0 k = h.1 0 k
theorem FR0.tr {g1 g2 g3 : AH} (a : FR0 g1 g2) (c : FR0 g2 g3) : FR0 g1 g3 := ⟨fun b' hb => (a.1 b' hb).trans (c.1 b' hb), fun k hk => (a.2 k hk).trans (c.2 k hk)⟩
theorem FR0_ui {g : AH} {k j : Nat} {v : Int32} (hk : 6 ≤ k) : FR0 (ui g 0 k j v) g := ⟨fun b' hb => funext fun k' => funext fun j' => ui_b hb, fun k' hk' => funext fun j' => ui_k (by omega)⟩
theorem FR0_set {g : AH} {k : Nat} {f : Nat → Int32} (hk : 6 ≤ k) : FR0 (setI g 0 k f) g := ⟨fun b' hb => setI_blk hb, fun k' hk' => setI_k (by omega)⟩
theorem FR0_setL {g : AH} {k : Nat} {f : Nat → Int64} : FR0 (setL g 0 k f) g := ⟨fun _ _ => rfl, fun _ _ => rfl⟩
theorem FR0_su {n : Nat} : FR0 (setUpF h b n) h := by
  unfold setUpF colH
  exact (FR0_ui (by omega)).tr ((FR0_set (by omega)).tr (FR0_setL.tr ((FR0_ui (by omega)).tr (FR0_set (by omega)))))
theorem FR0_sol {g : AH} {w : Nat} : FR0 (solveF g w) g := by
  unfold solveF PS DM
  exact (FR0_ui (by omega)).tr (FR0_setL.tr ((FR0_set (by omega)).tr ((FR0_set (by omega)).tr (FR0_set (by omega)))))
theorem FR0_ad {g : AH} {x y : Int32} : FR0 (adF g x y) g := by
  unfold adF
  exact FR0_ui (by omega)
theorem su_SU (hS : SR (h.1 b) N nl np nq nt) (hW : WN N nl np nq nt B) (hb0 : b ≠ 0) (hg : rngG (h.1 0 11)) : SU (setUpF h b nt) N np nt (mfr N np nt) ∧ plW h b nt = wN N nt := by
  have h40 : nt ≤ 40 := hW.1.2.2.2.2.2.2.2
  have hp6 : np ≤ 6 := hW.1.2.2.2.1
  have hw8 := hW.w8
  obtain ⟨c1, c2⟩ := col_spec (N := N) (nt := nt) (st := h.1 b 26) (tr := h.1 0 7) (fun t ht => (hS.2.2.2.2 t ht).2.2.2.1) nt (Nat.le_refl _) hw8
  refine ⟨⟨fun k => ((colG (h.1 b 26) (h.1 0 7) nt).1 k).toNatClampNeg, ?_, ?_, ?_, ?_, ?_, ?_, suG_rng hg⟩, c1⟩
  · intro t ht hw
    show ((colG (h.1 b 26) (h.1 0 7) nt).1 (wN N t)).toNatClampNeg = t
    rw [c2 t ht hw, nI_clamp (by omega)]
  · intro k hk
    obtain ⟨t, ht, hw, hwk⟩ := wN_ex nt hk
    have e7 : (colG (h.1 b 26) (h.1 0 7) nt).1 k = nI t := by rw [← hwk]; exact c2 t ht hw
    have hix : ((colG (h.1 b 26) (h.1 0 7) nt).1 k).toNatClampNeg = t := by rw [e7, nI_clamp (by omega)]
    have hP : ∀ c, c < 7 → (setUpF h b nt).2 0 8 (k * 7 + c) = if c = 6 then 5764801000 + 6 * pow7 (wN N nt - 1 - k) else prF (colH h (colG (h.1 b 26) (h.1 0 7) nt)) b k (pow7 (wN N nt - 1 - k)) c := fun c hc => by
      have : (setUpF h b nt).2 0 8 = prG (colH h (colG (h.1 b 26) (h.1 0 7) nt)) b (colG (h.1 b 26) (h.1 0 7) nt).2 (h.2 0 8) (colG (h.1 b 26) (h.1 0 7) nt).2 := by
        unfold setUpF
        rw [ui_2, setI_2, setL_f]
      rw [this, c1]
      exact pr_spec (wN N nt) (Nat.le_refl _) k (by omega) hk c hc
    have h7 := p7 (w := wN N nt) (k := k) hw8
    refine ⟨fun c hc => ?_, ?_⟩
    · show (c < np ∧ ¬ fitM N c ((colG (h.1 b 26) (h.1 0 7) nt).1 k).toNatClampNeg = 0 ∧ pz ((setUpF h b nt).2 0 8) k c = _) ∨ (¬ (c < np ∧ ¬ fitM N c ((colG (h.1 b 26) (h.1 0 7) nt).1 k).toNatClampNeg = 0) ∧ pz ((setUpF h b nt).2 0 8) k c = FARz)
      unfold pz
      rw [hP c (by omega), if_neg (by omega)]
      unfold prF
      rw [suitF_congr (colH_b hb0), show (colH h (colG (h.1 b 26) (h.1 0 7) nt)).1 0 7 k = nI t from by unfold colH; rw [ui_k (by decide), setI_eq, e7], colH_b hb0, hix]
      by_cases z : c < np
      · rw [suit_fit hS hW z ht]
        by_cases z2 : fitM N c t = 0
        · right
          rw [if_pos z2, if_pos rfl]
          exact ⟨fun q => q.2 z2, by decide +kernel⟩
        · left
          rw [if_neg z2, if_neg (by decide)]
          refine ⟨z, z2, ?_⟩
          obtain ⟨e3, hcs⟩ := cst_of hW.PW z
          have hm : c * 7 ^ (wN N nt - 1 - k) ≤ 6 * 823543 := Nat.mul_le_mul (by omega) h7
          rw [(hS.2.2.1 c z).2.2.2.1, e3, nI_l (by omega), nI_l (by omega), pow7_n, show (5764801 : Int64) = lN 5764801 by decide +kernel, lN_mul, lN_mul, lN_add, pk_lT (by omega)]
      · right
        refine ⟨fun q => z q.1, ?_⟩
        have : suitF h b (nI c) (nI t) = 0 := by
          unfold suitF
          rw [hS.1.2.1, if_pos]
          rcases hasI_cs np (by omega) (nI c) with q | ⟨c', q1, q2, -⟩
          · exact q
          · exact absurd (nI_inj (by omega) (by omega) q2) (by omega)
        rw [this, if_pos rfl]
        decide +kernel
    · unfold pz
      rw [hP 6 (by omega), if_pos rfl, pow7_n, show (6 : Int64) = lN 6 by decide +kernel, show (5764801000 : Int64) = lN 5764801000 by decide +kernel, lN_mul, lN_add, pk_lT (by omega)]
  · intro k hk
    obtain ⟨t, ht, hw, hwk⟩ := wN_ex nt hk
    have e7 : (colG (h.1 b 26) (h.1 0 7) nt).1 k = nI t := by rw [← hwk]; exact c2 t ht hw
    show (setUpF h b nt).1 0 7 k = nI ((colG (h.1 b 26) (h.1 0 7) nt).1 k).toNatClampNeg
    unfold setUpF colH
    rw [ui_k (by decide), setI_k (by decide), setL_1, ui_k (by decide), setI_eq, e7, nI_clamp (by omega)]
  · unfold setUpF
    rw [ui_k (by decide), setI_k (by decide), setL_1, colH_w, c1]
  · intro c hc
    have e : (setUpF h b nt).1 0 9 c = rmG h b c := by
      unfold setUpF
      rw [ui_j (by omega), setI_eq]
      exact if_pos hc
    rw [e]
    unfold rmG mfr
    rw [hS.1.2.1]
    by_cases z : c < np
    · obtain ⟨f, f1, f2⟩ := mFree_n hW z
      rw [if_neg (by rw [hasI_p z (by omega)]; decide), if_pos z, (frees hS hW z).2.2.2, f2]
      exact ⟨rfl, by rw [nI_toInt (by omega)]; omega⟩
    · rw [if_neg z, if_pos]
      · exact ⟨rfl, by decide⟩
      · rcases hasI_cs np (by omega) (nI c) with q | ⟨c', q1, q2, -⟩
        · exact q
        · exact absurd (nI_inj (by omega) (by omega) q2) (by omega)
  · unfold setUpF
    rw [ui_eq]
theorem cne_n {g : Nat → Int32} {G : Nat → Nat} : ∀ w, (∀ k, k < w → g k = nI (G k) ∧ G k < 7) → cneI g 6 w = nI (sN (fun k => if G k = 6 then 0 else 1) w)
  | 0, _ => rfl
  | w + 1, hh => by
    rw [show cneI g 6 (w + 1) = if g w = 6 then cneI g 6 w else cneI g 6 w + 1 from rfl, show sN (fun k => if G k = 6 then 0 else 1) (w + 1) = sN (fun k => if G k = 6 then 0 else 1) w + (if G w = 6 then 0 else 1) from rfl, cne_n w (fun k hk => hh k (by omega)), (hh w (by omega)).1]
    have h7 := (hh w (by omega)).2
    by_cases e : G w = 6
    · rw [if_pos e, e, if_pos (show nI 6 = 6 from rfl)]; rfl
    · rw [if_neg e, if_neg (show ¬ nI (G w) = 6 from fun z => e (nI_inj (b := 6) (by omega) (by omega) z)), nI_1]
theorem sol_SU {S : AH} {fr : Nat → Int32} (hP : PW N np nt) (hw : wN N nt ≤ 8) (hS : SU S N np nt fr) : SU (solveF S (wN N nt)) N np nt fr ∧ ∃ ix G, IX N nt ix ∧ (∀ k, k < wN N nt → (solveF S (wN N nt)).1 0 7 k = nI (ix k)) ∧ (∀ k, k < wN N nt → (solveF S (wN N nt)).1 0 11 k = nI (G k) ∧ G k < 7) ∧ MR N np nt fr (gOf N G) ∧ (∀ gv, LR N np nt fr gv → ∀ k, k < wN N nt → G k = cd N gv (ix k)) ∧ (solveF S (wN N nt)).1 0 6 8 = nI (srvN N nt (gOf N G)) := by
  obtain ⟨ix, hI, hC, h7, h67, h9, h96, hg⟩ := hS
  have e7 : (solveF S (wN N nt)).1 0 7 = S.1 0 7 := by
    unfold solveF PS DM
    funext j
    rw [ui_k (by decide), setL_1, setI_k (by decide), setI_k (by decide), setI_k (by decide)]
  have e9 : (solveF S (wN N nt)).1 0 9 = S.1 0 9 := by
    unfold solveF PS DM
    funext j
    rw [ui_k (by decide), setL_1, setI_k (by decide), setI_k (by decide), setI_k (by decide)]
  have e67 : (solveF S (wN N nt)).1 0 6 7 = S.1 0 6 7 := by
    unfold solveF PS DM
    rw [ui_j (by decide), setL_1, setI_k (by decide), setI_k (by decide), setI_k (by decide)]
  have e8 : (solveF S (wN N nt)).2 0 8 = S.2 0 8 := by
    unfold solveF PS DM
    rw [ui_2, setL_k (by decide)]
    rfl
  have e11 : (solveF S (wN N nt)).1 0 11 = (solG (S.2 0 8) (sol0 S (wN N nt)) (wN N nt)).2.1 := by
    unfold solveF PS DM
    funext j
    rw [ui_k (by decide), setL_1, setI_k (by decide), setI_f]
  obtain ⟨G, π, hSV⟩ := SV_all (P := S.2 0 8) (R := fun c => (S.1 0 9 c).toInt) (w := wN N nt) (s0 := sol0 S (wN N nt)) (pl_PH hP hw hC) hw (by show (S.1 0 9 6).toInt = 8; rw [h96]; decide) (fun c hc => by
    have : (sol0 S (wN N nt)).1 c = S.1 0 9 c := if_pos hc
    refine ⟨by rw [this], ?_⟩
    by_cases z : c = 6
    · subst z; show 0 ≤ (S.1 0 9 6).toInt; rw [h96]; decide
    · show 0 ≤ (S.1 0 9 c).toInt
      rw [(h9 c (by omega)).1]; exact (h9 c (by omega)).2) (fun j hj => if_pos hj) (wN N nt) (Nat.le_refl _)
  have hR : ∀ c, c < 6 → (fun c => (S.1 0 9 c).toInt) c = (fr c).toInt ∧ 0 ≤ (fun c => (S.1 0 9 c).toInt) c := fun c hc => by
    show (S.1 0 9 c).toInt = (fr c).toInt ∧ 0 ≤ (S.1 0 9 c).toInt
    rw [(h9 c hc).1]; exact ⟨rfl, (h9 c hc).2⟩
  have hR6 : (fun c => (S.1 0 9 c).toInt) 6 = 8 := by show (S.1 0 9 6).toInt = 8; rw [h96]; decide
  have hopt := pl_opt hP hw hI hC hR hR6 hSV
  have hgG : ∀ k, k < wN N nt → (solveF S (wN N nt)).1 0 11 k = nI (G k) ∧ G k < 7 := fun k hk => by
    rw [e11]; exact ⟨(hopt.2.1 k hk).2, (hopt.2.1 k hk).1⟩
  refine ⟨⟨ix, hI, by rw [e8]; exact hC, by rw [e7]; exact h7, by rw [e67]; exact h67, by rw [e9]; exact h9, by rw [e9]; exact h96, ?_⟩, ix, G, hI, by rw [e7]; exact h7, hgG, pl_MR hP hw hI hC hR hR6 hSV, fun gv hL => pl_LR hP hw hI hC hR hR6 hSV hL, ?_⟩
  · rw [e11]; exact solG_rng hg _ _ hw
  · have e : (solveF S (wN N nt)).1 0 6 8 = cneI ((solveF S (wN N nt)).1 0 11) 6 (wN N nt) := by
      rw [e11]
      unfold solveF
      rw [ui_eq]
    rw [e, cne_n (G := G) _ hgG, srv_ix hI]
    congr 1
    refine sN_congr (fun k hk => ?_)
    (try dsimp only)
    rw [gOf_ix hI hk]
    have h7 := (hgG k hk).2
    by_cases z : G k = 6
    · rw [if_pos z, if_pos z, if_pos rfl]
    · rw [if_neg z, if_neg z, if_neg (nIm (by omega))]
theorem ad_SU {S : AH} {fr : Nat → Int32} {k : Nat} {y : Int32} (hk : k < 6) (hS : SU S N np nt fr) : SU (adF S (nI k) y) N np nt (upd fr k (if 0 ≤ fr k + y then fr k + y else 0)) := by
  obtain ⟨ix, hI, hC, h7, h67, h9, h96, hg⟩ := hS
  unfold adF
  rw [nI_clamp (by omega), (h9 k hk).1]
  have hv : (if 0 < fr k + y then fr k + y else 0) = (if 0 ≤ fr k + y then fr k + y else 0) ∧ 0 ≤ (if 0 ≤ fr k + y then fr k + y else 0 : Int32).toInt := by
    by_cases z : 0 < fr k + y
    · rw [if_pos z, if_pos (Int32.le_of_lt z)]
      rw [Int32.lt_iff_toInt_lt] at z
      have : (0 : Int32).toInt = 0 := by decide
      exact ⟨rfl, by omega⟩
    · rw [if_neg z]
      by_cases z2 : 0 ≤ fr k + y
      · have : fr k + y = 0 := Int32.le_antisymm (Int32.not_lt.mp z) z2
        rw [if_pos z2, this]; exact ⟨rfl, by decide⟩
      · rw [if_neg z2]; exact ⟨rfl, by decide⟩
  rw [hv.1]
  refine ⟨ix, hI, hC, fun k' hk' => by rw [ui_k (by decide)]; exact h7 k' hk', by rw [ui_k (by decide)]; exact h67, fun c hc => ?_, by rw [ui_j (by omega)]; exact h96, ?_⟩
  · by_cases z : c = k
    · subst z; rw [ui_eq, pk_us]; exact ⟨rfl, hv.2⟩
    · rw [ui_j z, pk_un z]; exact h9 c hc
  · rw [show (ui S 0 9 k (if 0 ≤ fr k + y then fr k + y else 0)).1 0 11 = S.1 0 11 from funext fun j => ui_k (by decide)]; exact hg
theorem MR_srv {fr g g2 : Nat → Int32} (hP : PW N np nt) (hw : wN N nt ≤ 8) (h1 : MR N np nt fr g) (h2 : MR N np nt fr g2) : srvN N nt g = srvN N nt g2 ∧ scN N nt g = scN N nt g2 :=
  (UU_inj hP hw (fun t ht hwt => (h1.1.1 t ht hwt).rng) (fun t ht hwt => (h2.1.1 t ht hwt).rng)).mp (Nat.le_antisymm (h1.2 _ h2.1) (h2.2 _ h1.1))
end
