/-! what the reference's reading leaves as it is -/
def OKP (x : Int32 × PSt) (s : PSt) : Prop := (∀ j, j ≠ 4 → j ≠ 5 → j ≠ 6 → j ≠ 7 → j ≠ 8 → j ≠ 9 → j ≠ 15 → x.2.1 j = s.1 j) ∧ (¬ x.1 = 0 → x.2.1 8 = s.1 8)
section
variable {T : Nat → Int32} {L : Nat}
theorem goP_o {s : PSt} {j : Nat} (h4 : j ≠ 4) (h5 : j ≠ 5) (h6 : j ≠ 6) (h7 : j ≠ 7) : (goP T L s).1 j = s.1 j := by
  show (goS T L _ s.1 s.2.1).1 j = s.1 j
  unfold goS
  split
  · dsimp only; rw [pk_un h6, pk_un h5, pk_un h4]
  · unfold goT
    split
    · dsimp only; rw [pk_un h6, pk_un h5, pk_un h4]
    · split
      · dsimp only; rw [pk_un h6, pk_un h5, pk_un h4]
      · dsimp only; rw [pk_un h7, pk_un h6, pk_un h5, pk_un h4]
theorem OKP.bad {s : PSt} {v : Int32} : OKP (0, badP v s) s := ⟨fun j _ _ _ _ h8 h9 _ => by
  show upd (upd s.1 8 _) 9 _ j = s.1 j
  rw [pk_un h9, pk_un h8], fun z => absurd rfl z⟩
theorem OKP.go {s s2 : PSt} (e : ∀ j, j ≠ 15 → s2.1 j = s.1 j) : OKP (1, goP T L s2) s := ⟨fun j h4 h5 h6 h7 _ _ h15 => by
  show (goP T L s2).1 j = s.1 j
  rw [goP_o h4 h5 h6 h7, e j h15], fun _ => by
  show (goP T L s2).1 8 = s.1 8
  rw [goP_o (by decide) (by decide) (by decide) (by decide), e 8 (by decide)]⟩
theorem OKP.ret {s x : PSt} (e : x.1 = s.1) : OKP (1, x) s := ⟨fun j _ _ _ _ _ _ _ => by show x.1 j = _; rw [e], fun _ => by show x.1 8 = _; rw [e]⟩
theorem OKP.tr {x : Int32 × PSt} {s s2 : PSt} (h : OKP x s2) (e1 : ∀ j, j ≠ 4 → j ≠ 5 → j ≠ 6 → j ≠ 7 → j ≠ 9 → j ≠ 15 → s2.1 j = s.1 j) : OKP x s := ⟨fun j h4 h5 h6 h7 h8 h9 h15 => (h.1 j h4 h5 h6 h7 h8 h9 h15).trans (e1 j h4 h5 h6 h7 h9 h15), fun z => (h.2 z).trans (e1 8 (by decide) (by decide) (by decide) (by decide) (by decide) (by decide))⟩
theorem OKP.pre {x : Int32 × PSt} {s : PSt} (h : OKP x (goP T L s)) : OKP x s := h.tr (fun j h4 h5 h6 h7 _ _ => goP_o h4 h5 h6 h7)
theorem OKP.andP {r : Int32 × PSt} {g : PSt → Int32 × PSt} {s : PSt} (h : OKP r s) (hg : ∀ s', OKP (g s') s') : OKP (andP r g) s := by
  by_cases z : r.1 = 0
  · rw [andP_f z]; exact ⟨h.1, fun y => absurd rfl y⟩
  · rw [andP_t z]
    exact ⟨fun j h4 h5 h6 h7 h8 h9 h15 => ((hg r.2).1 j h4 h5 h6 h7 h8 h9 h15).trans (h.1 j h4 h5 h6 h7 h8 h9 h15), fun y => ((hg r.2).2 y).trans (h.2 z)⟩
theorem told_o (a : Nat) (lo hi : Int32) (s : PSt) : OKP (toldP T L a lo hi s) s := by
  unfold toldP
  split
  · split
    · exact OKP.bad
    · exact OKP.go (fun j _ => rfl)
  · exact OKP.bad
theorem land_o (but : Int32) (s : PSt) : OKP (landP T L but s) s := by
  unfold landP
  split
  · split
    · exact OKP.bad
    · split
      · exact OKP.go (fun j hj => pk_un hj)
      · exact OKP.bad
  · exact OKP.bad
theorem lnds_o (s : PSt) : OKP (lndsP T L s) s := by
  unfold lndsP
  split
  · exact OKP.bad
  · exact OKP.pre ((told_o _ _ _ _).andP (fun s' => (told_o _ _ _ _).andP (fun s'' => OKP.ret rfl)))
theorem bord_o (s : PSt) : OKP (bordP T L s) s := by
  unfold bordP
  split
  · exact OKP.bad
  · exact OKP.pre ((land_o _ _).andP (fun s' => (land_o _ _).andP (fun s'' => OKP.ret rfl)))
theorem knd_o (a : Nat) (s : PSt) : OKP (kndP T L a s) s := by
  unfold kndP
  split
  · exact OKP.bad
  · unfold kn74
    split
    · exact OKP.go (fun j _ => rfl)
    · exact (OKP.andP ((told_o _ _ _ _).tr (fun j h4 h5 h6 h7 _ _ => goP_o h4 h5 h6 h7)) (fun s'' => OKP.ret rfl) : OKP _ (s.1, s.2.1, upd (upd s.2.2 a 2) (a + 1) 1))
theorem tyL_o (a : Nat) : ∀ f s, OKP (tyLP T L a f s) s
  | 0, s => ⟨fun _ _ _ _ _ _ _ _ => rfl, fun z => absurd rfl z⟩
  | f + 1, s => by
    rw [show tyLP T L a (f + 1) s = if s.1 6 = 3 then andP (landP T L (s.2.2 (a + 6)) s) (fun s => tyLP T L a f (s.1, s.2.1, upd s.2.2 (a + 6) (s.2.2 (a + 6) ||| 1 <<< (s.1 15 &&& 31)))) else (1, s.1, s.2.1, upd s.2.2 3 (s.2.2 3 + 1)) from rfl]
    split
    · exact (land_o _ _).andP (fun s' => tyL_o a f (s'.1, s'.2.1, upd s'.2.2 (a + 6) (s'.2.2 (a + 6) ||| 1 <<< (s'.1 15 &&& 31))))
    · exact OKP.ret rfl
theorem typ_o (s : PSt) : OKP (typP T L s) s := by
  rw [typP_eq]
  split
  · exact OKP.bad
  · refine OKP.pre ((knd_o _ _).andP (fun s2 => ?_))
    unfold ty2
    refine (told_o _ _ _ _).andP (fun s3 => ?_)
    unfold ty3
    refine (told_o _ _ _ _).andP (fun s4 => ?_)
    unfold ty4
    refine (told_o _ _ _ _).andP (fun s5 => ?_)
    unfold ty5
    refine (told_o _ _ _ _).andP (fun s6 => ?_)
    split
    · exact tyL_o _ _ _
    · exact OKP.bad
theorem lor_o (s : PSt) : OKP (lorP T L s) s := by
  unfold lorP
  split
  · exact OKP.bad
  · refine OKP.pre ((land_o _ _).andP (fun s' => ?_))
    have h1 : OKP (toldP T L (79 + 3 * (s.2.2 4).toNatClampNeg + 1) 1 6 (s'.1, s'.2.1, upd s'.2.2 (79 + 3 * (s.2.2 4).toNatClampNeg) (s'.1 15))) s' := told_o _ _ _ (s'.1, s'.2.1, upd s'.2.2 (79 + 3 * (s.2.2 4).toNatClampNeg) (s'.1 15))
    exact h1.andP (fun s'' => OKP.ret rfl)
theorem lin_o (b : Bool) (s : PSt) : OKP (linP T L b s) s := by
  unfold linP
  split
  · exact lnds_o s
  · split
    · split
      · split
        · exact OKP.bad
        · exact lor_o s
      · exact typ_o s
    · exact bord_o s
theorem end_o (s : PSt) : OKP (endP T L s) s := by
  unfold endP
  split
  · exact OKP.go (fun j _ => rfl)
  · exact OKP.bad
theorem tx_o : ∀ f n s, OKP ((txG T L f n s).1, (txG T L f n s).2.2) s
  | 0, n, s => ⟨fun _ _ _ _ _ _ _ _ => rfl, fun z => absurd rfl z⟩
  | f + 1, n, s => by
    rw [show txG T L (f + 1) n s = if s.1 6 = 0 then (1, n, s) else if (linP T L (decide (n = 0)) s).1 = 0 then (0, n, (linP T L (decide (n = 0)) s).2) else
      if (endP T L (linP T L (decide (n = 0)) s).2).1 = 0 then (0, n, (endP T L (linP T L (decide (n = 0)) s).2).2) else txG T L f (n + 1) (endP T L (linP T L (decide (n = 0)) s).2).2 from rfl]
    have h1 := lin_o (T := T) (L := L) (decide (n = 0)) s
    have h2 := end_o (T := T) (L := L) (linP T L (decide (n = 0)) s).2
    split
    · exact OKP.ret rfl
    · split
      · exact ⟨h1.1, fun z => absurd rfl z⟩
      · rename_i z1
        split
        · exact ⟨fun j h4 h5 h6 h7 h8 h9 h15 => (h2.1 j h4 h5 h6 h7 h8 h9 h15).trans (h1.1 j h4 h5 h6 h7 h8 h9 h15), fun z => absurd rfl z⟩
        · rename_i z2
          have h3 := tx_o f (n + 1) (endP T L (linP T L (decide (n = 0)) s).2).2
          exact ⟨fun j h4 h5 h6 h7 h8 h9 h15 => ((h3.1 j h4 h5 h6 h7 h8 h9 h15).trans (h2.1 j h4 h5 h6 h7 h8 h9 h15)).trans (h1.1 j h4 h5 h6 h7 h8 h9 h15), fun z => ((h3.2 z).trans (h2.2 z2)).trans (h1.2 z1)⟩
end
/-! what the class's reading leaves as it is -/
def okR (d b k : Nat) : Prop := (b ≠ 0 ∧ b ≠ d) ∨ (b = d ∧ 31 ≤ k) ∨ (b = 0 ∧ k ≠ 3 ∧ k ≠ 4 ∧ k ≠ 5)
def frR (h2 h : AH) (d : Nat) : Prop := ∀ b k j, okR d b k → h2.1 b k j = h.1 b k j
section
variable {d L : Nat} {h h2 : AH}
theorem frR.rf : frR h h d := fun _ _ _ _ => rfl
theorem frR.tr {h3 : AH} (a : frR h3 h2 d) (c : frR h2 h d) : frR h3 h d := fun b k j hk => (a b k j hk).trans (c b k j hk)
theorem frR.u0 {k j : Nat} {v : Int32} (hd : d ≠ 0) (hf : frR h2 h d) (hk : k = 3 ∨ k = 4 ∨ k = 5) : frR (ui h2 0 k j v) h d := fun b k' j' hn => by
  rw [← hf b k' j' hn]
  by_cases z : b = 0
  · refine ui_k (fun w => ?_)
    rcases hn with y | y | y
    · exact y.1 z
    · exact hd (by rw [← y.1, z])
    · omega
  · exact ui_b z
theorem frR.ud {k j : Nat} {v : Int32} (hd : d ≠ 0) (hf : frR h2 h d) (hk : k < 31) : frR (ui h2 d k j v) h d := fun b k' j' hn => by
  rw [← hf b k' j' hn]
  by_cases z : b = d
  · refine ui_k (fun w => ?_)
    rcases hn with y | y | y
    · exact y.2 z
    · omega
    · exact hd (by rw [← z, y.1])
  · exact ui_b z
theorem refF_fr (hd : d ≠ 0) {v : Int32} : frR (refF h v) h d := (frR.rf.u0 hd (by omega)).u0 hd (by omega)
theorem putNF_fr (hd : d ≠ 0) {v : Int32} (hf : frR h2 h d) : frR (putNF h2 v) h d := by
  unfold putNF
  refine frR.u0 hd ?_ (by omega)
  split
  · exact hf
  · split
    · exact hf
    · exact hf.u0 hd (by omega)
theorem numF_fr (hd : d ≠ 0) : frR (numF h d).2 h d := by
  unfold numF
  repeat' split
  all_goals first | exact refF_fr hd | exact putNF_fr hd (frR.rf.u0 hd (by omega)) | exact putNF_fr hd frR.rf
theorem begF_fr (hd : d ≠ 0) : frR (begF h d).2 h d := by
  unfold begF
  repeat' split
  all_goals first | exact refF_fr hd | exact (((frR.rf.u0 hd (by omega)).u0 hd (by omega)).u0 hd (by omega)).u0 hd (by omega)
theorem kindF_fr (hd : d ≠ 0) : frR (kindF h).2 h d := by
  unfold kindF
  split
  · exact (refF_fr hd).tr (frR.rf.u0 hd (by omega))
  · split
    · exact frR.rf.u0 hd (by omega)
    · exact putNF_fr hd (frR.rf.u0 hd (by omega))
theorem addBF_fr (hd : d ≠ 0) {x y : Int32} : frR (addBF h d x y) h d := by
  unfold addBF
  split
  · exact frR.rf
  · split
    · exact frR.rf
    · split
      · exact frR.rf
      · exact ((frR.rf.ud hd (by omega)).ud hd (by omega)).ud hd (by omega)
theorem endF_fr (hd : d ≠ 0) : frR (endF h d) h d := by
  unfold endF
  refine frR.u0 hd (frR.u0 hd ?_ (by omega)) (by omega)
  split
  · exact (frR.rf.ud hd (by omega)).ud hd (by omega)
  · split
    · exact (addBF_fr hd).u0 hd (by omega)
    · split
      · unfold addQ; exact ((frR.rf.ud hd (by omega)).ud hd (by omega)).ud hd (by omega)
      · unfold addP; exact (((((((frR.rf.ud hd (by omega)).ud hd (by omega)).ud hd (by omega)).ud hd (by omega)).ud hd (by omega)).ud hd (by omega)).ud hd (by omega)).ud hd (by omega)
theorem tokF_fr (hd : d ≠ 0) : frR (tokF h d).2 h d := by
  unfold tokF
  split
  · exact begF_fr hd
  · split
    · exact kindF_fr hd
    · split
      · exact endF_fr hd
      · exact numF_fr hd
theorem advF_fr2 (hd : d ≠ 0) {p : Nat} : frR (advF h L p) h d := fun b k j hn => advF_fr.1 b k j (by
  rcases hn with y | y | y
  · exact Or.inl y.1
  · exact Or.inl (by rw [y.1]; exact hd)
  · exact Or.inr y.2.1)
theorem rdG_fr (hd : d ≠ 0) : ∀ f (s : Int32 × AH), frR (rdG d L f s).2 s.2 d
  | 0, s => frR.rf
  | f + 1, s => by
    rw [show rdG d L (f + 1) s = if s.1 = 0 then s else if s.2.1 0 3 1 = 0 then s else rdG d L f ((tokF s.2 d).1, if (tokF s.2 d).1 = 0 then (tokF s.2 d).2 else advF (tokF s.2 d).2 L ((tokF s.2 d).2.1 0 3 3).toNatClampNeg) from rfl]
    split
    · exact frR.rf
    · split
      · exact frR.rf
      · refine (rdG_fr hd f _).tr ?_
        dsimp only
        split
        · exact tokF_fr hd
        · exact (advF_fr2 hd).tr (tokF_fr hd)
theorem FIN_fr (hd : d ≠ 0) {f : Nat} : frR (FIN d L f h).2 h d := by
  have := rdG_fr (L := L) hd f (1, h)
  unfold FIN
  split
  · exact this
  · split
    · exact this
    · exact (refF_fr hd).tr this
theorem tok_8 (hd : d ≠ 0) (hz : ¬ (tokF h d).1 = 0) : (tokF h d).2.1 0 4 8 = h.1 0 4 8 := by
  have hput : ∀ (g : AH) (v : Int32), (putNF g v).1 0 4 8 = g.1 0 4 8 := fun g v => by
    unfold putNF
    rw [ui_j (by decide)]
    split
    · rfl
    · split
      · rfl
      · exact ui_k (by decide)
  revert hz
  unfold tokF
  split
  · unfold begF
    repeat' split
    all_goals first
      | exact fun z => absurd rfl z
      | exact fun _ => by show (ui (ui (ui (ui h 0 4 2 _) 0 4 3 0) 0 4 4 (-1)) 0 4 5 0).1 0 4 8 = _; rw [ui_j (by decide), ui_j (by decide), ui_j (by decide), ui_j (by decide)]
  · split
    · unfold kindF
      repeat' split
      all_goals first
        | exact fun z => absurd rfl z
        | exact fun _ => by show (ui h 0 4 4 _).1 0 4 8 = _; rw [ui_j (by decide)]
        | exact fun _ => by show (putNF (ui h 0 4 4 _) 1).1 0 4 8 = _; rw [hput, ui_j (by decide)]
    · split
      · intro _
        show (endF h d).1 0 4 8 = _
        unfold endF
        rw [ui_j (by decide), ui_j (by decide)]
        split
        · rw [ui_b hd.symm, ui_b hd.symm]
        · split
          · rw [ui_j (by decide)]
            unfold addBF
            split
            · rfl
            · split
              · rfl
              · split
                · rfl
                · dsimp only; rw [ui_b hd.symm, ui_b hd.symm, ui_b hd.symm]
          · split
            · unfold addQ; rw [ui_b hd.symm, ui_b hd.symm, ui_b hd.symm]
            · unfold addP; dsimp only; rw [ui_b hd.symm, ui_b hd.symm, ui_b hd.symm, ui_b hd.symm, ui_b hd.symm, ui_b hd.symm, ui_b hd.symm, ui_b hd.symm]
      · unfold numF
        repeat' split
        all_goals first
          | exact fun z => absurd rfl z
          | exact fun _ => by show (putNF (ui h 0 4 5 _) _).1 0 4 8 = _; rw [hput, ui_j (by decide)]
          | exact fun _ => hput h _
theorem rdG_8 (hd : d ≠ 0) : ∀ f (s : Int32 × AH), ¬ (rdG d L f s).1 = 0 → (rdG d L f s).2.1 0 4 8 = s.2.1 0 4 8
  | 0, s, _ => rfl
  | f + 1, s, hz => by
    rw [show rdG d L (f + 1) s = if s.1 = 0 then s else if s.2.1 0 3 1 = 0 then s else rdG d L f ((tokF s.2 d).1, if (tokF s.2 d).1 = 0 then (tokF s.2 d).2 else advF (tokF s.2 d).2 L ((tokF s.2 d).2.1 0 3 3).toNatClampNeg) from rfl] at hz ⊢
    by_cases z1 : s.1 = 0
    · rw [if_pos z1]
    · rw [if_neg z1] at hz ⊢
      by_cases z2 : s.2.1 0 3 1 = 0
      · rw [if_pos z2]
      · rw [if_neg z2] at hz ⊢
        by_cases z3 : (tokF s.2 d).1 = 0
        · rw [z3, rdG_0] at hz; exact absurd rfl hz
        · rw [rdG_8 hd f _ hz]
          dsimp only
          rw [if_neg z3, advF_fr.1 0 4 8 (Or.inr (by decide)), tok_8 hd z3]
theorem FIN_8 (hd : d ≠ 0) {f : Nat} (hz : (FIN d L f h).1 = 1) : (FIN d L f h).2.1 0 4 8 = h.1 0 4 8 := by
  unfold FIN at *
  by_cases z : (rdG d L f (1, h)).1 = 0
  · rw [if_pos z] at hz; exact absurd hz (show ¬ (0 : Int32) = 1 by decide)
  · rw [if_neg z] at hz ⊢
    by_cases z2 : (rdG d L f (1, h)).2.1 0 4 2 = 0 ∧ L ≤ 700
    · rw [if_pos z2]; exact rdG_8 hd f (1, h) z
    · rw [if_neg z2] at hz; exact absurd hz (show ¬ (0 : Int32) = 1 by decide)
end
