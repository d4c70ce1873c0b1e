/-! the class's reader, run to its end -/
def FIN (d L f : Nat) (h : AH) : Int32 × AH := if (rdG d L f (1, h)).1 = 0 then (0, (rdG d L f (1, h)).2) else if (rdG d L f (1, h)).2.1 0 4 2 = 0 ∧ L ≤ 700 then (1, (rdG d L f (1, h)).2) else (0, refF (rdG d L f (1, h)).2 1)
theorem rdG_0 {d L : Nat} {x : AH} : ∀ f, rdG d L f (0, x) = (0, x)
  | 0 => rfl
  | f + 1 => if_pos rfl
theorem rdG_end {d L : Nat} {h : AH} (h0 : h.1 0 3 1 = 0) : ∀ f, rdG d L f (1, h) = (1, h)
  | 0 => rfl
  | f + 1 => by
    rw [show rdG d L (f + 1) (1, h) = if (1 : Int32) = 0 then (1, h) else if h.1 0 3 1 = 0 then (1, h) else rdG d L f ((tokF h d).1, if (tokF h d).1 = 0 then (tokF h d).2 else advF (tokF h d).2 L ((tokF h d).2.1 0 3 3).toNatClampNeg) from rfl, if_neg (by decide), if_pos h0]
theorem FIN_0 {d L f : Nat} {h : AH} (h0 : h.1 0 3 1 = 0) : FIN d L f h = if h.1 0 4 2 = 0 ∧ L ≤ 700 then (1, h) else (0, refF h 1) := by
  unfold FIN
  rw [rdG_end h0, if_neg (show ¬ (1 : Int32) = 0 by decide)]
theorem FIN_s {d L f : Nat} {h : AH} (h0 : ¬ h.1 0 3 1 = 0) : FIN d L (f + 1) h = if (tokF h d).1 = 0 then (0, (tokF h d).2) else FIN d L f (advF (tokF h d).2 L ((tokF h d).2.1 0 3 3).toNatClampNeg) := by
  have e : rdG d L (f + 1) (1, h) = rdG d L f ((tokF h d).1, if (tokF h d).1 = 0 then (tokF h d).2 else advF (tokF h d).2 L ((tokF h d).2.1 0 3 3).toNatClampNeg) := by
    rw [show rdG d L (f + 1) (1, h) = if (1 : Int32) = 0 then (1, h) else if h.1 0 3 1 = 0 then (1, h) else rdG d L f ((tokF h d).1, if (tokF h d).1 = 0 then (tokF h d).2 else advF (tokF h d).2 L ((tokF h d).2.1 0 3 3).toNatClampNeg) from rfl, if_neg (by decide), if_neg h0]
  unfold FIN
  rw [e]
  rcases tokF_01 h d with z | z
  · rw [z, if_pos rfl, if_pos rfl, rdG_0, if_pos rfl]
  · rw [z, if_neg (show ¬ (1 : Int32) = 0 by decide), if_neg (show ¬ (1 : Int32) = 0 by decide)]
/-- what comes of a piece of the reference's reading, and of the class's run -/
def OUT (d L : Nat) (T : Nat → Int32) (F : Int32 × AH) (r : Int32 × PSt) (K : AH → PSt → Nat → Nat → Prop) : Prop := (r.1 = 0 ∧ F.1 = 0 ∧ F.2.1 0 4 8 = r.2.1 8 ∧ F.2.1 0 4 9 = r.2.1 9) ∨ (r.1 = 1 ∧ ∃ h' f' q', F = FIN d L f' h' ∧ TKr h' L T r.2 q' ∧ 700 ≤ f' + q' ∧ K h' r.2 f' q')
section
variable {d L f q : Nat} {T : Nat → Int32} {h h0 : AH} {s : PSt} {F : Int32 × AH} {K K2 : AH → PSt → Nat → Nat → Prop}
theorem OUT.andP {r : Int32 × PSt} {g : PSt → Int32 × PSt} (ho : OUT d L T F r K) (hg : ∀ h' s' f' q', TKr h' L T s' q' → 700 ≤ f' + q' → K h' s' f' q' → OUT d L T (FIN d L f' h') (g s') K2) : OUT d L T F (andP r g) K2 := by
  rcases ho with ⟨a, c⟩ | ⟨a, h', f', q', c1, c2, c3, c4⟩
  · rw [andP_f a]; exact Or.inl ⟨rfl, c⟩
  · rw [andP_t (by rw [a]; decide), c1]
    exact hg h' r.2 f' q' c2 c3 c4
theorem OUT.imp {r : Int32 × PSt} (ho : OUT d L T F r K) (hk : ∀ h' s' f' q', K h' s' f' q' → K2 h' s' f' q') : OUT d L T F r K2 := by
  rcases ho with c | ⟨a, h', f', q', c1, c2, c3, c4⟩
  · exact Or.inl c
  · exact Or.inr ⟨a, h', f', q', c1, c2, c3, hk _ _ _ _ c4⟩
theorem OUT.ret {x : PSt} (hK : TKr h L T x q) (hf : 700 ≤ f + q) (hk : K h x f q) : OUT d L T (FIN d L f h) (1, x) K := Or.inr ⟨rfl, h, f, q, rfl, hK, hf, hk⟩
theorem TKr.pos (hK : TKr h L T s q) (hf : 700 ≤ f + q) (hk : ¬ h.1 0 3 1 = 0) : ∃ f', f = f' + 1 := by
  obtain ⟨-, -, -, -, -, hc⟩ := hK
  rcases hc with ⟨z, -⟩ | ⟨z, -⟩
  · exact absurd z hk
  · exact ⟨f - 1, by omega⟩
/-- refused with 1 -/
theorem sim_bad1 (hK : TKr h L T s q) (hf : 700 ≤ f + q) (h1 : ¬ h.1 0 3 1 = 0 → tokF h d = (0, refF h 1)) (h2 : h.1 0 3 1 = 0 → ¬ (h.1 0 4 2 = 0 ∧ L ≤ 700)) : OUT d L T (FIN d L f h) (0, badP 1 s) K := by
  have e : FIN d L f h = (0, refF h 1) := by
    by_cases z : h.1 0 3 1 = 0
    · rw [FIN_0 z, if_neg (h2 z)]
    · obtain ⟨f', rfl⟩ := hK.pos hf z
      rw [FIN_s z, h1 z, if_pos rfl]
  rw [e]
  obtain ⟨-, -, e2, e5, -, -⟩ := hK
  refine Or.inl ⟨rfl, rfl, ?_, ?_⟩
  · show (refF h 1).1 0 4 8 = upd (upd s.1 8 (if s.1 6 = 1 then 1 else 1)) 9 (s.1 5) 8
    unfold refF
    rw [ui_j (by decide), ui_eq, pk_un (by decide), pk_us]
    split <;> rfl
  · show (refF h 1).1 0 4 9 = upd (upd s.1 8 (if s.1 6 = 1 then 1 else 1)) 9 (s.1 5) 9
    unfold refF
    rw [ui_eq, pk_us, e2, e5]
theorem sim_badx {x : Int32} (hK : TKr h L T s q) (hf : 700 ≤ f + q) (hk : ¬ h.1 0 3 1 = 0) (h6 : ¬ s.1 6 = 1) (h1 : tokF h d = (0, refF h x)) : OUT d L T (FIN d L f h) (0, badP x s) K := by
  obtain ⟨f', rfl⟩ := hK.pos hf hk
  rw [FIN_s hk, h1, if_pos rfl]
  obtain ⟨-, -, e2, e5, -, -⟩ := hK
  refine Or.inl ⟨rfl, rfl, ?_, ?_⟩
  · show (refF h x).1 0 4 8 = upd (upd s.1 8 (if s.1 6 = 1 then 1 else x)) 9 (s.1 5) 8
    unfold refF
    rw [ui_j (by decide), ui_eq, pk_un (by decide), pk_us, if_neg h6]
  · show (refF h x).1 0 4 9 = upd (upd s.1 8 (if s.1 6 = 1 then 1 else x)) 9 (s.1 5) 9
    unfold refF
    rw [ui_eq, pk_us, e2, e5]
/-- a token taken by both -/
theorem sim_go {g : AH} {s2 : PSt} (hK : TKr h L T s q) (hf : 700 ≤ f + q) (hk : ¬ h.1 0 3 1 = 0) (h1 : tokF h d = (1, g)) (gf : ∀ k j, k = 1 ∨ k = 2 ∨ k = 3 → g.1 0 k j = h.1 0 k j) (e4 : s2.1 4 = s.1 4) (e3 : s2.1 3 = s.1 3)
    (hKK : ∀ h' f' q', frA h' g → q < q' → K h' (goP T L s2) f' q') : OUT d L T (FIN d L f h) (1, goP T L s2) K := by
  obtain ⟨f', rfl⟩ := hK.pos hf hk
  rw [FIN_s hk, h1, if_neg (show ¬ (1 : Int32) = 0 by decide)]
  obtain ⟨⟨t1, t2, t3⟩, hq, e2, e5, es3, hc⟩ := hK
  rcases hc with ⟨z, -⟩ | ⟨hq7, e, he1, he2, c3, c4, -⟩
  · exact absurd z hk
  · have hb : (g.1 0 3 3).toNatClampNeg = e := by rw [gf 3 3 (by omega), c3, nI_clamp (by omega)]
    rw [hb]
    obtain ⟨q', hq', hT'⟩ := adv_sim (h := g) (L := L) (e := e) (T := T) (s := s2) (by rw [gf 1 1 (by omega)]; exact t1) t2 (fun p hp => by rw [tpF_fr (gf 1 1 (by omega)) (fun j => gf 2 j (by omega))]; exact t3 p hp) he2 (by rw [e4]; exact c4) (by rw [e3]; exact es3)
    exact Or.inr ⟨rfl, _, f', q', rfl, hT', by omega, hKK _ _ _ advF_fr (by omega)⟩
/-! in the middle of a line -/
def MS (h0 h : AH) (srt : Int32) (fld : Nat) (tk lb : Int32) (nums : Nat → Int32) : Prop := (∀ b', b' ≠ 0 → h.1 b' = h0.1 b') ∧ h.1 0 4 2 = srt ∧ h.1 0 4 3 = nI fld ∧ h.1 0 4 4 = tk ∧ h.1 0 4 5 = lb ∧ h.1 0 4 6 = h0.1 0 4 6 ∧ h.1 0 4 7 = h0.1 0 4 7 ∧ ∀ i, i < fld → i < 5 → h.1 0 5 i = nums i
theorem MS.fr {h' : AH} {srt tk lb : Int32} {fld : Nat} {nums : Nat → Int32} (hm : MS h0 h srt fld tk lb nums) (hf : frA h' h) : MS h0 h' srt fld tk lb nums := by
  obtain ⟨m1, m2, m3, m4, m5, m6, m7, m8⟩ := hm
  have e : ∀ k j, k ≠ 3 → h'.1 0 k j = h.1 0 k j := fun k j hk => hf.1 0 k j (Or.inr hk)
  refine ⟨fun b' hb => by rw [← m1 b' hb]; funext k j; exact hf.1 b' k j (Or.inl hb), by rw [e 4 _ (by decide)]; exact m2, by rw [e 4 _ (by decide)]; exact m3, by rw [e 4 _ (by decide)]; exact m4, by rw [e 4 _ (by decide)]; exact m5, by rw [e 4 _ (by decide)]; exact m6, by rw [e 4 _ (by decide)]; exact m7, fun i h1 h2 => by rw [e 5 _ (by decide)]; exact m8 i h1 h2⟩
theorem MS.put {srt tk lb : Int32} {fld : Nat} {nums : Nat → Int32} (hm : MS h0 h srt fld tk lb nums) (h9 : fld < 1000) (v : Int32) : MS h0 (putNF h v) srt (fld + 1) tk lb (upd nums fld v) := by
  obtain ⟨m1, m2, m3, m4, m5, m6, m7, m8⟩ := hm
  unfold putNF
  rw [m3, if_neg (nI_pos (by omega)), nI_clamp (by omega), nI_1]
  by_cases z : 5 ≤ fld
  · rw [if_pos (show (5 : Int32) ≤ nI fld from nI_le (a := 5) z (by omega))]
    refine ⟨fun b' hb => by rw [← m1 b' hb]; funext k j; exact ui_b hb, by rw [ui_j (by decide)]; exact m2, ui_eq, by rw [ui_j (by decide)]; exact m4, by rw [ui_j (by decide)]; exact m5, by rw [ui_j (by decide)]; exact m6, by rw [ui_j (by decide)]; exact m7, fun i h1 h2 => ?_⟩
    rw [ui_k (by decide), pk_un (by omega)]; exact m8 i (by omega) h2
  · rw [if_neg (show ¬ (5 : Int32) ≤ nI fld from nI_ge (b := 5) (by omega) (by omega))]
    refine ⟨fun b' hb => by rw [← m1 b' hb]; funext k j; rw [ui_b hb, ui_b hb], by rw [ui_j (by decide), ui_k (by decide)]; exact m2, ui_eq, by rw [ui_j (by decide), ui_k (by decide)]; exact m4, by rw [ui_j (by decide), ui_k (by decide)]; exact m5, by rw [ui_j (by decide), ui_k (by decide)]; exact m6, by rw [ui_j (by decide), ui_k (by decide)]; exact m7, fun i h1 h2 => ?_⟩
    rw [ui_k (by decide)]
    by_cases y : i = fld
    · subst y; rw [ui_eq, pk_us]
    · rw [ui_j y, pk_un y]; exact m8 i (by omega) h2
theorem put_k {v : Int32} {k j : Nat} (h4 : k ≠ 4) (h5 : k ≠ 5) : (putNF h v).1 0 k j = h.1 0 k j := by
  unfold putNF
  rw [ui_k h4]
  split
  · rfl
  · split
    · rfl
    · exact ui_k h5
theorem tok_mid (h2 : ¬ h.1 0 4 2 = 0) (h3 : ¬ (h.1 0 4 2 = 3 ∧ h.1 0 4 4 = -1)) : tokF h d = if h.1 0 3 1 = 3 ∧ ¬ wholF h = 0 then (1, endF h d) else numF h d := by
  unfold tokF
  rw [if_neg h2, if_neg h3]
theorem num_no (hk : ¬ h.1 0 3 1 = 2) : numF h d = (0, refF h 1) := by unfold numF; rw [if_neg hk]
/-- no number: refused with 1 in the middle of a line -/
theorem sim_nonum (hK : TKr h L T s q) (hf : 700 ≤ f + q) (h2 : ¬ h.1 0 4 2 = 0) (h3 : ¬ (h.1 0 4 2 = 3 ∧ h.1 0 4 4 = -1)) (hw : wholF h = 0 ∨ ¬ h.1 0 3 1 = 3) (hn : ¬ s.1 6 = 3) : OUT d L T (FIN d L f h) (0, badP 1 s) K := by
  refine sim_bad1 hK hf (fun hk => ?_) (fun _ z => h2 z.1)
  have hk2 : ¬ h.1 0 3 1 = 2 := fun z => by
    obtain ⟨-, -, -, -, -, hc⟩ := hK
    rcases hc with ⟨y, -⟩ | ⟨-, e, -, -, -, -, hc⟩
    · rw [y] at z; exact absurd z (by decide)
    · rcases hc with ⟨y, -⟩ | ⟨-, y, -⟩ | ⟨y, -⟩ | ⟨y, -⟩
      · rw [y] at z; exact absurd z (by decide)
      · exact hn y
      · rw [y] at z; exact absurd z (by decide)
      · rw [y] at z; exact absurd z (by decide)
  rw [tok_mid h2 h3, if_neg]
  · exact num_no hk2
  · rintro ⟨y, w⟩
    rcases hw with z | z
    · exact w z
    · exact z y
theorem TKr.num (hK : TKr h L T s q) (h6 : s.1 6 = 3) : h.1 0 3 1 = 2 ∧ ∃ n, n < 100 ∧ h.1 0 3 4 = nI n ∧ s.1 7 = nI n := by
  obtain ⟨-, -, -, -, -, hc⟩ := hK
  rcases hc with ⟨-, y⟩ | ⟨-, e, -, -, -, -, hc⟩
  · rcases y with ⟨-, y⟩ | ⟨-, y⟩ <;> rw [y] at h6 <;> exact absurd h6 (by decide)
  · rcases hc with ⟨-, y, -⟩ | ⟨y, -, z⟩ | ⟨-, y⟩ | ⟨-, y⟩
    · rw [y] at h6; exact absurd h6 (by decide)
    · exact ⟨y, z⟩
    · rw [y] at h6; exact absurd h6 (by decide)
    · rw [y] at h6; exact absurd h6 (by decide)
theorem rang_eq {m : Nat} (hm : m < 7) (v : Int32) : rangF (nI m) v = isInF v (lstV.getD m 0) (mstV.getD m 0) := by
  unfold rangF isInF
  rw [if_neg (nI_pos (by omega)), if_neg (show ¬ (7 : Int32) ≤ nI m from nI_ge (b := 7) hm (by omega)), nI_clamp (by omega)]
theorem sim_told {srt tk lb lo hi : Int32} {fld m a : Nat} {nums : Nat → Int32} (hK : TKr h L T s q) (hf : 700 ≤ f + q) (hm : MS h0 h srt fld tk lb nums) (h9 : fld < 1000) (h2 : ¬ srt = 0) (h3 : ¬ (srt = 3 ∧ tk = -1)) (hmn : meanF h = nI m) (hm7 : m < 7) (hw : wholF h = 0) (hlo : lstV.getD m 0 = lo) (hhi : mstV.getD m 0 = hi) :
    OUT d L T (FIN d L f h) (toldP T L a lo hi s) (fun h' s' f' q' => ∃ n, n < 100 ∧ ¬ isInF (nI n) lo hi = 0 ∧ MS h0 h' srt (fld + 1) tk lb (upd nums fld (nI n)) ∧ s'.2.2 = upd s.2.2 a (nI n) ∧ s'.1 15 = s.1 15 ∧ q < q') := by
  have e2 : h.1 0 4 2 = srt := hm.2.1
  have e4 : h.1 0 4 4 = tk := hm.2.2.2.1
  have h2' : ¬ h.1 0 4 2 = 0 := by rw [e2]; exact h2
  have h3' : ¬ (h.1 0 4 2 = 3 ∧ h.1 0 4 4 = -1) := by rw [e2, e4]; exact h3
  unfold toldP
  by_cases h6 : s.1 6 = 3
  · rw [if_pos h6]
    obtain ⟨k2, n, hn, v1, v2⟩ := hK.num h6
    have hk : ¬ h.1 0 3 1 = 0 := by rw [k2]; decide
    have htok : tokF h d = if isInF (nI n) lo hi = 0 then (0, refF h 2) else (1, putNF h (nI n)) := by
      rw [tok_mid h2' h3', if_neg (by rw [k2]; exact fun z => absurd z.1 (by decide))]
      unfold numF
      rw [if_pos k2, hmn, if_neg (nIm (by omega)), if_neg (show ¬ nI m = 7 from fun z => absurd (nI_inj (b := 7) (by omega) (by omega) z) (by omega)), rang_eq hm7, hlo, hhi, v1]
    rw [v2]
    by_cases z : isInF (nI n) lo hi = 0
    · rw [if_pos z] at htok ⊢
      exact sim_badx hK hf hk (by rw [h6]; decide) htok
    · rw [if_neg z] at htok ⊢
      refine sim_go hK hf hk htok (fun k j hk' => put_k (by omega) (by omega)) rfl rfl (fun h' f' q' hfr hq => ⟨n, hn, z, (hm.put h9 (nI n)).fr hfr, rfl, ?_, hq⟩)
      show (goS T L _ s.1 s.2.1).1 15 = s.1 15
      unfold goS
      split
      · dsimp only; rw [pk_un (by decide), pk_un (by decide), pk_un (by decide)]
      · unfold goT
        split
        · dsimp only; rw [pk_un (by decide), pk_un (by decide), pk_un (by decide)]
        · split
          · dsimp only; rw [pk_un (by decide), pk_un (by decide), pk_un (by decide)]
          · dsimp only; rw [pk_un (by decide), pk_un (by decide), pk_un (by decide), pk_un (by decide)]
  · rw [if_neg h6]
    exact sim_nonum hK hf h2' h3' (Or.inl hw) h6
theorem goP_15 {x : PSt} : (goP T L x).1 15 = x.1 15 := by
  show (goS T L _ x.1 x.2.1).1 15 = x.1 15
  unfold goS
  split
  · dsimp only; rw [pk_un (by decide), pk_un (by decide), pk_un (by decide)]
  · unfold goT
    split
    · dsimp only; rw [pk_un (by decide), pk_un (by decide), pk_un (by decide)]
    · split
      · dsimp only; rw [pk_un (by decide), pk_un (by decide), pk_un (by decide)]
      · dsimp only; rw [pk_un (by decide), pk_un (by decide), pk_un (by decide), pk_un (by decide)]
theorem MS.lb {srt tk lb v : Int32} {fld : Nat} {nums : Nat → Int32} (hm : MS h0 h srt fld tk lb nums) : MS h0 (ui h 0 4 5 v) srt fld tk v nums := by
  obtain ⟨m1, m2, m3, m4, m5, m6, m7, m8⟩ := hm
  exact ⟨fun b' hb => by rw [← m1 b' hb]; funext k j; exact ui_b hb, by rw [ui_j (by decide)]; exact m2, by rw [ui_j (by decide)]; exact m3, by rw [ui_j (by decide)]; exact m4, ui_eq, by rw [ui_j (by decide)]; exact m6, by rw [ui_j (by decide)]; exact m7, fun i h1 h2 => by rw [ui_k (by decide)]; exact m8 i h1 h2⟩
theorem sim_land {srt tk lb : Int32} {fld nl : Nat} {nums : Nat → Int32} (hd : d ≠ 0) (hK : TKr h L T s q) (hf : 700 ≤ f + q) (hm : MS h0 h srt fld tk lb nums) (h9 : fld < 1000) (h2 : ¬ srt = 0) (h3 : ¬ (srt = 3 ∧ tk = -1)) (hmn : meanF h = 7) (hw : wholF h = 0 ∨ s.1 6 = 3) (hl : h0.1 d 1 1 = nI nl) (hl8 : nl ≤ 8) (hr : s.2.2 0 = nI nl) :
    OUT d L T (FIN d L f h) (landP T L lb s) (fun h' s' f' q' => ∃ n, n < nl ∧ hasB lb (nI n) = 0 ∧ MS h0 h' srt (fld + 1) tk (lb ||| 1 <<< (nI n &&& 31)) (upd nums fld (nI n)) ∧ s'.2.2 = s.2.2 ∧ s'.1 15 = nI n ∧ q < q') := by
  have e2 : h.1 0 4 2 = srt := hm.2.1
  have e4 : h.1 0 4 4 = tk := hm.2.2.2.1
  have e5 : h.1 0 4 5 = lb := hm.2.2.2.2.1
  have ed : h.1 d 1 1 = nI nl := by rw [hm.1 d hd]; exact hl
  have h2' : ¬ h.1 0 4 2 = 0 := by rw [e2]; exact h2
  have h3' : ¬ (h.1 0 4 2 = 3 ∧ h.1 0 4 4 = -1) := by rw [e2, e4]; exact h3
  unfold landP
  by_cases h6 : s.1 6 = 3
  · rw [if_pos h6]
    obtain ⟨k2, n, hn, v1, v2⟩ := hK.num h6
    have hk : ¬ h.1 0 3 1 = 0 := by rw [k2]; decide
    have htok : tokF h d = if hasI (nI nl) (nI n) = 0 then ((0 : Int32), refF h 2) else if (lb >>> (nI n &&& 31)) &&& 1 = 0 then (1, putNF (ui h 0 4 5 (lb ||| 1 <<< (nI n &&& 31))) (nI n)) else (0, refF h 2) := by
      rw [tok_mid h2' h3', if_neg (by rw [k2]; exact fun z => absurd z.1 (by decide))]
      unfold numF
      rw [if_pos k2, hmn, if_neg (by decide), if_pos rfl, ed, v1, e5]
    rw [v2, hr]
    by_cases z : n < nl
    · rw [if_neg (show ¬ hasI (nI nl) (nI n) = 0 from by rw [hasI_p z (by omega)]; decide)] at htok
      rw [if_neg (nI_ge z (by omega))]
      by_cases y : (lb >>> (nI n &&& 31)) &&& 1 = 0
      · rw [if_pos y] at htok
        rw [if_pos (hasB_0.mpr y)]
        exact sim_go (s2 := (upd s.1 15 (nI n), s.2)) hK hf hk htok (fun k j hk' => by rw [put_k (by omega) (by omega), ui_k (by omega)]) (show upd s.1 15 (nI n) 4 = s.1 4 from pk_un (by decide)) (show upd s.1 15 (nI n) 3 = s.1 3 from pk_un (by decide)) (fun h' f' q' hfr hq => ⟨n, z, hasB_0.mpr y, (hm.lb.put h9 (nI n)).fr hfr, rfl, by rw [goP_15]; show upd s.1 15 (nI n) 15 = nI n; exact pk_us, hq⟩)
      · rw [if_neg y] at htok
        rw [if_neg (fun w => y (hasB_0.mp w))]
        exact sim_badx hK hf hk (by rw [h6]; decide) htok
    · have hz : hasI (nI nl) (nI n) = 0 := by
        rcases hasI_cs nl (by omega) (nI n) with w | ⟨k', w1, w2, -⟩
        · exact w
        · exact absurd (nI_inj (by omega) (by omega) w2) (by omega)
      rw [if_pos hz] at htok
      rw [if_pos (nI_le (by omega) (by omega))]
      exact sim_badx hK hf hk (by rw [h6]; decide) htok
  · rw [if_neg h6]
    refine sim_nonum hK hf h2' h3' ?_ h6
    rcases hw with z | z
    · exact Or.inl z
    · exact absurd z h6
theorem sim_end {srt tk lb : Int32} {fld : Nat} {nums : Nat → Int32} (hd : d ≠ 0) (hK : TKr h L T s q) (hf : 700 ≤ f + q) (hm : MS h0 h srt fld tk lb nums) (h2 : ¬ srt = 0) (h3 : ¬ (srt = 3 ∧ tk = -1)) (hw : ¬ wholF h = 0) (hmn : meanF h = -1 ∨ ¬ s.1 6 = 3)
    (hge : ∀ k j, k = 1 ∨ k = 2 ∨ k = 3 → (endF h d).1 0 k j = h.1 0 k j) : OUT d L T (FIN d L f h) (endP T L s) (fun h' s' f' q' => frA h' (endF h d) ∧ s'.2.2 = s.2.2 ∧ q < q') := by
  have e2 : h.1 0 4 2 = srt := hm.2.1
  have e4 : h.1 0 4 4 = tk := hm.2.2.2.1
  have h2' : ¬ h.1 0 4 2 = 0 := by rw [e2]; exact h2
  have h3' : ¬ (h.1 0 4 2 = 3 ∧ h.1 0 4 4 = -1) := by rw [e2, e4]; exact h3
  unfold endP
  by_cases h6 : s.1 6 = 4
  · rw [if_pos h6]
    have k3 : h.1 0 3 1 = 3 := by
      obtain ⟨-, -, -, -, -, hc⟩ := hK
      rcases hc with ⟨-, y⟩ | ⟨-, e, -, -, -, -, hc⟩
      · rcases y with ⟨-, y⟩ | ⟨-, y⟩ <;> rw [y] at h6 <;> exact absurd h6 (by decide)
      · rcases hc with ⟨-, y, -⟩ | ⟨-, y, -⟩ | ⟨y, -⟩ | ⟨-, y⟩
        · rw [y] at h6; exact absurd h6 (by decide)
        · rw [y] at h6; exact absurd h6 (by decide)
        · exact y
        · rw [y] at h6; exact absurd h6 (by decide)
    have htok : tokF h d = (1, endF h d) := by rw [tok_mid h2' h3', if_pos ⟨k3, hw⟩]
    exact sim_go hK hf (by rw [k3]; decide) htok hge rfl rfl (fun h' f' q' hfr hq => ⟨hfr, rfl, hq⟩)
  · rw [if_neg h6]
    have k3 : ¬ h.1 0 3 1 = 3 := fun z => by
      obtain ⟨-, -, -, -, -, hc⟩ := hK
      rcases hc with ⟨y, -⟩ | ⟨-, e, -, -, -, -, hc⟩
      · rw [y] at z; exact absurd z (by decide)
      · rcases hc with ⟨y, -⟩ | ⟨y, -⟩ | ⟨-, y⟩ | ⟨y, -⟩
        · rw [y] at z; exact absurd z (by decide)
        · rw [y] at z; exact absurd z (by decide)
        · exact h6 y
        · rw [y] at z; exact absurd z (by decide)
    by_cases h63 : s.1 6 = 3
    · have hmn1 : meanF h = -1 := by
        rcases hmn with z | z
        · exact z
        · exact absurd h63 z
      refine sim_bad1 hK hf (fun hk => ?_) (fun _ z => h2' z.1)
      rw [tok_mid h2' h3', if_neg (fun z => k3 z.1)]
      unfold numF
      rw [if_pos (hK.num h63).1, if_pos hmn1]
    · exact sim_nonum hK hf h2' h3' (Or.inr k3) h63
end
