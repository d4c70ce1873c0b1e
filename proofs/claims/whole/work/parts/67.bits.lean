def bt (x : Int32) (i : Nat) : Bool := x.toBitVec.getLsbD i
theorem b_ext {x y : Int32} (h : ∀ i, i < 32 → bt x i = bt y i) : x = y := Int32.toBitVec_inj.mp (BitVec.eq_of_getLsbD_eq (fun i hi => h i hi))
theorem b_or (x y : Int32) (i : Nat) : bt (x ||| y) i = (bt x i || bt y i) := by unfold bt; rw [Int32.toBitVec_or, BitVec.getLsbD_or]
theorem b_and (x y : Int32) (i : Nat) : bt (x &&& y) i = (bt x i && bt y i) := by unfold bt; rw [Int32.toBitVec_and, BitVec.getLsbD_and]
theorem b_xor (x y : Int32) (i : Nat) : bt (x ^^^ y) i = (bt x i ^^ bt y i) := by unfold bt; rw [Int32.toBitVec_xor, BitVec.getLsbD_xor]
theorem b_big {x : Int32} {i : Nat} (h : 32 ≤ i) : bt x i = false := BitVec.getLsbD_of_ge _ _ h
theorem b_m1 : ∀ i, i < 32 → bt (-1) i = true := by decide +kernel
theorem b_0 (i : Nat) : bt 0 i = false := BitVec.getLsbD_zero
theorem s_l : ∀ n, n < 32 → ((nI n &&& 31).toBitVec.smod 32).toNat = n := by decide +kernel
theorem s_u : ∀ n, n < 32 → (((nI n).toUInt32 &&& Int32.toUInt32 31).toBitVec % 32).toNat = n := by decide +kernel
theorem b_shl (n : Nat) (hn : n < 32) (x : Int32) {i : Nat} (hi : i < 32) : bt (x <<< (nI n &&& 31)) i = (decide (n ≤ i) && bt x (i - n)) := by
  unfold bt
  rw [Int32.toBitVec_shiftLeft]
  show (x.toBitVec <<< ((nI n &&& 31).toBitVec.smod 32).toNat).getLsbD i = _
  rw [s_l n hn, BitVec.getLsbD_shiftLeft]
  rcases Nat.lt_or_ge i n with h | h
  · simp [h, Nat.not_le.mpr h]
  · simp [hi, h, Nat.not_lt.mpr h]
theorem b_sshr (n : Nat) (hn : n < 32) (x : Int32) {i : Nat} (hi : i < 32) : bt (x >>> (nI n &&& 31)) i = if n + i < 32 then bt x (n + i) else bt x 31 := by
  unfold bt
  rw [Int32.toBitVec_shiftRight]
  show (x.toBitVec.sshiftRight ((nI n &&& 31).toBitVec.smod 32).toNat).getLsbD i = _
  rw [s_l n hn, BitVec.getLsbD_sshiftRight, BitVec.msb_eq_getLsbD_last]
  simp [hi]
theorem bp_b (x : Int32) : x.toInt8.toInt32 &&& 255 = x &&& 255 := by
  apply Int32.toBitVec_inj.mp
  rw [Int32.toBitVec_and, Int32.toBitVec_and, Int8.toBitVec_toInt32, Int32.toBitVec_toInt8]
  apply BitVec.eq_of_getLsbD_eq
  intro i hi
  rw [BitVec.getLsbD_and, BitVec.getLsbD_and]
  have hm : ∀ i < 32, 8 ≤ i → (255 : Int32).toBitVec.getLsbD i = false := by decide
  rcases Nat.lt_or_ge i 8 with z | z
  · rw [BitVec.getLsbD_signExtend, BitVec.getLsbD_signExtend, if_pos z, if_pos hi]
    simp only [z, hi, decide_true, Bool.true_and]
  · rw [hm i hi z]; simp
/-! ===== the char cast and 65535 ===== -/
theorem b_1 : ∀ i, i < 32 → bt 1 i = decide (i = 0) := by decide +kernel
theorem bx_0 {x : Int32} : x = 0 ↔ ∀ i, i < 32 → bt x i = false := ⟨fun h i _ => by rw [h]; exact b_0 i, fun h => b_ext (fun i hi => by rw [h i hi, b_0])⟩
theorem bit_0 {s : Int32} {a : Nat} (ha : a < 32) : (s >>> (nI a &&& 31)) &&& 1 = 0 ↔ bt s a = false := by
  rw [bx_0]
  constructor
  · intro h
    have := h 0 (by omega)
    rw [b_and, b_sshr a ha s (by omega), b_1 0 (by omega), if_pos (by omega)] at this
    simpa using this
  · intro h i hi
    rw [b_and, b_1 i hi, b_sshr a ha s hi]
    by_cases e : i = 0
    · subst e
      rw [if_pos (by omega)]
      simpa using h
    · simp [e]
theorem b_1l {a c : Nat} (ha : a < 32) (hc : c < 32) : bt ((1 : Int32) <<< (nI a &&& 31)) c = decide (a = c) := by
  rw [b_shl a ha 1 hc, b_1 (c - a) (by omega)]
  by_cases e : a = c
  · subst e
    simp
  · by_cases e2 : a ≤ c
    · have : ¬ c - a = 0 := by omega
      simp [e, e2, this]
    · simp [e, e2]
theorem and1 (v : Int32) : v &&& 1 = 0 ∨ v &&& 1 = 1 := by
  rw [pk_and v (m := 1) 1 (by decide)]
  rcases Nat.mod_two_eq_zero_or_one v.toBitVec.toNat with e | e
  · left
    show nI (v.toBitVec.toNat % 2) = 0
    rw [e]
    rfl
  · right
    show nI (v.toBitVec.toNat % 2) = 1
    rw [e]
    rfl
theorem hasB_0 {s k : Int32} : hasB s k = 0 ↔ (s >>> (k &&& 31)) &&& 1 = 0 := by
  unfold hasB
  rcases and1 (s >>> (k &&& 31)) with e | e
  · rw [e]
    simp
  · rw [e]
    simp
theorem hasB_b {s : Int32} {a : Nat} (ha : a < 32) : hasB s (nI a) = 0 ↔ bt s a = false := hasB_0.trans (bit_0 ha)
theorem for_b {s : Int32} {a : Nat} (ha : a < 32) : ((1 : Int32) <<< (nI a &&& 31)) &&& (s ^^^ (-1)) = 0 ↔ bt s a = true := by
  rw [bx_0]
  constructor
  · intro h
    have := h a ha
    rw [b_and, b_1l ha ha, b_xor, b_m1 a ha] at this
    simpa using this
  · intro h i hi
    rw [b_and, b_1l ha hi, b_xor, b_m1 i hi]
    by_cases e : a = i
    · subst e
      simp [h]
    · simp [e]
theorem or_ne0 {x y : Int32} (h : ¬ x = 0) : ¬ x ||| y = 0 := by
  rw [bx_0] at *
  intro z
  refine h (fun i hi => ?_)
  have := z i hi
  rw [b_or] at this
  cases e : bt x i with
  | false => rfl
  | true => rw [e] at this; simp at this
theorem nIm {n : Nat} (h : n < 2 ^ 31) : ¬ nI n = -1 := fun z => by
  have z2 := congrArg Int32.toInt z
  rw [nI_toInt h] at z2
  have : (-1 : Int32).toInt = -1 := by decide
  omega
theorem hasI_p {n k : Nat} (hk : k < n) (hn : n < 1000) : hasI (nI n) (nI k) = 1 := by
  unfold hasI
  rw [if_neg (nI_pos (by omega)), if_neg (nI_ge hk (by omega))]
theorem hasI_m (c : Int32) : hasI c (-1) = 0 := if_pos (by decide)
theorem isIn_ne {y a b : Int32} (h : isInF y a b = 0) {c : Int32} (hc : ¬ isInF c a b = 0) : ¬ y = c := fun e => hc (e ▸ h)
theorem cntI_congr {f g : Nat → Int32} {x : Int32} : ∀ {n : Nat}, (∀ t, t < n → f t = g t) → cntI f x n = cntI g x n
  | 0, _ => rfl
  | n + 1, h => by
    rw [show cntI f x (n + 1) = if f n = x then cntI f x n + 1 else cntI f x n from rfl, show cntI g x (n + 1) = if g n = x then cntI g x n + 1 else cntI g x n from rfl, h n (by omega), cntI_congr (fun t ht => h t (by omega))]
theorem sumI_congr {f g : Nat → Int32} : ∀ {n : Nat}, (∀ t, t < n → f t = g t) → sumI f n = sumI g n
  | 0, _ => rfl
  | n + 1, h => by
    rw [show sumI f (n + 1) = sumI f n + f n from rfl, show sumI g (n + 1) = sumI g n + g n from rfl, h n (by omega), sumI_congr (fun t ht => h t (by omega))]
theorem tOG_d (N : Nat → Int32) (x : Int32) : ∀ f t, (tOG N x f t = -1 ∧ ∀ t', t ≤ t' → t' < t + f → mT N t' 0 = x → mT N t' 2 = 2) ∨ ∃ t', t ≤ t' ∧ t' < t + f ∧ tOG N x f t = nI t' ∧ mT N t' 0 = x ∧ ¬ mT N t' 2 = 2 := by
  intro f
  induction f with
  | zero => intro t; exact Or.inl ⟨rfl, fun t' h1 h2 => absurd h1 (by omega)⟩
  | succ f ih =>
    intro t
    rw [show tOG N x (f + 1) t = if mT N t 0 = x then (if mT N t 2 = 2 then tOG N x f (t + 1) else nI t) else tOG N x f (t + 1) from rfl]
    have hrec : (mT N t 0 = x → mT N t 2 = 2) → (tOG N x f (t + 1) = -1 ∧ ∀ t', t ≤ t' → t' < t + (f + 1) → mT N t' 0 = x → mT N t' 2 = 2) ∨ ∃ t', t ≤ t' ∧ t' < t + (f + 1) ∧ tOG N x f (t + 1) = nI t' ∧ mT N t' 0 = x ∧ ¬ mT N t' 2 = 2 := fun hx => by
      rcases ih (t + 1) with ⟨h1, h2⟩ | ⟨t', h1, h2, h3⟩
      · exact Or.inl ⟨h1, fun t' a b c => by
          by_cases e : t' = t
          · subst e; exact hx c
          · exact h2 t' (by omega) (by omega) c⟩
      · exact Or.inr ⟨t', by omega, by omega, h3⟩
    by_cases q : mT N t 0 = x
    · rw [if_pos q]
      by_cases q2 : mT N t 2 = 2
      · rw [if_pos q2]
        exact hrec (fun _ => q2)
      · rw [if_neg q2]
        exact Or.inr ⟨t, Nat.le_refl t, by omega, rfl, q, q2⟩
    · rw [if_neg q]
      exact hrec (fun z => absurd z q)
