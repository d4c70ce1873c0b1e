/-! THE REFERENCE (block 3): 0 the object, 1 tape, 2 now, 3 read, 4 snaps, 5 free, 6 used, 7 given, 8 cameFrom, 9 queue, 10 settled, 11 way -/
theorem cl0 : (0 : Int32).toNatClampNeg = 0 := by decide
theorem cl1 : (1 : Int32).toNatClampNeg = 1 := by decide
theorem cl2 : (2 : Int32).toNatClampNeg = 2 := by decide
theorem cl3 : (3 : Int32).toNatClampNeg = 3 := by decide
theorem cl4 : (4 : Int32).toNatClampNeg = 4 := by decide
theorem cl5 : (5 : Int32).toNatClampNeg = 5 := by decide
theorem cl6 : (6 : Int32).toNatClampNeg = 6 := by decide
theorem cl7 : (7 : Int32).toNatClampNeg = 7 := by decide
theorem cl8 : (8 : Int32).toNatClampNeg = 8 := by decide
theorem cl9 : (9 : Int32).toNatClampNeg = 9 := by decide
theorem cl10 : (10 : Int32).toNatClampNeg = 10 := by decide
def isInF (v a b : Int32) : Int32 := if v < a then 0 else if b < v then 0 else 1
def hasB (s k : Int32) : Int32 := if (s >>> (k &&& 31)) &&& 1 = 1 then 1 else 0
theorem isIn_has (n : Nat) (hn : n < 1000) (x : Int32) : isInF x 0 (nI n - 1) = hasI (nI n) x := by
  unfold isInF hasI
  by_cases h0 : x < 0
  · rw [if_pos h0, if_pos h0]
  · rw [if_neg h0, if_neg h0]
    have e : nI n - 1 < x ↔ nI n ≤ x := by
      rw [Int32.lt_iff_toInt_lt, Int32.le_iff_toInt_le]
      rw [Int32.lt_iff_toInt_lt] at h0
      have z : (0 : Int32).toInt = 0 := by decide
      cases n with
      | zero =>
        have e1 : (nI 0 - 1).toInt = -1 := by decide
        have e2 : (nI 0).toInt = 0 := by decide
        omega
      | succ n =>
        rw [nI_pred, nI_toInt (by omega), nI_toInt (by omega)]
        omega
    by_cases h1 : nI n ≤ x
    · rw [if_pos (e.mpr h1), if_pos h1]
    · rw [if_neg (fun z => h1 (e.mp z)), if_neg h1]
theorem hasI_01 (c x : Int32) : hasI c x = 0 ∨ hasI c x = 1 := by
  unfold hasI
  repeat' split
  all_goals first | exact Or.inl rfl | exact Or.inr rfl
theorem isInF_01 (c x y : Int32) : isInF c x y = 0 ∨ isInF c x y = 1 := by
  unfold isInF
  repeat' split
  all_goals first | exact Or.inl rfl | exact Or.inr rfl
theorem ixT (t w : Nat) : (111 : Int32) + 13 * nI t + nI w = nI (111 + 13 * t + w) := by
  rw [show (111 : Int32) = nI 111 from rfl, show (13 : Int32) = nI 13 from rfl, pk_mul, nI_add, nI_add]
theorem ixY (t w : Nat) : (7 : Int32) + 12 * nI t + nI w = nI (7 + 12 * t + w) := by
  rw [show (7 : Int32) = nI 7 from rfl, show (12 : Int32) = nI 12 from rfl, pk_mul, nI_add, nI_add]
theorem ixL (t w : Nat) : (79 : Int32) + 3 * nI t + nI w = nI (79 + 3 * t + w) := by
  rw [show (79 : Int32) = nI 79 from rfl, show (3 : Int32) = nI 3 from rfl, pk_mul, nI_add, nI_add]
theorem c11_thrown {l : Launch} {G : GG} {h : AH} {Q : Option Value → AH → Prop}  (hQ : Q (some (.int (h.1 3 0 0))) h) : Ct l G 0 yX11_thrown cX11_thrown 1 (some .int) [.ref (G.1 3 0)] h Q := by
  refine Ct.of (by decide) (Nat.le_of_ble_eq_true rfl) ?_
  show AW l G 0 RX11 cX11_thrown 1 (some .int) 0 [some (.ref (G.1 3 0))] [] h Q
  refine a_aload_n dX11_thrown_0 rfl ?_
  refine a_getI (ci := 11) (j := 0) dX11_thrown_1 rfl rfl (by decide) rfl fl_11_1 ?_
  exact a_iret dX11_thrown_4 rfl hQ
theorem c11_refuse {l : Launch} {G : GG} {h : AH} {Q : Option Value → AH → Prop}  (hQ : Q (some (.int (0))) (ui h 3 0 0 1)) : Ct l G 0 yX11_refuse cX11_refuse 1 (some .int) [.ref (G.1 3 0)] h Q := by
  refine Ct.of (by decide) (Nat.le_of_ble_eq_true rfl) ?_
  show AW l G 0 RX11 cX11_refuse 1 (some .int) 0 [some (.ref (G.1 3 0))] [] h Q
  refine a_aload_n dX11_refuse_0 rfl ?_
  refine a_iconst (v := 1) dX11_refuse_1 (by decide) ?_
  refine a_putI (ci := 11) (j := 0) dX11_refuse_2 rfl rfl (by decide) (by decide) rfl fl_11_1 ?_
  refine a_iconst (v := 0) dX11_refuse_5 (by decide) ?_
  exact a_iret dX11_refuse_6 rfl hQ
theorem c11_isIn {l : Launch} {G : GG} {h : AH} {Q : Option Value → AH → Prop} {x y z : Int32} (hQ : Q (some (.int (isInF x y z))) h) : Ct l G 0 yX11_isIn cX11_isIn 3 (some .boolean) [.int x, .int y, .int z] h Q := by
  refine Ct.of (by decide) (Nat.le_of_ble_eq_true rfl) ?_
  show AW l G 0 RX11 cX11_isIn 3 (some .boolean) 0 [some (.int x), some (.int y), some (.int z)] [] h Q
  refine a_iload_n dX11_isIn_0 rfl ?_
  refine a_iload_n dX11_isIn_1 rfl ?_
  refine a_icmp_lt dX11_isIn_2 (tgt := 14) (by decide) (fun c2 => ?_) (fun c2 => ?_)
  · refine a_iconst (v := 0) dX11_isIn_14 (by decide) ?_
    exact a_zret dX11_isIn_15 rfl rfl (by
  first
    | (simp only [isInF, c2, if_true, if_false] at hQ; exact hQ)
    | (simp [isInF, c2] at hQ ⊢; exact hQ))
  · refine a_iload_n dX11_isIn_5 rfl ?_
    refine a_iload_n dX11_isIn_6 rfl ?_
    refine a_icmp_gt dX11_isIn_7 (tgt := 14) (by decide) (fun c7 => ?_) (fun c7 => ?_)
    · refine a_iconst (v := 0) dX11_isIn_14 (by decide) ?_
      exact a_zret dX11_isIn_15 rfl rfl (by
  first
    | (simp only [isInF, c2, c7, if_true, if_false] at hQ; exact hQ)
    | (simp [isInF, c2, c7] at hQ ⊢; exact hQ))
    · refine a_iconst (v := 1) dX11_isIn_10 (by decide) ?_
      refine a_goto dX11_isIn_11 (tgt := 15) (by decide) ?_
      exact a_zret dX11_isIn_15 rfl rfl (by
  first
    | (simp only [isInF, c2, c7, if_true, if_false] at hQ; exact hQ)
    | (simp [isInF, c2, c7] at hQ ⊢; exact hQ))
theorem c11_has {l : Launch} {G : GG} {h : AH} {Q : Option Value → AH → Prop} {x y : Int32} (hQ : Q (some (.int (hasB x y))) h) : Ct l G 0 yX11_has cX11_has 2 (some .boolean) [.int x, .int y] h Q := by
  refine Ct.of (by decide) (Nat.le_of_ble_eq_true rfl) ?_
  show AW l G 0 RX11 cX11_has 2 (some .boolean) 0 [some (.int x), some (.int y)] [] h Q
  refine a_iload_n dX11_has_0 rfl ?_
  refine a_iload_n dX11_has_1 rfl ?_
  refine a_ishr dX11_has_2 ?_
  refine a_iconst (v := 1) dX11_has_3 (by decide) ?_
  refine a_iand dX11_has_4 ?_
  refine a_iconst (v := 1) dX11_has_5 (by decide) ?_
  refine a_icmp_ne dX11_has_6 (tgt := 13) (by decide) (fun c6 => ?_) (fun c6 => ?_)
  · refine a_iconst (v := 0) dX11_has_13 (by decide) ?_
    exact a_zret dX11_has_14 rfl rfl (by
  first
    | (simp only [hasB, c6, if_true, if_false] at hQ; exact hQ)
    | (simp [hasB, c6] at hQ ⊢; exact hQ))
  · refine a_iconst (v := 1) dX11_has_9 (by decide) ?_
    refine a_goto dX11_has_10 (tgt := 14) (by decide) ?_
    exact a_zret dX11_has_14 rfl rfl (by
  first
    | (simp only [hasB, c6, if_true, if_false] at hQ; exact hQ)
    | (simp [hasB, c6] at hQ ⊢; exact hQ))
theorem c11_isLand {l : Launch} {G : GG} {h : AH} {Q : Option Value → AH → Prop} {x : Int32} {n : Nat} (hn : h.1 3 2 0 = nI n) (hk : n < 1000) (hQ : Q (some (.int (hasI (nI n) x))) h) : Ct l G 1 yX11_isLand cX11_isLand 2 (some .boolean) [.ref (G.1 3 0), .int x] h Q := by
  refine Ct.of (by decide) (Nat.le_of_ble_eq_true rfl) ?_
  show AW l G 1 RX11 cX11_isLand 2 (some .boolean) 0 [some (.ref (G.1 3 0)), some (.int x)] [] h Q
  refine a_iload_n dX11_isLand_0 rfl ?_
  refine a_iconst (v := 0) dX11_isLand_1 (by decide) ?_
  refine a_aload_n dX11_isLand_2 rfl ?_
  refine a_getR (ci := 11) (j := 11) dX11_isLand_3 rfl rfl (by decide) rfl fl_11_72 ?_
  refine a_iconst (v := 0) dX11_isLand_6 (by decide) ?_
  refine a_iaload dX11_isLand_7 rfl (by rw [vp_in_iff]; decide) ?_
  try simp (disch := first | decide | assumption | omega) only [ui_eq, ui_k, ui_j, ui_b, ui_2, ul_1, ul_eq, ul_k, ul_j, ul_b, cl0, hn]
  refine a_iconst (v := 1) dX11_isLand_8 (by decide) ?_
  refine a_isub dX11_isLand_9 ?_
  refine a_cS3i dX11_isLand_10 ml_11_106 ws_11_isIn (by decide) (Nat.le_of_ble_eq_true rfl) (c11_isIn ⟨rfl, rfl⟩) ?_
  try simp (disch := first | decide | assumption | omega) only [ui_eq, ui_k, ui_j, ui_b, ui_2, ul_1, ul_eq, ul_k, ul_j, ul_b, cl0, hn]
  rw [isIn_has n hk]
  exact a_zret dX11_isLand_13 rfl (nar_01 (hasI_01 _ _)) hQ
theorem c11_isType {l : Launch} {G : GG} {h : AH} {Q : Option Value → AH → Prop} {x : Int32} {n : Nat} (hn : h.1 3 2 3 = nI n) (hk : n < 1000) (hQ : Q (some (.int (hasI (nI n) x))) h) : Ct l G 1 yX11_isType cX11_isType 2 (some .boolean) [.ref (G.1 3 0), .int x] h Q := by
  refine Ct.of (by decide) (Nat.le_of_ble_eq_true rfl) ?_
  show AW l G 1 RX11 cX11_isType 2 (some .boolean) 0 [some (.ref (G.1 3 0)), some (.int x)] [] h Q
  refine a_iload_n dX11_isType_0 rfl ?_
  refine a_iconst (v := 0) dX11_isType_1 (by decide) ?_
  refine a_aload_n dX11_isType_2 rfl ?_
  refine a_getR (ci := 11) (j := 11) dX11_isType_3 rfl rfl (by decide) rfl fl_11_72 ?_
  refine a_iconst (v := 3) dX11_isType_6 (by decide) ?_
  refine a_iaload dX11_isType_7 rfl (by rw [vp_in_iff]; decide) ?_
  try simp (disch := first | decide | assumption | omega) only [ui_eq, ui_k, ui_j, ui_b, ui_2, ul_1, ul_eq, ul_k, ul_j, ul_b, cl3, hn]
  refine a_iconst (v := 1) dX11_isType_8 (by decide) ?_
  refine a_isub dX11_isType_9 ?_
  refine a_cS3i dX11_isType_10 ml_11_106 ws_11_isIn (by decide) (Nat.le_of_ble_eq_true rfl) (c11_isIn ⟨rfl, rfl⟩) ?_
  try simp (disch := first | decide | assumption | omega) only [ui_eq, ui_k, ui_j, ui_b, ui_2, ul_1, ul_eq, ul_k, ul_j, ul_b, cl3, hn]
  rw [isIn_has n hk]
  exact a_zret dX11_isType_13 rfl (nar_01 (hasI_01 _ _)) hQ
theorem c11_isLorry {l : Launch} {G : GG} {h : AH} {Q : Option Value → AH → Prop} {x : Int32} {n : Nat} (hn : h.1 3 2 4 = nI n) (hk : n < 1000) (hQ : Q (some (.int (hasI (nI n) x))) h) : Ct l G 1 yX11_isLorry cX11_isLorry 2 (some .boolean) [.ref (G.1 3 0), .int x] h Q := by
  refine Ct.of (by decide) (Nat.le_of_ble_eq_true rfl) ?_
  show AW l G 1 RX11 cX11_isLorry 2 (some .boolean) 0 [some (.ref (G.1 3 0)), some (.int x)] [] h Q
  refine a_iload_n dX11_isLorry_0 rfl ?_
  refine a_iconst (v := 0) dX11_isLorry_1 (by decide) ?_
  refine a_aload_n dX11_isLorry_2 rfl ?_
  refine a_getR (ci := 11) (j := 11) dX11_isLorry_3 rfl rfl (by decide) rfl fl_11_72 ?_
  refine a_iconst (v := 4) dX11_isLorry_6 (by decide) ?_
  refine a_iaload dX11_isLorry_7 rfl (by rw [vp_in_iff]; decide) ?_
  try simp (disch := first | decide | assumption | omega) only [ui_eq, ui_k, ui_j, ui_b, ui_2, ul_1, ul_eq, ul_k, ul_j, ul_b, cl4, hn]
  refine a_iconst (v := 1) dX11_isLorry_8 (by decide) ?_
  refine a_isub dX11_isLorry_9 ?_
  refine a_cS3i dX11_isLorry_10 ml_11_106 ws_11_isIn (by decide) (Nat.le_of_ble_eq_true rfl) (c11_isIn ⟨rfl, rfl⟩) ?_
  try simp (disch := first | decide | assumption | omega) only [ui_eq, ui_k, ui_j, ui_b, ui_2, ul_1, ul_eq, ul_k, ul_j, ul_b, cl4, hn]
  rw [isIn_has n hk]
  exact a_zret dX11_isLorry_13 rfl (nar_01 (hasI_01 _ _)) hQ
theorem c11_isTrip {l : Launch} {G : GG} {h : AH} {Q : Option Value → AH → Prop} {x : Int32} {n : Nat} (hn : h.1 3 2 5 = nI n) (hk : n < 1000) (hQ : Q (some (.int (hasI (nI n) x))) h) : Ct l G 1 yX11_isTrip cX11_isTrip 2 (some .boolean) [.ref (G.1 3 0), .int x] h Q := by
  refine Ct.of (by decide) (Nat.le_of_ble_eq_true rfl) ?_
  show AW l G 1 RX11 cX11_isTrip 2 (some .boolean) 0 [some (.ref (G.1 3 0)), some (.int x)] [] h Q
  refine a_iload_n dX11_isTrip_0 rfl ?_
  refine a_iconst (v := 0) dX11_isTrip_1 (by decide) ?_
  refine a_aload_n dX11_isTrip_2 rfl ?_
  refine a_getR (ci := 11) (j := 11) dX11_isTrip_3 rfl rfl (by decide) rfl fl_11_72 ?_
  refine a_iconst (v := 5) dX11_isTrip_6 (by decide) ?_
  refine a_iaload dX11_isTrip_7 rfl (by rw [vp_in_iff]; decide) ?_
  try simp (disch := first | decide | assumption | omega) only [ui_eq, ui_k, ui_j, ui_b, ui_2, ul_1, ul_eq, ul_k, ul_j, ul_b, cl5, hn]
  refine a_iconst (v := 1) dX11_isTrip_8 (by decide) ?_
  refine a_isub dX11_isTrip_9 ?_
  refine a_cS3i dX11_isTrip_10 ml_11_106 ws_11_isIn (by decide) (Nat.le_of_ble_eq_true rfl) (c11_isIn ⟨rfl, rfl⟩) ?_
  try simp (disch := first | decide | assumption | omega) only [ui_eq, ui_k, ui_j, ui_b, ui_2, ul_1, ul_eq, ul_k, ul_j, ul_b, cl5, hn]
  rw [isIn_has n hk]
  exact a_zret dX11_isTrip_13 rfl (nar_01 (hasI_01 _ _)) hQ
theorem c11_typed {l : Launch} {G : GG} {h : AH} {Q : Option Value → AH → Prop} {t w : Nat} (ht : t < 6) (hw : w < 12) (hQ : Q (some (.int (h.1 3 2 (7 + 12 * t + w)))) h) : Ct l G 0 yX11_typed cX11_typed 3 (some .int) [.ref (G.1 3 0), .int (nI t), .int (nI w)] h Q := by
  refine Ct.of (by decide) (Nat.le_of_ble_eq_true rfl) ?_
  show AW l G 0 RX11 cX11_typed 3 (some .int) 0 [some (.ref (G.1 3 0)), some (.int (nI t)), some (.int (nI w))] [] h Q
  have e1 := ixY t w
  have e2 : (nI (7 + 12 * t + w)).toNatClampNeg = 7 + 12 * t + w := nI_clamp (by omega)
  refine a_aload_n dX11_typed_0 rfl ?_
  refine a_getR (ci := 11) (j := 11) dX11_typed_1 rfl rfl (by decide) rfl fl_11_72 ?_
  refine a_bipush (v := 7) dX11_typed_4 (by decide) ?_
  refine a_bipush (v := 12) dX11_typed_6 (by decide) ?_
  refine a_iload_n dX11_typed_8 rfl ?_
  refine a_imul dX11_typed_9 ?_
  refine a_iadd dX11_typed_10 ?_
  refine a_iload_n dX11_typed_11 rfl ?_
  refine a_iadd dX11_typed_12 ?_
  refine a_iaload dX11_typed_13 rfl (by rw [e1]; exact vp_in_nI (by omega) (by decide)) ?_
  try simp (disch := first | decide | assumption | omega) only [ui_eq, ui_k, ui_j, ui_b, ui_2, ul_1, ul_eq, ul_k, ul_j, ul_b, e1, e2]
  exact a_iret dX11_typed_14 rfl hQ
theorem c11_its {l : Launch} {G : GG} {h : AH} {Q : Option Value → AH → Prop} {t w : Nat} (ht : t < 40) (hw : w < 13) (hQ : Q (some (.int (h.1 3 2 (111 + 13 * t + w)))) h) : Ct l G 0 yX11_its cX11_its 3 (some .int) [.ref (G.1 3 0), .int (nI t), .int (nI w)] h Q := by
  refine Ct.of (by decide) (Nat.le_of_ble_eq_true rfl) ?_
  show AW l G 0 RX11 cX11_its 3 (some .int) 0 [some (.ref (G.1 3 0)), some (.int (nI t)), some (.int (nI w))] [] h Q
  have e1 := ixT t w
  have e2 : (nI (111 + 13 * t + w)).toNatClampNeg = 111 + 13 * t + w := nI_clamp (by omega)
  refine a_aload_n dX11_its_0 rfl ?_
  refine a_getR (ci := 11) (j := 11) dX11_its_1 rfl rfl (by decide) rfl fl_11_72 ?_
  refine a_bipush (v := 111) dX11_its_4 (by decide) ?_
  refine a_bipush (v := 13) dX11_its_6 (by decide) ?_
  refine a_iload_n dX11_its_8 rfl ?_
  refine a_imul dX11_its_9 ?_
  refine a_iadd dX11_its_10 ?_
  refine a_iload_n dX11_its_11 rfl ?_
  refine a_iadd dX11_its_12 ?_
  refine a_iaload dX11_its_13 rfl (by rw [e1]; exact vp_in_nI (by omega) (by decide)) ?_
  try simp (disch := first | decide | assumption | omega) only [ui_eq, ui_k, ui_j, ui_b, ui_2, ul_1, ul_eq, ul_k, ul_j, ul_b, e1, e2]
  exact a_iret dX11_its_14 rfl hQ
theorem c11_lorryOf {l : Launch} {G : GG} {h : AH} {Q : Option Value → AH → Prop} {t w : Nat} (ht : t < 8) (hw : w < 3) (hQ : Q (some (.int (h.1 3 2 (79 + 3 * t + w)))) h) : Ct l G 0 yX11_lorryOf cX11_lorryOf 3 (some .int) [.ref (G.1 3 0), .int (nI t), .int (nI w)] h Q := by
  refine Ct.of (by decide) (Nat.le_of_ble_eq_true rfl) ?_
  show AW l G 0 RX11 cX11_lorryOf 3 (some .int) 0 [some (.ref (G.1 3 0)), some (.int (nI t)), some (.int (nI w))] [] h Q
  have e1 := ixL t w
  have e2 : (nI (79 + 3 * t + w)).toNatClampNeg = 79 + 3 * t + w := nI_clamp (by omega)
  refine a_aload_n dX11_lorryOf_0 rfl ?_
  refine a_getR (ci := 11) (j := 11) dX11_lorryOf_1 rfl rfl (by decide) rfl fl_11_72 ?_
  refine a_bipush (v := 79) dX11_lorryOf_4 (by decide) ?_
  refine a_iconst (v := 3) dX11_lorryOf_6 (by decide) ?_
  refine a_iload_n dX11_lorryOf_7 rfl ?_
  refine a_imul dX11_lorryOf_8 ?_
  refine a_iadd dX11_lorryOf_9 ?_
  refine a_iload_n dX11_lorryOf_10 rfl ?_
  refine a_iadd dX11_lorryOf_11 ?_
  refine a_iaload dX11_lorryOf_12 rfl (by rw [e1]; exact vp_in_nI (by omega) (by decide)) ?_
  try simp (disch := first | decide | assumption | omega) only [ui_eq, ui_k, ui_j, ui_b, ui_2, ul_1, ul_eq, ul_k, ul_j, ul_b, e1, e2]
  exact a_iret dX11_lorryOf_13 rfl hQ
/-- a trip's number w, a type's, a lorry's -/
def mT (N : Nat → Int32) (t w : Nat) : Int32 := N (111 + 13 * t + w)
def mY (N : Nat → Int32) (k w : Nat) : Int32 := N (7 + 12 * k + w)
def mQ (N : Nat → Int32) (q w : Nat) : Int32 := N (79 + 3 * q + w)
def oBG (N : Nat → Int32) (x : Int32) : Nat → Int32
  | 0 => 0
  | t + 1 => if mT N t 2 = 1 then (if mT N t 3 = x then oBG N x t + 1 else oBG N x t) else oBG N x t
def dBG (N : Nat → Int32) (x : Int32) : Nat → Int32
  | 0 => 0
  | t + 1 => if mT N t 0 = x then (if mT N t 2 = 2 then dBG N x t + 1 else dBG N x t) else dBG N x t
def tOG (N : Nat → Int32) (x : Int32) : Nat → Nat → Int32
  | 0, _ => -1
  | f + 1, t => if mT N t 0 = x then (if mT N t 2 = 2 then tOG N x f (t + 1) else nI t) else tOG N x f (t + 1)
theorem l11_outBy {l : Launch} {G : GG} {h : AH} {Q : Option Value → AH → Prop} {nt : Nat} (hnt : h.1 3 2 5 = nI nt) (ht40 : nt ≤ 40) {x : Int32} (t : Nat) (ht : t ≤ nt) (hQ : Q (some (.int (oBG (h.1 3 2) x nt))) h) : AW l G 1 RX11 cX11_outBy 4 (some .int) 4 [some (.ref (G.1 3 0)), some (.int x), some (.int (oBG (h.1 3 2) x t)), some (.int (nI t))] [] h Q := by
  refine a_iload_n dX11_outBy_4 rfl ?_
  refine a_aload_n dX11_outBy_5 rfl ?_
  refine a_getR (ci := 11) (j := 11) dX11_outBy_6 rfl rfl (by decide) rfl fl_11_72 ?_
  refine a_iconst (v := 5) dX11_outBy_9 (by decide) ?_
  refine a_iaload dX11_outBy_10 rfl (by rw [vp_in_iff]; decide) ?_
  try simp (disch := first | decide | assumption | omega) only [ui_eq, ui_k, ui_j, ui_b, ui_2, ul_1, ul_eq, ul_k, ul_j, ul_b, cl5, hnt]
  refine a_icmp_ge dX11_outBy_11 (tgt := 43) (by decide) (fun c11 => ?_) (fun c11 => ?_)
  · have hge : nt ≤ t := le_of_le c11 (by omega) (by omega)
    have hie : t = nt := by omega
    subst hie
    refine a_iload_n dX11_outBy_43 rfl ?_
    exact a_iret dX11_outBy_44 rfl hQ
  · have hlt : t < nt := lt_of_nle c11 (by omega) (by omega)
    refine a_aload_n dX11_outBy_14 rfl ?_
    refine a_iload_n dX11_outBy_15 rfl ?_
    refine a_iconst (v := 2) dX11_outBy_16 (by decide) ?_
    refine a_cV2i dX11_outBy_17 ml_11_160 wv_11_its rfl rfl (by decide) (Nat.le_of_ble_eq_true rfl) (c11_its (t := t) (w := 2) (by omega) (by decide) ⟨rfl, rfl⟩) ?_
    try simp (disch := first | decide | assumption | omega) only [ui_eq, ui_k, ui_j, ui_b, ui_2, ul_1, ul_eq, ul_k, ul_j, ul_b, cl5, hnt]
    refine a_iconst (v := 1) dX11_outBy_20 (by decide) ?_
    refine a_icmp_ne dX11_outBy_21 (tgt := 37) (by decide) (fun c21 => ?_) (fun c21 => ?_)
    · refine a_inc (c := 1) dX11_outBy_37 rfl (by decide) (by decide) rfl ?_
      dsimp only [lset]
      refine a_goto dX11_outBy_40 (tgt := 4) (by decide) ?_
      rw [nI_1]
      have e := l11_outBy (l := l) (G := G) (x := x) hnt ht40 (t + 1) (by omega) hQ
      simp only [oBG, mT, c11, c21, if_true, if_false] at e ⊢
      exact e
    · refine a_aload_n dX11_outBy_24 rfl ?_
      refine a_iload_n dX11_outBy_25 rfl ?_
      refine a_iconst (v := 3) dX11_outBy_26 (by decide) ?_
      refine a_cV2i dX11_outBy_27 ml_11_160 wv_11_its rfl rfl (by decide) (Nat.le_of_ble_eq_true rfl) (c11_its (t := t) (w := 3) (by omega) (by decide) ⟨rfl, rfl⟩) ?_
      try simp (disch := first | decide | assumption | omega) only [ui_eq, ui_k, ui_j, ui_b, ui_2, ul_1, ul_eq, ul_k, ul_j, ul_b, cl5, hnt]
      refine a_iload_n dX11_outBy_30 rfl ?_
      refine a_icmp_ne dX11_outBy_31 (tgt := 37) (by decide) (fun c31 => ?_) (fun c31 => ?_)
      · refine a_inc (c := 1) dX11_outBy_37 rfl (by decide) (by decide) rfl ?_
        dsimp only [lset]
        refine a_goto dX11_outBy_40 (tgt := 4) (by decide) ?_
        rw [nI_1]
        have e := l11_outBy (l := l) (G := G) (x := x) hnt ht40 (t + 1) (by omega) hQ
        simp only [oBG, mT, c11, c21, c31, if_true, if_false] at e ⊢
        exact e
      · refine a_inc (c := 1) dX11_outBy_34 rfl (by decide) (by decide) rfl ?_
        dsimp only [lset]
        refine a_inc (c := 1) dX11_outBy_37 rfl (by decide) (by decide) rfl ?_
        dsimp only [lset]
        refine a_goto dX11_outBy_40 (tgt := 4) (by decide) ?_
        rw [nI_1]
        have e := l11_outBy (l := l) (G := G) (x := x) hnt ht40 (t + 1) (by omega) hQ
        simp only [oBG, mT, c11, c21, c31, if_true, if_false] at e ⊢
        exact e
termination_by nt - t
decreasing_by all_goals omega
theorem c11_outBy {l : Launch} {G : GG} {h : AH} {Q : Option Value → AH → Prop} {nt : Nat} (hnt : h.1 3 2 5 = nI nt) (ht40 : nt ≤ 40) {x : Int32} (hQ : Q (some (.int (oBG (h.1 3 2) x nt))) h) : Ct l G 1 yX11_outBy cX11_outBy 4 (some .int) [.ref (G.1 3 0), .int x] h Q := by
  refine Ct.of (by decide) (Nat.le_of_ble_eq_true rfl) ?_
  show AW l G 1 RX11 cX11_outBy 4 (some .int) 0 [some (.ref (G.1 3 0)), some (.int x)] [] h Q
  refine a_iconst (v := 0) dX11_outBy_0 (by decide) ?_
  refine a_istore_n dX11_outBy_1 (by decide) rfl ?_
  dsimp only [lset]
  refine a_iconst (v := 0) dX11_outBy_2 (by decide) ?_
  refine a_istore_n dX11_outBy_3 (by decide) rfl ?_
  dsimp only [lset]
  exact l11_outBy hnt ht40 0 (by omega) hQ
theorem l11_doneBy {l : Launch} {G : GG} {h : AH} {Q : Option Value → AH → Prop} {nt : Nat} (hnt : h.1 3 2 5 = nI nt) (ht40 : nt ≤ 40) {x : Int32} (t : Nat) (ht : t ≤ nt) (hQ : Q (some (.int (dBG (h.1 3 2) x nt))) h) : AW l G 1 RX11 cX11_doneBy 4 (some .int) 4 [some (.ref (G.1 3 0)), some (.int x), some (.int (dBG (h.1 3 2) x t)), some (.int (nI t))] [] h Q := by
  refine a_iload_n dX11_doneBy_4 rfl ?_
  refine a_aload_n dX11_doneBy_5 rfl ?_
  refine a_getR (ci := 11) (j := 11) dX11_doneBy_6 rfl rfl (by decide) rfl fl_11_72 ?_
  refine a_iconst (v := 5) dX11_doneBy_9 (by decide) ?_
  refine a_iaload dX11_doneBy_10 rfl (by rw [vp_in_iff]; decide) ?_
  try simp (disch := first | decide | assumption | omega) only [ui_eq, ui_k, ui_j, ui_b, ui_2, ul_1, ul_eq, ul_k, ul_j, ul_b, cl5, hnt]
  refine a_icmp_ge dX11_doneBy_11 (tgt := 43) (by decide) (fun c11 => ?_) (fun c11 => ?_)
  · have hge : nt ≤ t := le_of_le c11 (by omega) (by omega)
    have hie : t = nt := by omega
    subst hie
    refine a_iload_n dX11_doneBy_43 rfl ?_
    exact a_iret dX11_doneBy_44 rfl hQ
  · have hlt : t < nt := lt_of_nle c11 (by omega) (by omega)
    refine a_aload_n dX11_doneBy_14 rfl ?_
    refine a_iload_n dX11_doneBy_15 rfl ?_
    refine a_iconst (v := 0) dX11_doneBy_16 (by decide) ?_
    refine a_cV2i dX11_doneBy_17 ml_11_160 wv_11_its rfl rfl (by decide) (Nat.le_of_ble_eq_true rfl) (c11_its (t := t) (w := 0) (by omega) (by decide) ⟨rfl, rfl⟩) ?_
    try simp (disch := first | decide | assumption | omega) only [ui_eq, ui_k, ui_j, ui_b, ui_2, ul_1, ul_eq, ul_k, ul_j, ul_b, cl5, hnt]
    refine a_iload_n dX11_doneBy_20 rfl ?_
    refine a_icmp_ne dX11_doneBy_21 (tgt := 37) (by decide) (fun c21 => ?_) (fun c21 => ?_)
    · refine a_inc (c := 1) dX11_doneBy_37 rfl (by decide) (by decide) rfl ?_
      dsimp only [lset]
      refine a_goto dX11_doneBy_40 (tgt := 4) (by decide) ?_
      rw [nI_1]
      have e := l11_doneBy (l := l) (G := G) (x := x) hnt ht40 (t + 1) (by omega) hQ
      simp only [dBG, mT, c11, c21, if_true, if_false] at e ⊢
      exact e
    · refine a_aload_n dX11_doneBy_24 rfl ?_
      refine a_iload_n dX11_doneBy_25 rfl ?_
      refine a_iconst (v := 2) dX11_doneBy_26 (by decide) ?_
      refine a_cV2i dX11_doneBy_27 ml_11_160 wv_11_its rfl rfl (by decide) (Nat.le_of_ble_eq_true rfl) (c11_its (t := t) (w := 2) (by omega) (by decide) ⟨rfl, rfl⟩) ?_
      try simp (disch := first | decide | assumption | omega) only [ui_eq, ui_k, ui_j, ui_b, ui_2, ul_1, ul_eq, ul_k, ul_j, ul_b, cl5, hnt]
      refine a_iconst (v := 2) dX11_doneBy_30 (by decide) ?_
      refine a_icmp_ne dX11_doneBy_31 (tgt := 37) (by decide) (fun c31 => ?_) (fun c31 => ?_)
      · refine a_inc (c := 1) dX11_doneBy_37 rfl (by decide) (by decide) rfl ?_
        dsimp only [lset]
        refine a_goto dX11_doneBy_40 (tgt := 4) (by decide) ?_
        rw [nI_1]
        have e := l11_doneBy (l := l) (G := G) (x := x) hnt ht40 (t + 1) (by omega) hQ
        simp only [dBG, mT, c11, c21, c31, if_true, if_false] at e ⊢
        exact e
      · refine a_inc (c := 1) dX11_doneBy_34 rfl (by decide) (by decide) rfl ?_
        dsimp only [lset]
        refine a_inc (c := 1) dX11_doneBy_37 rfl (by decide) (by decide) rfl ?_
        dsimp only [lset]
        refine a_goto dX11_doneBy_40 (tgt := 4) (by decide) ?_
        rw [nI_1]
        have e := l11_doneBy (l := l) (G := G) (x := x) hnt ht40 (t + 1) (by omega) hQ
        simp only [dBG, mT, c11, c21, c31, if_true, if_false] at e ⊢
        exact e
termination_by nt - t
decreasing_by all_goals omega
theorem c11_doneBy {l : Launch} {G : GG} {h : AH} {Q : Option Value → AH → Prop} {nt : Nat} (hnt : h.1 3 2 5 = nI nt) (ht40 : nt ≤ 40) {x : Int32} (hQ : Q (some (.int (dBG (h.1 3 2) x nt))) h) : Ct l G 1 yX11_doneBy cX11_doneBy 4 (some .int) [.ref (G.1 3 0), .int x] h Q := by
  refine Ct.of (by decide) (Nat.le_of_ble_eq_true rfl) ?_
  show AW l G 1 RX11 cX11_doneBy 4 (some .int) 0 [some (.ref (G.1 3 0)), some (.int x)] [] h Q
  refine a_iconst (v := 0) dX11_doneBy_0 (by decide) ?_
  refine a_istore_n dX11_doneBy_1 (by decide) rfl ?_
  dsimp only [lset]
  refine a_iconst (v := 0) dX11_doneBy_2 (by decide) ?_
  refine a_istore_n dX11_doneBy_3 (by decide) rfl ?_
  dsimp only [lset]
  exact l11_doneBy hnt ht40 0 (by omega) hQ
theorem l11_having {l : Launch} {G : GG} {h : AH} {Q : Option Value → AH → Prop} {nt : Nat} (hnt : h.1 3 2 5 = nI nt) (ht40 : nt ≤ 40) {x : Int32} (t : Nat) (ht : t ≤ nt) (hQ : Q (some (.int (cntI (fun t => mT (h.1 3 2) t 2) x nt))) h) : AW l G 1 RX11 cX11_having 4 (some .int) 4 [some (.ref (G.1 3 0)), some (.int x), some (.int (cntI (fun t => mT (h.1 3 2) t 2) x t)), some (.int (nI t))] [] h Q := by
  refine a_iload_n dX11_having_4 rfl ?_
  refine a_aload_n dX11_having_5 rfl ?_
  refine a_getR (ci := 11) (j := 11) dX11_having_6 rfl rfl (by decide) rfl fl_11_72 ?_
  refine a_iconst (v := 5) dX11_having_9 (by decide) ?_
  refine a_iaload dX11_having_10 rfl (by rw [vp_in_iff]; decide) ?_
  try simp (disch := first | decide | assumption | omega) only [ui_eq, ui_k, ui_j, ui_b, ui_2, ul_1, ul_eq, ul_k, ul_j, ul_b, cl5, hnt]
  refine a_icmp_ge dX11_having_11 (tgt := 33) (by decide) (fun c11 => ?_) (fun c11 => ?_)
  · have hge : nt ≤ t := le_of_le c11 (by omega) (by omega)
    have hie : t = nt := by omega
    subst hie
    refine a_iload_n dX11_having_33 rfl ?_
    exact a_iret dX11_having_34 rfl hQ
  · have hlt : t < nt := lt_of_nle c11 (by omega) (by omega)
    refine a_aload_n dX11_having_14 rfl ?_
    refine a_iload_n dX11_having_15 rfl ?_
    refine a_iconst (v := 2) dX11_having_16 (by decide) ?_
    refine a_cV2i dX11_having_17 ml_11_160 wv_11_its rfl rfl (by decide) (Nat.le_of_ble_eq_true rfl) (c11_its (t := t) (w := 2) (by omega) (by decide) ⟨rfl, rfl⟩) ?_
    try simp (disch := first | decide | assumption | omega) only [ui_eq, ui_k, ui_j, ui_b, ui_2, ul_1, ul_eq, ul_k, ul_j, ul_b, cl5, hnt]
    refine a_iload_n dX11_having_20 rfl ?_
    refine a_icmp_ne dX11_having_21 (tgt := 27) (by decide) (fun c21 => ?_) (fun c21 => ?_)
    · refine a_inc (c := 1) dX11_having_27 rfl (by decide) (by decide) rfl ?_
      dsimp only [lset]
      refine a_goto dX11_having_30 (tgt := 4) (by decide) ?_
      rw [nI_1]
      have e := l11_having (l := l) (G := G) (x := x) hnt ht40 (t + 1) (by omega) hQ
      simp only [cntI, mT, c11, c21, if_true, if_false] at e ⊢
      exact e
    · refine a_inc (c := 1) dX11_having_24 rfl (by decide) (by decide) rfl ?_
      dsimp only [lset]
      refine a_inc (c := 1) dX11_having_27 rfl (by decide) (by decide) rfl ?_
      dsimp only [lset]
      refine a_goto dX11_having_30 (tgt := 4) (by decide) ?_
      rw [nI_1]
      have e := l11_having (l := l) (G := G) (x := x) hnt ht40 (t + 1) (by omega) hQ
      simp only [cntI, mT, c11, c21, if_true, if_false] at e ⊢
      exact e
termination_by nt - t
decreasing_by all_goals omega
theorem c11_having {l : Launch} {G : GG} {h : AH} {Q : Option Value → AH → Prop} {nt : Nat} (hnt : h.1 3 2 5 = nI nt) (ht40 : nt ≤ 40) {x : Int32} (hQ : Q (some (.int (cntI (fun t => mT (h.1 3 2) t 2) x nt))) h) : Ct l G 1 yX11_having cX11_having 4 (some .int) [.ref (G.1 3 0), .int x] h Q := by
  refine Ct.of (by decide) (Nat.le_of_ble_eq_true rfl) ?_
  show AW l G 1 RX11 cX11_having 4 (some .int) 0 [some (.ref (G.1 3 0)), some (.int x)] [] h Q
  refine a_iconst (v := 0) dX11_having_0 (by decide) ?_
  refine a_istore_n dX11_having_1 (by decide) rfl ?_
  dsimp only [lset]
  refine a_iconst (v := 0) dX11_having_2 (by decide) ?_
  refine a_istore_n dX11_having_3 (by decide) rfl ?_
  dsimp only [lset]
  exact l11_having hnt ht40 0 (by omega) hQ
theorem l11_tripOf {l : Launch} {G : GG} {h : AH} {Q : Option Value → AH → Prop} {nt : Nat} (hnt : h.1 3 2 5 = nI nt) (ht40 : nt ≤ 40) {x : Int32} (t : Nat) (ht : t ≤ nt) (hQ : Q (some (.int (tOG (h.1 3 2) x (nt - t) t))) h) : AW l G 1 RX11 cX11_tripOf 3 (some .int) 2 [some (.ref (G.1 3 0)), some (.int x), some (.int (nI t))] [] h Q := by
  refine a_iload_n dX11_tripOf_2 rfl ?_
  refine a_aload_n dX11_tripOf_3 rfl ?_
  refine a_getR (ci := 11) (j := 11) dX11_tripOf_4 rfl rfl (by decide) rfl fl_11_72 ?_
  refine a_iconst (v := 5) dX11_tripOf_7 (by decide) ?_
  refine a_iaload dX11_tripOf_8 rfl (by rw [vp_in_iff]; decide) ?_
  try simp (disch := first | decide | assumption | omega) only [ui_eq, ui_k, ui_j, ui_b, ui_2, ul_1, ul_eq, ul_k, ul_j, ul_b, cl5, hnt]
  refine a_icmp_ge dX11_tripOf_9 (tgt := 40) (by decide) (fun c9 => ?_) (fun c9 => ?_)
  · have hge : nt ≤ t := le_of_le c9 (by omega) (by omega)
    rw [show nt - t = 0 by omega, tOG] at hQ
    refine a_iconst (v := (-1)) dX11_tripOf_40 (by decide) ?_
    exact a_iret dX11_tripOf_41 rfl hQ
  · have hlt : t < nt := lt_of_nle c9 (by omega) (by omega)
    rw [show nt - t = (nt - (t + 1)) + 1 by omega, tOG] at hQ
    refine a_aload_n dX11_tripOf_12 rfl ?_
    refine a_iload_n dX11_tripOf_13 rfl ?_
    refine a_iconst (v := 0) dX11_tripOf_14 (by decide) ?_
    refine a_cV2i dX11_tripOf_15 ml_11_160 wv_11_its rfl rfl (by decide) (Nat.le_of_ble_eq_true rfl) (c11_its (t := t) (w := 0) (by omega) (by decide) ⟨rfl, rfl⟩) ?_
    try simp (disch := first | decide | assumption | omega) only [ui_eq, ui_k, ui_j, ui_b, ui_2, ul_1, ul_eq, ul_k, ul_j, ul_b, cl5, hnt]
    refine a_iload_n dX11_tripOf_18 rfl ?_
    refine a_icmp_ne dX11_tripOf_19 (tgt := 34) (by decide) (fun c19 => ?_) (fun c19 => ?_)
    · refine a_inc (c := 1) dX11_tripOf_34 rfl (by decide) (by decide) rfl ?_
      dsimp only [lset]
      refine a_goto dX11_tripOf_37 (tgt := 2) (by decide) ?_
      rw [nI_1]
      simp only [mT, c9, c19, if_true, if_false] at hQ
      exact l11_tripOf hnt ht40 (t + 1) (by omega) hQ
    · refine a_aload_n dX11_tripOf_22 rfl ?_
      refine a_iload_n dX11_tripOf_23 rfl ?_
      refine a_iconst (v := 2) dX11_tripOf_24 (by decide) ?_
      refine a_cV2i dX11_tripOf_25 ml_11_160 wv_11_its rfl rfl (by decide) (Nat.le_of_ble_eq_true rfl) (c11_its (t := t) (w := 2) (by omega) (by decide) ⟨rfl, rfl⟩) ?_
      try simp (disch := first | decide | assumption | omega) only [ui_eq, ui_k, ui_j, ui_b, ui_2, ul_1, ul_eq, ul_k, ul_j, ul_b, cl5, hnt]
      refine a_iconst (v := 2) dX11_tripOf_28 (by decide) ?_
      refine a_icmp_eq dX11_tripOf_29 (tgt := 34) (by decide) (fun c29 => ?_) (fun c29 => ?_)
      · refine a_inc (c := 1) dX11_tripOf_34 rfl (by decide) (by decide) rfl ?_
        dsimp only [lset]
        refine a_goto dX11_tripOf_37 (tgt := 2) (by decide) ?_
        rw [nI_1]
        simp only [mT, c9, c19, c29, if_true, if_false] at hQ
        exact l11_tripOf hnt ht40 (t + 1) (by omega) hQ
      · refine a_iload_n dX11_tripOf_32 rfl ?_
        exact a_iret dX11_tripOf_33 rfl (by simp only [mT, c9, c19, c29, if_true, if_false] at hQ; exact hQ)
termination_by nt - t
decreasing_by all_goals omega
theorem c11_tripOf {l : Launch} {G : GG} {h : AH} {Q : Option Value → AH → Prop} {nt : Nat} (hnt : h.1 3 2 5 = nI nt) (ht40 : nt ≤ 40) {x : Int32} (hQ : Q (some (.int (tOG (h.1 3 2) x nt 0))) h) : Ct l G 1 yX11_tripOf cX11_tripOf 3 (some .int) [.ref (G.1 3 0), .int x] h Q := by
  refine Ct.of (by decide) (Nat.le_of_ble_eq_true rfl) ?_
  show AW l G 1 RX11 cX11_tripOf 3 (some .int) 0 [some (.ref (G.1 3 0)), some (.int x)] [] h Q
  refine a_iconst (v := 0) dX11_tripOf_0 (by decide) ?_
  refine a_istore_n dX11_tripOf_1 (by decide) rfl ?_
  dsimp only [lset]
  exact l11_tripOf hnt ht40 0 (by omega) hQ
def mOut (N : Nat → Int32) (nt k : Nat) : Int32 := (oBG N (nI k) nt + mY N k 1 - 1) / mY N k 1
def mIn (N : Nat → Int32) (nt k : Nat) : Int32 := mY N k 4 + mY N k 10 - mOut N nt k - mY N k 7 - mY N k 8 - mY N k 9
def mFree (N : Nat → Int32) (nt k : Nat) : Int32 := (mIn N nt k + mOut N nt k) * mY N k 1 - oBG N (nI k) nt
theorem c11_piecesOut {l : Launch} {G : GG} {h : AH} {Q : Option Value → AH → Prop} {nt : Nat} (hnt : h.1 3 2 5 = nI nt) (ht40 : nt ≤ 40) {k : Nat} (hk : k < 6) (hz : ¬ mY (h.1 3 2) k 1 = 0) (hQ : Q (some (.int (mOut (h.1 3 2) nt k))) h) : Ct l G 2 yX11_piecesOut cX11_piecesOut 2 (some .int) [.ref (G.1 3 0), .int (nI k)] h Q := by
  refine Ct.of (by decide) (Nat.le_of_ble_eq_true rfl) ?_
  show AW l G 2 RX11 cX11_piecesOut 2 (some .int) 0 [some (.ref (G.1 3 0)), some (.int (nI k))] [] h Q
  refine a_aload_n dX11_piecesOut_0 rfl ?_
  refine a_iload_n dX11_piecesOut_1 rfl ?_
  refine a_cV1i dX11_piecesOut_2 ml_11_164 wv_11_outBy rfl rfl (by decide) (Nat.le_of_ble_eq_true rfl) (c11_outBy hnt ht40 ⟨rfl, rfl⟩) ?_
  refine a_aload_n dX11_piecesOut_5 rfl ?_
  refine a_iload_n dX11_piecesOut_6 rfl ?_
  refine a_iconst (v := 1) dX11_piecesOut_7 (by decide) ?_
  refine a_cV2i dX11_piecesOut_8 ml_11_167 wv_11_typed rfl rfl (by decide) (Nat.le_of_ble_eq_true rfl) (c11_typed (t := k) (w := 1) (by omega) (by decide) ⟨rfl, rfl⟩) ?_
  refine a_iadd dX11_piecesOut_11 ?_
  refine a_iconst (v := 1) dX11_piecesOut_12 (by decide) ?_
  refine a_isub dX11_piecesOut_13 ?_
  refine a_aload_n dX11_piecesOut_14 rfl ?_
  refine a_iload_n dX11_piecesOut_15 rfl ?_
  refine a_iconst (v := 1) dX11_piecesOut_16 (by decide) ?_
  refine a_cV2i dX11_piecesOut_17 ml_11_167 wv_11_typed rfl rfl (by decide) (Nat.le_of_ble_eq_true rfl) (c11_typed (t := k) (w := 1) (by omega) (by decide) ⟨rfl, rfl⟩) ?_
  refine a_idiv dX11_piecesOut_20 hz ?_
  exact a_iret dX11_piecesOut_21 rfl hQ
theorem c11_piecesIn {l : Launch} {G : GG} {h : AH} {Q : Option Value → AH → Prop} {nt : Nat} (hnt : h.1 3 2 5 = nI nt) (ht40 : nt ≤ 40) {k : Nat} (hk : k < 6) (hz : ¬ mY (h.1 3 2) k 1 = 0) (hQ : Q (some (.int (mIn (h.1 3 2) nt k))) h) : Ct l G 3 yX11_piecesIn cX11_piecesIn 2 (some .int) [.ref (G.1 3 0), .int (nI k)] h Q := by
  refine Ct.of (by decide) (Nat.le_of_ble_eq_true rfl) ?_
  show AW l G 3 RX11 cX11_piecesIn 2 (some .int) 0 [some (.ref (G.1 3 0)), some (.int (nI k))] [] h Q
  refine a_aload_n dX11_piecesIn_0 rfl ?_
  refine a_iload_n dX11_piecesIn_1 rfl ?_
  refine a_iconst (v := 4) dX11_piecesIn_2 (by decide) ?_
  refine a_cV2i dX11_piecesIn_3 ml_11_167 wv_11_typed rfl rfl (by decide) (Nat.le_of_ble_eq_true rfl) (c11_typed (t := k) (w := 4) (by omega) (by decide) ⟨rfl, rfl⟩) ?_
  refine a_aload_n dX11_piecesIn_6 rfl ?_
  refine a_iload_n dX11_piecesIn_7 rfl ?_
  refine a_bipush (v := 10) dX11_piecesIn_8 (by decide) ?_
  refine a_cV2i dX11_piecesIn_10 ml_11_167 wv_11_typed rfl rfl (by decide) (Nat.le_of_ble_eq_true rfl) (c11_typed (t := k) (w := 10) (by omega) (by decide) ⟨rfl, rfl⟩) ?_
  refine a_iadd dX11_piecesIn_13 ?_
  refine a_aload_n dX11_piecesIn_14 rfl ?_
  refine a_iload_n dX11_piecesIn_15 rfl ?_
  refine a_cV1i dX11_piecesIn_16 ml_11_170 wv_11_piecesOut rfl rfl (by decide) (Nat.le_of_ble_eq_true rfl) (c11_piecesOut hnt ht40 hk hz ⟨rfl, rfl⟩) ?_
  refine a_isub dX11_piecesIn_19 ?_
  refine a_aload_n dX11_piecesIn_20 rfl ?_
  refine a_iload_n dX11_piecesIn_21 rfl ?_
  refine a_bipush (v := 7) dX11_piecesIn_22 (by decide) ?_
  refine a_cV2i dX11_piecesIn_24 ml_11_167 wv_11_typed rfl rfl (by decide) (Nat.le_of_ble_eq_true rfl) (c11_typed (t := k) (w := 7) (by omega) (by decide) ⟨rfl, rfl⟩) ?_
  refine a_isub dX11_piecesIn_27 ?_
  refine a_aload_n dX11_piecesIn_28 rfl ?_
  refine a_iload_n dX11_piecesIn_29 rfl ?_
  refine a_bipush (v := 8) dX11_piecesIn_30 (by decide) ?_
  refine a_cV2i dX11_piecesIn_32 ml_11_167 wv_11_typed rfl rfl (by decide) (Nat.le_of_ble_eq_true rfl) (c11_typed (t := k) (w := 8) (by omega) (by decide) ⟨rfl, rfl⟩) ?_
  refine a_isub dX11_piecesIn_35 ?_
  refine a_aload_n dX11_piecesIn_36 rfl ?_
  refine a_iload_n dX11_piecesIn_37 rfl ?_
  refine a_bipush (v := 9) dX11_piecesIn_38 (by decide) ?_
  refine a_cV2i dX11_piecesIn_40 ml_11_167 wv_11_typed rfl rfl (by decide) (Nat.le_of_ble_eq_true rfl) (c11_typed (t := k) (w := 9) (by omega) (by decide) ⟨rfl, rfl⟩) ?_
  refine a_isub dX11_piecesIn_43 ?_
  exact a_iret dX11_piecesIn_44 rfl hQ
theorem c11_freeOf {l : Launch} {G : GG} {h : AH} {Q : Option Value → AH → Prop} {nt : Nat} (hnt : h.1 3 2 5 = nI nt) (ht40 : nt ≤ 40) {k : Nat} (hk : k < 6) (hz : ¬ mY (h.1 3 2) k 1 = 0) (hQ : Q (some (.int (mFree (h.1 3 2) nt k))) h) : Ct l G 4 yX11_freeOf cX11_freeOf 2 (some .int) [.ref (G.1 3 0), .int (nI k)] h Q := by
  refine Ct.of (by decide) (Nat.le_of_ble_eq_true rfl) ?_
  show AW l G 4 RX11 cX11_freeOf 2 (some .int) 0 [some (.ref (G.1 3 0)), some (.int (nI k))] [] h Q
  refine a_aload_n dX11_freeOf_0 rfl ?_
  refine a_iload_n dX11_freeOf_1 rfl ?_
  refine a_cV1i dX11_freeOf_2 ml_11_173 wv_11_piecesIn rfl rfl (by decide) (Nat.le_of_ble_eq_true rfl) (c11_piecesIn hnt ht40 hk hz ⟨rfl, rfl⟩) ?_
  refine a_aload_n dX11_freeOf_5 rfl ?_
  refine a_iload_n dX11_freeOf_6 rfl ?_
  refine a_cV1i dX11_freeOf_7 ml_11_170 wv_11_piecesOut rfl rfl (by decide) (Nat.le_of_ble_eq_true rfl) (c11_piecesOut hnt ht40 hk hz ⟨rfl, rfl⟩) ?_
  refine a_iadd dX11_freeOf_10 ?_
  refine a_aload_n dX11_freeOf_11 rfl ?_
  refine a_iload_n dX11_freeOf_12 rfl ?_
  refine a_iconst (v := 1) dX11_freeOf_13 (by decide) ?_
  refine a_cV2i dX11_freeOf_14 ml_11_167 wv_11_typed rfl rfl (by decide) (Nat.le_of_ble_eq_true rfl) (c11_typed (t := k) (w := 1) (by omega) (by decide) ⟨rfl, rfl⟩) ?_
  refine a_imul dX11_freeOf_17 ?_
  refine a_aload_n dX11_freeOf_18 rfl ?_
  refine a_iload_n dX11_freeOf_19 rfl ?_
  refine a_cV1i dX11_freeOf_20 ml_11_164 wv_11_outBy rfl rfl (by decide) (Nat.le_of_ble_eq_true rfl) (c11_outBy hnt ht40 ⟨rfl, rfl⟩) ?_
  refine a_isub dX11_freeOf_23 ?_
  exact a_iret dX11_freeOf_24 rfl hQ
