/-! what stood there before, at the law's entry -/
def tmS (i : Nat) : Term := .string (ownS i) (idxS.getD i 0)
def gN : List Cond := flatC (Jvm.Cond.and given_1 narrow_1)
theorem gn_len : ∀ i, i < 10 → lenS.getD i 0 < 2 ^ 31 := by decide +kernel
theorem gn_ex : ∀ i, i < 10 → Cond.exactly (tmS i) "java/lang/String" ∈ gN := by decide +kernel
theorem gn_co : ∀ i, i < 10 → Cond.eq (.field (tmS i) "java/lang/String" "coder" "B") (.int 0) ∈ gN := by decide +kernel
theorem gn_ar : ∀ i, i < 10 → Cond.arrayOf (.field (tmS i) "java/lang/String" "value" "[B") .byte ∈ gN := by decide +kernel
theorem gn_le : ∀ i, i < 10 → Cond.eq (.length (.field (tmS i) "java/lang/String" "value" "[B")) (.int (Int32.ofNat (lenS.getD i 0))) ∈ gN := by decide +kernel
theorem gn_el : ∀ i, i < 10 → ∀ j, j < lenS.getD i 0 → Cond.eq (.elem (.field (tmS i) "java/lang/String" "value" "[B") (.int (Int32.ofNat j))) (.int ((bytS.getD i []).getD j 0)) ∈ gN := by decide +kernel
theorem gn_ne : ∀ i, i < 10 → ∀ j, j < 10 → i ≠ j → Cond.not (Cond.eq (tmS i) (tmS j)) ∈ gN ∨ Cond.not (Cond.eq (tmS j) (tmS i)) ∈ gN := by decide +kernel
theorem gn_cs : Cond.eq (.static "java/lang/String" "COMPACT_STRINGS" "Z") (.int 1) ∈ gN := by decide +kernel
theorem gn_pf : Cond.isRef (.static "jdk/internal/util/Preconditions" "SIOOBE_FORMATTER" "Ljava/util/function/BiFunction;") ∈ gN := by decide +kernel
theorem gn_us : Cond.isRef (.static Bundle.tN "UNASSIGNED_STACK" Bundle.steD) ∈ gN := by decide +kernel
theorem gn_ss : Cond.isRef (.static Bundle.tN "SUPPRESSED_SENTINEL" Bundle.listD) ∈ gN := by decide +kernel
theorem gn_la : Cond.arrayOf (.static RX6 "LEAST" "[I") .int ∈ gN := by decide +kernel
theorem gn_ma : Cond.arrayOf (.static RX6 "MOST" "[I") .int ∈ gN := by decide +kernel
theorem gn_ll : Cond.eq (.length (.static RX6 "LEAST" "[I")) (.int (Int32.ofNat 7)) ∈ gN := by decide +kernel
theorem gn_ml : Cond.eq (.length (.static RX6 "MOST" "[I")) (.int (Int32.ofNat 7)) ∈ gN := by decide +kernel
theorem gn_lx : ∀ j, j < 7 → Cond.eq (.elem (.static RX6 "LEAST" "[I") (.int (Int32.ofNat j))) (.int (lstV.getD j 0)) ∈ gN := by decide +kernel
theorem gn_mx : ∀ j, j < 7 → Cond.eq (.elem (.static RX6 "MOST" "[I") (.int (Int32.ofNat j))) (.int (mstV.getD j 0)) ∈ gN := by decide +kernel
theorem tn_l : ∀ w ∈ [Cond.laysStatic "java/lang/String" "COMPACT_STRINGS" "Z", Cond.laysStatic "jdk/internal/util/Preconditions" "SIOOBE_FORMATTER" "Ljava/util/function/BiFunction;", Cond.laysStatic RX6 "LEAST" "[I", Cond.laysStatic RX6 "MOST" "[I", Cond.laysStatic Bundle.tN "UNASSIGNED_STACK" Bundle.steD, Cond.laysStatic Bundle.tN "SUPPRESSED_SENTINEL" Bundle.listD,
    Cond.initialized "java/lang/String", Cond.initialized "jdk/internal/util/Preconditions", Cond.initialized RX6, Cond.initialized Bundle.tN], w ∈ lw_tbl := by decide +kernel
theorem tn_s : ∀ i, i < 10 → Cond.stringRef (ownS i) (idxS.getD i 0) (txtS.getD i "") ∈ lw_tbl := by decide +kernel
theorem tn_x : ∀ w ∈ xcD, w ∈ lw_tbl := by decide +kernel
theorem tn_m : ∀ w ∈ mnL, w ∈ lw_tbl ∧ w.onTables = true := by decide +kernel
theorem tn_i : ∀ q ∈ classes, Cond.instantiable q.1 q.2.2 ∈ lw_tbl := by decide +kernel
