/-! THE LAW'S START: what lies outside the system's cells, out of the Statement's premises -/
def untL : List Int32 := [1000, 1001, 2001, 1003, 2, 2002, 2001, 1004, 5, 2002, 2001]
set_option maxRecDepth 100000 in
theorem fl_unt : Cond.arrayOf (.static RX2 "UNTOLD" "[I") .int ∈ FL ∧ Cond.eq (.length (.static RX2 "UNTOLD" "[I")) (.int (Int32.ofNat 11)) ∈ FL ∧ ∀ j, j < 11 → Cond.eq (.elem (.static RX2 "UNTOLD" "[I") (.int (Int32.ofNat j))) (.int (untL.getD j 0)) ∈ FL := by decide +kernel
set_option maxRecDepth 100000 in
theorem fl_misc : Cond.eq (.static RJ0 "COMPACT_STRINGS" "Z") (.int 1) ∈ FL ∧ Cond.isRef (.static RJ3 "SIOOBE_FORMATTER" "Ljava/util/function/BiFunction;") ∈ FL ∧ Cond.isRef (.static Bundle.tN "UNASSIGNED_STACK" Bundle.steD) ∈ FL ∧ Cond.isRef (.static Bundle.tN "SUPPRESSED_SENTINEL" Bundle.listD) ∈ FL ∧ Cond.not (.castable (exN 0) (exN 1)) ∈ FL ∧ Cond.not (.castable (exN 1) (exN 0)) ∈ FL := by decide +kernel
set_option maxRecDepth 100000 in
theorem fl_str : ∀ i, i < 3 → Cond.exactly (tmS i) "java/lang/String" ∈ FL ∧ Cond.eq (.field (tmS i) "java/lang/String" "coder" "B") (.int 0) ∈ FL ∧ Cond.arrayOf (.field (tmS i) "java/lang/String" "value" "[B") .byte ∈ FL ∧ Cond.eq (.length (.field (tmS i) "java/lang/String" "value" "[B")) (.int (Int32.ofNat (lenS.getD i 0))) ∈ FL ∧ lenS.getD i 0 < 2 ^ 31 := by decide +kernel
set_option maxRecDepth 100000 in
theorem fl_ne : ∀ i, i < 3 → ∀ j, j < 3 → i ≠ j → Cond.not (Cond.eq (tmS i) (tmS j)) ∈ FL ∨ Cond.not (Cond.eq (tmS j) (tmS i)) ∈ FL := by decide +kernel
