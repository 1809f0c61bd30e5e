/-! the start: the constants -/
set_option maxRecDepth 100000
def tmS (i : Nat) : Term := .string (stT.getD i ("", 0, "")).1 (stT.getD i ("", 0, "")).2.1
def gvC : List Cond := flatC (Jvm.Cond.and given_1 narrow_1)
theorem st_ex : ∀ i, i < 9 → Cond.exactly (tmS i) "java/lang/String" ∈ gvC := by decide +kernel
theorem st_co : ∀ i, i < 9 → Cond.eq (.field (tmS i) "java/lang/String" "coder" "B") (.int 0) ∈ gvC := by decide +kernel
theorem st_ar : ∀ i, i < 9 → Cond.arrayOf (.field (tmS i) "java/lang/String" "value" "[B") .byte ∈ gvC := by decide +kernel
theorem st_le : ∀ i, i < 9 → Cond.eq (.length (.field (tmS i) "java/lang/String" "value" "[B")) (.int (Int32.ofNat (stL.getD i 0))) ∈ gvC := by decide +kernel
theorem st_el : ∀ i, i < 9 → ∀ j, j < stL.getD i 0 → Cond.eq (.elem (.field (tmS i) "java/lang/String" "value" "[B") (.int (Int32.ofNat j))) (.int ((stB.getD i []).getD j 0)) ∈ gvC := by decide +kernel
theorem st_ne : ∀ i, i < 9 → ∀ j, j < 9 → i ≠ j → Cond.not (Cond.eq (tmS i) (tmS j)) ∈ gvC ∨ Cond.not (Cond.eq (tmS j) (tmS i)) ∈ gvC := by decide +kernel
theorem st_gv : Cond.eq (.static "java/lang/String" "COMPACT_STRINGS" "Z") (.int 1) ∈ gvC ∧ Cond.isRef (.static "jdk/internal/util/Preconditions" "SIOOBE_FORMATTER" "Ljava/util/function/BiFunction;") ∈ gvC := by decide +kernel
