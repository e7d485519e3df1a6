/-! WHAT NOBODY WRITES, out of the Statement's premises -/
abbrev flA : List Cond := flatC (Jvm.Cond.and given_1 narrow_1)
abbrev tmK : Term := .static "GlintNets" "KIND_ABOVE" "[I"
abbrev tmN : Term := .static "GlintNetsModel" "NAMES" "[I"
abbrev tmS (i : Nat) : Term := .string RX4 (xix.getD i 0)
abbrev tmV (i : Nat) : Term := .field (tmS i) "java/lang/String" "value" "[B"
def xps : List Nat := [157, 166, 176, 187, 198, 213, 226, 238, 253, 270, 286, 304, 322, 342, 363, 384]
theorem fl_K0 : flA[5]? = some (.arrayOf tmK .int) ∧ flA[6]? = some (.eq (.length tmK) (.int 6)) := by decide +kernel
theorem fl_K : ∀ j, j < 6 → flA[7 + j]? = some (.eq (.elem tmK (.int (Int32.ofNat j))) (.int (xka.getD j 0))) := by decide +kernel
theorem fl_C : flA[13]? = some (.eq (.static "java/lang/String" "COMPACT_STRINGS" "Z") (.int 1)) ∧ flA[14]? = some (.isRef (.static "jdk/internal/util/Preconditions" "SIOOBE_FORMATTER" "Ljava/util/function/BiFunction;")) := by decide +kernel
theorem fl_N0 : flA[19]? = some (.arrayOf tmN .int) ∧ flA[20]? = some (.eq (.length tmN) (.int 112)) := by decide +kernel
theorem fl_N : ∀ j, j < 112 → flA[21 + j]? = some (.eq (.elem tmN (.int (Int32.ofNat j))) (.int (xnm.getD j 0))) := by decide +kernel
theorem fl_S : ∀ i, i < 16 → flA[xps.getD i 0]? = some (.exactly (tmS i) "java/lang/String") ∧ flA[xps.getD i 0 + 1]? = some (.eq (.field (tmS i) "java/lang/String" "coder" "B") (.int 0)) ∧ flA[xps.getD i 0 + 2]? = some (.arrayOf (tmV i) .byte) ∧ flA[xps.getD i 0 + 3]? = some (.eq (.length (tmV i)) (.int (Int32.ofNat (xln.getD i 0)))) := by decide +kernel
theorem fl_E : ∀ i, i < 16 → ∀ j, j < xln.getD i 0 → flA[xps.getD i 0 + 4 + j]? = some (.eq (.elem (tmV i) (.int (Int32.ofNat j))) (.int ((xby.getD i []).getD j 0))) := by decide +kernel
theorem fl_D : ∀ i, i < 16 → ∀ j, j < 16 → i ≠ j → Cond.not (.eq (tmS i) (tmS j)) ∈ flA ∨ Cond.not (.eq (tmS j) (tmS i)) ∈ flA := by decide +kernel
