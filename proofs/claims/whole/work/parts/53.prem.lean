/-! what the Statement gives of the start -/
def tmS (i : Nat) : Term := .string RX0 (txI i)
def prm : List Cond := flatC (Jvm.Cond.and given_1 narrow_1)
theorem pr_ex : ∀ i, i < 13 → Cond.exactly (tmS i) "java/lang/String" ∈ prm := by decide +kernel
theorem pr_co : ∀ i, i < 13 → Cond.eq (.field (tmS i) "java/lang/String" "coder" "B") (.int 0) ∈ prm := by decide +kernel
theorem pr_ar : ∀ i, i < 13 → Cond.arrayOf (.field (tmS i) "java/lang/String" "value" "[B") .byte ∈ prm := by decide +kernel
theorem pr_le : ∀ i, i < 13 → Cond.eq (.length (.field (tmS i) "java/lang/String" "value" "[B")) (.int (Int32.ofNat (txL.getD i 0))) ∈ prm := by decide +kernel
theorem pr_el : ∀ i, i < 13 → ∀ j, j < txL.getD i 0 → Cond.eq (.elem (.field (tmS i) "java/lang/String" "value" "[B") (.int (Int32.ofNat j))) (.int ((txB.getD i []).getD j 0)) ∈ prm := by decide +kernel
theorem pr_ne : ∀ i, i < 13 → ∀ j, j < 13 → i ≠ j → Cond.not (Cond.eq (tmS i) (tmS j)) ∈ prm ∨ Cond.not (Cond.eq (tmS j) (tmS i)) ∈ prm := by decide +kernel
theorem pr_31 : ∀ i, i < 13 → txL.getD i 0 < 2 ^ 31 := by decide +kernel
theorem pr_kar : Cond.arrayOf (.static "OneLantern" "KIND_ABOVE" "[I") .int ∈ prm := by decide +kernel
theorem pr_kle : Cond.eq (.length (.static "OneLantern" "KIND_ABOVE" "[I")) (.int (Int32.ofNat 6)) ∈ prm := by decide +kernel
theorem pr_kel : ∀ j, j < 6 → Cond.eq (.elem (.static "OneLantern" "KIND_ABOVE" "[I") (.int (Int32.ofNat j))) (.int (kAbove j)) ∈ prm := by decide +kernel
theorem pr_cs : Cond.eq (.static "java/lang/String" "COMPACT_STRINGS" "Z") (.int 1) ∈ prm := by decide +kernel
theorem pr_fm : Cond.isRef (.static "jdk/internal/util/Preconditions" "SIOOBE_FORMATTER" "Ljava/util/function/BiFunction;") ∈ prm := by decide +kernel
theorem wfG0 : wfG L0 := by
  have h : wfS R0 := ⟨⟨by decide, by decide, fun p _ => ⟨0, by decide, rfl⟩, fun p _ => ⟨0, by decide, rfl⟩, fun p _ => ⟨false, rfl⟩, fun p _ => ⟨0, by decide, rfl⟩⟩, ⟨0, by decide, rfl⟩, by
    show bt 16909320 30 = false ∧ bt 16909320 31 = false
    decide +kernel⟩
  exact ⟨⟨h, h⟩, Nat.zero_le _, fun _ => (show (0 : Nat) < 256 by decide), fun i _ => ⟨0, by decide, rfl⟩⟩
