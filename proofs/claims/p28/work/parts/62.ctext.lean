/-! the class's text and its rehearsal -/
def q_TexB (E : q_E) : Prop := q_kd E 142 = (10, 5) ∧ q_rf E 142 0 = 143 ∧ q_rf E 142 2 = 144 ∧ q_kd E 143 = (3, 60) ∧ q_kd E 144 = (2, 3)
theorem q_nar {j : Nat} (h : j < 128) : (narrow FieldType.char (.int (nI j)) = .int (nI j)) = True ∧ (fits FieldType.char (.int (nI j)) = true) = True := by
  have k : ∀ j, j < 128 → decide (narrow FieldType.char (.int (nI j)) = .int (nI j)) = true ∧ fits FieldType.char (.int (nI j)) = true := by decide +kernel
  obtain ⟨a, b⟩ := k j h
  exact ⟨eq_true (of_decide_eq_true a), eq_true b⟩
section
variable {E : q_E} {t : Nat → Int32} {n : Nat}
end
