theorem q_er_n {n : Nat} (hn : n < 1000000) : ¬ q_Er (nI n) := by
  intro q
  have : ∀ x : Int32, q_Er x → x.toInt < 0 := by intro x hx; rcases hx with rfl | rfl | rfl <;> decide
  have := this _ q
  rw [nI_toInt (by omega)] at this
  omega
section
variable {E : q_E} {g : q_G} {st : Nat}
end
