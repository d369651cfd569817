theorem q_er_lt {x : Int32} (h : q_Er x) : x < nI 0 := by rcases h with rfl | rfl | rfl <;> decide
section
variable {E : q_E}
end
