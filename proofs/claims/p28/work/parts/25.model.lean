theorem q_upD (g : q_G) (a i : Nat) (v : Int32) : q_up g a i v = q_upA g a (upd (g a) i v) := rfl
theorem q_upAA (g : q_G) (a : Nat) (f f' : Nat → Int32) : q_upA (q_upA g a f) a f' = q_upA g a f' := by
  funext b
  by_cases h : b = a
  · subst h; rw [q_upA_s, q_upA_s]
  · rw [q_upA_n _ _ h, q_upA_n _ _ h, q_upA_n _ _ h]
theorem q_upAid (g : q_G) (a : Nat) : q_upA g a (g a) = g := by
  funext b
  by_cases h : b = a
  · subst h; rw [q_upA_s]
  · rw [q_upA_n _ _ h]
section
variable {E : q_E} {g : q_G} {Q : Option Value → q_E → q_G → Prop}
end
