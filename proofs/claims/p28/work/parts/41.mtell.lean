def a_verse (f : q_St) (v j : Nat) : Int32 := if j < 4 then f (11 + 8 * v + j) else if j = 4 then q_ik f (nI v) else if j = 5 then q_ow f (q_no f) (nI v) else f (11 + 8 * v + (j - 2))
theorem q_nei {x : Int32} {m k : Nat} (h : q_ir 0 m x = false) (hk : k ≤ m) (hm : m < 2147483648) : (x = nI k) = False := by
  refine eq_false fun e => ?_
  subst e
  rw [q_ir_nI (by omega)] at h
  simp only [Bool.and_eq_false_iff, decide_eq_false_iff_not] at h
  omega
section
variable {E : q_E} {g : q_G} {Q : Option Value → q_E → q_G → Prop}
end
