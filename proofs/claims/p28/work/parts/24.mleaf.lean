/-! the model's object and its rows -/
/-- where a pair of verses lies -/
def q_pr (i j : Nat) : Nat := 162 + (if i < j then 12 * i + j else 12 * j + i)
def q_ow (f : Nat → Int32) (q : Nat) (x : Int32) : Int32 := q_sum (fun k => if f (138 + 3 * k) = x then f (138 + 3 * k + 1) else nI 0) q
def q_ik (f : Nat → Int32) (x : Int32) : Int32 := q_sum (fun k => if f (107 + 3 * k) = x then f (107 + 3 * k + 1) else nI 0) 10
def q_be (f : Nat → Int32) (k : Nat) (x : Int32) : Int32 := q_sum (fun j => if q_bs k j = true ∧ f (107 + 3 * j) = x then nI 1 else nI 0) 10
section
variable {E : q_E} {g : q_G} {Q : Option Value → q_E → q_G → Prop}
end
