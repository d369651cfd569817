/-- a set of slots, as bits -/
def q_set (p : Nat → Bool) : Nat → Int32
  | 0 => nI 0
  | n + 1 => q_set p n ||| (if p n = true then nI 1 <<< (nI n &&& 31) else nI 0)
def a_slot (f : q_St) (s j : Nat) : Int32 := if f (107 + 3 * s) < nI 0 ∧ (j = 0 ∨ j = 4) then -1000004 else if j < 3 then f (107 + 3 * s + j) else q_set (fun k => q_bs s k && (decide (j = 3) || (decide (nI 0 ≤ f (107 + 3 * k)) && decide (f (11 + 8 * q_hd f k) = f (11 + 8 * q_hd f s))))) 10
def a_occ (f : q_St) (o j : Nat) : Int32 := if j = 0 then f (2 * o) else if j = 1 then f (2 * o + 1) else if j = 2 then q_b (q_onf f o)
  else if j = 3 then (if q_onf f o = true then nI 0 else nI (((f (2 * o)).toNatClampNeg + 360 - q_dy f % 360) % 360))
  else if q_onf f o = true then (if ((f (2 * o + 1)).toNatClampNeg + 361 - (f (2 * o)).toNatClampNeg) % 360 = 0 then nI 360 else nI (((f (2 * o + 1)).toNatClampNeg + 360 - q_dy f % 360) % 360 + 1)) else nI 0
theorem q_or0 (x : Int32) : x ||| nI 0 = x := by rw [nI_0]; exact Int32.or_zero
section
variable {E : q_E} {g : q_G} {Q : Option Value → q_E → q_G → Prop}
end
