def a_sum (f : q_St) (w : Nat) : Int32 := q_sum (fun v => f (11 + 8 * v + w)) (q_sz f)
def a_rack (f : q_St) : Int32 := q_sum (fun v => q_ik f (nI v)) (q_sz f)
def a_pairs (f : q_St) : Int32 := q_sum (fun k => if nI 0 < f (162 + k) then nI 1 else nI 0) 144
/-- the counts of the state; the history and the text have their own -/
def a_count (f : q_St) (j : Nat) : Int32 := match j with
  | 0 => f 10 | 1 => f 308 | 2 => a_rack f | 3 => a_sum f 3 | 4 => f 137 | 5 => a_sum f 4 | 6 => a_sum f 6 | 7 => f 309 | 8 => f 310 + nI 100000000 | 9 => a_pairs f | 20 => f 306 | 21 => f 307 | _ => -1000001
section
variable {E : q_E} {g : q_G} {Q : Option Value → q_E → q_G → Prop}
end
