/-! the changes, as functions of the model's row -/
def q_sz (f : Nat → Int32) : Nat := (f 10).toNatClampNeg
def q_no (f : Nat → Int32) : Nat := (f 137).toNatClampNeg
def q_dl (f : Nat → Int32) : Nat := (f 306).toNatClampNeg
def q_dy (f : Nat → Int32) : Nat := (f 308).toNatClampNeg
def q_isv (f : Nat → Int32) (x : Int32) : Bool := q_ir 0 ((q_sz f : Int) - 1) x
abbrev q_St : Type := Nat → Int32
def p_verse (f : q_St) (o p c : Int32) : Int32 × q_St := if (q_ir 0 4 o && (q_ir 1 99 p && q_ir 0 99 c)) = true then (if q_sz f = 12 then (-1000003, f) else (nI (q_sz f), upd (upd (upd (upd f 10 (nI (q_sz f + 1))) (11 + 8 * q_sz f) o) (11 + 8 * q_sz f + 1) p) (11 + 8 * q_sz f + 2) c)) else (-1000001, f)
def p_order (f : q_St) (x y : Int32) : Int32 × q_St := if (q_isv f x && q_ir 1 999 y) = true then
    (if (0 < q_dl f ∧ q_no f = 8) ∨ nI 9999 < f (11 + 8 * x.toNatClampNeg + 3) + q_ow f (q_no f) x + y then (-1000003, f)
      else (nI (q_dy f + q_dl f), if q_dl f = 0 then upd (upd f 310 (f 310 - y * f (11 + 8 * x.toNatClampNeg + 2))) (11 + 8 * x.toNatClampNeg + 3) (f (11 + 8 * x.toNatClampNeg + 3) + y)
        else upd (upd (upd (upd (upd f 310 (f 310 - y * f (11 + 8 * x.toNatClampNeg + 2))) (138 + 3 * q_no f) x) (138 + 3 * q_no f + 1) y) (138 + 3 * q_no f + 2) (nI (q_dy f + q_dl f))) 137 (nI (q_no f + 1)))) else (-1000001, f)
def p_lay (f : q_St) (s x y : Int32) : Int32 × q_St := if (q_ir 0 9 s && (q_isv f x && q_ir 1 12 y)) = true then
    (if (¬ f (107 + 3 * s.toNatClampNeg) = x ∧ nI 0 < f (107 + 3 * s.toNatClampNeg + 1)) ∨ f (11 + 8 * x.toNatClampNeg + 3) < y then (-1000002, f)
      else if nI 12 < f (107 + 3 * s.toNatClampNeg + 1) + y then (-1000003, f)
      else (f (107 + 3 * s.toNatClampNeg + 1) + y, upd (upd (upd f (107 + 3 * s.toNatClampNeg) x) (107 + 3 * s.toNatClampNeg + 1) (f (107 + 3 * s.toNatClampNeg + 1) + y)) (11 + 8 * x.toNatClampNeg + 3) (f (11 + 8 * x.toNatClampNeg + 3) - y))) else (-1000001, f)
theorem q_lo {x : Int32} {n : Nat} {lo : Nat} (h : q_ir lo n x = true) (hn : n < 2147483648) : ∃ j : Nat, lo ≤ j ∧ j ≤ n ∧ x = nI j ∧ x.toNatClampNeg = j := by
  obtain ⟨j, h1, h2, h3⟩ := q_ir_j h hn
  exact ⟨j, h1, h2, h3, by rw [h3, nI_clamp (by omega)]⟩
theorem q_lov {x : Int32} {n : Nat} (h : q_ir 0 ((n : Int) - 1) x = true) (hn : n < 2147483648) : ∃ j : Nat, j < n ∧ x = nI j ∧ x.toNatClampNeg = j := by
  have h1 := q_ir_n h
  obtain ⟨j, h2, h3, h4⟩ := q_ir_j (lo := 0) (n := n - 1) (x := x) (by unfold q_ir; simp only [Bool.and_eq_true, decide_eq_true_eq]; omega) (by omega)
  exact ⟨j, by omega, h4, by rw [h4, nI_clamp (by omega)]⟩
section
variable {E : q_E} {g : q_G} {Q : Option Value → q_E → q_G → Prop}
end
