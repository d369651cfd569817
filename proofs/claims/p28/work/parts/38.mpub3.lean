section
variable {E : q_E} {g : q_G} {st : Nat}
end
theorem q_loop1 {N : Nat} {P : Nat → Value → Prop} (h : ∀ j, j < N → ∀ a, ∃ a', P j a = P (j + 1) a') : ∀ {a}, ∃ a', P 0 a = P N a' := by
  intro a
  induction N generalizing a with
  | zero => exact ⟨a, rfl⟩
  | succ n ih =>
    obtain ⟨a1, h1⟩ := ih (fun j hj => h j (by omega)) (a := a)
    obtain ⟨a2, h2⟩ := h n (by omega) a1
    exact ⟨a2, h1.trans h2⟩
/-! what the model tells -/
def q_rk (f : q_St) (q k : Nat) : Int32 := q_sum (fun j => if f (138 + 3 * j + 2) < f (138 + 3 * k + 2) ∨ (f (138 + 3 * j + 2) = f (138 + 3 * k + 2) ∧ j < k) then nI 1 else nI 0) q
def a_order (f : q_St) (x : Int32) (w : Nat) : Int32 := if nI 0 ≤ q_fi (fun k => decide (q_rk f (q_no f) k = x)) (q_no f) 0 then f (138 + 3 * (q_fi (fun k => decide (q_rk f (q_no f) k = x)) (q_no f) 0).toNatClampNeg + w) - (if w = 2 then f 308 else nI 0) else -1000004
section
variable {E : q_E} {g : q_G} {Q : Option Value → q_E → q_G → Prop}
end
