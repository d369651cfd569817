def q_onf (f : q_St) (o : Nat) : Bool := q_on (q_dy f % 360) (f (2 * o)).toNatClampNeg (f (2 * o + 1)).toNatClampNeg
def q_occ (f : q_St) (v : Nat) : Nat := (f (11 + 8 * v)).toNatClampNeg
def q_hd (f : q_St) (k : Nat) : Nat := (f (107 + 3 * k)).toNatClampNeg
def q_ph (f : q_St) (v k : Nat) : Bool := decide (f (107 + 3 * k) = nI v) && decide (nI 0 < f (107 + 3 * k + 1))
def q_po (f : q_St) (v k : Nat) : Bool := decide (nI 0 < f (107 + 3 * k + 1)) && decide (f (11 + 8 * q_hd f k) = f (11 + 8 * v))
/-- the slot out of which somebody who wants v takes a card; -1: none -/
def q_sp (f : q_St) (v : Nat) : Int32 := if q_onf f (q_occ f v) = true then
    (if nI 0 ≤ q_fi (q_ph f v) 10 0 then q_fi (q_ph f v) 10 0 else (q_mx (q_po f v) (fun k => q_be f k (nI v)) (-1) (-1) 10).1)
  else -1
/-- how many cards of v the first n orders are -/
def q_owN (f : q_St) (v : Nat) : Nat → Nat
  | 0 => 0
  | n + 1 => q_owN f v n + if f (138 + 3 * n) = nI v then (f (138 + 3 * n + 1)).toNatClampNeg else 0
/-- what is always so of the model's row (its first block) -/
def q_In (f : q_St) : Prop :=
  (q_sz f ≤ 12 ∧ f 10 = nI (q_sz f)) ∧ (q_no f ≤ 8 ∧ f 137 = nI (q_no f)) ∧ (q_dl f ≤ 30 ∧ f 306 = nI (q_dl f)) ∧ (q_dy f ≤ 1999 ∧ f 308 = nI (q_dy f)) ∧
  (∀ o, o < 5 → ∃ a b : Nat, a < 360 ∧ b < 360 ∧ f (2 * o) = nI a ∧ f (2 * o + 1) = nI b) ∧
  (∀ v, v < q_sz f → q_occ f v < 5 ∧ f (11 + 8 * v) = nI (q_occ f v)) ∧
  (∀ v, q_sz f ≤ v → v < 12 → ∀ w, w < 8 → f (11 + 8 * v + w) = nI 0) ∧
  (∀ k, k < 10 → (f (107 + 3 * k) = -1 ∧ f (107 + 3 * k + 1) = nI 0) ∨ (q_hd f k < q_sz f ∧ f (107 + 3 * k) = nI (q_hd f k))) ∧
  (∀ k, k < 10 → ∃ c : Nat, c ≤ 12 ∧ f (107 + 3 * k + 1) = nI c) ∧
  (∀ k, k < q_no f → ∃ v : Nat, v < q_sz f ∧ f (138 + 3 * k) = nI v) ∧
  (∀ k, k < q_no f → ∃ d : Nat, q_dy f < d ∧ d ≤ 2029 ∧ f (138 + 3 * k + 2) = nI d) ∧
  (∀ i j, i < 12 → j < 12 → (j < i ∨ q_sz f ≤ i ∨ q_sz f ≤ j) → f (162 + 12 * i + j) = nI 0) ∧
  (∀ k, k < q_no f → ∃ a : Nat, 1 ≤ a ∧ a ≤ 999 ∧ f (138 + 3 * k + 1) = nI a) ∧
  (∀ v, v < 12 → ∃ s : Nat, f (11 + 8 * v + 3) = nI s ∧ s + q_owN f v (q_no f) ≤ 9999) ∧
  (∃ p : Nat, p ≤ 100 ∧ f 307 = nI p)
theorem q_fi_c (p : Nat → Bool) : ∀ d j, j + d < 2147483648 → q_fi p d j = -1 ∨ ∃ k, j ≤ k ∧ k < j + d ∧ p k = true ∧ q_fi p d j = nI k := by
  intro d
  induction d with
  | zero => intro j _; exact Or.inl rfl
  | succ n ih =>
    intro j hj
    unfold q_fi
    by_cases h : p j = true
    · rw [if_pos h]
      exact Or.inr ⟨j, by omega, by omega, h, rfl⟩
    · rw [if_neg h]
      rcases ih (j + 1) (by omega) with h2 | ⟨k, h3, h4, h5, h6⟩
      · exact Or.inl h2
      · exact Or.inr ⟨k, by omega, by omega, h5, h6⟩
theorem q_loop2 {N : Nat} {P : Nat → Value → Value → Prop} (h : ∀ j, j < N → ∀ a b, ∃ a' b', P j a b = P (j + 1) a' b') : ∀ {a b}, ∃ a' b', P 0 a b = P N a' b' := by
  intro a b
  induction N generalizing a b with
  | zero => exact ⟨a, b, rfl⟩
  | succ n ih =>
    obtain ⟨a1, b1, h1⟩ := ih (fun j hj => h j (by omega)) (a := a) (b := b)
    obtain ⟨a2, b2, h2⟩ := h n (by omega) a1 b1
    exact ⟨a2, b2, h1.trans h2⟩
section
variable {E : q_E} {g : q_G} {Q : Option Value → q_E → q_G → Prop}
end
