/-- the first n orders looked at: how many are left, and the row -/
def p_co (f : q_St) : Nat → Nat × q_St
  | 0 => (0, f)
  | n + 1 => if f (138 + 3 * n + 2) ≤ f 308 then ((p_co f n).1, upd (p_co f n).2 (11 + 8 * (f (138 + 3 * n)).toNatClampNeg + 3) ((p_co f n).2 (11 + 8 * (f (138 + 3 * n)).toNatClampNeg + 3) + f (138 + 3 * n + 1)))
    else ((p_co f n).1 + 1, upd (upd (upd (p_co f n).2 (138 + 3 * (p_co f n).1) (f (138 + 3 * n))) (138 + 3 * (p_co f n).1 + 1) (f (138 + 3 * n + 1))) (138 + 3 * (p_co f n).1 + 2) (f (138 + 3 * n + 2)))
def p_comes (f : q_St) : Int32 × q_St := (nI (q_no f - (p_co f (q_no f)).1), upd (p_co f (q_no f)).2 137 (nI (p_co f (q_no f)).1))
/-- what comes needs -/
def q_Io (f : q_St) : Prop := (q_no f ≤ 8 ∧ f 137 = nI (q_no f)) ∧ (∀ k, k < q_no f → ∃ v : Nat, v < 12 ∧ f (138 + 3 * k) = nI v)
theorem p_co_i {f : q_St} (hI : q_Io f) : ∀ n, n ≤ q_no f → (p_co f n).1 ≤ n ∧ ∀ i, (∀ v, v < 12 → i ≠ 11 + 8 * v + 3) → (i < 138 ∨ 138 + 3 * (p_co f n).1 ≤ i) → (p_co f n).2 i = f i := by
  intro n
  induction n with
  | zero => intro _; exact ⟨Nat.le_refl _, fun i _ _ => rfl⟩
  | succ n ih =>
    intro hn
    obtain ⟨h1, h2⟩ := ih (by omega)
    obtain ⟨v, hv, hv2⟩ := hI.2 n (by omega)
    unfold p_co
    by_cases c : f (138 + 3 * n + 2) ≤ f 308
    · rw [if_pos c]
      refine ⟨by dsimp only; omega, fun i hi hi2 => ?_⟩
      dsimp only at hi2 ⊢
      rw [hv2, nI_clamp (by omega), q_updn (hi v hv)]
      exact h2 i hi hi2
    · rw [if_neg c]
      refine ⟨by dsimp only; omega, fun i hi hi2 => ?_⟩
      dsimp only at hi2 ⊢
      rw [q_updn (by omega), q_updn (by omega), q_updn (by omega)]
      exact h2 i hi (by omega)
section
variable {E : q_E} {g : q_G} {Q : Option Value → q_E → q_G → Prop}
end
