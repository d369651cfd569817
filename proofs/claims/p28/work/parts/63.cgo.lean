/-! the orders of a text, done on a State -/
theorem q_V_o {g g' : q_G} {B : Nat} {f : q_St} (hV : q_Vsta g B f) (h : ∀ b, B ≤ b → b < B + 23 → g' b = g b) : q_Vsta g' B f := by
  refine q_V_mk (fun o j i hl => ?_) (fun i j hi hj => ?_) ⟨?_, ?_⟩
  · rw [← q_V_get hV hl]
    unfold q_lc at hl
    rw [h _ (by omega) (by omega)]
  · rw [h _ (by omega) (by omega)]; exact hV.2.2.2.1 i j hi hj
  · rw [h _ (by omega) (by omega)]; exact hV.2.2.2.2.2.1
  · rw [← hV.2.2.2.2.2.2]
    unfold q_ol
    rw [h _ (by omega) (by omega), h _ (by omega) (by omega), h _ (by omega) (by omega)]
section
variable {E : q_E} {t : Nat → Int32} {n : Nat}
/-- what a rehearsal may change: its own marks, the text's, the State at B -/
def q_Rf (B : Nat) (g g' : q_G) : Prop := (∀ b, (b < B ∨ B + 23 ≤ b) → b ≠ 142 → b ≠ 144 → b ≠ 145 → g' b = g b) ∧ (∀ i, i ≠ 3 → i ≠ 4 → g' 142 i = g 142 i)
theorem q_Rf_o {B : Nat} {g g' : q_G} (h : q_Out B g g') (hb : B + 23 ≤ 142) : q_Rf B g g' := ⟨fun b b0 _ _ _ => h b b0, fun i _ _ => by rw [h 142 (Or.inr hb)]⟩
end
