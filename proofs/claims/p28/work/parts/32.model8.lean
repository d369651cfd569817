/-- rack and stock changed, the rest as it was -/
theorem q_In_r {f f' : q_St} (hI : q_In f) (h : ∀ i, i < 312 → i ≠ 309 → i ≠ 310 → (i < 107 ∨ 137 ≤ i) → (∀ v w, v < q_sz f → w < 8 → w ≠ 0 → i ≠ 11 + 8 * v + w) → f' i = f i)
    (h8 : ∀ k, k < 10 → (f' (107 + 3 * k) = -1 ∧ f' (107 + 3 * k + 1) = nI 0) ∨ (q_hd f' k < q_sz f ∧ f' (107 + 3 * k) = nI (q_hd f' k)))
    (h9 : ∀ k, k < 10 → ∃ c : Nat, c ≤ 12 ∧ f' (107 + 3 * k + 1) = nI c)
    (h14 : ∀ v, v < q_sz f → ∃ s : Nat, f' (11 + 8 * v + 3) = nI s ∧ s + q_owN f v (q_no f) ≤ 9999) : q_In f' ∧ q_sz f' = q_sz f := by
  obtain ⟨⟨a1, a1'⟩, ⟨a2, a2'⟩, ⟨a3, a3'⟩, ⟨a4, a4'⟩, a5, a6, a7, a8, a9, a10, a11, a12, a13, a14, a15⟩ := hI
  have k10 : f' 10 = f 10 := h 10 (by omega) (by omega) (by omega) (by omega) (fun v w _ _ _ => by omega)
  have k137 : f' 137 = f 137 := h 137 (by omega) (by omega) (by omega) (by omega) (fun v w _ _ _ => by omega)
  have k306 : f' 306 = f 306 := h 306 (by omega) (by omega) (by omega) (by omega) (fun v w _ _ _ => by omega)
  have k307 : f' 307 = f 307 := h 307 (by omega) (by omega) (by omega) (by omega) (fun v w _ _ _ => by omega)
  have k308 : f' 308 = f 308 := h 308 (by omega) (by omega) (by omega) (by omega) (fun v w _ _ _ => by omega)
  have kS : ∀ i, i < 10 → f' i = f i := fun i hi => h i (by omega) (by omega) (by omega) (by omega) (fun v w _ _ _ => by omega)
  have kO : ∀ v, v < 12 → f' (11 + 8 * v) = f (11 + 8 * v) := fun u hu => h _ (by omega) (by omega) (by omega) (by omega) (fun v w _ _ _ => by omega)
  have kZ : ∀ v, q_sz f ≤ v → v < 12 → ∀ w, w < 8 → f' (11 + 8 * v + w) = f (11 + 8 * v + w) := fun u hu hu2 x hx => h _ (by omega) (by omega) (by omega) (by omega) (fun v w _ _ _ => by omega)
  have kR : ∀ i, 138 ≤ i → i < 306 → f' i = f i := fun i hi hi2 => h _ (by omega) (by omega) (by omega) (by omega) (fun v w _ _ _ => by omega)
  have e1 : q_sz f' = q_sz f := by unfold q_sz; rw [k10]
  have e2 : q_no f' = q_no f := by unfold q_no; rw [k137]
  have e3 : q_dl f' = q_dl f := by unfold q_dl; rw [k306]
  have e4 : q_dy f' = q_dy f := by unfold q_dy; rw [k308]
  have e5 : ∀ v, v < 12 → q_occ f' v = q_occ f v := by intro v hv; unfold q_occ; rw [kO v hv]
  refine ⟨?_, e1⟩
  unfold q_In
  rw [e1, e2, e3, e4, k10, k137, k306, k307, k308]
  refine ⟨⟨a1, a1'⟩, ⟨a2, a2'⟩, ⟨a3, a3'⟩, ⟨a4, a4'⟩, ?_, ?_, ?_, h8, h9, ?_, ?_, ?_, ?_, ?_, a15⟩
  · intro o ho; rw [kS (2 * o) (by omega), kS (2 * o + 1) (by omega)]; exact a5 o ho
  · intro v hv; rw [e5 v (by omega), kO v (by omega)]; exact a6 v hv
  · intro v hv hv2 w hw; rw [kZ v hv hv2 w hw]; exact a7 v hv hv2 w hw
  · intro k hk; rw [kR _ (by omega) (by omega)]; exact a10 k hk
  · intro k hk; rw [kR _ (by omega) (by omega)]; exact a11 k hk
  · intro i j hi hj h; rw [kR _ (by omega) (by omega)]; exact a12 i j hi hj h
  · intro k hk; rw [kR _ (by omega) (by omega)]; exact a13 k hk
  · intro v hv
    rw [q_owN_c _ (fun i h1 h2 => kR i h1 (by omega))]
    by_cases e : v < q_sz f
    · exact h14 v e
    · rw [kZ v (by omega) hv 3 (by omega)]
      exact a14 v hv
theorem q_sum_N {F : Nat → Int32} : ∀ n, (∀ k, k < n → ∃ c : Nat, c ≤ 12 ∧ F k = nI c) → ∃ c : Nat, c ≤ 12 * n ∧ q_sum F n = nI c := by
  intro n
  induction n with
  | zero => intro _; exact ⟨0, by omega, rfl⟩
  | succ n ih =>
    intro h
    obtain ⟨c, h1, h2⟩ := ih (fun k hk => h k (by omega))
    obtain ⟨d, h3, h4⟩ := h n (by omega)
    refine ⟨c + d, by omega, ?_⟩
    show q_sum F n + F n = _
    rw [h2, h4, nI_add]
theorem q_ik_N {f : q_St} (hI : q_In f) (x : Int32) : ∃ c : Nat, c ≤ 120 ∧ q_ik f x = nI c := by
  refine q_sum_N 10 fun k hk => ?_
  try dsimp only
  split
  · exact hI.2.2.2.2.2.2.2.2.1 k hk
  · exact ⟨0, by omega, rfl⟩
theorem q_sum_z {F : Nat → Int32} : ∀ n, n ≤ 100 → (∀ k, k < n → ∃ c : Nat, c ≤ 12 ∧ F k = nI c) → q_sum F n = nI 0 → ∀ k, k < n → F k = nI 0 := by
  intro n
  induction n with
  | zero => intro _ _ _ k hk; omega
  | succ n ih =>
    intro h100 h hz k hk
    obtain ⟨c, h1, h2⟩ := q_sum_N n (fun k hk => h k (by omega))
    obtain ⟨d, h3, h4⟩ := h n (by omega)
    have e : nI (c + d) = nI 0 := by rw [← nI_add, ← h2, ← h4]; exact hz
    rw [q_eqn (by omega) (by omega)] at e
    by_cases x : k = n
    · subst x; rw [h4]; congr 1; omega
    · refine ih (by omega) (fun k hk => h k (by omega)) ?_ k (by omega)
      rw [h2]; congr 1; omega
theorem q_ik_z {f : q_St} (hI : q_In f) {x : Int32} (hz : q_ik f x = nI 0) {k : Nat} (hk : k < 10) (h : f (107 + 3 * k) = x) : f (107 + 3 * k + 1) = nI 0 := by
  have := q_sum_z 10 (by omega) (fun k hk => ?_) hz k hk
  · rw [if_pos h] at this
    exact this
  · try dsimp only
    split
    · exact hI.2.2.2.2.2.2.2.2.1 k hk
    · exact ⟨0, by omega, rfl⟩
/-- v's cards out of the rack, up to slot j -/
def q_emp (h : q_St) (n j : Nat) : q_St := fun i => if 107 ≤ i ∧ i < 107 + 3 * j ∧ i % 3 = 0 ∧ h (i - 1) = nI n then nI 0 else h i
def q_hav (h : q_St) (n : Nat) : Int32 := h (11 + 8 * n + 3) + q_ik h (nI n)
def p_gb1 (h : q_St) (n : Nat) : Int32 × q_St := if q_onf h (q_occ h n) = true then (nI 0, h) else (q_hav h n, q_emp (upd (upd h 310 (h 310 + q_hav h n * (h 307 * h (11 + 8 * n + 2) / nI 100))) (11 + 8 * n + 3) (nI 0)) n 10)
def p_gb (f : q_St) : Nat → Int32 × q_St
  | 0 => (nI 0, f)
  | n + 1 => ((p_gb f n).1 + (p_gb1 (p_gb f n).2 n).1, (p_gb1 (p_gb f n).2 n).2)
def p_give (f : q_St) : Int32 × q_St := if (p_gb f (q_sz f)).1 = nI 0 then (-1000002, f) else ((p_gb f (q_sz f)).1, upd (p_gb f (q_sz f)).2 309 ((p_gb f (q_sz f)).2 309 + (p_gb f (q_sz f)).1))
theorem p_gb1_In {f : q_St} (hI : q_In f) {n : Nat} (hn : n < q_sz f) : (q_In (p_gb1 f n).2 ∧ q_sz (p_gb1 f n).2 = q_sz f) ∧ (∃ c : Nat, c ≤ 10119 ∧ (p_gb1 f n).1 = nI c ∧ (c = 0 → ∀ i, (p_gb1 f n).2 i = f i)) := by
  have h12 := hI.1.1
  unfold p_gb1
  by_cases e : q_onf f (q_occ f n) = true
  · rw [if_pos e]
    exact ⟨⟨hI, rfl⟩, 0, by omega, rfl, fun _ _ => rfl⟩
  · rw [if_neg e]
    obtain ⟨s, hs, hs2⟩ := hI.2.2.2.2.2.2.2.2.2.2.2.2.2.1 n (by omega)
    obtain ⟨c, hc, hc2⟩ := q_ik_N hI (nI n)
    refine ⟨q_In_r hI ?_ ?_ ?_ ?_, s + c, by omega, ?_, ?_⟩
    · intro i h1 h2 h3 h4 h5
      dsimp only [q_emp]
      have := h5 n 3 hn (by omega) (by omega)
      rw [if_neg (by omega), q_updn this, q_updn h3]
    · intro k hk
      have e1 : q_emp (upd (upd f 310 (f 310 + q_hav f n * (f 307 * f (11 + 8 * n + 2) / nI 100))) (11 + 8 * n + 3) (nI 0)) n 10 (107 + 3 * k) = f (107 + 3 * k) := by
        dsimp only [q_emp]
        rw [if_neg (by omega), q_updn (by omega), q_updn (by omega)]
      have e2 : q_hd (q_emp (upd (upd f 310 (f 310 + q_hav f n * (f 307 * f (11 + 8 * n + 2) / nI 100))) (11 + 8 * n + 3) (nI 0)) n 10) k = q_hd f k := by unfold q_hd; rw [e1]
      dsimp only
      rw [e1, e2]
      rcases hI.2.2.2.2.2.2.2.1 k hk with ⟨h1, h2⟩ | h
      · refine Or.inl ⟨h1, ?_⟩
        dsimp only [q_emp]
        split
        · rfl
        · rw [q_updn (by omega), q_updn (by omega)]; exact h2
      · exact Or.inr h
    · intro k hk
      dsimp only [q_emp]
      split
      · exact ⟨0, by omega, rfl⟩
      · rw [q_updn (by omega), q_updn (by omega)]; exact hI.2.2.2.2.2.2.2.2.1 k hk
    · intro v hv
      dsimp only [q_emp]
      rw [if_neg (by omega)]
      obtain ⟨t, ht, ht2⟩ := hI.2.2.2.2.2.2.2.2.2.2.2.2.2.1 v (by omega)
      by_cases x : v = n
      · subst x
        exact ⟨0, q_upds rfl, by omega⟩
      · rw [q_updn (by omega), q_updn (by omega)]
        exact ⟨t, ht, ht2⟩
    · dsimp only [q_hav]
      rw [hs, hc2, nI_add]
    · intro z i
      dsimp only [q_emp]
      by_cases x : i = 11 + 8 * n + 3
      · subst x
        rw [if_neg (by omega), q_upds rfl, hs]
        congr 1
        omega
      · by_cases y : 107 ≤ i ∧ i < 107 + 3 * 10 ∧ i % 3 = 0 ∧ upd (upd f 310 (f 310 + q_hav f n * (f 307 * f (11 + 8 * n + 2) / nI 100))) (11 + 8 * n + 3) (nI 0) (i - 1) = nI n
        · rw [if_pos y]
          obtain ⟨y1, y2, y3, y4⟩ := y
          rw [q_updn (by omega), q_updn (by omega)] at y4
          obtain ⟨k, rfl⟩ : ∃ k, i = 107 + 3 * k + 1 := ⟨(i - 108) / 3, by omega⟩
          exact (q_ik_z hI (x := nI n) (by rw [hc2]; congr 1; omega) (show k < 10 by omega) y4).symm
        · rw [if_neg y, q_updn x]
          by_cases w : i = 310
          · subst w
            rw [q_upds rfl]
            unfold q_hav
            rw [hs, hc2, nI_add, z, nI_0, Int32.zero_mul, Int32.add_zero]
          · rw [q_updn w]

theorem p_gb_In {f : q_St} (hI : q_In f) : ∀ n, n ≤ q_sz f → (q_In (p_gb f n).2 ∧ q_sz (p_gb f n).2 = q_sz f) ∧ (∃ c : Nat, c ≤ 10119 * n ∧ (p_gb f n).1 = nI c ∧ (c = 0 → ∀ i, (p_gb f n).2 i = f i)) := by
  intro n
  have h12 := hI.1.1
  induction n with
  | zero => intro _; exact ⟨⟨hI, rfl⟩, 0, by omega, rfl, fun _ _ => rfl⟩
  | succ n ih =>
    intro hn
    obtain ⟨⟨a1, a2⟩, c, a3, a4, a5⟩ := ih (by omega)
    obtain ⟨⟨b1, b2⟩, d, b3, b4, b5⟩ := p_gb1_In a1 (n := n) (by omega)
    refine ⟨⟨b1, b2.trans a2⟩, c + d, by omega, ?_, fun z i => ?_⟩
    · show _ + _ = _
      rw [a4, b4, nI_add]
    · exact (b5 (by omega) i).trans (a5 (by omega) i)
theorem q_nn (x : Int32) : x + -x = nI 0 := by rw [nI_0]; exact Int32.add_right_neg x
section
variable {E : q_E} {g : q_G} {Q : Option Value → q_E → q_G → Prop}
end
