theorem q_In_Io {f : q_St} (hI : q_In f) : q_Io f := by
  refine ⟨hI.2.1, fun k hk => ?_⟩
  obtain ⟨v, hv, hv2⟩ := hI.2.2.2.2.2.2.2.2.2.1 k hk
  have := hI.1.1
  exact ⟨v, by omega, hv2⟩
theorem q_In_os {f : q_St} (hI : q_In f) {t : q_T} (ht : t ∈ q_os f (q_no f)) : (∃ v : Nat, v < q_sz f ∧ t.1 = nI v) ∧ (∃ a : Nat, 1 ≤ a ∧ a ≤ 999 ∧ t.2.1 = nI a) ∧ (∃ d : Nat, q_dy f < d ∧ d ≤ 2029 ∧ t.2.2 = nI d) := by
  obtain ⟨k, hk, rfl⟩ := q_os_mem.mp ht
  exact ⟨hI.2.2.2.2.2.2.2.2.2.1 k hk, hI.2.2.2.2.2.2.2.2.2.2.2.2.1 k hk, hI.2.2.2.2.2.2.2.2.2.2.1 k hk⟩
theorem p_pass_ok {f : q_St} (hI : q_In f) (x : Int32) : q_Ok f (p_pass f x) := by
  unfold p_pass
  by_cases e : q_ir 1 99 x = true
  · rw [if_pos e]
    obtain ⟨n, n1, n2, rfl, n4⟩ := q_lo (lo := 1) (n := 99) e (by omega)
    have hd := hI.2.2.2.1
    rw [n4, hd.2, nI_add]
    by_cases c : nI 1999 < nI (q_dy f + n)
    · rw [if_pos c]
      exact Or.inl ⟨Or.inr (Or.inr rfl), rfl⟩
    · rw [if_neg c]
      rw [q_lt (by omega) (by omega)] at c
      obtain ⟨b1, b2, b3, b4, b5, b6, b7⟩ := p_days_l (q_In_Io hI) hd.2 n (by omega)
      rw [if_neg (by omega)] at b2
      have hq := hI.2.1
      have h12 := hI.1.1
      refine Or.inr ⟨q_no f - q_no (p_days f n).2, by omega, b5, ?_⟩
      generalize (p_days f n).2 = h at *
      have hor : ∀ k, k < q_no h → q_or h k ∈ q_os f (q_no f) ∧ q_nod (nI (q_dy f + n)) (q_or h k) = true := by
        intro k hk
        have m : q_or h k ∈ q_os h (q_no h) := q_os_mem.mpr ⟨k, hk, rfl⟩
        rw [b2, List.mem_filter] at m
        exact m
      have hO : ∀ k, k < q_no h → (∃ v : Nat, v < q_sz f ∧ h (138 + 3 * k) = nI v) ∧ (∃ a : Nat, 1 ≤ a ∧ a ≤ 999 ∧ h (138 + 3 * k + 1) = nI a) ∧ (∃ d : Nat, q_dy f + n < d ∧ d ≤ 2029 ∧ h (138 + 3 * k + 2) = nI d) := by
        intro k hk
        obtain ⟨m1, m2⟩ := hor k hk
        obtain ⟨m3, m4, d, d1, d2, d3⟩ := q_In_os hI m1
        refine ⟨m3, m4, d, ?_, d2, d3⟩
        unfold q_nod q_due at m2
        rw [d3] at m2
        simp only [Bool.not_eq_true', decide_eq_false_iff_not] at m2
        rw [q_le (by omega) (by omega)] at m2
        omega
      obtain ⟨⟨a1, a1'⟩, a2, a3, a4, a5, a6, a7, a8, a9, a10, a11, a12, a13, a14, a15⟩ := hI
      have hh : ∀ i, (∀ v, v < 12 → i ≠ 11 + 8 * v + 3) → i ≠ 308 → (i < 137 ∨ 162 ≤ i) → h i = f i := b4
      have e1 : q_sz h = q_sz f := by unfold q_sz; rw [hh 10 (by omega) (by omega) (by omega)]
      have e3 : q_dl h = q_dl f := by unfold q_dl; rw [hh 306 (by omega) (by omega) (by omega)]
      have e4 : q_dy h = q_dy f + n := by unfold q_dy; rw [b7, nI_clamp (by omega)]; rfl
      unfold q_In
      rw [e1, e3, e4, b7, hh 10 (by omega) (by omega) (by omega), hh 306 (by omega) (by omega) (by omega), hh 307 (by omega) (by omega) (by omega)]
      refine ⟨⟨a1, a1'⟩, b1.1, a3, ⟨by omega, rfl⟩, ?_, ?_, ?_, ?_, ?_, fun k hk => (hO k hk).1, fun k hk => (hO k hk).2.2, ?_, fun k hk => (hO k hk).2.1, ?_, a15⟩
      · intro o ho; rw [hh _ (by omega) (by omega) (by omega), hh _ (by omega) (by omega) (by omega)]; exact a5 o ho
      · intro v hv; unfold q_occ; rw [hh _ (by omega) (by omega) (by omega)]; exact a6 v hv
      · intro v hv hv2 w hw
        by_cases w3 : w = 3
        · subst w3
          rw [b3 v hv2, a7 v hv hv2 3 hw, nI_0, Int32.zero_add]
          have z : ∀ l : List q_T, (∀ t, t ∈ l → t ∈ q_os f (q_no f)) → q_ls (nI v) l = nI 0 := by
            intro l
            induction l with
            | nil => intro _; rfl
            | cons t l ih =>
              intro hl
              show _ + q_ls (nI v) l = _
              rw [ih (fun t ht => hl t (List.mem_cons_of_mem _ ht))]
              obtain ⟨k, hk, hk2⟩ := q_os_mem.mp (hl t (List.mem_cons_self ..))
              obtain ⟨u, hu, hu2⟩ := a10 k hk
              have : t.1 = nI u := by rw [← hk2]; exact hu2
              rw [this, if_neg (by rw [q_eqn (by omega) (by omega)]; omega), q_a0]
          rw [if_neg (by omega), z _ (fun t ht => (List.mem_filter.mp ht).1)]
          rfl
        · rw [hh _ (by omega) (by omega) (by omega)]; exact a7 v hv hv2 w hw
      · intro k hk; unfold q_hd; rw [hh _ (by omega) (by omega) (by omega), hh _ (by omega) (by omega) (by omega)]; exact a8 k hk
      · intro k hk; rw [hh _ (by omega) (by omega) (by omega)]; exact a9 k hk
      · intro i k hi hk hx; rw [hh _ (by omega) (by omega) (by omega)]; exact a12 i k hi hk hx
      · intro v hv
        obtain ⟨s, s1, s2⟩ := a14 v hv
        have hN : q_ls (nI v) ((q_os f (q_no f)).filter (q_due (nI (q_dy f + n)))) = nI (q_lsN (nI v) ((q_os f (q_no f)).filter (q_due (nI (q_dy f + n))))) := by
          refine q_ls_N _ _ fun t ht => ?_
          obtain ⟨k, hk, hk2⟩ := q_os_mem.mp (List.mem_filter.mp ht).1
          obtain ⟨a, -, h2, h3⟩ := a13 k hk
          exact ⟨a, h2, by rw [← hk2]; exact h3⟩
        rw [b3 v hv, s1, if_neg (by omega), hN, nI_add]
        refine ⟨_, rfl, ?_⟩
        rw [q_ow_lN, b2]
        rw [q_ow_lN] at s2
        have := q_lsN_f (nI v) (q_due (nI (q_dy f + n))) (q_os f (q_no f))
        have e : (List.filter (fun t => !q_due (nI (q_dy f + n)) t) (q_os f (q_no f))) = (List.filter (q_nod (nI (q_dy f + n))) (q_os f (q_no f))) := rfl
        rw [e] at this
        omega
  · rw [if_neg e]
    exact Or.inl ⟨Or.inl rfl, rfl⟩
theorem q_In_pair {f : q_St} (hI : q_In f) {a b : Nat} (ha : a < q_sz f) (hb : b < q_sz f) (x : Int32) : q_In (upd f (q_pr a b) x) := by
  obtain ⟨a1, a2, a3, a4, a5, a6, a7, a8, a9, a10, a11, a12, a13, a14, a15⟩ := hI
  have h12 := a1.1
  obtain ⟨p, hp, hpe, q, hq, hq2, hq3⟩ : ∃ p, p < 12 ∧ ∃ _ : p < q_sz f, ∃ q, q < q_sz f ∧ p ≤ q ∧ q_pr a b = 162 + (12 * p + q) := by
    unfold q_pr
    rcases Nat.lt_or_ge a b with h | h
    · exact ⟨a, by omega, ha, b, hb, by omega, by rw [if_pos h]⟩
    · exact ⟨b, by omega, hb, a, ha, by omega, by rw [if_neg (by omega)]⟩
  rw [hq3]
  unfold q_In
  simp (disch := omega) only [q_sz_u, q_no_u, q_dl_u, q_dy_u, q_updn]
  refine ⟨a1, a2, a3, a4, ?_, ?_, ?_, ?_, ?_, ?_, ?_, ?_, ?_, ?_, a15⟩
  · intro o ho
    try simp (disch := omega) only [q_updn]
    exact a5 o ho
  · intro v hv
    try simp (disch := omega) only [q_updn, q_occ_u]
    exact a6 v (by omega)
  · intro v hv hv2 w hw
    try simp (disch := omega) only [q_updn]
    exact a7 v (by omega) hv2 w hw
  · intro k hk
    try simp (disch := omega) only [q_updn, q_hd_u]
    exact a8 k hk
  · intro k hk
    try simp (disch := omega) only [q_updn]
    exact a9 k hk
  · intro k hk
    try simp (disch := omega) only [q_updn]
    exact a10 k (by omega)
  · intro k hk
    try simp (disch := omega) only [q_updn]
    exact a11 k (by omega)
  · intro i k hi hk h
    rw [q_updn (by omega)]
    exact a12 i k hi hk (by omega)
  · intro k hk
    try simp (disch := omega) only [q_updn]
    exact a13 k (by omega)
  · intro u hu
    rw [q_owN_c (f := f) _ (fun i h1 h2 => by simp (disch := omega) only [q_updn])]
    try simp (disch := omega) only [q_updn]
    exact a14 u hu
theorem p_two_ok {f : q_St} (hI : q_In f) (x y : Int32) : q_Ok f (p_two f x y) := by
  unfold p_two
  by_cases e : (q_isv f x && q_isv f y) = true
  · rw [if_pos e]
    simp only [Bool.and_eq_true] at e
    obtain ⟨v, v1, rfl, v4⟩ := q_isv_lo hI e.1
    obtain ⟨w, w1, rfl, w4⟩ := q_isv_lo hI e.2
    rw [v4, w4]
    have h12 := hI.1.1
    obtain ⟨a1, a2, a3⟩ := p_sells_In hI v1
    obtain ⟨b1, b2, b3⟩ := p_sells_In a1 (v := w) (by omega)
    generalize p_sells f v = q1 at *
    generalize p_sells q1.2 w = q2 at *
    have m1 : (-1 : Int32) < nI 0 := by decide
    rcases a3 with h1 | ⟨u1, hu1, h1⟩
    · rw [h1, if_pos m1, if_pos (Or.inl m1)]
      rcases b3 with h2 | ⟨u2, hu2, h2⟩
      · rw [h2, if_pos m1]
        exact Or.inr ⟨0, by omega, (show nI 0 + nI 0 = nI 0 by decide), b1⟩
      · rw [h2, if_neg (by rw [q_lt (by omega) (by omega)]; omega)]
        exact Or.inr ⟨1, by omega, (show nI 0 + nI 1 = nI 1 by decide), b1⟩
    · have n1 : ¬ nI u1 < nI 0 := by rw [q_lt (by omega) (by omega)]; omega
      rw [h1, if_neg n1]
      rcases b3 with h2 | ⟨u2, hu2, h2⟩
      · rw [h2, if_pos m1, if_pos (Or.inr m1)]
        exact Or.inr ⟨1, by omega, (show nI 1 + nI 0 = nI 1 by decide), b1⟩
      · have n2 : ¬ nI u2 < nI 0 := by rw [q_lt (by omega) (by omega)]; omega
        rw [h2, if_neg n2, if_neg (fun q => q.elim n1 n2), nI_clamp (by omega), nI_clamp (by omega)]
        exact Or.inr ⟨2, by omega, (show nI 1 + nI 1 = nI 2 by decide), q_In_pair b1 (by omega) (by omega) _⟩
  · rw [if_neg e]
    exact Or.inl ⟨Or.inl rfl, rfl⟩
theorem p_give_ok {f : q_St} (hI : q_In f) : q_Ok f (p_give f) := by
  unfold p_give
  obtain ⟨⟨a1, a2⟩, c, a3, a4, a5⟩ := p_gb_In hI (q_sz f) (Nat.le_refl _)
  by_cases e : (p_gb f (q_sz f)).1 = nI 0
  · rw [if_pos e]
    exact Or.inl ⟨Or.inr (Or.inl rfl), rfl⟩
  · rw [if_neg e]
    have h12 := hI.1.1
    refine Or.inr ⟨c, by omega, a4, q_In_c a1 fun i hi => ?_⟩
    by_cases h : i = 309
    · exact Or.inr (Or.inr (Or.inr (Or.inl h)))
    · exact Or.inl (q_updn h)

