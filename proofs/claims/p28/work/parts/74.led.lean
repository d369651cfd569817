/-! p28: each change keeps the ledger -/
section
variable {m i j : Nat} {ord acc : Int32} {f : q_St}
theorem hg_order (hI : q_In f) (hL : hg_Le m i j ord acc f) (hi : i < 36) (hj : j ≤ 100) {v n : Nat} (hv : v < m) (h1 : 1 ≤ n) (h2 : n ≤ 60) : if q_no f = 8 ∧ 0 < q_dl f then p_order f (nI v) (nI n) = (-1000003, f) else (p_order f (nI v) (nI n)).1 = nI (q_dy f + q_dl f) ∧ hg_Le m (i + 1) j (ord + nI n) (acc - nI n * f (11 + 8 * v + 2)) (p_order f (nI v) (nI n)).2 := by
  obtain ⟨s, s1, s2, -⟩ := hg_Bd hI hL (by omega) hj v hv
  have hsz := hL.1.1
  have h6 := hL.1.2.2
  have hno := hI.2.1.1
  have t := q_ir_t (lo := 1) (hi := 999) h1 (by omega) (by omega)
  rw [show ((1 : Nat) : Int) = 1 from rfl, q_c999] at t
  have hb : ¬ nI 9999 < f (11 + 8 * v + 3) + q_ow f (q_no f) (nI v) + nI n := by
    rw [s1, q_ow_N hI, nI_add, nI_add, q_lt (by omega) (by omega)]
    omega
  unfold p_order
  rw [hg_isv hI (by omega), t, Bool.and_self, if_pos rfl, q_cl31 (by omega)]
  by_cases hF : q_no f = 8 ∧ 0 < q_dl f
  · rw [if_pos hF, if_pos (Or.inl ⟨hF.2, hF.1⟩)]
  · rw [if_neg hF, if_neg (by
      rintro (q | q)
      · exact hF ⟨q.2, q.1⟩
      · exact hb q)]
    refine ⟨rfl, ?_⟩
    dsimp only
    obtain ⟨⟨a1, a2, a3⟩, b, c, d, e, p, sd, ⟨r, r1, r2⟩, ⟨o, o1, o2⟩, y, z1, z2⟩ := hL
    obtain ⟨pp, pc, p1, p2, p3, p4, p5⟩ := p v hv
    have hm : n * pc ≤ 60 * 99 := Nat.mul_le_mul h2 p3
    have ac : acc - nI n * f (11 + 8 * v + 2) = f 310 - nI n * f (11 + 8 * v + 2) + nI 100000000 := by
      rw [e]
      have : ∀ x y z : Int32, x + y - z = x - z + y := by intro x y z; grind
      exact this _ _ _
    have tI : (f 310 - nI n * f (11 + 8 * v + 2)).toInt = (f 310).toInt - (n * pc : Nat) := by
      rw [p5, pk_mul]
      exact hg_subI (by omega) (by omega) (by omega)
    generalize f 310 - nI n * f (11 + 8 * v + 2) = ac' at *
    by_cases hd : q_dl f = 0
    · rw [if_pos hd]
      have hz : q_sz (upd (upd f 310 ac') (11 + 8 * v + 3) (f (11 + 8 * v + 3) + nI n)) = q_sz f := by simp (disch := omega) only [q_sz_u]
      refine ⟨⟨hz.trans a1, a2, a3⟩, ?_, ?_, ?_, ?_, fun u hu => ?_, fun u hu => ?_, ⟨r, ?_, by omega⟩, ⟨o + n, by rw [o1, nI_add], by omega⟩, ?_, ?_, ?_⟩
      · rw [hg_oc (f := f) (fun k hk => by simp (disch := omega) only [q_updn]), hg_sc hz (fun k hk => by simp (disch := omega) only [q_updn])]
        exact b
      · rw [hg_sc hz (fun k hk => by simp (disch := omega) only [q_updn]), hg_sc hz (fun k hk => by simp (disch := omega) only [q_updn]), hg_sc hz (fun k hk => by simp (disch := omega) only [q_updn])]
        exact c
      · rw [hg_cc (f := f) (fun k hk => by simp (disch := omega) only [q_updn]), hg_su hz (u := v) (d := nI n) (by omega) (fun k hk hne => by simp (disch := omega) only [q_updn]) (q_upds rfl), hg_mc (f := f) (by simp (disch := omega) only [q_no_u]) (fun k hk => by simp (disch := omega) only [q_updn]), hg_sc hz (fun k hk => by simp (disch := omega) only [q_updn]), q_updn (by omega), q_updn (by omega), d]
        have : ∀ x y z w t n : Int32, x + y + z + w + t + n = x + (y + n) + z + w + t := by intro x y z w t n; grind
        exact this _ _ _ _ _ _
      · rw [q_updn (by omega), q_upds rfl]; exact ac
      · simp (disch := omega) only [q_updn]; exact p u hu
      · simp (disch := omega) only [q_updn]; exact sd u hu
      · simp (disch := omega) only [q_updn]; exact r1
      · simp (disch := omega) only [q_dy_u]; omega
      · rw [q_updn (by omega), q_upds rfl]; omega
      · rw [q_updn (by omega), q_upds rfl]; omega
    · rw [if_neg hd]
      have hq8 : q_no f < 8 := by omega
      generalize hqe : q_no f = q at *
      generalize hfe : upd (upd (upd (upd (upd f 310 ac') (138 + 3 * q) (nI v)) (138 + 3 * q + 1) (nI n)) (138 + 3 * q + 2) (nI (q_dy f + q_dl f))) 137 (nI (q + 1)) = f'
      have g : ∀ k, k ≠ 310 → k ≠ 137 → (k < 138 + 3 * q ∨ 138 + 3 * q + 3 ≤ k) → f' k = f k := fun k k1 k2 k3 => by
        subst hfe
        simp (disch := omega) only [q_updn]
      have g310 : f' 310 = ac' := by subst hfe; simp (disch := omega) only [q_updn, q_upds]
      have gno : q_no f' = q + 1 := by
        subst hfe
        unfold q_no
        rw [q_upds rfl, nI_clamp (by omega)]
      have gam : f' (138 + 3 * q + 1) = nI n := by subst hfe; simp (disch := omega) only [q_updn, q_upds]
      have hz : q_sz f' = q_sz f := by unfold q_sz; rw [g 10 (by omega) (by omega) (by omega)]
      refine ⟨⟨hz.trans a1, a2, a3⟩, ?_, ?_, ?_, ?_, fun u hu => ?_, fun u hu => ?_, ⟨r, ?_, by omega⟩, ⟨o + n, by rw [o1, nI_add], by omega⟩, ?_, ?_, ?_⟩
      · rw [hg_oc (f := f) (fun k hk => g _ (by omega) (by omega) (by omega)), hg_sc hz (fun k hk => g _ (by omega) (by omega) (by omega))]
        exact b
      · rw [hg_sc hz (fun k hk => g _ (by omega) (by omega) (by omega)), hg_sc hz (fun k hk => g _ (by omega) (by omega) (by omega)), hg_sc hz (fun k hk => g _ (by omega) (by omega) (by omega))]
        exact c
      · have am : hg_amts f' = hg_amts f + nI n := hg_ms (by rw [gno, hqe]) (fun k hk => g _ (by omega) (by omega) (by omega)) (by rw [hqe]; exact gam)
        rw [hg_cc (f := f) (fun k hk => g _ (by omega) (by omega) (by omega)), hg_sc hz (fun k hk => g _ (by omega) (by omega) (by omega)), am, hg_sc hz (fun k hk => g _ (by omega) (by omega) (by omega)), g 309 (by omega) (by omega) (by omega), d]
        have : ∀ x y z w t n : Int32, x + y + z + w + t + n = x + y + (z + n) + w + t := by intro x y z w t n; grind
        exact this _ _ _ _ _ _
      · rw [g310]; exact ac
      · rw [g _ (by omega) (by omega) (by omega), g _ (by omega) (by omega) (by omega)]; exact p u hu
      · rw [g _ (by omega) (by omega) (by omega), g _ (by omega) (by omega) (by omega)]; exact sd u hu
      · rw [g _ (by omega) (by omega) (by omega)]; exact r1
      · unfold q_dy at *; rw [g _ (by omega) (by omega) (by omega)]; omega
      · rw [g310]; omega
      · rw [g310]; omega
theorem hg_lay (hI : q_In f) (hL : hg_Le m i j ord acc f) {k v n : Nat} (hk : k < 10) (hv : v < m) (h1 : 1 ≤ n) (h2 : n ≤ 12) : hg_Le m i j ord acc (p_lay f (nI k) (nI v) (nI n)).2 ∧ (p_lay f (nI k) (nI v) (nI n)).1 = (if (¬ f (107 + 3 * k) = nI v ∧ nI 0 < f (107 + 3 * k + 1)) ∨ f (11 + 8 * v + 3) < nI n then -1000002 else if nI 12 < f (107 + 3 * k + 1) + nI n then -1000003 else f (107 + 3 * k + 1) + nI n) ∧ (q_Er (p_lay f (nI k) (nI v) (nI n)).1 ∨ ((p_lay f (nI k) (nI v) (nI n)).2 (107 + 3 * k) = nI v ∧ (p_lay f (nI k) (nI v) (nI n)).2 (107 + 3 * k + 1) = (p_lay f (nI k) (nI v) (nI n)).1)) := by
  have hsz := hL.1.1
  have h6 := hL.1.2.2
  have t1 := q_ir_t (lo := 0) (hi := 9) (Nat.zero_le k) (by omega) (by omega)
  have t2 := q_ir_t (lo := 1) (hi := 12) h1 h2 (by omega)
  rw [q_c0, q_c9] at t1
  rw [q_c12, q_c1] at t2
  unfold p_lay
  rw [hg_isv hI (by omega), t1, t2, if_pos (by rfl), q_cl31 (by omega), q_cl31 (by omega)]
  by_cases c1 : (¬ f (107 + 3 * k) = nI v ∧ nI 0 < f (107 + 3 * k + 1)) ∨ f (11 + 8 * v + 3) < nI n
  · rw [if_pos c1, if_pos c1]
    exact ⟨hL, rfl, Or.inl (Or.inr (Or.inl rfl))⟩
  rw [if_neg c1, if_neg c1]
  by_cases c2 : nI 12 < f (107 + 3 * k + 1) + nI n
  · rw [if_pos c2, if_pos c2]
    exact ⟨hL, rfl, Or.inl (Or.inr (Or.inr rfl))⟩
  rw [if_neg c2, if_neg c2]
  dsimp only
  refine ⟨?_, rfl, Or.inr ⟨?_, ?_⟩⟩
  · obtain ⟨⟨a1, a2, a3⟩, b, c, d, e, p, sd, r, o, y, z1, z2⟩ := hL
    have hz : q_sz (upd (upd (upd f (107 + 3 * k) (nI v)) (107 + 3 * k + 1) (f (107 + 3 * k + 1) + nI n)) (11 + 8 * v + 3) (f (11 + 8 * v + 3) - nI n)) = q_sz f := by simp (disch := omega) only [q_sz_u]
    refine ⟨⟨hz.trans a1, a2, a3⟩, ?_, ?_, ?_, ?_, fun u hu => ?_, fun u hu => ?_, ?_, o, ?_, ?_⟩
    · rw [hg_oc (f := f) (fun k hk => by simp (disch := omega) only [q_updn]), hg_sc hz (fun k hk => by simp (disch := omega) only [q_updn])]
      exact b
    · rw [hg_sc hz (fun k hk => by simp (disch := omega) only [q_updn]), hg_sc hz (fun k hk => by simp (disch := omega) only [q_updn]), hg_sc hz (fun k hk => by simp (disch := omega) only [q_updn])]
      exact c
    · rw [hg_cu (f := f) hk (d := nI n) (fun k hk hne => by simp (disch := omega) only [q_updn]) (by rw [q_updn (by omega), q_upds rfl]), hg_su hz (u := v) (d := -nI n) (by omega) (fun k hk hne => by simp (disch := omega) only [q_updn]) (by rw [q_upds rfl, Int32.sub_eq_add_neg]), hg_mc (f := f) (by simp (disch := omega) only [q_no_u]) (fun k hk => by
          have := hI.2.1.1
          simp (disch := omega) only [q_updn]), hg_sc hz (fun k hk => by simp (disch := omega) only [q_updn]), q_updn (by omega), q_updn (by omega), q_updn (by omega), d]
      have : ∀ x y z w t n : Int32, x + y + z + w + t = x + n + (y + -n) + z + w + t := by intro x y z w t n; grind
      exact this _ _ _ _ _ _
    · simp (disch := omega) only [q_updn]; exact e
    · simp (disch := omega) only [q_updn]; exact p u hu
    · simp (disch := omega) only [q_updn]; exact sd u hu
    · simp (disch := omega) only [q_updn]; exact r
    · simp (disch := omega) only [q_dy_u]; exact y
    · simp (disch := omega) only [q_updn]; exact ⟨z1, z2⟩
  · simp (disch := omega) only [q_updn, q_upds]
  · simp (disch := omega) only [q_updn, q_upds]
theorem hg_clear (hI : q_In f) (hL : hg_Le m i j ord acc f) (hi : i ≤ 36) (hj : j ≤ 100) {k : Nat} (hk : k < 10) : (f (107 + 3 * k) < nI 0 ∧ p_clear f (nI k) = (-1000002, f)) ∨ (∃ v c s : Nat, v < m ∧ c ≤ 12 ∧ s ≤ 9999 ∧ f (107 + 3 * k) = nI v ∧ f (107 + 3 * k + 1) = nI c ∧ f (11 + 8 * v + 3) = nI s ∧ (p_clear f (nI k)).1 = nI c ∧ (p_clear f (nI k)).2 (107 + 3 * k) = -1 ∧ (p_clear f (nI k)).2 (11 + 8 * v + 3) = nI s + nI c ∧ hg_Le m i j ord acc (p_clear f (nI k)).2) := by
  have hsz := hL.1.1
  have h6 := hL.1.2.2
  have t1 := q_ir_t (lo := 0) (hi := 9) (Nat.zero_le k) (by omega) (by omega)
  rw [q_c0, q_c9] at t1
  have hB := hg_Bd hI hL hi hj
  unfold p_clear
  rw [t1, if_pos rfl, q_cl31 (by omega)]
  rcases hI.2.2.2.2.2.2.2.1 k hk with ⟨x1, -⟩ | ⟨x1, x2⟩
  · left
    rw [x1, if_pos (by decide)]
    exact ⟨by decide, rfl⟩
  · right
    rw [hsz] at x1
    generalize q_hd f k = v at *
    obtain ⟨s, s1, -, s3⟩ := hB v x1
    obtain ⟨c, c1, c2, c3⟩ := s3 k hk
    rw [x2, if_neg (by rw [q_lt (by omega) (by omega)]; omega), if_neg (by
      rw [s1, q_ow_N hI, c2, nI_add, nI_add, q_lt (by omega) (by omega)]
      omega)]
    dsimp only
    refine ⟨v, c, s, x1, c1, by omega, rfl, c2, s1, c2, ?_, ?_, ?_⟩
    · simp (disch := omega) only [q_updn, q_upds]
    · simp (disch := omega) only [q_updn, q_upds]
      rw [s1, c2]
    · obtain ⟨⟨a1, a2, a3⟩, b, c', d, e, p, sd, r, o, y, z1, z2⟩ := hL
      have hz : q_sz (upd (upd (upd f (11 + 8 * v + 3) (f (11 + 8 * v + 3) + f (107 + 3 * k + 1))) (107 + 3 * k) (-1)) (107 + 3 * k + 1) (nI 0)) = q_sz f := by simp (disch := omega) only [q_sz_u]
      refine ⟨⟨hz.trans a1, a2, a3⟩, ?_, ?_, ?_, ?_, fun u hu => ?_, fun u hu => ?_, ?_, o, ?_, ?_⟩
      · rw [hg_oc (f := f) (fun k hk => by simp (disch := omega) only [q_updn]), hg_sc hz (fun k hk => by simp (disch := omega) only [q_updn])]
        exact b
      · rw [hg_sc hz (fun k hk => by simp (disch := omega) only [q_updn]), hg_sc hz (fun k hk => by simp (disch := omega) only [q_updn]), hg_sc hz (fun k hk => by simp (disch := omega) only [q_updn])]
        exact c'
      · rw [hg_cu (f := f) hk (d := -f (107 + 3 * k + 1)) (fun k hk hne => by simp (disch := omega) only [q_updn]) (by rw [q_upds rfl, q_nn]), hg_su hz (u := v) (d := f (107 + 3 * k + 1)) (by omega) (fun k hk hne => by simp (disch := omega) only [q_updn]) (by simp (disch := omega) only [q_updn, q_upds]), hg_mc (f := f) (by simp (disch := omega) only [q_no_u]) (fun k hk => by
            have := hI.2.1.1
            simp (disch := omega) only [q_updn]), hg_sc hz (fun k hk => by simp (disch := omega) only [q_updn]), q_updn (by omega), q_updn (by omega), q_updn (by omega), d]
        have : ∀ x y z w t n : Int32, x + y + z + w + t = x + -n + (y + n) + z + w + t := by intro x y z w t n; grind
        exact this _ _ _ _ _ _
      · simp (disch := omega) only [q_updn]; exact e
      · simp (disch := omega) only [q_updn]; exact p u hu
      · simp (disch := omega) only [q_updn]; exact sd u hu
      · simp (disch := omega) only [q_updn]; exact r
      · simp (disch := omega) only [q_dy_u]; exact y
      · simp (disch := omega) only [q_updn]; exact ⟨z1, z2⟩
end
