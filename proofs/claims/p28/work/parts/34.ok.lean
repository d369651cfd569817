theorem p_order_ok {f : q_St} (hI : q_In f) (x y : Int32) : q_Ok f (p_order f x y) := by
  unfold p_order
  by_cases e : (q_isv f x && q_ir 1 999 y) = true
  · rw [if_pos e]
    simp only [Bool.and_eq_true] at e
    obtain ⟨v, v1, rfl, v4⟩ := q_isv_lo hI e.1
    obtain ⟨n, n1, n2, rfl, n4⟩ := q_lo (lo := 1) (n := 999) e.2 (by omega)
    rw [v4]
    have h12 := hI.1.1
    obtain ⟨t, t1, t2⟩ := hI.2.2.2.2.2.2.2.2.2.2.2.2.2.1 v (by omega)
    split
    · exact Or.inl ⟨Or.inr (Or.inr rfl), rfl⟩
    · rename_i z1
      rw [not_or] at z1
      obtain ⟨z1, z2⟩ := z1
      rw [t1, q_ow_N hI, nI_add, nI_add, q_lt (by omega) (by omega)] at z2
      have hdl := hI.2.2.1.1
      have hdy := hI.2.2.2.1.1
      refine Or.inr ⟨q_dy f + q_dl f, by omega, rfl, ?_⟩
      dsimp only
      split
      · refine (q_In_r hI ?_ ?_ ?_ ?_).1
        · intro i h1 h2 h3 h4 h5
          have := h5 v 3 v1 (by omega) (by omega)
          simp (disch := omega) only [q_updn]
        · intro k hk
          simp (disch := omega) only [q_updn, q_hd_u]
          exact hI.2.2.2.2.2.2.2.1 k hk
        · intro k hk
          simp (disch := omega) only [q_updn]
          exact hI.2.2.2.2.2.2.2.2.1 k hk
        · intro u hu
          by_cases e : u = v
          · subst e
            rw [q_upds rfl, t1, nI_add]
            exact ⟨t + n, rfl, by omega⟩
          · simp (disch := omega) only [q_updn]
            exact hI.2.2.2.2.2.2.2.2.2.2.2.2.2.1 u (by omega)
      · rename_i z3
        obtain ⟨a1, ⟨a2, a2'⟩, a3, a4, a5, a6, a7, a8, a9, a10, a11, a12, a13, a14, a15⟩ := hI
        have hq : q_no f < 8 := by omega
        generalize hqe : q_no f = q at *
        generalize hxe : f 310 - nI n * f (11 + 8 * v + 2) = ac
        have z : ∀ f', q_no (upd (upd (upd (upd (upd f' 310 ac) (138 + 3 * q) (nI v)) (138 + 3 * q + 1) (nI n)) (138 + 3 * q + 2) (nI (q_dy f + q_dl f))) 137 (nI (q + 1))) = q + 1 := by
          intro f'
          unfold q_no
          rw [q_upds rfl, nI_clamp (by omega)]
        unfold q_In
        rw [z]
        simp (disch := omega) only [q_sz_u, q_dl_u, q_dy_u, q_updn, q_upds]
        refine ⟨a1, ⟨by omega, trivial⟩, a3, a4, ?_, ?_, ?_, ?_, ?_, ?_, ?_, ?_, ?_, ?_, a15⟩
        · intro o ho
          try simp (disch := omega) only [q_updn]
          exact a5 o ho
        · intro v hv
          try simp (disch := omega) only [q_updn, q_occ_u]
          exact a6 v (by omega)
        · intro v hv hv2 w hw
          try simp (disch := omega) only [q_updn]
          exact a7 v (by omega) hv2 w hw
        · intro k hk
          try simp (disch := omega) only [q_updn, q_hd_u]
          exact a8 k hk
        · intro k hk
          try simp (disch := omega) only [q_updn]
          exact a9 k hk
        · intro k hk
          by_cases e : k = q
          · subst e
            simp (disch := omega) only [q_updn, q_upds]
            exact ⟨v, v1, rfl⟩
          · simp (disch := omega) only [q_updn]
            exact a10 k (by omega)
        · intro k hk
          by_cases e : k = q
          · subst e
            simp (disch := omega) only [q_updn, q_upds]
            exact ⟨q_dy f + q_dl f, by omega, by omega, rfl⟩
          · simp (disch := omega) only [q_updn]
            exact a11 k (by omega)
        · intro i k hi hk h
          simp (disch := omega) only [q_updn]
          exact a12 i k hi hk (by omega)
        · intro k hk
          by_cases e : k = q
          · subst e
            simp (disch := omega) only [q_updn, q_upds]
            exact ⟨n, n1, n2, rfl⟩
          · simp (disch := omega) only [q_updn]
            exact a13 k (by omega)
        · intro u hu
          obtain ⟨s, s1, s2⟩ := a14 u hu
          try simp (disch := omega) only [q_updn]
          refine ⟨s, s1, ?_⟩
          unfold q_owN
          rw [q_owN_c (f := f) _ (fun i h1 h2 => by simp (disch := omega) only [q_updn])]
          simp (disch := omega) only [q_updn, q_upds, q_cl31]
          by_cases e : v = u
          · subst e
            rw [if_pos rfl]
            rw [s1, q_eqn (by omega) (by omega)] at t1
            omega
          · rw [if_neg (by rw [q_eqn (by omega) (by omega)]; exact e)]
            omega
  · rw [if_neg e]
    exact Or.inl ⟨Or.inl rfl, rfl⟩
theorem p_season_ok {f : q_St} (hI : q_In f) (o a b : Int32) : q_Ok f (p_season f o a b) := by
  unfold p_season
  by_cases e : (q_ir 0 4 o && (q_ir 0 359 a && q_ir 0 359 b)) = true
  · rw [if_pos e]
    simp only [Bool.and_eq_true] at e
    obtain ⟨j, -, j2, rfl, j4⟩ := q_lo (lo := 0) (n := 4) e.1 (by omega)
    obtain ⟨a, -, a2, rfl, -⟩ := q_lo (lo := 0) (n := 359) e.2.1 (by omega)
    obtain ⟨b, -, b2, rfl, -⟩ := q_lo (lo := 0) (n := 359) e.2.2 (by omega)
    rw [j4]
    have hb : ∀ c : Bool, ∃ r, r < 1000000 ∧ q_b c = nI r := by
      intro c
      cases c
      · exact ⟨0, by omega, rfl⟩
      · exact ⟨1, by omega, rfl⟩
    obtain ⟨r, r1, r2⟩ := hb (q_onf (upd (upd f (2 * j) (nI a)) (2 * j + 1) (nI b)) j)
    refine Or.inr ⟨r, r1, r2, ?_⟩
    obtain ⟨a1, a2, a3, a4, a5, a6, a7, a8, a9, a10, a11, a12, a13, a14, a15⟩ := hI
    dsimp only
    unfold q_In
    simp (disch := omega) only [q_sz_u, q_no_u, q_dl_u, q_dy_u, q_updn]
    refine ⟨a1, a2, a3, a4, ?_, ?_, ?_, ?_, ?_, ?_, ?_, ?_, ?_, ?_, a15⟩
    · intro o ho
      by_cases x : o = j
      · subst x
        simp (disch := omega) only [q_updn, q_upds]
        exact ⟨a, b, by omega, by omega, rfl, rfl⟩
      · simp (disch := omega) only [q_updn]
        exact a5 o ho
    · intro v hv
      try simp (disch := omega) only [q_updn, q_occ_u]
      exact a6 v (by omega)
    · intro v hv hv2 w hw
      try simp (disch := omega) only [q_updn]
      exact a7 v (by omega) hv2 w hw
    · intro k hk
      try simp (disch := omega) only [q_updn, q_hd_u]
      exact a8 k hk
    · intro k hk
      try simp (disch := omega) only [q_updn]
      exact a9 k hk
    · intro k hk
      try simp (disch := omega) only [q_updn]
      exact a10 k (by omega)
    · intro k hk
      try simp (disch := omega) only [q_updn]
      exact a11 k (by omega)
    · intro i k hi hk h
      try simp (disch := omega) only [q_updn]
      exact a12 i k hi hk (by omega)
    · intro k hk
      try simp (disch := omega) only [q_updn]
      exact a13 k (by omega)
    · intro u hu
      rw [q_owN_c (f := f) _ (fun i h1 h2 => by simp (disch := omega) only [q_updn])]
      try simp (disch := omega) only [q_updn]
      exact a14 u hu
  · rw [if_neg e]
    exact Or.inl ⟨Or.inl rfl, rfl⟩
theorem p_set_ok {f : q_St} (hI : q_In f) (w x : Int32) : q_Ok f (p_set f w x) := by
  unfold p_set
  by_cases e : (q_ir 0 1 w && q_ir 0 (if w = nI 0 then 30 else 100) x) = true
  · rw [if_pos e]
    simp only [Bool.and_eq_true] at e
    obtain ⟨j, -, j2, rfl, j4⟩ := q_lo (lo := 0) (n := 1) e.1 (by omega)
    rw [j4]
    have key : ∀ f', (∀ i, i < 312 → i ≠ 306 → i ≠ 307 → f' i = f i) → (q_dl f' ≤ 30 ∧ f' 306 = nI (q_dl f')) → (∃ p : Nat, p ≤ 100 ∧ f' 307 = nI p) → q_In f' := by
      intro f' h b3 b15
      obtain ⟨a1, a2, a3, a4, a5, a6, a7, a8, a9, a10, a11, a12, a13, a14, a15⟩ := hI
      have e1 : q_sz f' = q_sz f := by unfold q_sz; rw [h 10 (by omega) (by omega) (by omega)]
      have e2 : q_no f' = q_no f := by unfold q_no; rw [h 137 (by omega) (by omega) (by omega)]
      have e4 : q_dy f' = q_dy f := by unfold q_dy; rw [h 308 (by omega) (by omega) (by omega)]
      unfold q_In
      rw [e1, e2, e4, h 10 (by omega) (by omega) (by omega), h 137 (by omega) (by omega) (by omega), h 308 (by omega) (by omega) (by omega)]
      have hh : ∀ i, i < 306 → f' i = f i := fun i hi => h i (by omega) (by omega) (by omega)
      refine ⟨a1, a2, b3, a4, ?_, ?_, ?_, ?_, ?_, ?_, ?_, ?_, ?_, ?_, b15⟩
      · intro o ho; rw [hh _ (by omega), hh _ (by omega)]; exact a5 o ho
      · intro v hv; unfold q_occ; rw [hh _ (by omega)]; exact a6 v hv
      · intro v hv hv2 w hw; rw [hh _ (by omega)]; exact a7 v hv hv2 w hw
      · intro k hk; unfold q_hd; rw [hh _ (by omega), hh _ (by omega)]; exact a8 k hk
      · intro k hk; rw [hh _ (by omega)]; exact a9 k hk
      · intro k hk; rw [hh _ (by omega)]; exact a10 k hk
      · intro k hk; rw [hh _ (by omega)]; exact a11 k hk
      · intro i k hi hk hx; rw [hh _ (by omega)]; exact a12 i k hi hk hx
      · intro k hk; rw [hh _ (by omega)]; exact a13 k hk
      · intro v hv; rw [hh _ (by omega), q_owN_c _ (fun i h1 h2 => hh i (by omega))]; exact a14 v hv
    rcases (by omega : j = 0 ∨ j = 1) with rfl | rfl
    · have e2 := e.2
      rw [if_pos rfl] at e2
      obtain ⟨b, -, b2, rfl, b4⟩ := q_lo (lo := 0) (n := 30) e2 (by omega)
      refine Or.inr ⟨q_dl f, by have := hI.2.2.1.1; omega, hI.2.2.1.2, key _ (fun i h1 h2 h3 => q_updn h2) ?_ ?_⟩
      · unfold q_dl
        dsimp only
        rw [q_upds rfl, b4]
        exact ⟨b2, rfl⟩
      · dsimp only
        rw [q_updn (by omega)]
        exact hI.2.2.2.2.2.2.2.2.2.2.2.2.2.2
    · have e2 := e.2
      rw [if_neg (by decide)] at e2
      obtain ⟨b, -, b2, rfl, b4⟩ := q_lo (lo := 0) (n := 100) e2 (by omega)
      obtain ⟨p, p1, p2⟩ := hI.2.2.2.2.2.2.2.2.2.2.2.2.2.2
      refine Or.inr ⟨p, by omega, p2, key _ (fun i h1 h2 h3 => q_updn h3) ?_ ?_⟩
      · dsimp only
        rw [q_dl_u (by omega), q_updn (by omega)]
        exact hI.2.2.1
      · dsimp only
        rw [q_upds rfl]
        exact ⟨b, b2, rfl⟩
  · rw [if_neg e]
    exact Or.inl ⟨Or.inl rfl, rfl⟩

