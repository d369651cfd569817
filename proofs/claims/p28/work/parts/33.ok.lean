/-- what a change may be: refused, or done with what is always so kept -/
def q_Er (x : Int32) : Prop := x = -1000001 ∨ x = -1000002 ∨ x = -1000003
def q_Ok (f : q_St) (p : Int32 × q_St) : Prop := (q_Er p.1 ∧ p.2 = f) ∨ (∃ r : Nat, r < 1000000 ∧ p.1 = nI r ∧ q_In p.2)
theorem p_sell_ok {f : q_St} (hI : q_In f) (x : Int32) : q_Ok f (p_sell f x) := by
  unfold p_sell
  cases e : q_isv f x
  · exact Or.inl ⟨Or.inl rfl, rfl⟩
  · obtain ⟨v, hv, rfl, h3⟩ := q_isv_lo hI e
    have h12 := hI.1.1
    rw [h3, if_pos rfl]
    obtain ⟨a1, -, a3⟩ := p_sells_In hI hv
    rcases a3 with h | ⟨u, hu, h⟩
    · rw [h]
      exact Or.inr ⟨100, by omega, rfl, a1⟩
    · rw [h, if_neg (by rw [q_lt (by omega) (by omega)]; omega)]
      exact Or.inr ⟨u, by omega, rfl, a1⟩
theorem p_verse_ok {f : q_St} (hI : q_In f) (o p c : Int32) : q_Ok f (p_verse f o p c) := by
  unfold p_verse
  by_cases e : (q_ir 0 4 o && (q_ir 1 99 p && q_ir 0 99 c)) = true
  · rw [if_pos e]
    simp only [Bool.and_eq_true] at e
    obtain ⟨j, -, j2, rfl, j4⟩ := q_lo (lo := 0) (n := 4) e.1 (by omega)
    by_cases hm : q_sz f = 12
    · rw [if_pos hm]
      exact Or.inl ⟨Or.inr (Or.inr rfl), rfl⟩
    · rw [if_neg hm]
      refine Or.inr ⟨q_sz f, by have := hI.1.1; omega, rfl, ?_⟩
      obtain ⟨⟨a1, a1'⟩, a2, a3, a4, a5, a6, a7, a8, a9, a10, a11, a12, a13, a14, a15⟩ := hI
      generalize hs : q_sz f = m at *
      have z : ∀ f', q_sz (upd (upd (upd (upd f' 10 (nI (m + 1))) (11 + 8 * m) (nI j)) (11 + 8 * m + 1) p) (11 + 8 * m + 2) c) = m + 1 := by
        intro f'
        simp (disch := omega) only [q_sz_u]
        unfold q_sz
        rw [q_upds rfl, nI_clamp (by omega)]
      dsimp only
      unfold q_In
      rw [z]
      simp (disch := omega) only [q_no_u, q_dl_u, q_dy_u, q_updn, q_upds]
      refine ⟨⟨by omega, trivial⟩, a2, a3, a4, ?_, ?_, ?_, ?_, ?_, ?_, ?_, ?_, ?_, ?_, a15⟩
      · intro o ho
        try simp (disch := omega) only [q_updn]
        exact a5 o ho
      · intro v hv
        by_cases x : v = m
        · subst x
          unfold q_occ
          simp (disch := omega) only [q_updn, q_upds, q_cl31]
          exact ⟨by omega, trivial⟩
        · simp (disch := omega) only [q_updn, q_occ_u]
          exact a6 v (by omega)
      · intro v hv hv2 w hw
        try simp (disch := omega) only [q_updn]
        exact a7 v (by omega) hv2 w hw
      · intro k hk
        simp (disch := omega) only [q_updn, q_hd_u]
        rcases a8 k hk with h | h
        · exact Or.inl h
        · exact Or.inr ⟨by omega, h.2⟩
      · intro k hk
        try simp (disch := omega) only [q_updn]
        exact a9 k hk
      · intro k hk
        obtain ⟨v, hv, hv2⟩ := a10 k hk
        try simp (disch := omega) only [q_updn]
        exact ⟨v, by omega, hv2⟩
      · intro k hk
        try simp (disch := omega) only [q_updn]
        exact a11 k hk
      · intro i k hi hk h
        try simp (disch := omega) only [q_updn]
        exact a12 i k hi hk (by omega)
      · intro k hk
        try simp (disch := omega) only [q_updn]
        exact a13 k hk
      · intro v hv
        rw [q_owN_c (f := f) _ (fun i h1 h2 => by simp (disch := omega) only [q_updn])]
        try simp (disch := omega) only [q_updn]
        exact a14 v hv
  · rw [if_neg e]
    exact Or.inl ⟨Or.inl rfl, rfl⟩
theorem p_lay_ok {f : q_St} (hI : q_In f) (s x y : Int32) : q_Ok f (p_lay f s x y) := by
  unfold p_lay
  by_cases e : (q_ir 0 9 s && (q_isv f x && q_ir 1 12 y)) = true
  · rw [if_pos e]
    simp only [Bool.and_eq_true] at e
    obtain ⟨j, -, j2, rfl, j4⟩ := q_lo (lo := 0) (n := 9) e.1 (by omega)
    obtain ⟨v, v1, rfl, v4⟩ := q_isv_lo hI e.2.1
    obtain ⟨n, n1, n2, rfl, n4⟩ := q_lo (lo := 1) (n := 12) e.2.2 (by omega)
    rw [j4, v4]
    have h12 := hI.1.1
    obtain ⟨c, c1, c2⟩ := hI.2.2.2.2.2.2.2.2.1 j (by omega)
    obtain ⟨t, t1, t2⟩ := hI.2.2.2.2.2.2.2.2.2.2.2.2.2.1 v (by omega)
    split
    · exact Or.inl ⟨Or.inr (Or.inl rfl), rfl⟩
    · split
      · exact Or.inl ⟨Or.inr (Or.inr rfl), rfl⟩
      · rename_i z1 z2
        rw [c2, nI_add, q_lt (by omega) (by omega)] at z2
        have z3 : ¬ t < n := by
          intro q
          refine z1 (Or.inr ?_)
          rw [t1, q_lt (by omega) (by omega)]
          exact q
        refine Or.inr ⟨c + n, by omega, by rw [c2, nI_add], (q_In_r hI ?_ ?_ ?_ ?_).1⟩
        · intro i h1 h2 h3 h4 h5
          have := h5 v 3 v1 (by omega) (by omega)
          simp (disch := omega) only [q_updn]
        · intro k hk
          by_cases e : k = j
          · subst e
            unfold q_hd
            simp (disch := omega) only [q_updn, q_upds, q_cl31]
            exact Or.inr ⟨v1, trivial⟩
          · simp (disch := omega) only [q_updn, q_hd_u]
            exact hI.2.2.2.2.2.2.2.1 k hk
        · intro k hk
          by_cases e : k = j
          · subst e
            simp (disch := omega) only [q_updn, q_upds]
            exact ⟨c + n, by omega, by rw [c2, nI_add]⟩
          · simp (disch := omega) only [q_updn]
            exact hI.2.2.2.2.2.2.2.2.1 k hk
        · intro u hu
          by_cases e : u = v
          · subst e
            dsimp only
            rw [q_upds rfl, t1, pk_sub (by omega)]
            exact ⟨t - n, rfl, by omega⟩
          · simp (disch := omega) only [q_updn]
            exact hI.2.2.2.2.2.2.2.2.2.2.2.2.2.1 u (by omega)
  · rw [if_neg e]
    exact Or.inl ⟨Or.inl rfl, rfl⟩
theorem q_ow_N {f : q_St} (hI : q_In f) (v : Nat) : q_ow f (q_no f) (nI v) = nI (q_owN f v (q_no f)) := by
  rw [q_ow_l, q_ow_lN]
  refine q_ls_N _ _ fun t ht => ?_
  obtain ⟨k, hk, rfl⟩ := q_os_mem.mp ht
  obtain ⟨a, -, h2, h3⟩ := hI.2.2.2.2.2.2.2.2.2.2.2.2.1 k hk
  exact ⟨a, h2, h3⟩
theorem p_clear_ok {f : q_St} (hI : q_In f) (s : Int32) : q_Ok f (p_clear f s) := by
  unfold p_clear
  by_cases e : q_ir 0 9 s = true
  · rw [if_pos e]
    obtain ⟨j, -, j2, rfl, j4⟩ := q_lo (lo := 0) (n := 9) e (by omega)
    rw [j4]
    have h12 := hI.1.1
    obtain ⟨c, c1, c2⟩ := hI.2.2.2.2.2.2.2.2.1 j (by omega)
    split
    · exact Or.inl ⟨Or.inr (Or.inl rfl), rfl⟩
    · rename_i z1
      rcases hI.2.2.2.2.2.2.2.1 j (by omega) with h | ⟨v1, v2⟩
      · rw [h.1] at z1
        exact absurd (by decide) z1
      · generalize q_hd f j = v at *
        obtain ⟨t, t1, t2⟩ := hI.2.2.2.2.2.2.2.2.2.2.2.2.2.1 v (by omega)
        split
        · exact Or.inl ⟨Or.inr (Or.inr rfl), rfl⟩
        · rename_i z2
          rw [c2, t1, v2, q_ow_N hI, nI_add, nI_add, q_lt (by omega) (by omega)] at z2
          refine Or.inr ⟨c, by omega, c2, (q_In_r hI ?_ ?_ ?_ ?_).1⟩
          · intro i h1 h2 h3 h4 h5
            have := h5 v 3 v1 (by omega) (by omega)
            simp (disch := omega) only [q_updn]
          · intro k hk
            by_cases e : k = j
            · subst e
              simp (disch := omega) only [q_updn, q_upds]
              exact Or.inl (by simp)
            · simp (disch := omega) only [q_updn, q_hd_u]
              exact hI.2.2.2.2.2.2.2.1 k hk
          · intro k hk
            by_cases e : k = j
            · subst e
              simp (disch := omega) only [q_updn, q_upds]
              exact ⟨0, by omega, rfl⟩
            · simp (disch := omega) only [q_updn]
              exact hI.2.2.2.2.2.2.2.2.1 k hk
          · intro u hu
            by_cases e : u = v
            · subst e
              simp (disch := omega) only [q_updn, q_upds]
              rw [t1, c2, nI_add]
              exact ⟨t + c, rfl, by omega⟩
            · simp (disch := omega) only [q_updn]
              exact hI.2.2.2.2.2.2.2.2.2.2.2.2.2.1 u (by omega)
  · rw [if_neg e]
    exact Or.inl ⟨Or.inl rfl, rfl⟩

