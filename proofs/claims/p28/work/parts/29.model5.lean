def p_sell (f : q_St) (x : Int32) : Int32 × q_St := if q_isv f x = true then (if (p_sells f x.toNatClampNeg).1 < nI 0 then nI 100 else (p_sells f x.toNatClampNeg).1, (p_sells f x.toNatClampNeg).2) else (-1000001, f)
def p_clear (f : q_St) (s : Int32) : Int32 × q_St := if q_ir 0 9 s = true then
    (if f (107 + 3 * s.toNatClampNeg) < nI 0 then (-1000002, f)
     else if nI 9999 < f (11 + 8 * q_hd f s.toNatClampNeg + 3) + q_ow f (q_no f) (f (107 + 3 * s.toNatClampNeg)) + f (107 + 3 * s.toNatClampNeg + 1) then (-1000003, f)
     else (f (107 + 3 * s.toNatClampNeg + 1), upd (upd (upd f (11 + 8 * q_hd f s.toNatClampNeg + 3) (f (11 + 8 * q_hd f s.toNatClampNeg + 3) + f (107 + 3 * s.toNatClampNeg + 1))) (107 + 3 * s.toNatClampNeg) (-1)) (107 + 3 * s.toNatClampNeg + 1) (nI 0))) else (-1000001, f)
def p_season (f : q_St) (o a b : Int32) : Int32 × q_St := if (q_ir 0 4 o && (q_ir 0 359 a && q_ir 0 359 b)) = true then
    (q_b (q_onf (upd (upd f (2 * o.toNatClampNeg) a) (2 * o.toNatClampNeg + 1) b) o.toNatClampNeg), upd (upd f (2 * o.toNatClampNeg) a) (2 * o.toNatClampNeg + 1) b) else (-1000001, f)
def p_set (f : q_St) (w x : Int32) : Int32 × q_St := if (q_ir 0 1 w && q_ir 0 (if w = nI 0 then 30 else 100) x) = true then (f (306 + w.toNatClampNeg), upd f (306 + w.toNatClampNeg) x) else (-1000001, f)
def p_two (f : q_St) (x y : Int32) : Int32 × q_St := if (q_isv f x && q_isv f y) = true then
    ((if (p_sells f x.toNatClampNeg).1 < nI 0 then nI 0 else nI 1) + (if (p_sells (p_sells f x.toNatClampNeg).2 y.toNatClampNeg).1 < nI 0 then nI 0 else nI 1),
     if (p_sells f x.toNatClampNeg).1 < nI 0 ∨ (p_sells (p_sells f x.toNatClampNeg).2 y.toNatClampNeg).1 < nI 0 then (p_sells (p_sells f x.toNatClampNeg).2 y.toNatClampNeg).2
     else upd (p_sells (p_sells f x.toNatClampNeg).2 y.toNatClampNeg).2 (q_pr (p_sells f x.toNatClampNeg).1.toNatClampNeg (p_sells (p_sells f x.toNatClampNeg).2 y.toNatClampNeg).1.toNatClampNeg) ((p_sells (p_sells f x.toNatClampNeg).2 y.toNatClampNeg).2 (q_pr (p_sells f x.toNatClampNeg).1.toNatClampNeg (p_sells (p_sells f x.toNatClampNeg).2 y.toNatClampNeg).1.toNatClampNeg) + nI 1)) else (-1000001, f)
theorem q_hd_lt {f : q_St} (hI : q_In f) {k : Nat} (hk : k < 10) (hc : nI 0 < f (107 + 3 * k + 1)) : q_hd f k < q_sz f ∧ f (107 + 3 * k) = nI (q_hd f k) := by
  rcases hI.2.2.2.2.2.2.2.1 k hk with ⟨-, h2⟩ | h
  · rw [h2] at hc
    exact absurd hc (by decide)
  · exact h
theorem p_take_In {f : q_St} (hI : q_In f) {v k : Nat} (hk : k < 10) (hc : nI 0 < f (107 + 3 * k + 1)) : q_In (p_take f v k) ∧ q_sz (p_take f v k) = q_sz f := by
  obtain ⟨h1, h2⟩ := q_hd_lt hI hk hc
  have h12 := hI.1.1
  refine ⟨?_, ?_⟩
  · have hI1 : q_In (upd f (107 + 3 * k + 1) (f (107 + 3 * k + 1) - nI 1)) := by
      obtain ⟨a1, a2, a3, a4, a5, a6, a7, a8, a9, a10, a11, a12, a13, a14, a15⟩ := hI
      have hcc : ∃ c, c ≤ 12 ∧ f (107 + 3 * k + 1) - nI 1 = nI c := by
        obtain ⟨c, hc1, hc2⟩ := a9 k hk
        rw [hc2, q_lt (by omega) (by omega)] at hc
        exact ⟨c - 1, by omega, by rw [hc2]; exact pk_sub (by omega)⟩
      unfold q_In
      simp (disch := omega) only [q_sz_u, q_no_u, q_dl_u, q_dy_u, q_updn, q_hd_u]
      refine ⟨a1, a2, a3, a4, ?_, ?_, ?_, ?_, ?_, ?_, ?_, ?_, ?_, ?_, a15⟩
      · intro o ho; try simp (disch := omega) only [q_updn]
        exact a5 o ho
      · intro u hu; try simp (disch := omega) only [q_updn, q_occ_u]
        exact a6 u hu
      · intro u hu hu2 w hw; try simp (disch := omega) only [q_updn]
        exact a7 u hu hu2 w hw
      · intro j hj
        try simp (disch := omega) only [q_updn, q_hd_u]
        by_cases e : j = k
        · subst e; exact Or.inr ⟨h1, h2⟩
        · rw [q_updn (by omega)]; exact a8 j hj
      · intro j hj
        by_cases e : j = k
        · subst e; rw [q_upds rfl]; exact hcc
        · rw [q_updn (by omega)]; exact a9 j hj
      · intro j hj; try simp (disch := omega) only [q_updn]
        exact a10 j hj
      · intro j hj; try simp (disch := omega) only [q_updn]
        exact a11 j hj
      · intro i j hi hj h; try simp (disch := omega) only [q_updn]
        exact a12 i j hi hj h
      · intro j hj; try simp (disch := omega) only [q_updn]
        exact a13 j hj
      · intro u hu
        have e : q_owN (upd f (107 + 3 * k + 1) (f (107 + 3 * k + 1) - nI 1)) u (q_no f) = q_owN f u (q_no f) := q_owN_c _ (fun i hi hi2 => q_updn (by omega))
        rw [e]
        simp (disch := omega) only [q_updn]
        exact a14 u hu
    refine q_In_c hI1 fun i hi => ?_
    simp (disch := omega) only [q_sz_u]
    unfold p_take
    by_cases x1 : i = 310
    · exact Or.inr (Or.inr (Or.inr (Or.inr x1)))
    rw [q_updn x1]
    by_cases x2 : i = 11 + 8 * q_hd f k + 5
    · exact Or.inr (Or.inl ⟨q_hd f k, 5, h1, by decide, x2, by decide, by decide⟩)
    rw [q_updn x2]
    by_cases x3 : i = 11 + 8 * q_hd f k + 4
    · exact Or.inr (Or.inl ⟨q_hd f k, 4, h1, by decide, x3, by decide, by decide⟩)
    rw [q_updn x3]
    by_cases x4 : i = 107 + 3 * k + 2
    · exact Or.inr (Or.inr (Or.inl ⟨k, hk, x4⟩))
    rw [q_updn x4]
    exact Or.inl rfl
  · unfold p_take
    simp (disch := omega) only [q_sz_u]
theorem p_sells_In {f : q_St} (hI : q_In f) {v : Nat} (hv : v < q_sz f) : q_In (p_sells f v).2 ∧ q_sz (p_sells f v).2 = q_sz f ∧ ((p_sells f v).1 = -1 ∨ ∃ u, u < q_sz f ∧ (p_sells f v).1 = nI u) := by
  have h12 := hI.1.1
  have hI2 := q_In_want hI hv (show 7 < 8 by decide) (by decide) (by decide) (f (11 + 8 * v + 7) + nI 1)
  have z : q_sz (upd f (11 + 8 * v + 7) (f (11 + 8 * v + 7) + nI 1)) = q_sz f := q_sz_u (by omega)
  unfold p_sells
  rcases q_sp_c (upd f (11 + 8 * v + 7) (f (11 + 8 * v + 7) + nI 1)) v with hs | ⟨k, hk, hs, hc⟩
  · rw [hs, if_pos (by decide)]
    refine ⟨q_In_want hI2 (by rw [z]; exact hv) (show 6 < 8 by decide) (by decide) (by decide) _, ?_, Or.inl rfl⟩
    simp (disch := omega) only [q_sz_u]
  · rw [hs, nI_clamp (by omega), if_neg (by rw [q_lt (by omega) (by omega)]; omega)]
    have t := p_take_In (v := v) hI2 hk hc
    have hh := q_hd_lt hI2 hk hc
    rw [q_hd_u (by omega)] at hh
    exact ⟨t.1, t.2.trans z, Or.inr ⟨q_hd f k, by rw [← z]; exact hh.1, rfl⟩⟩
section
variable {E : q_E} {g : q_G} {Q : Option Value → q_E → q_G → Prop}
theorem q_isv_lo {f : q_St} (hI : q_In f) {x : Int32} (h : q_isv f x = true) : ∃ j : Nat, j < q_sz f ∧ x = nI j ∧ x.toNatClampNeg = j := q_lov h (by have := hI.1.1; omega)
end
