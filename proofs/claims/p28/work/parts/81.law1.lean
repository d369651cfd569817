/-! p28: the law's turns: order, lay, clear -/
/-- what comes behind a turn -/
def hg_K (L : Nat) (xs : Nat → Int32) (m i : Nat) (Q : Option Value → q_E → q_G → Prop) : Prop := ∀ (E : q_E) (g : q_G) (f : q_St) (ord acc : Int32), q_Rc L xs E g f 4 → hg_Le m (i + 1) (2 * (i + 1)) ord acc f → ∀ l7 l8 l9 l10 l11 l12 l13 l14 l15 l16 l17 l18 l19 l20 l21 l22 l23 l24 l25 l26 l27 l28 l29 l30 l31 : Value, q_X 86 1275 [.ref 1, .ref 3, .int (nI 1), .int (nI m), .int ord, .int acc, .int (nI i), l7, l8, l9, l10, l11, l12, l13, l14, l15, l16, l17, l18, l19, l20, l21, l22, l23, l24, l25, l26, l27, l28, l29, l30, l31] [] E g Q
theorem hg_nz {n : Nat} (h0 : 0 < n) (h : n < 2147483648) : (nI n = (0 : Int32)) = False := eq_false (nI_ne0 h0 h)
theorem hg_rem (a d : Nat) : nI a - nI (a / d * d) = nI (a % d) := by
  rw [pk_sub (Nat.div_mul_le_self a d)]
  congr 1
  have h := Nat.div_add_mod a d
  rw [Nat.mul_comm] at h
  omega
theorem hg_s0 (x : Int32) : x - nI 0 = x := by rw [nI_0, Int32.sub_zero]
theorem hg_st4 {st' : Nat} {A B C : Prop} (h : (A ∧ st' = 4) ∨ (B ∧ st' = min (4 + 1) 4 ∧ C)) : st' = 4 := by
  rcases h with ⟨-, h⟩ | ⟨-, h, -⟩
  · exact h
  · exact h
theorem hg_ne {u : Nat} (hu : u < 1000) : (nI u = (-1000004 : Int32)) = False ∧ ((-1000004 : Int32) = nI u) = False ∧ (nI u < nI 0) = False ∧ (nI 0 ≤ nI u) = True := by
  have e : (-1000004 : Int32).toInt = -1000004 := by decide
  refine ⟨eq_false fun q => ?_, eq_false fun q => ?_, ?_, ?_⟩
  · have := congrArg Int32.toInt q
    rw [nI_toInt (by omega)] at this
    omega
  · have := congrArg Int32.toInt q
    rw [nI_toInt (by omega)] at this
    omega
  · rw [q_lt (by omega) (by omega)]; exact eq_false (by omega)
  · rw [q_le (by omega) (by omega)]; exact eq_true (by omega)
theorem hg_er {x : Int32} (h : q_Er x) : (x < nI 0) = True ∧ (nI 0 ≤ x) = False := by
  rcases h with rfl | rfl | rfl <;> exact ⟨by decide, by decide⟩
theorem hg_order_f {f : q_St} (hI : q_In f) {v : Nat} {x y : Int32} {k : Nat} (hx : x = nI v) (hv : v < 12) (h1 : k ≠ 310) (h2 : k ≠ 137) (h3 : k ≠ 11 + 8 * v + 3) (h4 : k < 138 ∨ 162 ≤ k) : (p_order f x y).2 k = f k := by
  have hno := hI.2.1.1
  subst hx
  unfold p_order
  split
  · rw [q_cl31 (by omega)]
    split
    · rfl
    · rename_i z
      dsimp only
      split
      · rw [q_updn (by omega), q_updn (by omega)]
      · rename_i z2
        have : q_no f < 8 := by
          refine Nat.lt_of_not_le fun q => z (Or.inl ⟨by omega, by omega⟩)
        rw [q_updn (by omega), q_updn (by omega), q_updn (by omega), q_updn (by omega), q_updn (by omega)]
  · rfl
section
variable {L m i : Nat} {xs : Nat → Int32} {E : q_E} {g : q_G} {f : q_St} {Q : Option Value → q_E → q_G → Prop} {ord acc : Int32} {y z v k : Nat} {l11 l12 l13 l14 l15 l16 l17 l18 l19 l20 l21 l22 l23 l24 l25 l26 l27 l28 l29 l30 l31 : Value}
theorem hg_c0 (H : hg_K L xs m i Q) (h : q_Rc L xs E g f 4) (hL : hg_Le m i (2 * i) ord acc f) (hi : i < 36) (hv : v < m) (hz : z < 2147483648) : q_X 86 296 [.ref 1, .ref 3, .int (nI 1), .int (nI m), .int ord, .int acc, .int (nI i), .int (nI y), .int (nI z), .int (nI v), .int (nI k), l11, l12, l13, l14, l15, l16, l17, l18, l19, l20, l21, l22, l23, l24, l25, l26, l27, l28, l29, l30, l31] [] E g Q := by
  have k3 := h.1.1.2.1.1
  have hI := h.2.2.1
  have hsz := hL.1.1
  have h6 := hL.1.2.2
  have hno := hI.2.1
  have hdl := hI.2.2.1
  have hdy := hI.2.2.2.1
  obtain ⟨n, hn⟩ : ∃ n, n = 1 + z / 128 % 60 := ⟨_, rfl⟩
  have U := hg_order hI hL hi (by omega) (v := v) (n := n) hv (by omega) (by omega)
  have F1 := hg_order_f hI (v := v) (x := nI v) (y := nI n) (k := 308) rfl (by omega) (by omega) (by omega) (by omega) (by omega)
  have F2 := hg_order_f hI (v := v) (x := nI v) (y := nI n) (k := 306) rfl (by omega) (by omega) (by omega) (by omega) (by omega)
  have F3 := hg_order_f hI (v := v) (x := nI v) (y := nI n) (k := 11 + 8 * v + 2) rfl (by omega) (by omega) (by omega) (by omega) (by omega)
  obtain ⟨E', g', W, st', h', hs⟩ := w_order h (nI v) (nI n)
  obtain rfl := hg_st4 hs
  clear hs
  have k3' := h'.1.1.2.1.1
  have hz' : q_sz (p_order f (nI v) (nI n)).2 = q_sz f := by
    have := hg_order_f hI (v := v) (x := nI v) (y := nI n) (k := 10) rfl (by omega) (by omega) (by omega) (by omega) (by omega)
    unfold q_sz
    rw [this]
  rw [hdy.2] at F1
  rw [hdl.2] at F2
  generalize p_order f (nI v) (nI n) = p at *
  by_cases e8 : q_no f = 8
  · by_cases e0 : 0 < q_dl f
    · rw [if_pos ⟨e8, e0⟩] at U
      subst U
      dsimp only at W h'
      simp (disch := omega) only [x86_296, x86_297, x86_299, x86_302, x86_303, x86_305, x86_306, x86_307, x86_309, x86_310, x86_311, x86_314, x86_316, x86_319, x86_320, x86_322, x86_325, x86_328, x86_329, x86_332, x86_333, x86_335, x86_336, x86_338, x86_340, x86_343, x86_345, x86_348, x86_350, x86_353, x86_354, x86_355, x86_358, x86_359, x86_361, x86_364, x86_365, x86_368, x86_369, x86_372, x86_373, x86_374, x86_376, x86_378, x86_381, x86_382, x86_385, x86_387, x86_388, x86_390, x86_392, x86_394, x86_397, x86_398, x86_401, x86_403, x86_404, x86_406, x86_407, x86_410, x86_411, x86_412, x86_414, nI_add, pk_mul, q_cl31, q_vin, q_le, q_lt, q_eqn, q_b_0, q_b_t, q_b_f, q_nz, q_nz1, q_nz0, q_tl, q_tn, true_and, and_true, not_true_eq_false, not_false_eq_true, ite_true, ite_false, ↓reduceIte, true_or, or_true, and_self, ne_eq, q_or1, q_or2, Nat.add_eq_zero_iff, and_false, false_and, List.length_cons, List.length_nil, reduceCtorEq, q_toI, Nat.zero_add, Nat.le_refl, q_c0, q_c1, q_c2, q_c4, q_c9, q_c12, q_c30, q_c99, q_c100, q_c126, q_c32, q_c359, q_c999, k3, k3', pk_div, pk_mul, hg_rem, hg_nz, ← hn, r_count h, ac_4, ac_20, hno.2, hdl.2, e8, W, q_a0, hg_s0, eq_self, show (q_dl f ≤ 0) = False from eq_false (by omega)]
      exact H _ _ _ _ _ h' (hg_Le_l hL (by omega) (by omega)) _ _ _ _ _ _ _ _ _ _ _ _ _ _ _ _ _ _ _ _ _ _ _ _ _
    · rw [if_neg (fun q => e0 q.2)] at U
      obtain ⟨U1, U2⟩ := U
      simp (disch := omega) only [x86_296, x86_297, x86_299, x86_302, x86_303, x86_305, x86_306, x86_307, x86_309, x86_310, x86_311, x86_314, x86_316, x86_319, x86_320, x86_322, x86_325, x86_328, x86_329, x86_332, x86_333, x86_335, x86_336, x86_338, x86_340, x86_343, x86_345, x86_348, x86_350, x86_353, x86_354, x86_355, x86_358, x86_359, x86_361, x86_364, x86_365, x86_368, x86_369, x86_372, x86_373, x86_374, x86_376, x86_378, x86_381, x86_382, x86_385, x86_387, x86_388, x86_390, x86_392, x86_394, x86_397, x86_398, x86_401, x86_403, x86_404, x86_406, x86_407, x86_410, x86_411, x86_412, x86_414, nI_add, pk_mul, q_cl31, q_vin, q_le, q_lt, q_eqn, q_b_0, q_b_t, q_b_f, q_nz, q_nz1, q_nz0, q_tl, q_tn, true_and, and_true, not_true_eq_false, not_false_eq_true, ite_true, ite_false, ↓reduceIte, true_or, or_true, and_self, ne_eq, q_or1, q_or2, Nat.add_eq_zero_iff, and_false, false_and, List.length_cons, List.length_nil, reduceCtorEq, q_toI, Nat.zero_add, Nat.le_refl, q_c0, q_c1, q_c2, q_c4, q_c9, q_c12, q_c30, q_c99, q_c100, q_c126, q_c32, q_c359, q_c999, k3, k3', pk_div, pk_mul, hg_rem, hg_nz, ← hn, r_count h, ac_4, ac_20, hno.2, hdl.2, e8, W, r_count h', r_verse h', ac_1, av_2, F1, F2, F3, U1, eq_self, show (q_dl f ≤ 0) = True from eq_true (by omega)]
      exact H _ _ _ _ _ h' (hg_Le_l U2 (by omega) (by omega)) _ _ _ _ _ _ _ _ _ _ _ _ _ _ _ _ _ _ _ _ _ _ _ _ _
  · rw [if_neg (fun q => e8 q.1)] at U
    obtain ⟨U1, U2⟩ := U
    simp (disch := omega) only [x86_296, x86_297, x86_299, x86_302, x86_303, x86_305, x86_306, x86_307, x86_309, x86_310, x86_311, x86_314, x86_316, x86_319, x86_320, x86_322, x86_325, x86_328, x86_329, x86_332, x86_333, x86_335, x86_336, x86_338, x86_340, x86_343, x86_345, x86_348, x86_350, x86_353, x86_354, x86_355, x86_358, x86_359, x86_361, x86_364, x86_365, x86_368, x86_369, x86_372, x86_373, x86_374, x86_376, x86_378, x86_381, x86_382, x86_385, x86_387, x86_388, x86_390, x86_392, x86_394, x86_397, x86_398, x86_401, x86_403, x86_404, x86_406, x86_407, x86_410, x86_411, x86_412, x86_414, nI_add, pk_mul, q_cl31, q_vin, q_le, q_lt, q_eqn, q_b_0, q_b_t, q_b_f, q_nz, q_nz1, q_nz0, q_tl, q_tn, true_and, and_true, not_true_eq_false, not_false_eq_true, ite_true, ite_false, ↓reduceIte, true_or, or_true, and_self, ne_eq, q_or1, q_or2, Nat.add_eq_zero_iff, and_false, false_and, List.length_cons, List.length_nil, reduceCtorEq, q_toI, Nat.zero_add, Nat.le_refl, q_c0, q_c1, q_c2, q_c4, q_c9, q_c12, q_c30, q_c99, q_c100, q_c126, q_c32, q_c359, q_c999, k3, k3', pk_div, pk_mul, hg_rem, hg_nz, ← hn, r_count h, ac_4, ac_20, hno.2, hdl.2, e8, W, r_count h', r_verse h', ac_1, av_2, F1, F2, F3, U1, eq_self]
    exact H _ _ _ _ _ h' (hg_Le_l U2 (by omega) (by omega)) _ _ _ _ _ _ _ _ _ _ _ _ _ _ _ _ _ _ _ _ _ _ _ _ _
theorem hg_c3 (H : hg_K L xs m i Q) (h : q_Rc L xs E g f 4) (hL : hg_Le m i (2 * i) ord acc f) (hi : i < 36) (hv : v < m) (hk : k < 10) (hz : z < 2147483648) : q_X 86 417 [.ref 1, .ref 3, .int (nI 1), .int (nI m), .int ord, .int acc, .int (nI i), .int (nI y), .int (nI z), .int (nI v), .int (nI k), l11, l12, l13, l14, l15, l16, l17, l18, l19, l20, l21, l22, l23, l24, l25, l26, l27, l28, l29, l30, l31] [] E g Q := by
  have k3 := h.1.1.2.1.1
  have hI := h.2.2.1
  have hsz := hL.1.1
  have h6 := hL.1.2.2
  obtain ⟨n, hn⟩ : ∃ n, n = 1 + z / 128 % 12 := ⟨_, rfl⟩
  obtain ⟨U1, U2, U3⟩ := hg_lay hI hL (k := k) (v := v) (n := n) hk hv (by omega) (by omega)
  have ok := p_lay_ok hI (nI k) (nI v) (nI n)
  obtain ⟨E', g', W, st', h', hs⟩ := w_lay h (nI k) (nI v) (nI n)
  obtain rfl := hg_st4 hs
  clear hs
  have k3' := h'.1.1.2.1.1
  generalize p_lay f (nI k) (nI v) (nI n) = p at *
  obtain ⟨c, c1, c2⟩ := hI.2.2.2.2.2.2.2.2.1 k hk
  obtain ⟨s, s1, s2⟩ := hI.2.2.2.2.2.2.2.2.2.2.2.2.2.1 v (by omega)
  have a0 : (a_slot f k 0 = nI v) = (f (107 + 3 * k) = nI v) := by
    rw [as_0]
    rcases hI.2.2.2.2.2.2.2.1 k hk with ⟨x1, -⟩ | ⟨x1, x2⟩
    · rw [x1, if_pos (by decide), (hg_ne (u := v) (by omega)).2.1]
      refine (eq_false fun q => ?_).symm
      have := congrArg Int32.toInt q
      rw [nI_toInt (by omega)] at this
      have e : (-1 : Int32).toInt = -1 := by decide
      omega
    · rw [x2, if_neg (by rw [q_lt (by omega) (by omega)]; omega)]
  rw [c2, s1, nI_add] at U2
  have st1 : q_X 86 417 [.ref 1, .ref 3, .int (nI 1), .int (nI m), .int ord, .int acc, .int (nI i), .int (nI y), .int (nI z), .int (nI v), .int (nI k), l11, l12, l13, l14, l15, l16, l17, l18, l19, l20, l21, l22, l23, l24, l25, l26, l27, l28, l29, l30, l31] [] E g Q = q_X 86 495 [.ref 1, .ref 3, .int (nI 1), .int (nI m), .int ord, .int acc, .int (nI i), .int (nI y), .int (nI z), .int (nI v), .int (nI k), l11, l12, .int (nI n), .int (nI c), .int p.1, l16, l17, l18, l19, l20, l21, l22, l23, l24, l25, l26, l27, l28, l29, l30, l31] [] E g Q := by
    by_cases d1 : f (107 + 3 * k) = nI v <;> by_cases d2 : 0 < c <;> by_cases d3 : s < n <;> by_cases d4 : 12 < c + n
    all_goals
      simp (disch := omega) only [d1, d2, d3, d4, q_lt, not_true_eq_false, not_false_eq_true, true_and, and_true, false_and, and_false, or_false, false_or, or_true, true_or, ite_true, ite_false, ↓reduceIte] at U2
      simp (disch := omega) only [x86_417, x86_418, x86_420, x86_423, x86_424, x86_426, x86_427, x86_428, x86_430, x86_431, x86_433, x86_434, x86_437, x86_439, x86_440, x86_442, x86_443, x86_446, x86_448, x86_451, x86_453, x86_456, x86_457, x86_459, x86_460, x86_463, x86_465, x86_468, x86_470, x86_473, x86_475, x86_477, x86_478, x86_480, x86_483, x86_485, x86_488, x86_490, x86_492, x86_493, nI_add, pk_mul, q_cl31, q_vin, q_le, q_lt, q_eqn, q_b_0, q_b_t, q_b_f, q_nz, q_nz1, q_nz0, q_tl, q_tn, true_and, and_true, not_true_eq_false, not_false_eq_true, ite_true, ite_false, ↓reduceIte, true_or, or_true, and_self, ne_eq, q_or1, q_or2, Nat.add_eq_zero_iff, and_false, false_and, List.length_cons, List.length_nil, reduceCtorEq, q_toI, Nat.zero_add, Nat.le_refl, q_c0, q_c1, q_c2, q_c4, q_c9, q_c12, q_c30, q_c99, q_c100, q_c126, q_c32, q_c359, q_c999, k3, k3', pk_div, pk_mul, hg_rem, hg_nz, ← hn, r_slot h, r_verse h, a0, as_1, av_3, c2, s1, d1, d2, d3, d4, U2, ← Nat.not_lt]
  rw [st1]
  rcases U3 with U3 | ⟨U3, U4⟩
  · simp (disch := omega) only [x86_495, x86_496, x86_498, x86_500, x86_502, x86_505, x86_507, x86_510, x86_512, x86_515, x86_516, x86_518, x86_519, x86_522, x86_524, x86_527, x86_528, x86_530, x86_531, x86_534, x86_536, x86_539, x86_540, x86_543, x86_544, x86_545, nI_add, pk_mul, q_cl31, q_vin, q_le, q_lt, q_eqn, q_b_0, q_b_t, q_b_f, q_nz, q_nz1, q_nz0, q_tl, q_tn, true_and, and_true, not_true_eq_false, not_false_eq_true, ite_true, ite_false, ↓reduceIte, true_or, or_true, and_self, ne_eq, q_or1, q_or2, Nat.add_eq_zero_iff, and_false, false_and, List.length_cons, List.length_nil, reduceCtorEq, q_toI, Nat.zero_add, Nat.le_refl, q_c0, q_c1, q_c2, q_c4, q_c9, q_c12, q_c30, q_c99, q_c100, q_c126, q_c32, q_c359, q_c999, k3, k3', W, hg_er U3, eq_self]
    exact H _ _ _ _ _ h' (hg_Le_l U1 (by omega) (by omega)) _ _ _ _ _ _ _ _ _ _ _ _ _ _ _ _ _ _ _ _ _ _ _ _ _
  · rcases ok with ⟨ok, -⟩ | ⟨r, r1, r2, -⟩
    · simp (disch := omega) only [x86_495, x86_496, x86_498, x86_500, x86_502, x86_505, x86_507, x86_510, x86_512, x86_515, x86_516, x86_518, x86_519, x86_522, x86_524, x86_527, x86_528, x86_530, x86_531, x86_534, x86_536, x86_539, x86_540, x86_543, x86_544, x86_545, nI_add, pk_mul, q_cl31, q_vin, q_le, q_lt, q_eqn, q_b_0, q_b_t, q_b_f, q_nz, q_nz1, q_nz0, q_tl, q_tn, true_and, and_true, not_true_eq_false, not_false_eq_true, ite_true, ite_false, ↓reduceIte, true_or, or_true, and_self, ne_eq, q_or1, q_or2, Nat.add_eq_zero_iff, and_false, false_and, List.length_cons, List.length_nil, reduceCtorEq, q_toI, Nat.zero_add, Nat.le_refl, q_c0, q_c1, q_c2, q_c4, q_c9, q_c12, q_c30, q_c99, q_c100, q_c126, q_c32, q_c359, q_c999, k3, k3', W, hg_er ok, eq_self]
      exact H _ _ _ _ _ h' (hg_Le_l U1 (by omega) (by omega)) _ _ _ _ _ _ _ _ _ _ _ _ _ _ _ _ _ _ _ _ _ _ _ _ _
    · have a1 : a_slot p.2 k 0 = nI v := by rw [as_0, U3, if_neg (by rw [q_lt (by omega) (by omega)]; omega)]
      simp (disch := omega) only [x86_495, x86_496, x86_498, x86_500, x86_502, x86_505, x86_507, x86_510, x86_512, x86_515, x86_516, x86_518, x86_519, x86_522, x86_524, x86_527, x86_528, x86_530, x86_531, x86_534, x86_536, x86_539, x86_540, x86_543, x86_544, x86_545, nI_add, pk_mul, q_cl31, q_vin, q_le, q_lt, q_eqn, q_b_0, q_b_t, q_b_f, q_nz, q_nz1, q_nz0, q_tl, q_tn, true_and, and_true, not_true_eq_false, not_false_eq_true, ite_true, ite_false, ↓reduceIte, true_or, or_true, and_self, ne_eq, q_or1, q_or2, Nat.add_eq_zero_iff, and_false, false_and, List.length_cons, List.length_nil, reduceCtorEq, q_toI, Nat.zero_add, Nat.le_refl, q_c0, q_c1, q_c2, q_c4, q_c9, q_c12, q_c30, q_c99, q_c100, q_c126, q_c32, q_c359, q_c999, k3, k3', W, r_slot h', a1, as_1, U4, r2, eq_self, Nat.not_lt_zero]
      exact H _ _ _ _ _ h' (hg_Le_l U1 (by omega) (by omega)) _ _ _ _ _ _ _ _ _ _ _ _ _ _ _ _ _ _ _ _ _ _ _ _ _
theorem hg_c6 (H : hg_K L xs m i Q) (h : q_Rc L xs E g f 4) (hL : hg_Le m i (2 * i) ord acc f) (hi : i < 36) (hk : k < 10) : q_X 86 548 [.ref 1, .ref 3, .int (nI 1), .int (nI m), .int ord, .int acc, .int (nI i), .int (nI y), .int (nI z), .int (nI v), .int (nI k), l11, l12, l13, l14, l15, l16, l17, l18, l19, l20, l21, l22, l23, l24, l25, l26, l27, l28, l29, l30, l31] [] E g Q := by
  have k3 := h.1.1.2.1.1
  have hI := h.2.2.1
  have hsz := hL.1.1
  have h6 := hL.1.2.2
  obtain ⟨E', g', W, st', h', hs⟩ := w_clear h (nI k)
  obtain rfl := hg_st4 hs
  clear hs
  have k3' := h'.1.1.2.1.1
  rcases hg_clear hI hL (by omega) (by omega) hk with ⟨x1, x2⟩ | ⟨v', c, s, y1, y2, y3, y4, y5, y6, y7, y8, y9, y10⟩
  · have a0 : a_slot f k 0 = -1000004 := by rw [as_0, if_pos x1]
    rw [x2] at W h'
    dsimp only at W h'
    simp (disch := omega) only [x86_548, x86_549, x86_551, x86_552, x86_555, x86_557, x86_560, x86_561, x86_563, x86_566, x86_568, x86_571, x86_572, x86_575, x86_576, x86_577, nI_add, pk_mul, q_cl31, q_vin, q_le, q_lt, q_eqn, q_b_0, q_b_t, q_b_f, q_nz, q_nz1, q_nz0, q_tl, q_tn, true_and, and_true, not_true_eq_false, not_false_eq_true, ite_true, ite_false, ↓reduceIte, true_or, or_true, and_self, ne_eq, q_or1, q_or2, Nat.add_eq_zero_iff, and_false, false_and, List.length_cons, List.length_nil, reduceCtorEq, q_toI, Nat.zero_add, Nat.le_refl, q_c0, q_c1, q_c2, q_c4, q_c9, q_c12, q_c30, q_c99, q_c100, q_c126, q_c32, q_c359, q_c999, k3, k3', r_slot h, a0, W, eq_self]
    exact H _ _ _ _ _ h' (hg_Le_l hL (by omega) (by omega)) _ _ _ _ _ _ _ _ _ _ _ _ _ _ _ _ _ _ _ _ _ _ _ _ _
  · have a0 : a_slot f k 0 = nI v' := by rw [as_0, y4, if_neg (by rw [q_lt (by omega) (by omega)]; omega)]
    have z' : q_sz (p_clear f (nI k)).2 = m := y10.1.1
    generalize p_clear f (nI k) = p at *
    have a1 : a_slot p.2 k 0 = -1000004 := by rw [as_0, y8, if_pos (by decide)]
    simp (disch := omega) only [x86_548, x86_549, x86_551, x86_552, x86_555, x86_557, x86_580, x86_581, x86_583, x86_584, x86_587, x86_589, x86_590, x86_592, x86_593, x86_596, x86_598, x86_599, x86_601, x86_602, x86_605, x86_607, x86_608, x86_610, x86_613, x86_615, x86_618, x86_619, x86_621, x86_622, x86_625, x86_627, x86_629, x86_630, x86_633, x86_634, x86_636, x86_637, x86_640, x86_642, x86_645, x86_646, x86_649, x86_650, x86_651, nI_add, pk_mul, q_cl31, q_vin, q_le, q_lt, q_eqn, q_b_0, q_b_t, q_b_f, q_nz, q_nz1, q_nz0, q_tl, q_tn, true_and, and_true, not_true_eq_false, not_false_eq_true, ite_true, ite_false, ↓reduceIte, true_or, or_true, and_self, ne_eq, q_or1, q_or2, Nat.add_eq_zero_iff, and_false, false_and, List.length_cons, List.length_nil, reduceCtorEq, q_toI, Nat.zero_add, Nat.le_refl, q_c0, q_c1, q_c2, q_c4, q_c9, q_c12, q_c30, q_c99, q_c100, q_c126, q_c32, q_c359, q_c999, k3, k3', r_slot h, r_verse h, r_slot h', r_verse h', as_1, av_3, a0, a1, y5, y6, y7, y9, W, (hg_ne (u := v') (by omega)).1, eq_self]
    exact H _ _ _ _ _ h' (hg_Le_l y10 (by omega) (by omega)) _ _ _ _ _ _ _ _ _ _ _ _ _ _ _ _ _ _ _ _ _ _ _ _ _
end
