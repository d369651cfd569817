/-- the class's row of neighbours -/
def q_BesB (E : q_E) (g : q_G) : Prop := q_kd E 2 = (1, 10) ∧ ∀ i, i < 10 → g 2 i = q_bes i
def q_un (f : q_St) : Int32 := q_sum (fun i => q_sum (fun k => if nI 0 < f (q_pr i (i + k)) then nI 1 else nI 0) (12 - i)) 12
section
variable {E : q_E} {g : q_G} {Q : Option Value → q_E → q_G → Prop} {f : q_St}
theorem c_beside (hB : q_BesB E g) {i j : Nat} (hi : i < 10) (hj : j < 10) : q_X 16 0 [.int (nI i), .int (nI j)] [] E g Q = Q (some (.int (q_b (q_bs i j)))) E g := by
  have m := q_bs_m i hi j hj
  cases e : q_bs i j
  · rw [e] at m
    simp (disch := omega) only [x16_0, x16_3, x16_4, x16_5, x16_6, x16_7, x16_8, x16_9, x16_10, x16_13, x16_14, x16_17, x16_18, nI_add, pk_mul, q_cl31, q_vin, q_le, q_lt, q_eqn, q_b_0, q_b_t, q_b_f, q_nz, q_nz1, q_nz0, q_tl, q_tn, true_and, and_true, not_true_eq_false, not_false_eq_true, ite_true, ite_false, ↓reduceIte, true_or, or_true, and_self, ne_eq, q_or1, q_or2, Nat.add_eq_zero_iff, and_false, false_and, List.length_cons, List.length_nil, reduceCtorEq, q_toI, Nat.zero_add, Nat.le_refl, q_c0, q_c1, q_c2, q_c4, q_c9, q_c12, q_c30, q_c99, q_c100, q_c126, q_c32, q_c359, q_c999, hB.1, hB.2, m, Bool.false_eq_true]
  · rw [e] at m
    simp (disch := omega) only [x16_0, x16_3, x16_4, x16_5, x16_6, x16_7, x16_8, x16_9, x16_10, x16_13, x16_14, x16_17, x16_18, nI_add, pk_mul, q_cl31, q_vin, q_le, q_lt, q_eqn, q_b_0, q_b_t, q_b_f, q_nz, q_nz1, q_nz0, q_tl, q_tn, true_and, and_true, not_true_eq_false, not_false_eq_true, ite_true, ite_false, ↓reduceIte, true_or, or_true, and_self, ne_eq, q_or1, q_or2, Nat.add_eq_zero_iff, and_false, false_and, List.length_cons, List.length_nil, reduceCtorEq, q_toI, Nat.zero_add, Nat.le_refl, q_c0, q_c1, q_c2, q_c4, q_c9, q_c12, q_c30, q_c99, q_c100, q_c126, q_c32, q_c359, q_c999, hB.1, hB.2, m]
theorem c_cards {r : Nat} (hR : q_RacB E r) (hV : q_Vrac g r f) (x : Int32) : q_X 11 0 [.ref r, .int x, .null, .null] [] E g Q = Q (some (.int (q_ik f x))) E g := by
  obtain ⟨r1, r2, r3, r4, r5, r6, r7⟩ := hR
  obtain ⟨v1, v2, v3⟩ := hV
  simp (disch := omega) only [x11_0, x11_1, x11_2, x11_3, nI_add, pk_mul, q_cl31, q_vin, q_le, q_lt, q_eqn, q_b_0, q_b_t, q_b_f, q_nz, q_nz1, q_nz0, q_tl, q_tn, true_and, and_true, not_true_eq_false, not_false_eq_true, ite_true, ite_false, ↓reduceIte, true_or, or_true, and_self, ne_eq, q_or1, q_or2, Nat.add_eq_zero_iff, and_false, false_and, List.length_cons, List.length_nil, reduceCtorEq, q_toI, Nat.zero_add, Nat.le_refl, q_c0, q_c1, q_c2, q_c4, q_c9, q_c12, q_c30, q_c99, q_c100, q_c126, q_c32, q_c359, q_c999]
  refine (q_loop (N := 10) (P := fun j => q_X 11 4 [.ref r, .int x, .int (q_sum (fun k => if f (107 + 3 * k) = x then f (107 + 3 * k + 1) else nI 0) j), .int (nI j)] [] E g Q) (fun j hj => ?_)).trans ?_
  · dsimp only [q_sum]
    by_cases c : f (107 + 3 * j) = x
    all_goals
      conv => lhs; simp (disch := omega) only [x11_0, x11_1, x11_2, x11_3, x11_4, x11_5, x11_7, x11_10, x11_11, x11_14, x11_15, x11_16, x11_17, x11_20, x11_21, x11_22, x11_25, x11_26, x11_27, x11_28, x11_29, x11_35, x11_36, nI_add, pk_mul, q_cl31, q_vin, q_le, q_lt, q_eqn, q_b_0, q_b_t, q_b_f, q_nz, q_nz1, q_nz0, q_tl, q_tn, true_and, and_true, not_true_eq_false, not_false_eq_true, ite_true, ite_false, ↓reduceIte, true_or, or_true, and_self, ne_eq, q_or1, q_or2, Nat.add_eq_zero_iff, and_false, false_and, List.length_cons, List.length_nil, reduceCtorEq, q_toI, Nat.zero_add, Nat.le_refl, q_c0, q_c1, q_c2, q_c4, q_c9, q_c12, q_c30, q_c99, q_c100, q_c126, q_c32, q_c359, q_c999, r1, r2, r3, r5, r6, v1, v2, c, show (10 ≤ j) = False from eq_false (by omega)]
      simp only [x11_32, c, ↓reduceIte, q_a0]
  · simp (disch := omega) only [x11_0, x11_1, x11_2, x11_3, x11_4, x11_5, x11_7, x11_10, x11_11, x11_14, x11_15, x11_16, x11_17, x11_20, x11_21, x11_22, x11_25, x11_26, x11_27, x11_28, x11_29, x11_32, x11_35, x11_36, nI_add, pk_mul, q_cl31, q_vin, q_le, q_lt, q_eqn, q_b_0, q_b_t, q_b_f, q_nz, q_nz1, q_nz0, q_tl, q_tn, true_and, and_true, not_true_eq_false, not_false_eq_true, ite_true, ite_false, ↓reduceIte, true_or, or_true, and_self, ne_eq, q_or1, q_or2, Nat.add_eq_zero_iff, and_false, false_and, List.length_cons, List.length_nil, reduceCtorEq, q_toI, Nat.zero_add, Nat.le_refl, q_c0, q_c1, q_c2, q_c4, q_c9, q_c12, q_c30, q_c99, q_c100, q_c126, q_c32, q_c359, q_c999]
    rfl
theorem c_lowest {r : Nat} (hR : q_RacB E r) (hV : q_Vrac g r f) (v : Nat) : q_X 12 0 [.ref r, .int (nI v), .null] [] E g Q = Q (some (.int (q_fi (q_ph f v) 10 0))) E g := by
  obtain ⟨r1, r2, r3, r4, r5, r6, r7⟩ := hR
  obtain ⟨v1, v2, v3⟩ := hV
  have main : ∀ d k, k + d = 10 → q_X 12 2 [.ref r, .int (nI v), .int (nI k)] [] E g Q = Q (some (.int (q_fi (q_ph f v) d k))) E g := by
    intro d
    induction d with
    | zero =>
      intro k hk
      simp (disch := omega) only [x12_0, x12_1, x12_2, x12_3, x12_5, x12_8, x12_9, x12_12, x12_13, x12_14, x12_15, x12_18, x12_19, x12_22, x12_23, x12_24, x12_27, x12_28, x12_29, x12_35, x12_36, nI_add, pk_mul, q_cl31, q_vin, q_le, q_lt, q_eqn, q_b_0, q_b_t, q_b_f, q_nz, q_nz1, q_nz0, q_tl, q_tn, true_and, and_true, not_true_eq_false, not_false_eq_true, ite_true, ite_false, ↓reduceIte, true_or, or_true, and_self, ne_eq, q_or1, q_or2, Nat.add_eq_zero_iff, and_false, false_and, List.length_cons, List.length_nil, reduceCtorEq, q_toI, Nat.zero_add, Nat.le_refl, q_c0, q_c1, q_c2, q_c4, q_c9, q_c12, q_c30, q_c99, q_c100, q_c126, q_c32, q_c359, q_c999, show (10 ≤ k) = True from eq_true (by omega), q_fi]
    | succ d ih =>
      intro k hk
      by_cases c1 : f (107 + 3 * k) = nI v
      · by_cases c2 : nI 0 < f (107 + 3 * k + 1)
        · have s' : q_fi (q_ph f v) (d + 1) k = nI k := if_pos (by unfold q_ph; simp [c1, c2])
          rw [s']
          simp (disch := omega) only [x12_0, x12_1, x12_2, x12_3, x12_5, x12_8, x12_9, x12_12, x12_13, x12_14, x12_15, x12_18, x12_19, x12_22, x12_23, x12_24, x12_27, x12_28, x12_29, x12_35, x12_36, nI_add, pk_mul, q_cl31, q_vin, q_le, q_lt, q_eqn, q_b_0, q_b_t, q_b_f, q_nz, q_nz1, q_nz0, q_tl, q_tn, true_and, and_true, not_true_eq_false, not_false_eq_true, ite_true, ite_false, ↓reduceIte, true_or, or_true, and_self, ne_eq, q_or1, q_or2, Nat.add_eq_zero_iff, and_false, false_and, List.length_cons, List.length_nil, reduceCtorEq, q_toI, Nat.zero_add, Nat.le_refl, q_c0, q_c1, q_c2, q_c4, q_c9, q_c12, q_c30, q_c99, q_c100, q_c126, q_c32, q_c359, q_c999, r1, r2, r3, r5, r6, v1, v2, c1, c2, ← Int32.not_lt, show (k < 10) = True from eq_true (by omega), show (10 ≤ k) = False from eq_false (by omega)]
        · have s' : q_fi (q_ph f v) (d + 1) k = q_fi (q_ph f v) d (k + 1) := if_neg (by unfold q_ph; simp [c2])
          rw [s', ← ih (k + 1) (by omega)]
          conv => lhs; simp (disch := omega) only [x12_0, x12_1, x12_2, x12_3, x12_5, x12_8, x12_9, x12_12, x12_13, x12_14, x12_15, x12_18, x12_19, x12_22, x12_23, x12_24, x12_27, x12_28, x12_29, x12_35, x12_36, nI_add, pk_mul, q_cl31, q_vin, q_le, q_lt, q_eqn, q_b_0, q_b_t, q_b_f, q_nz, q_nz1, q_nz0, q_tl, q_tn, true_and, and_true, not_true_eq_false, not_false_eq_true, ite_true, ite_false, ↓reduceIte, true_or, or_true, and_self, ne_eq, q_or1, q_or2, Nat.add_eq_zero_iff, and_false, false_and, List.length_cons, List.length_nil, reduceCtorEq, q_toI, Nat.zero_add, Nat.le_refl, q_c0, q_c1, q_c2, q_c4, q_c9, q_c12, q_c30, q_c99, q_c100, q_c126, q_c32, q_c359, q_c999, r1, r2, r3, r5, r6, v1, v2, c1, c2, ← Int32.not_lt, show (k < 10) = True from eq_true (by omega), show (10 ≤ k) = False from eq_false (by omega)]
          simp only [x12_32]
      · have s' : q_fi (q_ph f v) (d + 1) k = q_fi (q_ph f v) d (k + 1) := if_neg (by unfold q_ph; simp [c1])
        rw [s', ← ih (k + 1) (by omega)]
        conv => lhs; simp (disch := omega) only [x12_0, x12_1, x12_2, x12_3, x12_5, x12_8, x12_9, x12_12, x12_13, x12_14, x12_15, x12_18, x12_19, x12_22, x12_23, x12_24, x12_27, x12_28, x12_29, x12_35, x12_36, nI_add, pk_mul, q_cl31, q_vin, q_le, q_lt, q_eqn, q_b_0, q_b_t, q_b_f, q_nz, q_nz1, q_nz0, q_tl, q_tn, true_and, and_true, not_true_eq_false, not_false_eq_true, ite_true, ite_false, ↓reduceIte, true_or, or_true, and_self, ne_eq, q_or1, q_or2, Nat.add_eq_zero_iff, and_false, false_and, List.length_cons, List.length_nil, reduceCtorEq, q_toI, Nat.zero_add, Nat.le_refl, q_c0, q_c1, q_c2, q_c4, q_c9, q_c12, q_c30, q_c99, q_c100, q_c126, q_c32, q_c359, q_c999, r1, r2, r3, r5, r6, v1, v2, c1, show (10 ≤ k) = False from eq_false (by omega)]
        simp only [x12_32]
  simp (disch := omega) only [x12_0, x12_1, nI_add, pk_mul, q_cl31, q_vin, q_le, q_lt, q_eqn, q_b_0, q_b_t, q_b_f, q_nz, q_nz1, q_nz0, q_tl, q_tn, true_and, and_true, not_true_eq_false, not_false_eq_true, ite_true, ite_false, ↓reduceIte, true_or, or_true, and_self, ne_eq, q_or1, q_or2, Nat.add_eq_zero_iff, and_false, false_and, List.length_cons, List.length_nil, reduceCtorEq, q_toI, Nat.zero_add, Nat.le_refl, q_c0, q_c1, q_c2, q_c4, q_c9, q_c12, q_c30, q_c99, q_c100, q_c126, q_c32, q_c359, q_c999]
  exact main 10 0 (by omega)
theorem c_besideH (hB : q_BesB E g) {r : Nat} (hR : q_RacB E r) (hV : q_Vrac g r f) {k : Nat} (hk : k < 10) (x : Int32) : q_X 27 0 [.ref r, .int (nI k), .int x, .null, .null] [] E g Q = Q (some (.int (q_be f k x))) E g := by
  obtain ⟨r1, r2, r3, r4, r5, r6, r7⟩ := hR
  obtain ⟨v1, v2, v3⟩ := hV
  simp (disch := omega) only [x27_0, x27_1, x27_2, x27_3, nI_add, pk_mul, q_cl31, q_vin, q_le, q_lt, q_eqn, q_b_0, q_b_t, q_b_f, q_nz, q_nz1, q_nz0, q_tl, q_tn, true_and, and_true, not_true_eq_false, not_false_eq_true, ite_true, ite_false, ↓reduceIte, true_or, or_true, and_self, ne_eq, q_or1, q_or2, Nat.add_eq_zero_iff, and_false, false_and, List.length_cons, List.length_nil, reduceCtorEq, q_toI, Nat.zero_add, Nat.le_refl, q_c0, q_c1, q_c2, q_c4, q_c9, q_c12, q_c30, q_c99, q_c100, q_c126, q_c32, q_c359, q_c999]
  refine (q_loop (N := 10) (P := fun j => q_X 27 5 [.ref r, .int (nI k), .int x, .int (q_sum (fun j => if q_bs k j = true ∧ f (107 + 3 * j) = x then nI 1 else nI 0) j), .int (nI j)] [] E g Q) (fun j hj => ?_)).trans ?_
  · dsimp only [q_sum]
    rcases Bool.eq_false_or_eq_true (q_bs k j) with hb | hb <;> by_cases c : f (107 + 3 * j) = x
    all_goals
      conv => lhs; simp (disch := omega) only [x27_0, x27_1, x27_2, x27_3, x27_5, x27_7, x27_9, x27_12, x27_13, x27_15, x27_18, x27_21, x27_22, x27_25, x27_27, x27_28, x27_29, x27_32, x27_35, x27_41, x27_42, nI_add, pk_mul, q_cl31, q_vin, q_le, q_lt, q_eqn, q_b_0, q_b_t, q_b_f, q_nz, q_nz1, q_nz0, q_tl, q_tn, true_and, and_true, not_true_eq_false, not_false_eq_true, ite_true, ite_false, ↓reduceIte, true_or, or_true, and_self, ne_eq, q_or1, q_or2, Nat.add_eq_zero_iff, and_false, false_and, List.length_cons, List.length_nil, reduceCtorEq, q_toI, Nat.zero_add, Nat.le_refl, q_c0, q_c1, q_c2, q_c4, q_c9, q_c12, q_c30, q_c99, q_c100, q_c126, q_c32, q_c359, q_c999, r1, r2, r3, r5, r6, v1, v2, c_beside hB, hb, c, show (10 ≤ j) = False from eq_false (by omega)]
      simp only [x27_38, hb, c, and_self, and_true, true_and, and_false, false_and, Bool.false_eq_true, ↓reduceIte, q_a0]
  · simp (disch := omega) only [x27_0, x27_1, x27_2, x27_3, x27_5, x27_7, x27_9, x27_12, x27_13, x27_15, x27_18, x27_21, x27_22, x27_25, x27_27, x27_28, x27_29, x27_32, x27_35, x27_38, x27_41, x27_42, nI_add, pk_mul, q_cl31, q_vin, q_le, q_lt, q_eqn, q_b_0, q_b_t, q_b_f, q_nz, q_nz1, q_nz0, q_tl, q_tn, true_and, and_true, not_true_eq_false, not_false_eq_true, ite_true, ite_false, ↓reduceIte, true_or, or_true, and_self, ne_eq, q_or1, q_or2, Nat.add_eq_zero_iff, and_false, false_and, List.length_cons, List.length_nil, reduceCtorEq, q_toI, Nat.zero_add, Nat.le_refl, q_c0, q_c1, q_c2, q_c4, q_c9, q_c12, q_c30, q_c99, q_c100, q_c126, q_c32, q_c359, q_c999]
    rfl
theorem c_unlike {p : Nat} (hP : q_PaiB E p) (hV : q_Vpai g p f) : q_X 26 0 [.ref p, .null, .null, .null] [] E g Q = Q (some (.int (q_un f))) E g := by
  simp (disch := omega) only [x26_0, x26_1, x26_2, x26_3, nI_add, pk_mul, q_cl31, q_vin, q_le, q_lt, q_eqn, q_b_0, q_b_t, q_b_f, q_nz, q_nz1, q_nz0, q_tl, q_tn, true_and, and_true, not_true_eq_false, not_false_eq_true, ite_true, ite_false, ↓reduceIte, true_or, or_true, and_self, ne_eq, q_or1, q_or2, Nat.add_eq_zero_iff, and_false, false_and, List.length_cons, List.length_nil, reduceCtorEq, q_toI, Nat.zero_add, Nat.le_refl, q_c0, q_c1, q_c2, q_c4, q_c9, q_c12, q_c30, q_c99, q_c100, q_c126, q_c32, q_c359, q_c999]
  have inner : ∀ i, i < 12 → ∀ s : Int32, q_X 26 12 [.ref p, .int s, .int (nI i), .int (nI i)] [] E g Q = q_X 26 4 [.ref p, .int (s + q_sum (fun k => if nI 0 < f (q_pr i (i + k)) then nI 1 else nI 0) (12 - i)), .int (nI (i + 1)), .int (nI 12)] [] E g Q := by
    intro i hi s
    have z : q_X 26 12 [.ref p, .int s, .int (nI i), .int (nI i)] [] E g Q = q_X 26 12 [.ref p, .int (s + q_sum (fun k => if nI 0 < f (q_pr i (i + k)) then nI 1 else nI 0) 0), .int (nI i), .int (nI (i + 0))] [] E g Q := by
      show _ = q_X _ _ [_, .int (s + nI 0), _, _] _ _ _ _
      rw [q_a0]
      rfl
    rw [z]
    refine (q_loop (N := 12 - i) (P := fun k => q_X 26 12 [.ref p, .int (s + q_sum (fun k => if nI 0 < f (q_pr i (i + k)) then nI 1 else nI 0) k), .int (nI i), .int (nI (i + k))] [] E g Q) (fun k hk => ?_)).trans ?_
    · dsimp only [q_sum]
      by_cases c : nI 0 < f (q_pr i (i + k))
      all_goals
        conv => lhs; simp (disch := omega) only [x26_0, x26_1, x26_2, x26_3, x26_4, x26_5, x26_7, x26_10, x26_11, x26_12, x26_13, x26_15, x26_18, x26_19, x26_20, x26_21, x26_24, x26_27, x26_30, x26_36, x26_42, x26_43, nI_add, pk_mul, q_cl31, q_vin, q_le, q_lt, q_eqn, q_b_0, q_b_t, q_b_f, q_nz, q_nz1, q_nz0, q_tl, q_tn, true_and, and_true, not_true_eq_false, not_false_eq_true, ite_true, ite_false, ↓reduceIte, true_or, or_true, and_self, ne_eq, q_or1, q_or2, Nat.add_eq_zero_iff, and_false, false_and, List.length_cons, List.length_nil, reduceCtorEq, q_toI, Nat.zero_add, Nat.le_refl, q_c0, q_c1, q_c2, q_c4, q_c9, q_c12, q_c30, q_c99, q_c100, q_c126, q_c32, q_c359, q_c999, hP.1, c_times hP hV, c, ← Int32.not_lt, show (i + k < 12) = True from eq_true (by omega), show (12 ≤ i + k) = False from eq_false (by omega)]
        simp only [x26_33, x26_39, c, ↓reduceIte, q_a0, Int32.add_assoc, Nat.add_assoc]
    · simp (disch := omega) only [x26_12, x26_13, x26_15, x26_36, x26_39, nI_add, pk_mul, q_cl31, q_vin, q_le, q_lt, q_eqn, q_b_0, q_b_t, q_b_f, q_nz, q_nz1, q_nz0, q_tl, q_tn, true_and, and_true, not_true_eq_false, not_false_eq_true, ite_true, ite_false, ↓reduceIte, true_or, or_true, and_self, ne_eq, q_or1, q_or2, Nat.add_eq_zero_iff, and_false, false_and, List.length_cons, List.length_nil, reduceCtorEq, q_toI, Nat.zero_add, Nat.le_refl, q_c0, q_c1, q_c2, q_c4, q_c9, q_c12, q_c30, q_c99, q_c100, q_c126, q_c32, q_c359, q_c999, show (12 ≤ i + (12 - i)) = True from eq_true (by omega), show i + (12 - i) = 12 by omega]
  have key : ∃ L3, q_X 26 4 [.ref p, .int (nI 0), .int (nI 0), .null] [] E g Q = q_X 26 4 [.ref p, .int (q_un f), .int (nI 12), L3] [] E g Q := by
    refine q_loop1 (P := fun i L3 => q_X 26 4 [.ref p, .int (q_sum (fun i => q_sum (fun k => if nI 0 < f (q_pr i (i + k)) then nI 1 else nI 0) (12 - i)) i), .int (nI i), L3] [] E g Q) (fun i hi L3 => ⟨.int (nI 12), ?_⟩)
    try dsimp only
    conv => lhs; simp (disch := omega) only [x26_4, x26_5, x26_7, x26_10, x26_11, nI_add, pk_mul, q_cl31, q_vin, q_le, q_lt, q_eqn, q_b_0, q_b_t, q_b_f, q_nz, q_nz1, q_nz0, q_tl, q_tn, true_and, and_true, not_true_eq_false, not_false_eq_true, ite_true, ite_false, ↓reduceIte, true_or, or_true, and_self, ne_eq, q_or1, q_or2, Nat.add_eq_zero_iff, and_false, false_and, List.length_cons, List.length_nil, reduceCtorEq, q_toI, Nat.zero_add, Nat.le_refl, q_c0, q_c1, q_c2, q_c4, q_c9, q_c12, q_c30, q_c99, q_c100, q_c126, q_c32, q_c359, q_c999, show (12 ≤ i) = False from eq_false (by omega)]
    rw [inner i hi]
    rfl
  obtain ⟨L3, key⟩ := key
  rw [key]
  simp (disch := omega) only [x26_0, x26_1, x26_2, x26_3, x26_4, x26_5, x26_7, x26_10, x26_11, x26_12, x26_13, x26_15, x26_18, x26_19, x26_20, x26_21, x26_24, x26_27, x26_30, x26_33, x26_36, x26_39, x26_42, x26_43, nI_add, pk_mul, q_cl31, q_vin, q_le, q_lt, q_eqn, q_b_0, q_b_t, q_b_f, q_nz, q_nz1, q_nz0, q_tl, q_tn, true_and, and_true, not_true_eq_false, not_false_eq_true, ite_true, ite_false, ↓reduceIte, true_or, or_true, and_self, ne_eq, q_or1, q_or2, Nat.add_eq_zero_iff, and_false, false_and, List.length_cons, List.length_nil, reduceCtorEq, q_toI, Nat.zero_add, Nat.le_refl, q_c0, q_c1, q_c2, q_c4, q_c9, q_c12, q_c30, q_c99, q_c100, q_c126, q_c32, q_c359, q_c999]
theorem q_ols (g : q_G) (d n : Nat) : q_ol g d (n + 1) = q_ol g d n ++ [(g (d + 1) n, g (d + 2) n, g (d + 3) n)] := by
  unfold q_ol
  rw [List.range_succ, List.map_append]
  rfl
theorem c_del {d q : Nat} (hD : q_DelB E d) (hq : q ≤ 8) (h0 : g d 0 = nI q) (x : Int32) : q_X 5 0 [.ref d, .int x, .null, .null] [] E g Q = Q (some (.int (q_ls x (q_ol g d q)))) E g := by
  obtain ⟨d1, d2, d3, d4, d5, d6, d7⟩ := hD
  simp (disch := omega) only [x5_0, x5_1, x5_2, x5_3, nI_add, pk_mul, q_cl31, q_vin, q_le, q_lt, q_eqn, q_b_0, q_b_t, q_b_f, q_nz, q_nz1, q_nz0, q_tl, q_tn, true_and, and_true, not_true_eq_false, not_false_eq_true, ite_true, ite_false, ↓reduceIte, true_or, or_true, and_self, ne_eq, q_or1, q_or2, Nat.add_eq_zero_iff, and_false, false_and, List.length_cons, List.length_nil, reduceCtorEq, q_toI, Nat.zero_add, Nat.le_refl, q_c0, q_c1, q_c2, q_c4, q_c9, q_c12, q_c30, q_c99, q_c100, q_c126, q_c32, q_c359, q_c999]
  refine (q_loop (N := q) (P := fun j => q_X 5 4 [.ref d, .int x, .int (q_ls x (q_ol g d j)), .int (nI j)] [] E g Q) (fun j hj => ?_)).trans ?_
  · try dsimp only
    rw [q_ols, q_ls_a]
    show _ = q_X _ _ [_, _, .int (_ + ((if g (d + 1) j = x then g (d + 2) j else nI 0) + nI 0)), _] _ _ _ _
    by_cases c : g (d + 1) j = x
    all_goals
      conv => lhs; simp (disch := omega) only [x5_0, x5_1, x5_2, x5_3, x5_4, x5_5, x5_6, x5_9, x5_12, x5_13, x5_16, x5_17, x5_18, x5_19, x5_22, x5_23, x5_24, x5_27, x5_28, x5_29, x5_30, x5_31, x5_37, x5_38, nI_add, pk_mul, q_cl31, q_vin, q_le, q_lt, q_eqn, q_b_0, q_b_t, q_b_f, q_nz, q_nz1, q_nz0, q_tl, q_tn, true_and, and_true, not_true_eq_false, not_false_eq_true, ite_true, ite_false, ↓reduceIte, true_or, or_true, and_self, ne_eq, q_or1, q_or2, Nat.add_eq_zero_iff, and_false, false_and, List.length_cons, List.length_nil, reduceCtorEq, q_toI, Nat.zero_add, Nat.le_refl, q_c0, q_c1, q_c2, q_c4, q_c9, q_c12, q_c30, q_c99, q_c100, q_c126, q_c32, q_c359, q_c999, d1, d2, d3, d5, d6, h0, c, show (q ≤ j) = False from eq_false (by omega)]
      simp only [x5_34, c, ↓reduceIte, q_a0]
  · simp (disch := omega) only [x5_0, x5_1, x5_2, x5_3, x5_4, x5_5, x5_6, x5_9, x5_12, x5_13, x5_16, x5_17, x5_18, x5_19, x5_22, x5_23, x5_24, x5_27, x5_28, x5_29, x5_30, x5_31, x5_34, x5_37, x5_38, nI_add, pk_mul, q_cl31, q_vin, q_le, q_lt, q_eqn, q_b_0, q_b_t, q_b_f, q_nz, q_nz1, q_nz0, q_tl, q_tn, true_and, and_true, not_true_eq_false, not_false_eq_true, ite_true, ite_false, ↓reduceIte, true_or, or_true, and_self, ne_eq, q_or1, q_or2, Nat.add_eq_zero_iff, and_false, false_and, List.length_cons, List.length_nil, reduceCtorEq, q_toI, Nat.zero_add, Nat.le_refl, q_c0, q_c1, q_c2, q_c4, q_c9, q_c12, q_c30, q_c99, q_c100, q_c126, q_c32, q_c359, q_c999, d1, h0]
end
