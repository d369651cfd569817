/-- the class's row of neighbours -/
def q_BesB (E : q_E) (g : q_G) : Prop := q_kd E 2 = (1, 10) ∧ ∀ i, i < 10 → g 2 i = q_bes i
def q_un (f : q_St) : Int32 := q_sum (fun i => q_sum (fun k => if nI 0 < f (q_pr i (i + k)) then nI 1 else nI 0) (12 - i)) 12
section
variable {E : q_E} {g : q_G} {Q : Option Value → q_E → q_G → Prop} {f : q_St}
theorem c_beside (hB : q_BesB E g) {i j : Nat} (hi : i < 10) (hj : j < 10) : q_X 21 0 [.int (nI i), .int (nI j)] [] E g Q = Q (some (.int (q_b (q_bs i j)))) E g := by
  have m := q_bs_m i hi j hj
  cases e : q_bs i j
  · rw [e] at m
    simp (disch := omega) only [x21_0, x21_3, x21_4, x21_5, x21_6, x21_7, x21_8, x21_9, x21_10, x21_13, x21_14, x21_17, x21_18, nI_add, pk_mul, q_cl31, q_vin, q_le, q_lt, q_eqn, q_b_0, q_b_t, q_b_f, q_nz, q_nz1, q_nz0, q_tl, q_tn, true_and, and_true, not_true_eq_false, not_false_eq_true, ite_true, ite_false, ↓reduceIte, true_or, or_true, and_self, ne_eq, q_or1, q_or2, Nat.add_eq_zero_iff, and_false, false_and, List.length_cons, List.length_nil, reduceCtorEq, q_toI, Nat.zero_add, Nat.le_refl, q_c0, q_c1, q_c2, q_c4, q_c9, q_c12, q_c30, q_c99, q_c100, q_c126, q_c32, q_c359, q_c999, hB.1, hB.2, m, Bool.false_eq_true]
  · rw [e] at m
    simp (disch := omega) only [x21_0, x21_3, x21_4, x21_5, x21_6, x21_7, x21_8, x21_9, x21_10, x21_13, x21_14, x21_17, x21_18, nI_add, pk_mul, q_cl31, q_vin, q_le, q_lt, q_eqn, q_b_0, q_b_t, q_b_f, q_nz, q_nz1, q_nz0, q_tl, q_tn, true_and, and_true, not_true_eq_false, not_false_eq_true, ite_true, ite_false, ↓reduceIte, true_or, or_true, and_self, ne_eq, q_or1, q_or2, Nat.add_eq_zero_iff, and_false, false_and, List.length_cons, List.length_nil, reduceCtorEq, q_toI, Nat.zero_add, Nat.le_refl, q_c0, q_c1, q_c2, q_c4, q_c9, q_c12, q_c30, q_c99, q_c100, q_c126, q_c32, q_c359, q_c999, hB.1, hB.2, m]
theorem c_cards {r : Nat} (hR : q_RacB E r) (hV : q_Vrac g r f) (x : Int32) : q_X 11 0 [.ref r, .int x, .null, .null] [] E g Q = Q (some (.int (q_ik f x))) E g := by
  obtain ⟨r1, r2, r3, r4, r5, r6, r7⟩ := hR
  obtain ⟨v1, v2, v3⟩ := hV
  simp (disch := omega) only [x11_0, x11_1, x11_2, x11_3, nI_add, pk_mul, q_cl31, q_vin, q_le, q_lt, q_eqn, q_b_0, q_b_t, q_b_f, q_nz, q_nz1, q_nz0, q_tl, q_tn, true_and, and_true, not_true_eq_false, not_false_eq_true, ite_true, ite_false, ↓reduceIte, true_or, or_true, and_self, ne_eq, q_or1, q_or2, Nat.add_eq_zero_iff, and_false, false_and, List.length_cons, List.length_nil, reduceCtorEq, q_toI, Nat.zero_add, Nat.le_refl, q_c0, q_c1, q_c2, q_c4, q_c9, q_c12, q_c30, q_c99, q_c100, q_c126, q_c32, q_c359, q_c999]
  refine (q_loop (N := 10) (P := fun j => q_X 11 4 [.ref r, .int x, .int (q_sum (fun k => if f (107 + 3 * k) = x then f (107 + 3 * k + 1) else nI 0) j), .int (nI j)] [] E g Q) (fun j hj => ?_)).trans ?_
  · dsimp only [q_sum]
    by_cases c : f (107 + 3 * j) = x
    all_goals
      conv => lhs; simp (disch := omega) only [x11_0, x11_1, x11_2, x11_3, x11_4, x11_5, x11_7, x11_10, x11_11, x11_14, x11_15, x11_16, x11_17, x11_20, x11_21, x11_22, x11_25, x11_26, x11_27, x11_28, x11_29, x11_35, x11_36, nI_add, pk_mul, q_cl31, q_vin, q_le, q_lt, q_eqn, q_b_0, q_b_t, q_b_f, q_nz, q_nz1, q_nz0, q_tl, q_tn, true_and, and_true, not_true_eq_false, not_false_eq_true, ite_true, ite_false, ↓reduceIte, true_or, or_true, and_self, ne_eq, q_or1, q_or2, Nat.add_eq_zero_iff, and_false, false_and, List.length_cons, List.length_nil, reduceCtorEq, q_toI, Nat.zero_add, Nat.le_refl, q_c0, q_c1, q_c2, q_c4, q_c9, q_c12, q_c30, q_c99, q_c100, q_c126, q_c32, q_c359, q_c999, r1, r2, r3, r5, r6, v1, v2, c, show (10 ≤ j) = False from eq_false (by omega)]
      simp only [x11_32, c, ↓reduceIte, q_a0]
  · simp (disch := omega) only [x11_0, x11_1, x11_2, x11_3, x11_4, x11_5, x11_7, x11_10, x11_11, x11_14, x11_15, x11_16, x11_17, x11_20, x11_21, x11_22, x11_25, x11_26, x11_27, x11_28, x11_29, x11_32, x11_35, x11_36, nI_add, pk_mul, q_cl31, q_vin, q_le, q_lt, q_eqn, q_b_0, q_b_t, q_b_f, q_nz, q_nz1, q_nz0, q_tl, q_tn, true_and, and_true, not_true_eq_false, not_false_eq_true, ite_true, ite_false, ↓reduceIte, true_or, or_true, and_self, ne_eq, q_or1, q_or2, Nat.add_eq_zero_iff, and_false, false_and, List.length_cons, List.length_nil, reduceCtorEq, q_toI, Nat.zero_add, Nat.le_refl, q_c0, q_c1, q_c2, q_c4, q_c9, q_c12, q_c30, q_c99, q_c100, q_c126, q_c32, q_c359, q_c999]
    rfl
theorem c_lowest {r : Nat} (hR : q_RacB E r) (hV : q_Vrac g r f) (v : Nat) : q_X 13 0 [.ref r, .int (nI v), .null] [] E g Q = Q (some (.int (q_fi (q_ph f v) 10 0))) E g := by
  obtain ⟨r1, r2, r3, r4, r5, r6, r7⟩ := hR
  obtain ⟨v1, v2, v3⟩ := hV
  have main : ∀ d k, k + d = 10 → q_X 13 2 [.ref r, .int (nI v), .int (nI k)] [] E g Q = Q (some (.int (q_fi (q_ph f v) d k))) E g := by
    intro d
    induction d with
    | zero =>
      intro k hk
      simp (disch := omega) only [x13_0, x13_1, x13_2, x13_3, x13_5, x13_8, x13_9, x13_12, x13_13, x13_14, x13_15, x13_18, x13_19, x13_22, x13_23, x13_24, x13_27, x13_28, x13_29, x13_35, x13_36, nI_add, pk_mul, q_cl31, q_vin, q_le, q_lt, q_eqn, q_b_0, q_b_t, q_b_f, q_nz, q_nz1, q_nz0, q_tl, q_tn, true_and, and_true, not_true_eq_false, not_false_eq_true, ite_true, ite_false, ↓reduceIte, true_or, or_true, and_self, ne_eq, q_or1, q_or2, Nat.add_eq_zero_iff, and_false, false_and, List.length_cons, List.length_nil, reduceCtorEq, q_toI, Nat.zero_add, Nat.le_refl, q_c0, q_c1, q_c2, q_c4, q_c9, q_c12, q_c30, q_c99, q_c100, q_c126, q_c32, q_c359, q_c999, show (10 ≤ k) = True from eq_true (by omega), q_fi]
    | succ d ih =>
      intro k hk
      by_cases c1 : f (107 + 3 * k) = nI v
      · by_cases c2 : nI 0 < f (107 + 3 * k + 1)
        · have s' : q_fi (q_ph f v) (d + 1) k = nI k := if_pos (by unfold q_ph; simp [c1, c2])
          rw [s']
          simp (disch := omega) only [x13_0, x13_1, x13_2, x13_3, x13_5, x13_8, x13_9, x13_12, x13_13, x13_14, x13_15, x13_18, x13_19, x13_22, x13_23, x13_24, x13_27, x13_28, x13_29, x13_35, x13_36, nI_add, pk_mul, q_cl31, q_vin, q_le, q_lt, q_eqn, q_b_0, q_b_t, q_b_f, q_nz, q_nz1, q_nz0, q_tl, q_tn, true_and, and_true, not_true_eq_false, not_false_eq_true, ite_true, ite_false, ↓reduceIte, true_or, or_true, and_self, ne_eq, q_or1, q_or2, Nat.add_eq_zero_iff, and_false, false_and, List.length_cons, List.length_nil, reduceCtorEq, q_toI, Nat.zero_add, Nat.le_refl, q_c0, q_c1, q_c2, q_c4, q_c9, q_c12, q_c30, q_c99, q_c100, q_c126, q_c32, q_c359, q_c999, r1, r2, r3, r5, r6, v1, v2, c1, c2, ← Int32.not_lt, show (k < 10) = True from eq_true (by omega), show (10 ≤ k) = False from eq_false (by omega)]
        · have s' : q_fi (q_ph f v) (d + 1) k = q_fi (q_ph f v) d (k + 1) := if_neg (by unfold q_ph; simp [c2])
          rw [s', ← ih (k + 1) (by omega)]
          conv => lhs; simp (disch := omega) only [x13_0, x13_1, x13_2, x13_3, x13_5, x13_8, x13_9, x13_12, x13_13, x13_14, x13_15, x13_18, x13_19, x13_22, x13_23, x13_24, x13_27, x13_28, x13_29, x13_35, x13_36, nI_add, pk_mul, q_cl31, q_vin, q_le, q_lt, q_eqn, q_b_0, q_b_t, q_b_f, q_nz, q_nz1, q_nz0, q_tl, q_tn, true_and, and_true, not_true_eq_false, not_false_eq_true, ite_true, ite_false, ↓reduceIte, true_or, or_true, and_self, ne_eq, q_or1, q_or2, Nat.add_eq_zero_iff, and_false, false_and, List.length_cons, List.length_nil, reduceCtorEq, q_toI, Nat.zero_add, Nat.le_refl, q_c0, q_c1, q_c2, q_c4, q_c9, q_c12, q_c30, q_c99, q_c100, q_c126, q_c32, q_c359, q_c999, r1, r2, r3, r5, r6, v1, v2, c1, c2, ← Int32.not_lt, show (k < 10) = True from eq_true (by omega), show (10 ≤ k) = False from eq_false (by omega)]
          simp only [x13_32]
      · have s' : q_fi (q_ph f v) (d + 1) k = q_fi (q_ph f v) d (k + 1) := if_neg (by unfold q_ph; simp [c1])
        rw [s', ← ih (k + 1) (by omega)]
        conv => lhs; simp (disch := omega) only [x13_0, x13_1, x13_2, x13_3, x13_5, x13_8, x13_9, x13_12, x13_13, x13_14, x13_15, x13_18, x13_19, x13_22, x13_23, x13_24, x13_27, x13_28, x13_29, x13_35, x13_36, nI_add, pk_mul, q_cl31, q_vin, q_le, q_lt, q_eqn, q_b_0, q_b_t, q_b_f, q_nz, q_nz1, q_nz0, q_tl, q_tn, true_and, and_true, not_true_eq_false, not_false_eq_true, ite_true, ite_false, ↓reduceIte, true_or, or_true, and_self, ne_eq, q_or1, q_or2, Nat.add_eq_zero_iff, and_false, false_and, List.length_cons, List.length_nil, reduceCtorEq, q_toI, Nat.zero_add, Nat.le_refl, q_c0, q_c1, q_c2, q_c4, q_c9, q_c12, q_c30, q_c99, q_c100, q_c126, q_c32, q_c359, q_c999, r1, r2, r3, r5, r6, v1, v2, c1, show (10 ≤ k) = False from eq_false (by omega)]
        simp only [x13_32]
  simp (disch := omega) only [x13_0, x13_1, nI_add, pk_mul, q_cl31, q_vin, q_le, q_lt, q_eqn, q_b_0, q_b_t, q_b_f, q_nz, q_nz1, q_nz0, q_tl, q_tn, true_and, and_true, not_true_eq_false, not_false_eq_true, ite_true, ite_false, ↓reduceIte, true_or, or_true, and_self, ne_eq, q_or1, q_or2, Nat.add_eq_zero_iff, and_false, false_and, List.length_cons, List.length_nil, reduceCtorEq, q_toI, Nat.zero_add, Nat.le_refl, q_c0, q_c1, q_c2, q_c4, q_c9, q_c12, q_c30, q_c99, q_c100, q_c126, q_c32, q_c359, q_c999]
  exact main 10 0 (by omega)
theorem c_besideH (hB : q_BesB E g) {r : Nat} (hR : q_RacB E r) (hV : q_Vrac g r f) {k : Nat} (hk : k < 10) (x : Int32) : q_X 48 0 [.ref r, .int (nI k), .int x, .null, .null] [] E g Q = Q (some (.int (q_be f k x))) E g := by
  obtain ⟨r1, r2, r3, r4, r5, r6, r7⟩ := hR
  obtain ⟨v1, v2, v3⟩ := hV
  simp (disch := omega) only [x48_0, x48_1, x48_2, x48_3, nI_add, pk_mul, q_cl31, q_vin, q_le, q_lt, q_eqn, q_b_0, q_b_t, q_b_f, q_nz, q_nz1, q_nz0, q_tl, q_tn, true_and, and_true, not_true_eq_false, not_false_eq_true, ite_true, ite_false, ↓reduceIte, true_or, or_true, and_self, ne_eq, q_or1, q_or2, Nat.add_eq_zero_iff, and_false, false_and, List.length_cons, List.length_nil, reduceCtorEq, q_toI, Nat.zero_add, Nat.le_refl, q_c0, q_c1, q_c2, q_c4, q_c9, q_c12, q_c30, q_c99, q_c100, q_c126, q_c32, q_c359, q_c999]
  refine (q_loop (N := 10) (P := fun j => q_X 48 5 [.ref r, .int (nI k), .int x, .int (q_sum (fun j => if q_bs k j = true ∧ f (107 + 3 * j) = x then nI 1 else nI 0) j), .int (nI j)] [] E g Q) (fun j hj => ?_)).trans ?_
  · dsimp only [q_sum]
    rcases Bool.eq_false_or_eq_true (q_bs k j) with hb | hb <;> by_cases c : f (107 + 3 * j) = x
    all_goals
      conv => lhs; simp (disch := omega) only [x48_0, x48_1, x48_2, x48_3, x48_5, x48_7, x48_9, x48_12, x48_13, x48_15, x48_18, x48_21, x48_22, x48_25, x48_27, x48_28, x48_29, x48_32, x48_35, x48_41, x48_42, nI_add, pk_mul, q_cl31, q_vin, q_le, q_lt, q_eqn, q_b_0, q_b_t, q_b_f, q_nz, q_nz1, q_nz0, q_tl, q_tn, true_and, and_true, not_true_eq_false, not_false_eq_true, ite_true, ite_false, ↓reduceIte, true_or, or_true, and_self, ne_eq, q_or1, q_or2, Nat.add_eq_zero_iff, and_false, false_and, List.length_cons, List.length_nil, reduceCtorEq, q_toI, Nat.zero_add, Nat.le_refl, q_c0, q_c1, q_c2, q_c4, q_c9, q_c12, q_c30, q_c99, q_c100, q_c126, q_c32, q_c359, q_c999, r1, r2, r3, r5, r6, v1, v2, c_beside hB, hb, c, show (10 ≤ j) = False from eq_false (by omega)]
      simp only [x48_38, hb, c, and_self, and_true, true_and, and_false, false_and, Bool.false_eq_true, ↓reduceIte, q_a0]
  · simp (disch := omega) only [x48_0, x48_1, x48_2, x48_3, x48_5, x48_7, x48_9, x48_12, x48_13, x48_15, x48_18, x48_21, x48_22, x48_25, x48_27, x48_28, x48_29, x48_32, x48_35, x48_38, x48_41, x48_42, nI_add, pk_mul, q_cl31, q_vin, q_le, q_lt, q_eqn, q_b_0, q_b_t, q_b_f, q_nz, q_nz1, q_nz0, q_tl, q_tn, true_and, and_true, not_true_eq_false, not_false_eq_true, ite_true, ite_false, ↓reduceIte, true_or, or_true, and_self, ne_eq, q_or1, q_or2, Nat.add_eq_zero_iff, and_false, false_and, List.length_cons, List.length_nil, reduceCtorEq, q_toI, Nat.zero_add, Nat.le_refl, q_c0, q_c1, q_c2, q_c4, q_c9, q_c12, q_c30, q_c99, q_c100, q_c126, q_c32, q_c359, q_c999]
    rfl
theorem c_room {r : Nat} (hR : q_RacB E r) (hV : q_Vrac g r f) {k : Nat} (hk : k < 10) (x : Int32) : q_X 12 0 [.ref r, .int (nI k), .int x] [] E g Q = Q (some (.int (q_b (decide (f (107 + 3 * k) = -1 ∨ (f (107 + 3 * k) = x ∧ f (107 + 3 * k + 1) < nI 12)))))) E g := by
  obtain ⟨r1, r2, r3, r4, r5, r6, r7⟩ := hR
  obtain ⟨v1, v2, v3⟩ := hV
  by_cases c1 : f (107 + 3 * k) = -1 <;> by_cases c2 : f (107 + 3 * k) = x <;> by_cases c3 : f (107 + 3 * k + 1) < nI 12
  all_goals
    simp (disch := omega) only [x12_0, x12_1, x12_4, x12_5, x12_6, x12_7, x12_10, x12_11, x12_14, x12_15, x12_16, x12_17, x12_20, x12_21, x12_24, x12_25, x12_26, x12_28, x12_31, x12_32, x12_35, x12_36, nI_add, pk_mul, q_cl31, q_vin, q_le, q_lt, q_eqn, q_b_0, q_b_t, q_b_f, q_nz, q_nz1, q_nz0, q_tl, q_tn, true_and, and_true, not_true_eq_false, not_false_eq_true, ite_true, ite_false, ↓reduceIte, true_or, or_true, and_self, ne_eq, q_or1, q_or2, Nat.add_eq_zero_iff, and_false, false_and, List.length_cons, List.length_nil, reduceCtorEq, q_toI, Nat.zero_add, Nat.le_refl, q_c0, q_c1, q_c2, q_c4, q_c9, q_c12, q_c30, q_c99, q_c100, q_c126, q_c32, q_c359, q_c999, r1, r2, r3, r5, r6, v1, v2, c1, c2, c3, ← Int32.not_lt]
    simp [c1, c2, c3, q_b]
    try (by_cases c4 : x = -1 <;> simp [c4])
theorem c_most {p : Nat} (hP : q_PaiB E p) (hV : q_Vpai g p f) {v : Nat} (hv : v < 12) : q_X 46 0 [.ref p, .int (nI v), .null, .null, .null] [] E g Q = Q (some (.int (q_mx (fun k => decide (k ≠ v)) (fun k => f (q_pr k v)) (-1) (nI 0) 12).1)) E g := by
  simp (disch := omega) only [x46_0, x46_1, x46_2, x46_3, x46_4, x46_5, nI_add, pk_mul, q_cl31, q_vin, q_le, q_lt, q_eqn, q_b_0, q_b_t, q_b_f, q_nz, q_nz1, q_nz0, q_tl, q_tn, true_and, and_true, not_true_eq_false, not_false_eq_true, ite_true, ite_false, ↓reduceIte, true_or, or_true, and_self, ne_eq, q_or1, q_or2, Nat.add_eq_zero_iff, and_false, false_and, List.length_cons, List.length_nil, reduceCtorEq, q_toI, Nat.zero_add, Nat.le_refl, q_c0, q_c1, q_c2, q_c4, q_c9, q_c12, q_c30, q_c99, q_c100, q_c126, q_c32, q_c359, q_c999]
  have key : q_X 46 7 [.ref p, .int (nI v), .int (-1), .int (nI 0), .int (nI 0)] [] E g Q = q_X 46 7 [.ref p, .int (nI v), .int (q_mx (fun k => decide (k ≠ v)) (fun k => f (q_pr k v)) (-1) (nI 0) 12).1, .int (q_mx (fun k => decide (k ≠ v)) (fun k => f (q_pr k v)) (-1) (nI 0) 12).2, .int (nI 12)] [] E g Q := by
    refine q_loop (P := fun j => q_X 46 7 [.ref p, .int (nI v), .int (q_mx (fun k => decide (k ≠ v)) (fun k => f (q_pr k v)) (-1) (nI 0) j).1, .int (q_mx (fun k => decide (k ≠ v)) (fun k => f (q_pr k v)) (-1) (nI 0) j).2, .int (nI j)] [] E g Q) (fun j hj => ?_)
    dsimp only [q_mx]
    generalize q_mx _ _ _ _ j = bm
    obtain ⟨b, m⟩ := bm
    dsimp only
    by_cases x1 : j = v <;> by_cases x2 : m < f (q_pr j v)
    all_goals
      conv => lhs; simp (disch := omega) only [x46_0, x46_1, x46_2, x46_3, x46_4, x46_5, x46_7, x46_9, x46_11, x46_14, x46_16, x46_17, x46_20, x46_21, x46_22, x46_24, x46_27, x46_28, x46_31, x46_33, x46_34, x46_35, x46_36, x46_38, x46_41, x46_42, x46_48, x46_49, nI_add, pk_mul, q_cl31, q_vin, q_le, q_lt, q_eqn, q_b_0, q_b_t, q_b_f, q_nz, q_nz1, q_nz0, q_tl, q_tn, true_and, and_true, not_true_eq_false, not_false_eq_true, ite_true, ite_false, ↓reduceIte, true_or, or_true, and_self, ne_eq, q_or1, q_or2, Nat.add_eq_zero_iff, and_false, false_and, List.length_cons, List.length_nil, reduceCtorEq, q_toI, Nat.zero_add, Nat.le_refl, q_c0, q_c1, q_c2, q_c4, q_c9, q_c12, q_c30, q_c99, q_c100, q_c126, q_c32, q_c359, q_c999, hP.1, c_times hP hV, q_pr_c v j, x1, x2, ← Int32.not_lt, hj, hv, show (12 ≤ j) = False from eq_false (by omega)]
      simp only [x46_45, x1, x2, decide_true, decide_false, ne_eq, not_true_eq_false, not_false_eq_true, true_and, false_and, and_false, and_self, Bool.false_eq_true, ↓reduceIte]
  rw [key]
  simp (disch := omega) only [x46_0, x46_1, x46_2, x46_3, x46_4, x46_5, x46_7, x46_9, x46_11, x46_14, x46_16, x46_17, x46_20, x46_21, x46_22, x46_24, x46_27, x46_28, x46_31, x46_33, x46_34, x46_35, x46_36, x46_38, x46_41, x46_42, x46_45, x46_48, x46_49, nI_add, pk_mul, q_cl31, q_vin, q_le, q_lt, q_eqn, q_b_0, q_b_t, q_b_f, q_nz, q_nz1, q_nz0, q_tl, q_tn, true_and, and_true, not_true_eq_false, not_false_eq_true, ite_true, ite_false, ↓reduceIte, true_or, or_true, and_self, ne_eq, q_or1, q_or2, Nat.add_eq_zero_iff, and_false, false_and, List.length_cons, List.length_nil, reduceCtorEq, q_toI, Nat.zero_add, Nat.le_refl, q_c0, q_c1, q_c2, q_c4, q_c9, q_c12, q_c30, q_c99, q_c100, q_c126, q_c32, q_c359, q_c999]
theorem c_unlike {p : Nat} (hP : q_PaiB E p) (hV : q_Vpai g p f) : q_X 47 0 [.ref p, .null, .null, .null] [] E g Q = Q (some (.int (q_un f))) E g := by
  simp (disch := omega) only [x47_0, x47_1, x47_2, x47_3, nI_add, pk_mul, q_cl31, q_vin, q_le, q_lt, q_eqn, q_b_0, q_b_t, q_b_f, q_nz, q_nz1, q_nz0, q_tl, q_tn, true_and, and_true, not_true_eq_false, not_false_eq_true, ite_true, ite_false, ↓reduceIte, true_or, or_true, and_self, ne_eq, q_or1, q_or2, Nat.add_eq_zero_iff, and_false, false_and, List.length_cons, List.length_nil, reduceCtorEq, q_toI, Nat.zero_add, Nat.le_refl, q_c0, q_c1, q_c2, q_c4, q_c9, q_c12, q_c30, q_c99, q_c100, q_c126, q_c32, q_c359, q_c999]
  have inner : ∀ i, i < 12 → ∀ s : Int32, q_X 47 12 [.ref p, .int s, .int (nI i), .int (nI i)] [] E g Q = q_X 47 4 [.ref p, .int (s + q_sum (fun k => if nI 0 < f (q_pr i (i + k)) then nI 1 else nI 0) (12 - i)), .int (nI (i + 1)), .int (nI 12)] [] E g Q := by
    intro i hi s
    have z : q_X 47 12 [.ref p, .int s, .int (nI i), .int (nI i)] [] E g Q = q_X 47 12 [.ref p, .int (s + q_sum (fun k => if nI 0 < f (q_pr i (i + k)) then nI 1 else nI 0) 0), .int (nI i), .int (nI (i + 0))] [] E g Q := by
      show _ = q_X _ _ [_, .int (s + nI 0), _, _] _ _ _ _
      rw [q_a0]
      rfl
    rw [z]
    refine (q_loop (N := 12 - i) (P := fun k => q_X 47 12 [.ref p, .int (s + q_sum (fun k => if nI 0 < f (q_pr i (i + k)) then nI 1 else nI 0) k), .int (nI i), .int (nI (i + k))] [] E g Q) (fun k hk => ?_)).trans ?_
    · dsimp only [q_sum]
      by_cases c : nI 0 < f (q_pr i (i + k))
      all_goals
        conv => lhs; simp (disch := omega) only [x47_0, x47_1, x47_2, x47_3, x47_4, x47_5, x47_7, x47_10, x47_11, x47_12, x47_13, x47_15, x47_18, x47_19, x47_20, x47_21, x47_24, x47_27, x47_30, x47_36, x47_42, x47_43, nI_add, pk_mul, q_cl31, q_vin, q_le, q_lt, q_eqn, q_b_0, q_b_t, q_b_f, q_nz, q_nz1, q_nz0, q_tl, q_tn, true_and, and_true, not_true_eq_false, not_false_eq_true, ite_true, ite_false, ↓reduceIte, true_or, or_true, and_self, ne_eq, q_or1, q_or2, Nat.add_eq_zero_iff, and_false, false_and, List.length_cons, List.length_nil, reduceCtorEq, q_toI, Nat.zero_add, Nat.le_refl, q_c0, q_c1, q_c2, q_c4, q_c9, q_c12, q_c30, q_c99, q_c100, q_c126, q_c32, q_c359, q_c999, hP.1, c_times hP hV, c, ← Int32.not_lt, show (i + k < 12) = True from eq_true (by omega), show (12 ≤ i + k) = False from eq_false (by omega)]
        simp only [x47_33, x47_39, c, ↓reduceIte, q_a0, Int32.add_assoc, Nat.add_assoc]
    · simp (disch := omega) only [x47_12, x47_13, x47_15, x47_36, x47_39, nI_add, pk_mul, q_cl31, q_vin, q_le, q_lt, q_eqn, q_b_0, q_b_t, q_b_f, q_nz, q_nz1, q_nz0, q_tl, q_tn, true_and, and_true, not_true_eq_false, not_false_eq_true, ite_true, ite_false, ↓reduceIte, true_or, or_true, and_self, ne_eq, q_or1, q_or2, Nat.add_eq_zero_iff, and_false, false_and, List.length_cons, List.length_nil, reduceCtorEq, q_toI, Nat.zero_add, Nat.le_refl, q_c0, q_c1, q_c2, q_c4, q_c9, q_c12, q_c30, q_c99, q_c100, q_c126, q_c32, q_c359, q_c999, show (12 ≤ i + (12 - i)) = True from eq_true (by omega), show i + (12 - i) = 12 by omega]
  have key : ∃ L3, q_X 47 4 [.ref p, .int (nI 0), .int (nI 0), .null] [] E g Q = q_X 47 4 [.ref p, .int (q_un f), .int (nI 12), L3] [] E g Q := by
    refine q_loop1 (P := fun i L3 => q_X 47 4 [.ref p, .int (q_sum (fun i => q_sum (fun k => if nI 0 < f (q_pr i (i + k)) then nI 1 else nI 0) (12 - i)) i), .int (nI i), L3] [] E g Q) (fun i hi L3 => ⟨.int (nI 12), ?_⟩)
    try dsimp only
    conv => lhs; simp (disch := omega) only [x47_4, x47_5, x47_7, x47_10, x47_11, nI_add, pk_mul, q_cl31, q_vin, q_le, q_lt, q_eqn, q_b_0, q_b_t, q_b_f, q_nz, q_nz1, q_nz0, q_tl, q_tn, true_and, and_true, not_true_eq_false, not_false_eq_true, ite_true, ite_false, ↓reduceIte, true_or, or_true, and_self, ne_eq, q_or1, q_or2, Nat.add_eq_zero_iff, and_false, false_and, List.length_cons, List.length_nil, reduceCtorEq, q_toI, Nat.zero_add, Nat.le_refl, q_c0, q_c1, q_c2, q_c4, q_c9, q_c12, q_c30, q_c99, q_c100, q_c126, q_c32, q_c359, q_c999, show (12 ≤ i) = False from eq_false (by omega)]
    rw [inner i hi]
    rfl
  obtain ⟨L3, key⟩ := key
  rw [key]
  simp (disch := omega) only [x47_0, x47_1, x47_2, x47_3, x47_4, x47_5, x47_7, x47_10, x47_11, x47_12, x47_13, x47_15, x47_18, x47_19, x47_20, x47_21, x47_24, x47_27, x47_30, x47_33, x47_36, x47_39, x47_42, x47_43, nI_add, pk_mul, q_cl31, q_vin, q_le, q_lt, q_eqn, q_b_0, q_b_t, q_b_f, q_nz, q_nz1, q_nz0, q_tl, q_tn, true_and, and_true, not_true_eq_false, not_false_eq_true, ite_true, ite_false, ↓reduceIte, true_or, or_true, and_self, ne_eq, q_or1, q_or2, Nat.add_eq_zero_iff, and_false, false_and, List.length_cons, List.length_nil, reduceCtorEq, q_toI, Nat.zero_add, Nat.le_refl, q_c0, q_c1, q_c2, q_c4, q_c9, q_c12, q_c30, q_c99, q_c100, q_c126, q_c32, q_c359, q_c999]
theorem q_ols (g : q_G) (d n : Nat) : q_ol g d (n + 1) = q_ol g d n ++ [(g (d + 1) n, g (d + 2) n, g (d + 3) n)] := by
  unfold q_ol
  rw [List.range_succ, List.map_append]
  rfl
theorem c_del {d q : Nat} (hD : q_DelB E d) (hq : q ≤ 8) (h0 : g d 0 = nI q) (x : Int32) : q_X 5 0 [.ref d, .int x, .null, .null] [] E g Q = Q (some (.int (q_ls x (q_ol g d q)))) E g := by
  obtain ⟨d1, d2, d3, d4, d5, d6, d7⟩ := hD
  simp (disch := omega) only [x5_0, x5_1, x5_2, x5_3, nI_add, pk_mul, q_cl31, q_vin, q_le, q_lt, q_eqn, q_b_0, q_b_t, q_b_f, q_nz, q_nz1, q_nz0, q_tl, q_tn, true_and, and_true, not_true_eq_false, not_false_eq_true, ite_true, ite_false, ↓reduceIte, true_or, or_true, and_self, ne_eq, q_or1, q_or2, Nat.add_eq_zero_iff, and_false, false_and, List.length_cons, List.length_nil, reduceCtorEq, q_toI, Nat.zero_add, Nat.le_refl, q_c0, q_c1, q_c2, q_c4, q_c9, q_c12, q_c30, q_c99, q_c100, q_c126, q_c32, q_c359, q_c999]
  refine (q_loop (N := q) (P := fun j => q_X 5 4 [.ref d, .int x, .int (q_ls x (q_ol g d j)), .int (nI j)] [] E g Q) (fun j hj => ?_)).trans ?_
  · try dsimp only
    rw [q_ols, q_ls_a]
    show _ = q_X _ _ [_, _, .int (_ + ((if g (d + 1) j = x then g (d + 2) j else nI 0) + nI 0)), _] _ _ _ _
    by_cases c : g (d + 1) j = x
    all_goals
      conv => lhs; simp (disch := omega) only [x5_0, x5_1, x5_2, x5_3, x5_4, x5_5, x5_6, x5_9, x5_12, x5_13, x5_16, x5_17, x5_18, x5_19, x5_22, x5_23, x5_24, x5_27, x5_28, x5_29, x5_30, x5_31, x5_37, x5_38, nI_add, pk_mul, q_cl31, q_vin, q_le, q_lt, q_eqn, q_b_0, q_b_t, q_b_f, q_nz, q_nz1, q_nz0, q_tl, q_tn, true_and, and_true, not_true_eq_false, not_false_eq_true, ite_true, ite_false, ↓reduceIte, true_or, or_true, and_self, ne_eq, q_or1, q_or2, Nat.add_eq_zero_iff, and_false, false_and, List.length_cons, List.length_nil, reduceCtorEq, q_toI, Nat.zero_add, Nat.le_refl, q_c0, q_c1, q_c2, q_c4, q_c9, q_c12, q_c30, q_c99, q_c100, q_c126, q_c32, q_c359, q_c999, d1, d2, d3, d5, d6, h0, c, show (q ≤ j) = False from eq_false (by omega)]
      simp only [x5_34, c, ↓reduceIte, q_a0]
  · simp (disch := omega) only [x5_0, x5_1, x5_2, x5_3, x5_4, x5_5, x5_6, x5_9, x5_12, x5_13, x5_16, x5_17, x5_18, x5_19, x5_22, x5_23, x5_24, x5_27, x5_28, x5_29, x5_30, x5_31, x5_34, x5_37, x5_38, nI_add, pk_mul, q_cl31, q_vin, q_le, q_lt, q_eqn, q_b_0, q_b_t, q_b_f, q_nz, q_nz1, q_nz0, q_tl, q_tn, true_and, and_true, not_true_eq_false, not_false_eq_true, ite_true, ite_false, ↓reduceIte, true_or, or_true, and_self, ne_eq, q_or1, q_or2, Nat.add_eq_zero_iff, and_false, false_and, List.length_cons, List.length_nil, reduceCtorEq, q_toI, Nat.zero_add, Nat.le_refl, q_c0, q_c1, q_c2, q_c4, q_c9, q_c12, q_c30, q_c99, q_c100, q_c126, q_c32, q_c359, q_c999, d1, h0]
end
