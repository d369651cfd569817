/-! the model's object and its rows -/
def q_ModB (E : q_E) : Prop := q_kd E 146 = (13, 8) ∧ q_rf E 146 0 = 147 ∧ q_rf E 146 2 = 148 ∧ q_rf E 146 7 = 149 ∧ q_kd E 147 = (2, 1872) ∧ q_kd E 148 = (3, 60) ∧ q_kd E 149 = (2, 3)
/-- where a pair of verses lies -/
def q_pr (i j : Nat) : Nat := 162 + (if i < j then 12 * i + j else 12 * j + i)
/-- a block copied onto another -/
def q_cp (f : Nat → Int32) (a b : Nat) : Nat → Int32 := fun i => if 312 * b ≤ i ∧ i < 312 * b + 312 then f (i - 312 * b + 312 * a) else f i
def q_ow (f : Nat → Int32) (q : Nat) (x : Int32) : Int32 := q_sum (fun k => if f (138 + 3 * k) = x then f (138 + 3 * k + 1) else nI 0) q
def q_ik (f : Nat → Int32) (x : Int32) : Int32 := q_sum (fun k => if f (107 + 3 * k) = x then f (107 + 3 * k + 1) else nI 0) 10
def q_be (f : Nat → Int32) (k : Nat) (x : Int32) : Int32 := q_sum (fun j => if q_bs k j = true ∧ f (107 + 3 * j) = x then nI 1 else nI 0) 10
section
variable {E : q_E} {g : q_G} {Q : Option Value → q_E → q_G → Prop}
theorem s_of (hM : q_ModB E) {v w : Nat} (h : 11 + 8 * v + w < 1872) : q_X 34 0 [.ref 146, .int (nI v), .int (nI w)] [] E g Q = Q (some (.int (g 147 (11 + 8 * v + w)))) E g := by
  obtain ⟨m1, m2, m3, m4, m5, m6, m7⟩ := hM
  simp (disch := omega) only [x34_0, x34_1, x34_4, x34_6, x34_8, x34_9, x34_10, x34_11, x34_12, x34_13, x34_14, nI_add, pk_mul, q_cl31, q_vin, q_le, q_lt, q_eqn, q_b_0, q_b_t, q_b_f, q_nz, q_nz1, q_nz0, q_tl, q_tn, true_and, and_true, not_true_eq_false, not_false_eq_true, ite_true, ite_false, ↓reduceIte, true_or, or_true, and_self, ne_eq, q_or1, q_or2, Nat.add_eq_zero_iff, and_false, false_and, List.length_cons, List.length_nil, reduceCtorEq, q_toI, Nat.zero_add, Nat.le_refl, q_c0, q_c1, q_c2, q_c4, q_c9, q_c12, q_c30, q_c99, q_c100, q_c126, q_c32, q_c359, q_c999, m1, m2, m5]
theorem s_adds (hM : q_ModB E) {v w : Nat} {x : Int32} (h : 11 + 8 * v + w < 1872) : q_X 27 0 [.ref 146, .int (nI v), .int (nI w), .int x] [] E g Q = Q none E (q_up g 147 (11 + 8 * v + w) (g 147 (11 + 8 * v + w) + x)) := by
  obtain ⟨m1, m2, m3, m4, m5, m6, m7⟩ := hM
  simp (disch := omega) only [x27_0, x27_1, x27_4, x27_6, x27_8, x27_9, x27_10, x27_11, x27_12, x27_13, x27_14, x27_15, x27_16, x27_17, x27_18, nI_add, pk_mul, q_cl31, q_vin, q_le, q_lt, q_eqn, q_b_0, q_b_t, q_b_f, q_nz, q_nz1, q_nz0, q_tl, q_tn, true_and, and_true, not_true_eq_false, not_false_eq_true, ite_true, ite_false, ↓reduceIte, true_or, or_true, and_self, ne_eq, q_or1, q_or2, Nat.add_eq_zero_iff, and_false, false_and, List.length_cons, List.length_nil, reduceCtorEq, q_toI, Nat.zero_add, Nat.le_refl, q_c0, q_c1, q_c2, q_c4, q_c9, q_c12, q_c30, q_c99, q_c100, q_c126, q_c32, q_c359, q_c999, m1, m2, m5]
theorem s_held (hM : q_ModB E) {s : Nat} (h : s < 10) : q_X 31 0 [.ref 146, .int (nI s)] [] E g Q = Q (some (.int (g 147 (107 + 3 * s)))) E g := by
  obtain ⟨m1, m2, m3, m4, m5, m6, m7⟩ := hM
  simp (disch := omega) only [x31_0, x31_1, x31_4, x31_6, x31_7, x31_8, x31_9, x31_10, x31_11, nI_add, pk_mul, q_cl31, q_vin, q_le, q_lt, q_eqn, q_b_0, q_b_t, q_b_f, q_nz, q_nz1, q_nz0, q_tl, q_tn, true_and, and_true, not_true_eq_false, not_false_eq_true, ite_true, ite_false, ↓reduceIte, true_or, or_true, and_self, ne_eq, q_or1, q_or2, Nat.add_eq_zero_iff, and_false, false_and, List.length_cons, List.length_nil, reduceCtorEq, q_toI, Nat.zero_add, Nat.le_refl, q_c0, q_c1, q_c2, q_c4, q_c9, q_c12, q_c30, q_c99, q_c100, q_c126, q_c32, q_c359, q_c999, m1, m2, m5]
theorem s_cards (hM : q_ModB E) {s : Nat} (h : s < 10) : q_X 28 0 [.ref 146, .int (nI s)] [] E g Q = Q (some (.int (g 147 (107 + 3 * s + 1)))) E g := by
  obtain ⟨m1, m2, m3, m4, m5, m6, m7⟩ := hM
  simp (disch := omega) only [x28_0, x28_1, x28_4, x28_6, x28_7, x28_8, x28_9, x28_10, x28_11, x28_12, x28_13, nI_add, pk_mul, q_cl31, q_vin, q_le, q_lt, q_eqn, q_b_0, q_b_t, q_b_f, q_nz, q_nz1, q_nz0, q_tl, q_tn, true_and, and_true, not_true_eq_false, not_false_eq_true, ite_true, ite_false, ↓reduceIte, true_or, or_true, and_self, ne_eq, q_or1, q_or2, Nat.add_eq_zero_iff, and_false, false_and, List.length_cons, List.length_nil, reduceCtorEq, q_toI, Nat.zero_add, Nat.le_refl, q_c0, q_c1, q_c2, q_c4, q_c9, q_c12, q_c30, q_c99, q_c100, q_c126, q_c32, q_c359, q_c999, m1, m2, m5]
theorem s_isVerse (hM : q_ModB E) {m : Nat} (hm : m < 1000) (h : g 147 10 = nI m) (x : Int32) : q_X 75 0 [.ref 146, .int x] [] E g Q = Q (some (.int (q_b (q_ir 0 ((m : Int) - 1) x)))) E g := by
  obtain ⟨m1, m2, m3, m4, m5, m6, m7⟩ := hM
  simp (disch := omega) only [x75_0, x75_1, x75_2, x75_3, x75_6, x75_8, x75_9, x75_10, x75_11, x75_14, nI_add, pk_mul, q_cl31, q_vin, q_le, q_lt, q_eqn, q_b_0, q_b_t, q_b_f, q_nz, q_nz1, q_nz0, q_tl, q_tn, true_and, and_true, not_true_eq_false, not_false_eq_true, ite_true, ite_false, ↓reduceIte, true_or, or_true, and_self, ne_eq, q_or1, q_or2, Nat.add_eq_zero_iff, and_false, false_and, List.length_cons, List.length_nil, reduceCtorEq, q_toI, Nat.zero_add, Nat.le_refl, q_c0, q_c1, q_c2, q_c4, q_c9, q_c12, q_c30, q_c99, q_c100, q_c126, q_c32, q_c359, q_c999, m1, m2, m5, h, s_in]
  rw [pk_sub_toInt (by omega) (by omega)]
  rfl
theorem q_bs_m2 : ∀ i, i < 10 → ∀ j, j < 10 → ∀ (A B : Prop), (if (if i ≤ j then nI j - nI i else nI i - nI j) = nI 5 then A else if (if i ≤ j then nI j - nI i else nI i - nI j) = nI 1 then if nI i / nI 5 = nI j / nI 5 then A else B else B) = if q_bs i j = true then A else B := by
  have h : ∀ i, i < 10 → ∀ j, j < 10 → (decide ((if i ≤ j then nI j - nI i else nI i - nI j) = nI 5) || (decide ((if i ≤ j then nI j - nI i else nI i - nI j) = nI 1) && decide (nI i / nI 5 = nI j / nI 5))) = q_bs i j := by decide +kernel
  intro i hi j hj A B
  rw [← h i hi j hj]
  generalize (if i ≤ j then nI j - nI i else nI i - nI j) = x
  by_cases h1 : x = nI 5
  · simp [h1]
  · by_cases h2 : x = nI 1
    · by_cases h3 : nI i / nI 5 = nI j / nI 5 <;> simp [h2, h3]
    · simp [h1, h2]
theorem s_isBeside {i j : Nat} (hi : i < 10) (hj : j < 10) : q_X 33 0 [.int (nI i), .int (nI j), .null] [] E g Q = Q (some (.int (q_b (q_bs i j)))) E g := by
  have e : ∀ x : Int32, q_X 33 15 [.int (nI i), .int (nI j), .int x] [] E g Q = (if x = nI 5 then Q (some (.int (nI 1))) E g else if x = nI 1 then if nI i / nI 5 = nI j / nI 5 then Q (some (.int (nI 1))) E g else Q (some (.int (nI 0))) E g else Q (some (.int (nI 0))) E g) := by
    intro x
    simp (disch := omega) only [x33_0, x33_1, x33_2, x33_5, x33_6, x33_7, x33_8, x33_11, x33_12, x33_13, x33_14, x33_15, x33_16, x33_17, x33_20, x33_21, x33_22, x33_25, x33_26, x33_27, x33_28, x33_29, x33_30, x33_31, x33_34, x33_35, x33_38, x33_39, nI_add, pk_mul, q_cl31, q_vin, q_le, q_lt, q_eqn, q_b_0, q_b_t, q_b_f, q_nz, q_nz1, q_nz0, q_tl, q_tn, true_and, and_true, not_true_eq_false, not_false_eq_true, ite_true, ite_false, ↓reduceIte, true_or, or_true, and_self, ne_eq, q_or1, q_or2, Nat.add_eq_zero_iff, and_false, false_and, List.length_cons, List.length_nil, reduceCtorEq, q_toI, Nat.zero_add, Nat.le_refl, q_c0, q_c1, q_c2, q_c4, q_c9, q_c12, q_c30, q_c99, q_c100, q_c126, q_c32, q_c359, q_c999, show (nI 5 = 0) = False from by decide]
  have e2 : (if q_bs i j = true then Q (some (.int (nI 1))) E g else Q (some (.int (nI 0))) E g) = Q (some (.int (q_b (q_bs i j)))) E g := by cases q_bs i j <;> rfl
  simp (disch := omega) only [x33_0, x33_1, x33_2, x33_5, x33_6, x33_7, x33_8, x33_11, x33_12, x33_13, x33_14, nI_add, pk_mul, q_cl31, q_vin, q_le, q_lt, q_eqn, q_b_0, q_b_t, q_b_f, q_nz, q_nz1, q_nz0, q_tl, q_tn, true_and, and_true, not_true_eq_false, not_false_eq_true, ite_true, ite_false, ↓reduceIte, true_or, or_true, and_self, ne_eq, q_or1, q_or2, Nat.add_eq_zero_iff, and_false, false_and, List.length_cons, List.length_nil, reduceCtorEq, q_toI, Nat.zero_add, Nat.le_refl, q_c0, q_c1, q_c2, q_c4, q_c9, q_c12, q_c30, q_c99, q_c100, q_c126, q_c32, q_c359, q_c999]
  rw [← e2, ← q_bs_m2 i hi j hj]
  by_cases hij : i ≤ j
  · rw [if_pos hij, if_pos hij, e]
  · rw [if_neg hij, if_neg hij, e]
theorem s_pair {i j : Nat} (hi : i < 12) (hj : j < 12) : q_X 36 0 [.int (nI i), .int (nI j)] [] E g Q = Q (some (.int (nI (q_pr i j)))) E g := by
  simp (disch := omega) only [x36_0, x36_3, x36_4, x36_5, x36_8, x36_10, x36_11, x36_12, x36_13, x36_14, x36_17, x36_19, x36_20, x36_21, x36_22, x36_23, x36_24, nI_add, pk_mul, q_cl31, q_vin, q_le, q_lt, q_eqn, q_b_0, q_b_t, q_b_f, q_nz, q_nz1, q_nz0, q_tl, q_tn, true_and, and_true, not_true_eq_false, not_false_eq_true, ite_true, ite_false, ↓reduceIte, true_or, or_true, and_self, ne_eq, q_or1, q_or2, Nat.add_eq_zero_iff, and_false, false_and, List.length_cons, List.length_nil, reduceCtorEq, q_toI, Nat.zero_add, Nat.le_refl, q_c0, q_c1, q_c2, q_c4, q_c9, q_c12, q_c30, q_c99, q_c100, q_c126, q_c32, q_c359, q_c999]
  unfold q_pr
  rcases Nat.lt_or_ge i j with h | h
  · rw [if_neg (by omega), if_pos h]
  · rw [if_pos h, if_neg (by omega)]
theorem s_onWay (hM : q_ModB E) {q : Nat} (hq : q ≤ 8) (h : g 147 137 = nI q) (x : Int32) : q_X 35 0 [.ref 146, .int x, .null, .null] [] E g Q = Q (some (.int (q_ow (g 147) q x))) E g := by
  obtain ⟨m1, m2, m3, m4, m5, m6, m7⟩ := hM
  have step : ∀ j, j < q → q_X 35 4 [.ref 146, .int x, .int (q_ow (g 147) j x), .int (nI j)] [] E g Q = q_X 35 4 [.ref 146, .int x, .int (q_ow (g 147) (j + 1) x), .int (nI (j + 1))] [] E g Q := by
    intro j hj
    conv => lhs; simp (disch := omega) only [x35_0, x35_1, x35_2, x35_3, x35_4, x35_5, x35_6, x35_9, x35_12, x35_13, x35_16, x35_17, x35_18, x35_21, x35_24, x35_25, x35_26, x35_27, x35_28, x35_29, x35_30, x35_33, x35_34, x35_37, x35_40, x35_41, x35_42, x35_43, x35_44, x35_45, x35_46, x35_47, x35_50, x35_51, x35_52, x35_53, x35_59, x35_60, nI_add, pk_mul, q_cl31, q_vin, q_le, q_lt, q_eqn, q_b_0, q_b_t, q_b_f, q_nz, q_nz1, q_nz0, q_tl, q_tn, true_and, and_true, not_true_eq_false, not_false_eq_true, ite_true, ite_false, ↓reduceIte, true_or, or_true, and_self, ne_eq, q_or1, q_or2, Nat.add_eq_zero_iff, and_false, false_and, List.length_cons, List.length_nil, reduceCtorEq, q_toI, Nat.zero_add, Nat.le_refl, q_c0, q_c1, q_c2, q_c4, q_c9, q_c12, q_c30, q_c99, q_c100, q_c126, q_c32, q_c359, q_c999, m1, m2, m5, h, show (q ≤ j) = False from eq_false (by omega)]
    simp only [x35_56]
    unfold q_ow
    show _ = q_X _ _ [_, _, .int (q_sum _ j + if _ then _ else _), _] _ _ _ _
    by_cases e : g 147 (138 + 3 * j) = x
    · rw [if_pos e, if_pos e]
    · rw [if_neg e, if_neg e]
  have e := q_loop (P := fun j => q_X 35 4 [.ref 146, .int x, .int (q_ow (g 147) j x), .int (nI j)] [] E g Q) step
  simp (disch := omega) only [x35_0, x35_1, x35_2, x35_3, nI_add, pk_mul, q_cl31, q_vin, q_le, q_lt, q_eqn, q_b_0, q_b_t, q_b_f, q_nz, q_nz1, q_nz0, q_tl, q_tn, true_and, and_true, not_true_eq_false, not_false_eq_true, ite_true, ite_false, ↓reduceIte, true_or, or_true, and_self, ne_eq, q_or1, q_or2, Nat.add_eq_zero_iff, and_false, false_and, List.length_cons, List.length_nil, reduceCtorEq, q_toI, Nat.zero_add, Nat.le_refl, q_c0, q_c1, q_c2, q_c4, q_c9, q_c12, q_c30, q_c99, q_c100, q_c126, q_c32, q_c359, q_c999]
  refine e.trans ?_
  simp (disch := omega) only [x35_0, x35_1, x35_2, x35_3, x35_4, x35_5, x35_6, x35_9, x35_12, x35_13, x35_16, x35_17, x35_18, x35_21, x35_24, x35_25, x35_26, x35_27, x35_28, x35_29, x35_30, x35_33, x35_34, x35_37, x35_40, x35_41, x35_42, x35_43, x35_44, x35_45, x35_46, x35_47, x35_50, x35_51, x35_52, x35_53, x35_56, x35_59, x35_60, nI_add, pk_mul, q_cl31, q_vin, q_le, q_lt, q_eqn, q_b_0, q_b_t, q_b_f, q_nz, q_nz1, q_nz0, q_tl, q_tn, true_and, and_true, not_true_eq_false, not_false_eq_true, ite_true, ite_false, ↓reduceIte, true_or, or_true, and_self, ne_eq, q_or1, q_or2, Nat.add_eq_zero_iff, and_false, false_and, List.length_cons, List.length_nil, reduceCtorEq, q_toI, Nat.zero_add, Nat.le_refl, q_c0, q_c1, q_c2, q_c4, q_c9, q_c12, q_c30, q_c99, q_c100, q_c126, q_c32, q_c359, q_c999, m1, m2, m5, h]
end
