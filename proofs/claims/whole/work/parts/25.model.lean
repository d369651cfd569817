theorem q_upD (g : q_G) (a i : Nat) (v : Int32) : q_up g a i v = q_upA g a (upd (g a) i v) := rfl
theorem q_upAA (g : q_G) (a : Nat) (f f' : Nat → Int32) : q_upA (q_upA g a f) a f' = q_upA g a f' := by
  funext b
  by_cases h : b = a
  · subst h; rw [q_upA_s, q_upA_s]
  · rw [q_upA_n _ _ h, q_upA_n _ _ h, q_upA_n _ _ h]
theorem q_upAid (g : q_G) (a : Nat) : q_upA g a (g a) = g := by
  funext b
  by_cases h : b = a
  · subst h; rw [q_upA_s]
  · rw [q_upA_n _ _ h]
section
variable {E : q_E} {g : q_G} {Q : Option Value → q_E → q_G → Prop}
theorem s_inRack (hM : q_ModB E) (x : Int32) : q_X 72 0 [.ref 146, .int x, .null, .null] [] E g Q = Q (some (.int (q_ik (g 147) x))) E g := by
  simp (disch := omega) only [x72_0, x72_1, x72_2, x72_3, nI_add, pk_mul, q_cl31, q_vin, q_le, q_lt, q_eqn, q_b_0, q_b_t, q_b_f, q_nz, q_nz1, q_nz0, q_tl, q_tn, true_and, and_true, not_true_eq_false, not_false_eq_true, ite_true, ite_false, ↓reduceIte, true_or, or_true, and_self, ne_eq, q_or1, q_or2, Nat.add_eq_zero_iff, and_false, false_and, List.length_cons, List.length_nil, reduceCtorEq, q_toI, Nat.zero_add, Nat.le_refl, q_c0, q_c1, q_c2, q_c4, q_c9, q_c12, q_c30, q_c99, q_c100, q_c126, q_c32, q_c359, q_c999]
  refine (q_loop (N := 10) (P := fun j => q_X 72 4 [.ref 146, .int x, .int (q_sum (fun k => if g 147 (107 + 3 * k) = x then g 147 (107 + 3 * k + 1) else nI 0) j), .int (nI j)] [] E g Q) (fun j hj => ?_)).trans ?_
  · try dsimp only
    conv => lhs; simp (disch := omega) only [x72_0, x72_1, x72_2, x72_3, x72_4, x72_5, x72_7, x72_10, x72_11, x72_12, x72_13, x72_16, x72_17, x72_20, x72_21, x72_22, x72_25, x72_28, x72_29, x72_30, x72_31, x72_37, x72_38, nI_add, pk_mul, q_cl31, q_vin, q_le, q_lt, q_eqn, q_b_0, q_b_t, q_b_f, q_nz, q_nz1, q_nz0, q_tl, q_tn, true_and, and_true, not_true_eq_false, not_false_eq_true, ite_true, ite_false, ↓reduceIte, true_or, or_true, and_self, ne_eq, q_or1, q_or2, Nat.add_eq_zero_iff, and_false, false_and, List.length_cons, List.length_nil, reduceCtorEq, q_toI, Nat.zero_add, Nat.le_refl, q_c0, q_c1, q_c2, q_c4, q_c9, q_c12, q_c30, q_c99, q_c100, q_c126, q_c32, q_c359, q_c999, s_held hM, s_cards hM, hM.1, hM.2.1, hM.2.2.1, hM.2.2.2.1, hM.2.2.2.2.1, hM.2.2.2.2.2.1, hM.2.2.2.2.2.2, show (10 ≤ j) = False from eq_false (by omega)]
    simp only [x72_34]
    show _ = q_X _ _ [_, _, .int (q_sum _ j + if _ then _ else _), _] _ _ _ _
    by_cases e : g 147 (107 + 3 * j) = x
    · rw [if_pos e, if_pos e]
    · rw [if_neg e, if_neg e]
  · simp (disch := omega) only [x72_0, x72_1, x72_2, x72_3, x72_4, x72_5, x72_7, x72_10, x72_11, x72_12, x72_13, x72_16, x72_17, x72_20, x72_21, x72_22, x72_25, x72_28, x72_29, x72_30, x72_31, x72_34, x72_37, x72_38, nI_add, pk_mul, q_cl31, q_vin, q_le, q_lt, q_eqn, q_b_0, q_b_t, q_b_f, q_nz, q_nz1, q_nz0, q_tl, q_tn, true_and, and_true, not_true_eq_false, not_false_eq_true, ite_true, ite_false, ↓reduceIte, true_or, or_true, and_self, ne_eq, q_or1, q_or2, Nat.add_eq_zero_iff, and_false, false_and, List.length_cons, List.length_nil, reduceCtorEq, q_toI, Nat.zero_add, Nat.le_refl, q_c0, q_c1, q_c2, q_c4, q_c9, q_c12, q_c30, q_c99, q_c100, q_c126, q_c32, q_c359, q_c999]
    rfl
theorem s_besides (hM : q_ModB E) {k : Nat} (hk : k < 10) (x : Int32) : q_X 69 0 [.ref 146, .int (nI k), .int x, .null, .null] [] E g Q = Q (some (.int (q_be (g 147) k x))) E g := by
  simp (disch := omega) only [x69_0, x69_1, x69_2, x69_3, nI_add, pk_mul, q_cl31, q_vin, q_le, q_lt, q_eqn, q_b_0, q_b_t, q_b_f, q_nz, q_nz1, q_nz0, q_tl, q_tn, true_and, and_true, not_true_eq_false, not_false_eq_true, ite_true, ite_false, ↓reduceIte, true_or, or_true, and_self, ne_eq, q_or1, q_or2, Nat.add_eq_zero_iff, and_false, false_and, List.length_cons, List.length_nil, reduceCtorEq, q_toI, Nat.zero_add, Nat.le_refl, q_c0, q_c1, q_c2, q_c4, q_c9, q_c12, q_c30, q_c99, q_c100, q_c126, q_c32, q_c359, q_c999]
  refine (q_loop (N := 10) (P := fun j => q_X 69 5 [.ref 146, .int (nI k), .int x, .int (q_sum (fun j => if q_bs k j = true ∧ g 147 (107 + 3 * j) = x then nI 1 else nI 0) j), .int (nI j)] [] E g Q) (fun j hj => ?_)).trans ?_
  · try dsimp only
    conv => lhs; simp (disch := omega) only [x69_0, x69_1, x69_2, x69_3, x69_5, x69_7, x69_9, x69_12, x69_13, x69_14, x69_16, x69_19, x69_22, x69_23, x69_25, x69_28, x69_29, x69_32, x69_33, x69_36, x69_37, x69_38, x69_39, x69_45, x69_46, nI_add, pk_mul, q_cl31, q_vin, q_le, q_lt, q_eqn, q_b_0, q_b_t, q_b_f, q_nz, q_nz1, q_nz0, q_tl, q_tn, true_and, and_true, not_true_eq_false, not_false_eq_true, ite_true, ite_false, ↓reduceIte, true_or, or_true, and_self, ne_eq, q_or1, q_or2, Nat.add_eq_zero_iff, and_false, false_and, List.length_cons, List.length_nil, reduceCtorEq, q_toI, Nat.zero_add, Nat.le_refl, q_c0, q_c1, q_c2, q_c4, q_c9, q_c12, q_c30, q_c99, q_c100, q_c126, q_c32, q_c359, q_c999, s_held hM, s_isBeside, hk, hM.1, hM.2.1, hM.2.2.1, hM.2.2.2.1, hM.2.2.2.2.1, hM.2.2.2.2.2.1, hM.2.2.2.2.2.2, show (10 ≤ j) = False from eq_false (by omega)]
    simp only [x69_42]
    show _ = q_X _ _ [_, _, _, .int (q_sum _ j + if _ then _ else _), _] _ _ _ _
    by_cases e : g 147 (107 + 3 * j) = x <;> cases hb : q_bs k j <;> simp [e]
  · simp (disch := omega) only [x69_0, x69_1, x69_2, x69_3, x69_5, x69_7, x69_9, x69_12, x69_13, x69_14, x69_16, x69_19, x69_22, x69_23, x69_25, x69_28, x69_29, x69_32, x69_33, x69_36, x69_37, x69_38, x69_39, x69_42, x69_45, x69_46, nI_add, pk_mul, q_cl31, q_vin, q_le, q_lt, q_eqn, q_b_0, q_b_t, q_b_f, q_nz, q_nz1, q_nz0, q_tl, q_tn, true_and, and_true, not_true_eq_false, not_false_eq_true, ite_true, ite_false, ↓reduceIte, true_or, or_true, and_self, ne_eq, q_or1, q_or2, Nat.add_eq_zero_iff, and_false, false_and, List.length_cons, List.length_nil, reduceCtorEq, q_toI, Nat.zero_add, Nat.le_refl, q_c0, q_c1, q_c2, q_c4, q_c9, q_c12, q_c30, q_c99, q_c100, q_c126, q_c32, q_c359, q_c999]
    rfl
theorem s_copies (hM : q_ModB E) {a b : Nat} (ha : a < 6) (hb : b < 6) (hab : a ≠ b) : q_X 30 0 [.ref 146, .int (nI a), .int (nI b), .null] [] E g Q = Q none E (q_upA g 147 (q_cp (g 147) a b)) := by
  obtain ⟨m1, m2, m3, m4, m5, m6, m7⟩ := id hM
  simp (disch := omega) only [x30_0, x30_1, nI_add, pk_mul, q_cl31, q_vin, q_le, q_lt, q_eqn, q_b_0, q_b_t, q_b_f, q_nz, q_nz1, q_nz0, q_tl, q_tn, true_and, and_true, not_true_eq_false, not_false_eq_true, ite_true, ite_false, ↓reduceIte, true_or, or_true, and_self, ne_eq, q_or1, q_or2, Nat.add_eq_zero_iff, and_false, false_and, List.length_cons, List.length_nil, reduceCtorEq, q_toI, Nat.zero_add, Nat.le_refl, q_c0, q_c1, q_c2, q_c4, q_c9, q_c12, q_c30, q_c99, q_c100, q_c126, q_c32, q_c359, q_c999]
  have e0 : g = q_upA g 147 (fun i => if 312 * b ≤ i ∧ i < 312 * b + 0 then g 147 (i - 312 * b + 312 * a) else g 147 i) := by
    rw [show (fun i => if 312 * b ≤ i ∧ i < 312 * b + 0 then g 147 (i - 312 * b + 312 * a) else g 147 i) = g 147 from funext fun i => if_neg (by omega), q_upAid]
  conv => lhs; rw [e0]
  refine (q_loop (N := 312) (P := fun j => q_X 30 2 [.ref 146, .int (nI a), .int (nI b), .int (nI j)] [] E (q_upA g 147 (fun i => if 312 * b ≤ i ∧ i < 312 * b + j then g 147 (i - 312 * b + 312 * a) else g 147 i)) Q) (fun j hj => ?_)).trans ?_
  · try dsimp only
    conv => lhs; simp (disch := omega) only [x30_0, x30_1, x30_2, x30_3, x30_6, x30_9, x30_10, x30_13, x30_16, x30_17, x30_18, x30_19, x30_20, x30_21, x30_24, x30_27, x30_28, x30_29, x30_30, x30_31, x30_32, x30_33, x30_39, nI_add, pk_mul, q_cl31, q_vin, q_le, q_lt, q_eqn, q_b_0, q_b_t, q_b_f, q_nz, q_nz1, q_nz0, q_tl, q_tn, true_and, and_true, not_true_eq_false, not_false_eq_true, ite_true, ite_false, ↓reduceIte, true_or, or_true, and_self, ne_eq, q_or1, q_or2, Nat.add_eq_zero_iff, and_false, false_and, List.length_cons, List.length_nil, reduceCtorEq, q_toI, Nat.zero_add, Nat.le_refl, q_c0, q_c1, q_c2, q_c4, q_c9, q_c12, q_c30, q_c99, q_c100, q_c126, q_c32, q_c359, q_c999, m1, m2, m5, q_upA_s, q_upD, q_upAA, show (312 ≤ j) = False from eq_false (by omega)]
    simp only [x30_36]
    congr 2
    funext i
    try dsimp only
    unfold upd
    by_cases h1 : i = 312 * b + j
    · subst h1
      have hA : ¬ (312 * b ≤ 312 * a + j ∧ 312 * a + j < 312 * b + j) := by omega
      have hB : 312 * b ≤ 312 * b + j ∧ 312 * b + j < 312 * b + (j + 1) := by omega
      rw [if_pos rfl, if_neg hA, if_pos hB]
      congr 1
      omega
    · rw [if_neg h1]
      by_cases h2 : 312 * b ≤ i ∧ i < 312 * b + j
      · have hB : 312 * b ≤ i ∧ i < 312 * b + (j + 1) := by omega
        exact (if_pos h2).trans (if_pos hB).symm
      · have hB : ¬ (312 * b ≤ i ∧ i < 312 * b + (j + 1)) := by omega
        exact (if_neg h2).trans (if_neg hB).symm
  · simp (disch := omega) only [x30_0, x30_1, x30_2, x30_3, x30_6, x30_9, x30_10, x30_13, x30_16, x30_17, x30_18, x30_19, x30_20, x30_21, x30_24, x30_27, x30_28, x30_29, x30_30, x30_31, x30_32, x30_33, x30_36, x30_39, nI_add, pk_mul, q_cl31, q_vin, q_le, q_lt, q_eqn, q_b_0, q_b_t, q_b_f, q_nz, q_nz1, q_nz0, q_tl, q_tn, true_and, and_true, not_true_eq_false, not_false_eq_true, ite_true, ite_false, ↓reduceIte, true_or, or_true, and_self, ne_eq, q_or1, q_or2, Nat.add_eq_zero_iff, and_false, false_and, List.length_cons, List.length_nil, reduceCtorEq, q_toI, Nat.zero_add, Nat.le_refl, q_c0, q_c1, q_c2, q_c4, q_c9, q_c12, q_c30, q_c99, q_c100, q_c126, q_c32, q_c359, q_c999]
    rfl
theorem s_keeps (hM : q_ModB E) : q_X 76 0 [.ref 146] [] E g Q = Q none E (q_upA g 147 (q_cp (g 147) 0 5)) := by
  simp (disch := omega) only [x76_0, x76_1, x76_2, x76_3, x76_6, nI_add, pk_mul, q_cl31, q_vin, q_le, q_lt, q_eqn, q_b_0, q_b_t, q_b_f, q_nz, q_nz1, q_nz0, q_tl, q_tn, true_and, and_true, not_true_eq_false, not_false_eq_true, ite_true, ite_false, ↓reduceIte, true_or, or_true, and_self, ne_eq, q_or1, q_or2, Nat.add_eq_zero_iff, and_false, false_and, List.length_cons, List.length_nil, reduceCtorEq, q_toI, Nat.zero_add, Nat.le_refl, q_c0, q_c1, q_c2, q_c4, q_c9, q_c12, q_c30, q_c99, q_c100, q_c126, q_c32, q_c359, q_c999, s_copies hM, show q_kd E 146 = (13, 8) from hM.1]
theorem s_undo9 (hM : q_ModB E) {st : Nat} (hs : st ≤ 4) (h : g 146 1 = nI st) : q_X 82 0 [.ref 146] [] E g Q = if st = 0 then Q (some (.int (-1000002))) E g else Q (some (.int (nI (st - 1)))) E (q_up (q_upA g 147 (q_cp (g 147) st 0)) 146 1 (nI (st - 1))) := by
  simp (disch := omega) only [x82_0, x82_1, x82_4, x82_7, x82_9, x82_10, x82_11, x82_12, x82_15, x82_16, x82_19, x82_20, x82_21, x82_24, x82_25, x82_26, x82_29, x82_30, x82_33, nI_add, pk_mul, q_cl31, q_vin, q_le, q_lt, q_eqn, q_b_0, q_b_t, q_b_f, q_nz, q_nz1, q_nz0, q_tl, q_tn, true_and, and_true, not_true_eq_false, not_false_eq_true, ite_true, ite_false, ↓reduceIte, true_or, or_true, and_self, ne_eq, q_or1, q_or2, Nat.add_eq_zero_iff, and_false, false_and, List.length_cons, List.length_nil, reduceCtorEq, q_toI, Nat.zero_add, Nat.le_refl, q_c0, q_c1, q_c2, q_c4, q_c9, q_c12, q_c30, q_c99, q_c100, q_c126, q_c32, q_c359, q_c999, h, show q_kd E 146 = (13, 8) from hM.1]
  by_cases h0 : st = 0
  · simp [h0]
  · rw [if_neg h0, if_neg h0]
    simp (disch := omega) only [x82_0, x82_1, x82_4, x82_7, x82_9, x82_10, x82_11, x82_12, x82_15, x82_16, x82_19, x82_20, x82_21, x82_24, x82_25, x82_26, x82_29, x82_30, x82_33, nI_add, pk_mul, q_cl31, q_vin, q_le, q_lt, q_eqn, q_b_0, q_b_t, q_b_f, q_nz, q_nz1, q_nz0, q_tl, q_tn, true_and, and_true, not_true_eq_false, not_false_eq_true, ite_true, ite_false, ↓reduceIte, true_or, or_true, and_self, ne_eq, q_or1, q_or2, Nat.add_eq_zero_iff, and_false, false_and, List.length_cons, List.length_nil, reduceCtorEq, q_toI, Nat.zero_add, Nat.le_refl, q_c0, q_c1, q_c2, q_c4, q_c9, q_c12, q_c30, q_c99, q_c100, q_c126, q_c32, q_c359, q_c999, s_copies hM, h, show q_kd E 146 = (13, 8) from hM.1]
    rw [q_upA_n _ _ (by decide), h, pk_sub (show 1 ≤ st by omega), q_upe rfl rfl]
end
