/-! the class's text and its rehearsal -/
def q_TexB (E : q_E) : Prop := q_kd E 142 = (10, 5) ∧ q_rf E 142 0 = 143 ∧ q_rf E 142 2 = 144 ∧ q_kd E 143 = (3, 60) ∧ q_kd E 144 = (2, 3)
/-- the text t, n long -/
def q_Vtx (g : q_G) (t : Nat → Int32) (n : Nat) : Prop := (g 142 1 = nI n ∧ n ≤ 60) ∧ (∀ i, i < n → g 143 i = t i) ∧ (∀ i, i < n → q_ir 32 126 (t i) = true)
theorem q_nar {j : Nat} (h : j < 128) : (narrow FieldType.char (.int (nI j)) = .int (nI j)) = True ∧ (fits FieldType.char (.int (nI j)) = true) = True := by
  have k : ∀ j, j < 128 → decide (narrow FieldType.char (.int (nI j)) = .int (nI j)) = true ∧ fits FieldType.char (.int (nI j)) = true := by decide +kernel
  obtain ⟨a, b⟩ := k j h
  exact ⟨eq_true (of_decide_eq_true a), eq_true b⟩
theorem q_sg_n {t : Nat → Int32} {n : Nat} (h : ∀ i, i < n → q_ir 32 126 (t i) = true) (p : Nat) : ∃ j : Nat, j < 128 ∧ q_sg t n p = nI j := by
  unfold q_sg
  by_cases c : p < n
  · rw [if_pos c]
    obtain ⟨j, -, j1, j2, -⟩ := q_lo (lo := 32) (n := 126) (h p c) (by omega)
    exact ⟨j, by omega, j2⟩
  · rw [if_neg c]
    exact ⟨0, by omega, rfl⟩
theorem q_sg_na {t : Nat → Int32} {n : Nat} (h : ∀ i, i < n → q_ir 32 126 (t i) = true) (p : Nat) : (narrow FieldType.char (.int (q_sg t n p)) = .int (q_sg t n p)) = True ∧ (fits FieldType.char (.int (q_sg t n p)) = true) = True := by
  obtain ⟨j, h1, h2⟩ := q_sg_n h p
  rw [h2]
  exact q_nar h1
/-- the text's own marks apart, nothing changed -/
def q_Tf (g g' : q_G) : Prop := (∀ b, b ≠ 142 → b ≠ 144 → g' b = g b) ∧ (∀ i, i ≠ 3 → i ≠ 4 → g' 142 i = g 142 i)
theorem q_Tf_r (g : q_G) : q_Tf g g := ⟨fun _ _ _ => rfl, fun _ _ _ => rfl⟩
theorem q_Tf_t {g g' g'' : q_G} (h : q_Tf g g') (h2 : q_Tf g' g'') : q_Tf g g'' := ⟨fun b b1 b2 => (h2.1 b b1 b2).trans (h.1 b b1 b2), fun i i1 i2 => (h2.2 i i1 i2).trans (h.2 i i1 i2)⟩
theorem q_Tf_4 (g : q_G) (x : Int32) : q_Tf g (q_up g 142 4 x) := ⟨fun b b1 _ => q_upf b1, fun i _ i2 => q_upm i2⟩
theorem q_Tf_3 (g : q_G) (x : Int32) : q_Tf g (q_up g 142 3 x) := ⟨fun b b1 _ => q_upf b1, fun i i1 _ => q_upm i1⟩
theorem q_Tf_n (g : q_G) (k : Nat) (x : Int32) : q_Tf g (q_up g 144 k x) := ⟨fun b _ b2 => q_upf b2, fun i _ _ => q_upn (by decide)⟩
theorem q_Vtx_f {g g' : q_G} {t : Nat → Int32} {n : Nat} (h : q_Vtx g t n) (hf : q_Tf g g') : q_Vtx g' t n := ⟨⟨(hf.2 1 (by decide) (by decide)).trans h.1.1, h.1.2⟩, fun i hi => by rw [hf.1 143 (by decide) (by decide)]; exact h.2.1 i hi, h.2.2⟩
section
variable {E : q_E} {t : Nat → Int32} {n : Nat}
theorem c_sign {g : q_G} {Q : Option Value → q_E → q_G → Prop} (hX : q_TexB E) (hV : q_Vtx g t n) {p : Nat} (hp : p ≤ 200) : q_X 19 0 [.ref 142, .int (nI p)] [] E g Q = Q (some (.int (q_sg t n p))) E g := by
  obtain ⟨x1, x2, x3, x4, x5⟩ := hX
  obtain ⟨⟨v1, v2⟩, v3, v4⟩ := hV
  have na := (q_sg_na v4 p).1
  unfold q_sg at na ⊢
  by_cases c : p < n
  · rw [if_pos c] at na ⊢
    simp (disch := omega) only [x19_0, x19_1, x19_4, x19_5, x19_6, x19_9, x19_12, x19_13, x19_16, x19_17, x19_18, x19_21, x19_22, nI_add, pk_mul, q_cl31, q_vin, q_le, q_lt, q_eqn, q_b_0, q_b_t, q_b_f, q_nz, q_nz1, q_nz0, q_tl, q_tn, true_and, and_true, not_true_eq_false, not_false_eq_true, ite_true, ite_false, ↓reduceIte, true_or, or_true, and_self, ne_eq, q_or1, q_or2, Nat.add_eq_zero_iff, and_false, false_and, List.length_cons, List.length_nil, reduceCtorEq, q_toI, Nat.zero_add, Nat.le_refl, q_c0, q_c1, q_c2, q_c4, q_c9, q_c12, q_c30, q_c99, q_c100, q_c126, q_c32, q_c359, q_c999, x1, x2, x4, v1, show (n ≤ p) = False from eq_false (by omega), Nat.not_lt_zero, v3, na]
  · rw [if_neg c] at na ⊢
    simp (disch := omega) only [x19_0, x19_1, x19_4, x19_5, x19_6, x19_9, x19_12, x19_13, x19_16, x19_17, x19_18, x19_21, x19_22, nI_add, pk_mul, q_cl31, q_vin, q_le, q_lt, q_eqn, q_b_0, q_b_t, q_b_f, q_nz, q_nz1, q_nz0, q_tl, q_tn, true_and, and_true, not_true_eq_false, not_false_eq_true, ite_true, ite_false, ↓reduceIte, true_or, or_true, and_self, ne_eq, q_or1, q_or2, Nat.add_eq_zero_iff, and_false, false_and, List.length_cons, List.length_nil, reduceCtorEq, q_toI, Nat.zero_add, Nat.le_refl, q_c0, q_c1, q_c2, q_c4, q_c9, q_c12, q_c30, q_c99, q_c100, q_c126, q_c32, q_c359, q_c999, x1, x2, x4, v1, show (n ≤ p) = True from eq_true (by omega), Nat.not_lt_zero, na]
theorem c_parts {g : q_G} {Q : Option Value → q_E → q_G → Prop} (x : Int32) : q_X 18 0 [.int x] [] E g Q = Q (some (.int (nI (q_pt x)))) E g := by
  unfold q_pt
  by_cases c1 : x = nI 118
  · subst c1
    simp (disch := omega) only [x18_0, x18_1, x18_52, x18_53, x18_54, x18_55, x18_56, x18_57, x18_58, x18_59, nI_add, pk_mul, q_cl31, q_vin, q_le, q_lt, q_eqn, q_b_0, q_b_t, q_b_f, q_nz, q_nz1, q_nz0, q_tl, q_tn, true_and, and_true, not_true_eq_false, not_false_eq_true, ite_true, ite_false, ↓reduceIte, true_or, or_true, and_self, ne_eq, q_or1, q_or2, Nat.add_eq_zero_iff, and_false, false_and, List.length_cons, List.length_nil, reduceCtorEq, q_toI, Nat.zero_add, Nat.le_refl, q_c0, q_c1, q_c2, q_c4, q_c9, q_c12, q_c30, q_c99, q_c100, q_c126, q_c32, q_c359, q_c999, Nat.reduceEqDiff]
  by_cases c2 : x = nI 108
  · subst c2
    simp (disch := omega) only [x18_0, x18_1, x18_52, x18_53, x18_54, x18_55, x18_56, x18_57, x18_58, x18_59, nI_add, pk_mul, q_cl31, q_vin, q_le, q_lt, q_eqn, q_b_0, q_b_t, q_b_f, q_nz, q_nz1, q_nz0, q_tl, q_tn, true_and, and_true, not_true_eq_false, not_false_eq_true, ite_true, ite_false, ↓reduceIte, true_or, or_true, and_self, ne_eq, q_or1, q_or2, Nat.add_eq_zero_iff, and_false, false_and, List.length_cons, List.length_nil, reduceCtorEq, q_toI, Nat.zero_add, Nat.le_refl, q_c0, q_c1, q_c2, q_c4, q_c9, q_c12, q_c30, q_c99, q_c100, q_c126, q_c32, q_c359, q_c999, Nat.reduceEqDiff]
  by_cases c3 : x = nI 111
  · subst c3
    simp (disch := omega) only [x18_0, x18_1, x18_52, x18_53, x18_54, x18_55, x18_56, x18_57, x18_58, x18_59, nI_add, pk_mul, q_cl31, q_vin, q_le, q_lt, q_eqn, q_b_0, q_b_t, q_b_f, q_nz, q_nz1, q_nz0, q_tl, q_tn, true_and, and_true, not_true_eq_false, not_false_eq_true, ite_true, ite_false, ↓reduceIte, true_or, or_true, and_self, ne_eq, q_or1, q_or2, Nat.add_eq_zero_iff, and_false, false_and, List.length_cons, List.length_nil, reduceCtorEq, q_toI, Nat.zero_add, Nat.le_refl, q_c0, q_c1, q_c2, q_c4, q_c9, q_c12, q_c30, q_c99, q_c100, q_c126, q_c32, q_c359, q_c999, Nat.reduceEqDiff, or_self]
  by_cases c4 : x = nI 115
  · subst c4
    simp (disch := omega) only [x18_0, x18_1, x18_52, x18_53, x18_54, x18_55, x18_56, x18_57, x18_58, x18_59, nI_add, pk_mul, q_cl31, q_vin, q_le, q_lt, q_eqn, q_b_0, q_b_t, q_b_f, q_nz, q_nz1, q_nz0, q_tl, q_tn, true_and, and_true, not_true_eq_false, not_false_eq_true, ite_true, ite_false, ↓reduceIte, true_or, or_true, and_self, ne_eq, q_or1, q_or2, Nat.add_eq_zero_iff, and_false, false_and, List.length_cons, List.length_nil, reduceCtorEq, q_toI, Nat.zero_add, Nat.le_refl, q_c0, q_c1, q_c2, q_c4, q_c9, q_c12, q_c30, q_c99, q_c100, q_c126, q_c32, q_c359, q_c999, Nat.reduceEqDiff, or_self]
  by_cases c5 : x = nI 100
  · subst c5
    simp (disch := omega) only [x18_0, x18_1, x18_52, x18_53, x18_54, x18_55, x18_56, x18_57, x18_58, x18_59, nI_add, pk_mul, q_cl31, q_vin, q_le, q_lt, q_eqn, q_b_0, q_b_t, q_b_f, q_nz, q_nz1, q_nz0, q_tl, q_tn, true_and, and_true, not_true_eq_false, not_false_eq_true, ite_true, ite_false, ↓reduceIte, true_or, or_true, and_self, ne_eq, q_or1, q_or2, Nat.add_eq_zero_iff, and_false, false_and, List.length_cons, List.length_nil, reduceCtorEq, q_toI, Nat.zero_add, Nat.le_refl, q_c0, q_c1, q_c2, q_c4, q_c9, q_c12, q_c30, q_c99, q_c100, q_c126, q_c32, q_c359, q_c999, Nat.reduceEqDiff, or_self]
  simp (disch := omega) only [x18_0, x18_1, x18_52, x18_53, x18_54, x18_55, x18_56, x18_57, x18_58, x18_59, nI_add, pk_mul, q_cl31, q_vin, q_le, q_lt, q_eqn, q_b_0, q_b_t, q_b_f, q_nz, q_nz1, q_nz0, q_tl, q_tn, true_and, and_true, not_true_eq_false, not_false_eq_true, ite_true, ite_false, ↓reduceIte, true_or, or_true, and_self, ne_eq, q_or1, q_or2, Nat.add_eq_zero_iff, and_false, false_and, List.length_cons, List.length_nil, reduceCtorEq, q_toI, Nat.zero_add, Nat.le_refl, q_c0, q_c1, q_c2, q_c4, q_c9, q_c12, q_c30, q_c99, q_c100, q_c126, q_c32, q_c359, q_c999, c1, c2, c3, c4, c5, or_self]
theorem c_number {g : q_G} {Q : Option Value → q_E → q_G → Prop} (hX : q_TexB E) (hV : q_Vtx g t n) {p k : Nat} (hp : p ≤ 100) (hk : k < 3) (h4 : g 142 4 = nI p) : q_X 59 0 [.ref 142, .int (nI k), .null, .null] [] E g Q = Q (some (.int (q_b (decide (0 < q_nl t n p))))) E (q_up (q_up g 142 4 (nI (p + q_nl t n p))) 144 k (q_nmb t n p)) := by
  obtain ⟨x1, x2, x3, x4, x5⟩ := id hX
  have eV : ∀ i, q_Vtx (q_up g 142 4 (nI (p + i))) t n := fun i => q_Vtx_f hV (q_Tf_4 g _)
  have e4 : ∀ i, (q_up g 142 4 (nI (p + i))) 142 4 = nI (p + i) := fun i => q_upe rfl rfl
  have step : ∀ i, i < 3 → q_dg t n (p + i) = true → q_X 59 4 [.ref 142, .int (nI k), .int (q_nv t n p i), .int (nI i)] [] E (q_up g 142 4 (nI (p + i))) Q = q_X 59 4 [.ref 142, .int (nI k), .int (q_nv t n p (i + 1)), .int (nI (i + 1))] [] E (q_up g 142 4 (nI (p + (i + 1)))) Q := by
    intro i hi hd
    unfold q_dg at hd
    conv => lhs; simp (disch := omega) only [x59_0, x59_1, x59_2, x59_3, x59_4, x59_5, x59_6, x59_9, x59_10, x59_11, x59_14, x59_17, x59_19, x59_21, x59_24, x59_27, x59_28, x59_30, x59_31, x59_32, x59_33, x59_36, x59_39, x59_41, x59_42, x59_43, x59_44, x59_47, x59_48, x59_49, x59_52, x59_53, x59_54, x59_60, x59_61, x59_64, x59_65, x59_66, x59_69, x59_70, x59_73, x59_74, x59_75, x59_76, x59_77, x59_80, x59_81, x59_84, x59_85, nI_add, pk_mul, q_cl31, q_vin, q_le, q_lt, q_eqn, q_b_0, q_b_t, q_b_f, q_nz, q_nz1, q_nz0, q_tl, q_tn, true_and, and_true, not_true_eq_false, not_false_eq_true, ite_true, ite_false, ↓reduceIte, true_or, or_true, and_self, ne_eq, q_or1, q_or2, Nat.add_eq_zero_iff, and_false, false_and, List.length_cons, List.length_nil, reduceCtorEq, q_toI, Nat.zero_add, Nat.le_refl, q_c0, q_c1, q_c2, q_c4, q_c9, q_c12, q_c30, q_c99, q_c100, q_c126, q_c32, q_c359, q_c999, x1, s_isWithin, q_c48, q_c57, c_sign hX (eV i) (show p + i ≤ 200 by omega), e4, hd, q_upu, show (3 ≤ i) = False from eq_false (by omega)]
    simp only [x59_57]
    rfl
  have stop : ∀ i, i ≤ 3 → (i = 3 ∨ q_dg t n (p + i) = false) → q_X 59 4 [.ref 142, .int (nI k), .int (q_nv t n p i), .int (nI i)] [] E (q_up g 142 4 (nI (p + i))) Q = Q (some (.int (q_b (decide (0 < i))))) E (q_up (q_up g 142 4 (nI (p + i))) 144 k (q_nv t n p i)) := by
    intro i hi hd
    have fin : q_X 59 60 [.ref 142, .int (nI k), .int (q_nv t n p i), .int (nI i)] [] E (q_up g 142 4 (nI (p + i))) Q = Q (some (.int (q_b (decide (0 < i))))) E (q_up (q_up g 142 4 (nI (p + i))) 144 k (q_nv t n p i)) := by
      by_cases z : i = 0
      · subst z
        simp (disch := omega) only [x59_0, x59_1, x59_2, x59_3, x59_4, x59_5, x59_6, x59_9, x59_10, x59_11, x59_14, x59_17, x59_19, x59_21, x59_24, x59_27, x59_28, x59_30, x59_31, x59_32, x59_33, x59_36, x59_39, x59_41, x59_42, x59_43, x59_44, x59_47, x59_48, x59_49, x59_52, x59_53, x59_54, x59_60, x59_61, x59_64, x59_65, x59_66, x59_69, x59_70, x59_73, x59_74, x59_75, x59_76, x59_77, x59_80, x59_81, x59_84, x59_85, nI_add, pk_mul, q_cl31, q_vin, q_le, q_lt, q_eqn, q_b_0, q_b_t, q_b_f, q_nz, q_nz1, q_nz0, q_tl, q_tn, true_and, and_true, not_true_eq_false, not_false_eq_true, ite_true, ite_false, ↓reduceIte, true_or, or_true, and_self, ne_eq, q_or1, q_or2, Nat.add_eq_zero_iff, and_false, false_and, List.length_cons, List.length_nil, reduceCtorEq, q_toI, Nat.zero_add, Nat.le_refl, q_c0, q_c1, q_c2, q_c4, q_c9, q_c12, q_c30, q_c99, q_c100, q_c126, q_c32, q_c359, q_c999, x1, x3, x5, show (3 ≤ k) = False from eq_false (by omega), Nat.not_lt_zero]
        simp [q_b]
      · simp (disch := omega) only [x59_0, x59_1, x59_2, x59_3, x59_4, x59_5, x59_6, x59_9, x59_10, x59_11, x59_14, x59_17, x59_19, x59_21, x59_24, x59_27, x59_28, x59_30, x59_31, x59_32, x59_33, x59_36, x59_39, x59_41, x59_42, x59_43, x59_44, x59_47, x59_48, x59_49, x59_52, x59_53, x59_54, x59_60, x59_61, x59_64, x59_65, x59_66, x59_69, x59_70, x59_73, x59_74, x59_75, x59_76, x59_77, x59_80, x59_81, x59_84, x59_85, nI_add, pk_mul, q_cl31, q_vin, q_le, q_lt, q_eqn, q_b_0, q_b_t, q_b_f, q_nz, q_nz1, q_nz0, q_tl, q_tn, true_and, and_true, not_true_eq_false, not_false_eq_true, ite_true, ite_false, ↓reduceIte, true_or, or_true, and_self, ne_eq, q_or1, q_or2, Nat.add_eq_zero_iff, and_false, false_and, List.length_cons, List.length_nil, reduceCtorEq, q_toI, Nat.zero_add, Nat.le_refl, q_c0, q_c1, q_c2, q_c4, q_c9, q_c12, q_c30, q_c99, q_c100, q_c126, q_c32, q_c359, q_c999, x1, x3, x5, show (3 ≤ k) = False from eq_false (by omega), Nat.not_lt_zero, show (i ≤ 0) = False from eq_false (by omega)]
        simp [q_b, show 0 < i by omega]
    rw [← fin]
    rcases hd with rfl | hd
    · simp (disch := omega) only [x59_4, x59_5, x59_6, nI_add, pk_mul, q_cl31, q_vin, q_le, q_lt, q_eqn, q_b_0, q_b_t, q_b_f, q_nz, q_nz1, q_nz0, q_tl, q_tn, true_and, and_true, not_true_eq_false, not_false_eq_true, ite_true, ite_false, ↓reduceIte, true_or, or_true, and_self, ne_eq, q_or1, q_or2, Nat.add_eq_zero_iff, and_false, false_and, List.length_cons, List.length_nil, reduceCtorEq, q_toI, Nat.zero_add, Nat.le_refl, q_c0, q_c1, q_c2, q_c4, q_c9, q_c12, q_c30, q_c99, q_c100, q_c126, q_c32, q_c359, q_c999]
    · by_cases z : i = 3
      · subst z
        simp (disch := omega) only [x59_4, x59_5, x59_6, nI_add, pk_mul, q_cl31, q_vin, q_le, q_lt, q_eqn, q_b_0, q_b_t, q_b_f, q_nz, q_nz1, q_nz0, q_tl, q_tn, true_and, and_true, not_true_eq_false, not_false_eq_true, ite_true, ite_false, ↓reduceIte, true_or, or_true, and_self, ne_eq, q_or1, q_or2, Nat.add_eq_zero_iff, and_false, false_and, List.length_cons, List.length_nil, reduceCtorEq, q_toI, Nat.zero_add, Nat.le_refl, q_c0, q_c1, q_c2, q_c4, q_c9, q_c12, q_c30, q_c99, q_c100, q_c126, q_c32, q_c359, q_c999]
      · unfold q_dg at hd
        simp (disch := omega) only [x59_4, x59_5, x59_6, x59_9, x59_10, x59_11, x59_14, x59_17, x59_19, x59_21, x59_24, nI_add, pk_mul, q_cl31, q_vin, q_le, q_lt, q_eqn, q_b_0, q_b_t, q_b_f, q_nz, q_nz1, q_nz0, q_tl, q_tn, true_and, and_true, not_true_eq_false, not_false_eq_true, ite_true, ite_false, ↓reduceIte, true_or, or_true, and_self, ne_eq, q_or1, q_or2, Nat.add_eq_zero_iff, and_false, false_and, List.length_cons, List.length_nil, reduceCtorEq, q_toI, Nat.zero_add, Nat.le_refl, q_c0, q_c1, q_c2, q_c4, q_c9, q_c12, q_c30, q_c99, q_c100, q_c126, q_c32, q_c359, q_c999, x1, s_isWithin, q_c48, q_c57, c_sign hX (eV i) (show p + i ≤ 200 by omega), e4, hd, show (3 ≤ i) = False from eq_false (by omega)]
  have beg : q_X 59 0 [.ref 142, .int (nI k), .null, .null] [] E g Q = q_X 59 4 [.ref 142, .int (nI k), .int (q_nv t n p 0), .int (nI 0)] [] E (q_up g 142 4 (nI (p + 0))) Q := by
    rw [q_up_id (show g 142 4 = nI (p + 0) from h4)]
    simp (disch := omega) only [x59_0, x59_1, x59_2, x59_3, nI_add, pk_mul, q_cl31, q_vin, q_le, q_lt, q_eqn, q_b_0, q_b_t, q_b_f, q_nz, q_nz1, q_nz0, q_tl, q_tn, true_and, and_true, not_true_eq_false, not_false_eq_true, ite_true, ite_false, ↓reduceIte, true_or, or_true, and_self, ne_eq, q_or1, q_or2, Nat.add_eq_zero_iff, and_false, false_and, List.length_cons, List.length_nil, reduceCtorEq, q_toI, Nat.zero_add, Nat.le_refl, q_c0, q_c1, q_c2, q_c4, q_c9, q_c12, q_c30, q_c99, q_c100, q_c126, q_c32, q_c359, q_c999, q_nv]
  rw [beg]
  unfold q_nmb
  cases d0 : q_dg t n p
  · have l : q_nl t n p = 0 := by unfold q_nl; rw [d0]; rfl
    rw [l]
    exact stop 0 (by omega) (Or.inr d0)
  · rw [step 0 (by omega) d0]
    cases d1 : q_dg t n (p + 1)
    · have l : q_nl t n p = 1 := by unfold q_nl; rw [d0, d1]; rfl
      rw [l]
      exact stop 1 (by omega) (Or.inr d1)
    · rw [step 1 (by omega) d1]
      cases d2 : q_dg t n (p + 2)
      · have l : q_nl t n p = 2 := by unfold q_nl; rw [d0, d1, d2]; rfl
        rw [l]
        exact stop 2 (by omega) (Or.inr d2)
      · have l : q_nl t n p = 3 := by unfold q_nl; rw [d0, d1, d2]; rfl
        rw [step 2 (by omega) d2, l]
        exact stop 3 (by omega) (Or.inl rfl)
/-- the numbers of an order, d of them from the i-th on -/
theorem c_nums (hX : q_TexB E) {m : Nat} (hm : m ≤ 3) (s : Int32) : ∀ d i p (g : q_G) (L4 : Value), i + d = m → p ≤ 100 - 4 * d → q_Vtx g t n → g 142 4 = nI p → ∃ g' : q_G, (∀ Q : Option Value → q_E → q_G → Prop, q_X 100 40 [.ref 142, .int s, .int (nI m), .int (nI i), L4] [] E g Q = Q (some (.int (q_b (if d = 0 then (true, p) else q_rmo t n d p).1))) E g') ∧ q_Tf g g' ∧ g' 142 3 = g 142 3 ∧ g' 142 4 = nI (if d = 0 then (true, p) else q_rmo t n d p).2 ∧ (∀ j, j < i → g' 144 j = g 144 j) ∧ ((if d = 0 then (true, p) else q_rmo t n d p).1 = true → (1 ≤ d → g' 144 i = q_nmb t n p) ∧ (2 ≤ d → g' 144 (i + 1) = q_nmb t n (q_nx t n p)) ∧ (3 ≤ d → g' 144 (i + 2) = q_nmb t n (q_nx t n (q_nx t n p)))) := by
  obtain ⟨x1, x2, x3, x4, x5⟩ := id hX
  intro d
  induction d with
  | zero =>
    intro i p g L4 hi hp hV h4
    refine ⟨g, fun Q => ?_, q_Tf_r g, rfl, h4, fun _ _ => rfl, fun _ => ⟨fun h => by omega, fun h => by omega, fun h => by omega⟩⟩
    simp (disch := omega) only [x100_0, x100_1, x100_2, x100_5, x100_6, x100_7, x100_8, x100_11, x100_14, x100_15, x100_18, x100_21, x100_22, x100_23, x100_26, x100_27, x100_28, x100_29, x100_30, x100_33, x100_34, x100_35, x100_38, x100_39, x100_40, x100_41, x100_42, x100_45, x100_46, x100_47, x100_48, x100_49, x100_52, x100_54, x100_57, x100_59, x100_61, x100_62, x100_63, x100_66, x100_69, x100_70, x100_71, x100_74, x100_77, x100_79, x100_82, x100_83, x100_84, x100_85, x100_86, x100_89, x100_90, x100_91, x100_94, x100_100, x100_101, nI_add, pk_mul, q_cl31, q_vin, q_le, q_lt, q_eqn, q_b_0, q_b_t, q_b_f, q_nz, q_nz1, q_nz0, q_tl, q_tn, true_and, and_true, not_true_eq_false, not_false_eq_true, ite_true, ite_false, ↓reduceIte, true_or, or_true, and_self, ne_eq, q_or1, q_or2, Nat.add_eq_zero_iff, and_false, false_and, List.length_cons, List.length_nil, reduceCtorEq, q_toI, Nat.zero_add, Nat.le_refl, q_c0, q_c1, q_c2, q_c4, q_c9, q_c12, q_c30, q_c99, q_c100, q_c126, q_c32, q_c359, q_c999, show (m ≤ i) = True from eq_true (by omega)]
  | succ d ih =>
    intro i p g L4 hi hp hV h4
    rw [if_neg (show ¬ d + 1 = 0 by omega), q_rmo_s]
    have num := fun Q => c_number (Q := Q) hX hV (p := p) (k := i) (by omega) (by omega) h4
    have l3 := q_nl_le t n p
    have hf : q_Tf g (q_up (q_up g 142 4 (nI (p + q_nl t n p))) 144 i (q_nmb t n p)) := q_Tf_t (q_Tf_4 g _) (q_Tf_n _ _ _)
    have h1V := q_Vtx_f hV hf
    have h14 : (q_up (q_up g 142 4 (nI (p + q_nl t n p))) 144 i (q_nmb t n p)) 142 4 = nI (p + q_nl t n p) := by rw [q_upn (by decide)]; exact q_upe rfl rfl
    have h13 : (q_up (q_up g 142 4 (nI (p + q_nl t n p))) 144 i (q_nmb t n p)) 142 3 = g 142 3 := by rw [q_upn (by decide), q_upm (by decide)]
    have hlow : ∀ j, j < i → (q_up (q_up g 142 4 (nI (p + q_nl t n p))) 144 i (q_nmb t n p)) 144 j = g 144 j := fun j hj => by rw [q_upm (by omega), q_upf (by decide)]
    have hat : (q_up (q_up g 142 4 (nI (p + q_nl t n p))) 144 i (q_nmb t n p)) 144 i = q_nmb t n p := q_upe rfl rfl
    generalize q_up (q_up g 142 4 (nI (p + q_nl t n p))) 144 i (q_nmb t n p) = g1 at *
    have sg := fun Q => c_sign (Q := Q) hX h1V (p := p + q_nl t n p) (by omega)
    have cl : ∀ Q : Option Value → q_E → q_G → Prop, q_X 100 40 [.ref 142, .int s, .int (nI m), .int (nI i), L4] [] E g Q = q_X 100 61 [.ref 142, .int s, .int (nI m), .int (nI i), .int (if d = 0 then nI 59 else nI 44)] [] E g Q := by
      intro Q
      by_cases z : d = 0
      · rw [if_pos z]
        simp (disch := omega) only [x100_40, x100_41, x100_42, x100_45, x100_46, x100_47, x100_48, x100_49, x100_52, x100_54, x100_57, x100_59, nI_add, pk_mul, q_cl31, q_vin, q_le, q_lt, q_eqn, q_b_0, q_b_t, q_b_f, q_nz, q_nz1, q_nz0, q_tl, q_tn, true_and, and_true, not_true_eq_false, not_false_eq_true, ite_true, ite_false, ↓reduceIte, true_or, or_true, and_self, ne_eq, q_or1, q_or2, Nat.add_eq_zero_iff, and_false, false_and, List.length_cons, List.length_nil, reduceCtorEq, q_toI, Nat.zero_add, Nat.le_refl, q_c0, q_c1, q_c2, q_c4, q_c9, q_c12, q_c30, q_c99, q_c100, q_c126, q_c32, q_c359, q_c999, show (m ≤ i) = False from eq_false (by omega), pk_sub, show (m - 1 ≤ i) = True from eq_true (by omega)]
      · rw [if_neg z]
        simp (disch := omega) only [x100_40, x100_41, x100_42, x100_45, x100_46, x100_47, x100_48, x100_49, x100_52, x100_54, x100_57, x100_59, nI_add, pk_mul, q_cl31, q_vin, q_le, q_lt, q_eqn, q_b_0, q_b_t, q_b_f, q_nz, q_nz1, q_nz0, q_tl, q_tn, true_and, and_true, not_true_eq_false, not_false_eq_true, ite_true, ite_false, ↓reduceIte, true_or, or_true, and_self, ne_eq, q_or1, q_or2, Nat.add_eq_zero_iff, and_false, false_and, List.length_cons, List.length_nil, reduceCtorEq, q_toI, Nat.zero_add, Nat.le_refl, q_c0, q_c1, q_c2, q_c4, q_c9, q_c12, q_c30, q_c99, q_c100, q_c126, q_c32, q_c359, q_c999, show (m ≤ i) = False from eq_false (by omega), pk_sub, show (m - 1 ≤ i) = False from eq_false (by omega)]
    by_cases z : q_nl t n p = 0
    · have z2 : decide (0 < q_nl t n p) = false := decide_eq_false (by omega)
      rw [if_pos z]
      refine ⟨g1, fun Q => ?_, hf, h13, by rw [h14, z]; rfl, hlow, fun h => (by cases h)⟩
      rw [cl Q]
      simp (disch := omega) only [x100_0, x100_1, x100_2, x100_5, x100_6, x100_7, x100_8, x100_11, x100_14, x100_15, x100_18, x100_21, x100_22, x100_23, x100_26, x100_27, x100_28, x100_29, x100_30, x100_33, x100_34, x100_35, x100_38, x100_39, x100_40, x100_41, x100_42, x100_45, x100_46, x100_47, x100_48, x100_49, x100_52, x100_54, x100_57, x100_59, x100_61, x100_62, x100_63, x100_66, x100_69, x100_70, x100_71, x100_74, x100_77, x100_79, x100_82, x100_83, x100_84, x100_85, x100_86, x100_89, x100_90, x100_91, x100_94, x100_100, x100_101, nI_add, pk_mul, q_cl31, q_vin, q_le, q_lt, q_eqn, q_b_0, q_b_t, q_b_f, q_nz, q_nz1, q_nz0, q_tl, q_tn, true_and, and_true, not_true_eq_false, not_false_eq_true, ite_true, ite_false, ↓reduceIte, true_or, or_true, and_self, ne_eq, q_or1, q_or2, Nat.add_eq_zero_iff, and_false, false_and, List.length_cons, List.length_nil, reduceCtorEq, q_toI, Nat.zero_add, Nat.le_refl, q_c0, q_c1, q_c2, q_c4, q_c9, q_c12, q_c30, q_c99, q_c100, q_c126, q_c32, q_c359, q_c999, x1, num, z2]
    · have z2 : decide (0 < q_nl t n p) = true := decide_eq_true (by omega)
      rw [if_neg z]
      unfold q_aft
      by_cases c : q_sg t n (p + q_nl t n p) = if d = 0 then nI 59 else nI 44
      · rw [if_pos c]
        have hf2 := q_Tf_4 g1 (nI (p + q_nl t n p + 1))
        obtain ⟨g', i1, i2, i3, i4, i5, i6⟩ := ih (i + 1) (p + q_nl t n p + 1) (q_up g1 142 4 (nI (p + q_nl t n p + 1))) (.int (if d = 0 then nI 59 else nI 44)) (by omega) (by omega) (q_Vtx_f h1V hf2) (q_upe rfl rfl)
        refine ⟨g', fun Q => ?_, q_Tf_t hf (q_Tf_t hf2 i2), ?_, i4, fun j hj => ?_, fun h => ?_⟩
        · rw [cl Q, ← i1 Q]
          conv => lhs; simp (disch := omega) only [x100_0, x100_1, x100_2, x100_5, x100_6, x100_7, x100_8, x100_11, x100_14, x100_15, x100_18, x100_21, x100_22, x100_23, x100_26, x100_27, x100_28, x100_29, x100_30, x100_33, x100_34, x100_35, x100_38, x100_39, x100_40, x100_41, x100_42, x100_45, x100_46, x100_47, x100_48, x100_49, x100_52, x100_54, x100_57, x100_59, x100_61, x100_62, x100_63, x100_66, x100_69, x100_70, x100_71, x100_74, x100_77, x100_79, x100_82, x100_83, x100_84, x100_85, x100_86, x100_89, x100_90, x100_91, x100_94, x100_100, x100_101, nI_add, pk_mul, q_cl31, q_vin, q_le, q_lt, q_eqn, q_b_0, q_b_t, q_b_f, q_nz, q_nz1, q_nz0, q_tl, q_tn, true_and, and_true, not_true_eq_false, not_false_eq_true, ite_true, ite_false, ↓reduceIte, true_or, or_true, and_self, ne_eq, q_or1, q_or2, Nat.add_eq_zero_iff, and_false, false_and, List.length_cons, List.length_nil, reduceCtorEq, q_toI, Nat.zero_add, Nat.le_refl, q_c0, q_c1, q_c2, q_c4, q_c9, q_c12, q_c30, q_c99, q_c100, q_c126, q_c32, q_c359, q_c999, x1, num, z2, sg, c, h14]
          simp only [x100_97]
        · rw [i3, q_upm (by decide), h13]
        · rw [i5 j (by omega), q_upf (by decide), hlow j hj]
        · obtain ⟨a1, a2, a3⟩ := i6 h
          refine ⟨fun _ => ?_, fun h2 => a1 (by omega), fun h3 => a2 (by omega)⟩
          rw [i5 i (by omega), q_upf (by decide), hat]
      · rw [if_neg c]
        refine ⟨g1, fun Q => ?_, hf, h13, h14, hlow, fun h => (by cases h)⟩
        rw [cl Q]
        simp (disch := omega) only [x100_0, x100_1, x100_2, x100_5, x100_6, x100_7, x100_8, x100_11, x100_14, x100_15, x100_18, x100_21, x100_22, x100_23, x100_26, x100_27, x100_28, x100_29, x100_30, x100_33, x100_34, x100_35, x100_38, x100_39, x100_40, x100_41, x100_42, x100_45, x100_46, x100_47, x100_48, x100_49, x100_52, x100_54, x100_57, x100_59, x100_61, x100_62, x100_63, x100_66, x100_69, x100_70, x100_71, x100_74, x100_77, x100_79, x100_82, x100_83, x100_84, x100_85, x100_86, x100_89, x100_90, x100_91, x100_94, x100_100, x100_101, nI_add, pk_mul, q_cl31, q_vin, q_le, q_lt, q_eqn, q_b_0, q_b_t, q_b_f, q_nz, q_nz1, q_nz0, q_tl, q_tn, true_and, and_true, not_true_eq_false, not_false_eq_true, ite_true, ite_false, ↓reduceIte, true_or, or_true, and_self, ne_eq, q_or1, q_or2, Nat.add_eq_zero_iff, and_false, false_and, List.length_cons, List.length_nil, reduceCtorEq, q_toI, Nat.zero_add, Nat.le_refl, q_c0, q_c1, q_c2, q_c4, q_c9, q_c12, q_c30, q_c99, q_c100, q_c126, q_c32, q_c359, q_c999, x1, num, z2, sg, c, h14]
theorem c_rorder (hX : q_TexB E) {g : q_G} (hV : q_Vtx g t n) {p : Nat} (hp : p ≤ 60) : ∃ g' : q_G, (∀ Q : Option Value → q_E → q_G → Prop, q_X 100 0 [.ref 142, .int (nI p), .null, .null, .null] [] E g Q = Q (some (.int (q_b (q_ro t n p).1))) E g') ∧ q_Tf g g' ∧ g' 142 3 = q_sg t n p ∧ g' 142 4 = nI (q_ro t n p).2 ∧ ((q_ro t n p).1 = true → g' 144 0 = q_nmb t n (p + 1) ∧ (2 ≤ q_pt (q_sg t n p) → g' 144 1 = q_nmb t n (q_nx t n (p + 1))) ∧ (3 ≤ q_pt (q_sg t n p) → g' 144 2 = q_nmb t n (q_nx t n (q_nx t n (p + 1))))) := by
  obtain ⟨x1, x2, x3, x4, x5⟩ := id hX
  obtain ⟨na1, na2⟩ := q_sg_na hV.2.2 p
  have hf0 := q_Tf_t (q_Tf_4 g (nI p)) (q_Tf_3 _ (q_sg t n p))
  have sg := fun Q => c_sign (Q := Q) hX (q_Vtx_f hV (q_Tf_4 g (nI p))) (p := p) (by omega)
  have h3 := q_pt3 (q_sg t n p)
  unfold q_ro
  by_cases z : q_pt (q_sg t n p) = 0
  · rw [if_pos z]
    refine ⟨_, fun Q => ?_, hf0, q_upe rfl rfl, by rw [q_upm (by decide)]; exact q_upe rfl rfl, fun h => (by cases h)⟩
    simp (disch := omega) only [x100_0, x100_1, x100_2, x100_5, x100_6, x100_7, x100_8, x100_11, x100_14, x100_15, x100_18, x100_21, x100_22, x100_23, x100_26, x100_27, x100_28, x100_29, x100_30, x100_33, x100_34, x100_35, x100_38, x100_39, x100_40, x100_41, x100_42, x100_45, x100_46, x100_47, x100_48, x100_49, x100_52, x100_54, x100_57, x100_59, x100_61, x100_62, x100_63, x100_66, x100_69, x100_70, x100_71, x100_74, x100_77, x100_79, x100_82, x100_83, x100_84, x100_85, x100_86, x100_89, x100_90, x100_91, x100_94, x100_100, x100_101, nI_add, pk_mul, q_cl31, q_vin, q_le, q_lt, q_eqn, q_b_0, q_b_t, q_b_f, q_nz, q_nz1, q_nz0, q_tl, q_tn, true_and, and_true, not_true_eq_false, not_false_eq_true, ite_true, ite_false, ↓reduceIte, true_or, or_true, and_self, ne_eq, q_or1, q_or2, Nat.add_eq_zero_iff, and_false, false_and, List.length_cons, List.length_nil, reduceCtorEq, q_toI, Nat.zero_add, Nat.le_refl, q_c0, q_c1, q_c2, q_c4, q_c9, q_c12, q_c30, q_c99, q_c100, q_c126, q_c32, q_c359, q_c999, x1, sg, na1, na2, q_ups, c_parts, z]
  · rw [if_neg z]
    have hf1 := q_Tf_t hf0 (q_Tf_4 _ (nI (p + 1)))
    obtain ⟨g', i1, i2, i3, i4, i5, i6⟩ := c_nums (n := n) hX h3 (nI p) (q_pt (q_sg t n p)) 0 (p + 1) (q_up (q_up (q_up g 142 4 (nI p)) 142 3 (q_sg t n p)) 142 4 (nI (p + 1))) .null (by omega) (by omega) (q_Vtx_f hV hf1) (q_upe rfl rfl)
    rw [if_neg z] at i1 i4 i6
    refine ⟨g', fun Q => ?_, q_Tf_t hf1 i2, ?_, i4, fun h => ?_⟩
    · rw [← i1 Q]
      conv => lhs; simp (disch := omega) only [x100_0, x100_1, x100_2, x100_5, x100_6, x100_7, x100_8, x100_11, x100_14, x100_15, x100_18, x100_21, x100_22, x100_23, x100_26, x100_27, x100_28, x100_29, x100_30, x100_33, x100_34, x100_35, x100_38, x100_39, nI_add, pk_mul, q_cl31, q_vin, q_le, q_lt, q_eqn, q_b_0, q_b_t, q_b_f, q_nz, q_nz1, q_nz0, q_tl, q_tn, true_and, and_true, not_true_eq_false, not_false_eq_true, ite_true, ite_false, ↓reduceIte, true_or, or_true, and_self, ne_eq, q_or1, q_or2, Nat.add_eq_zero_iff, and_false, false_and, List.length_cons, List.length_nil, reduceCtorEq, q_toI, Nat.zero_add, Nat.le_refl, q_c0, q_c1, q_c2, q_c4, q_c9, q_c12, q_c30, q_c99, q_c100, q_c126, q_c32, q_c359, q_c999, x1, sg, na1, na2, q_ups, c_parts, z, q_upm, Nat.reduceEqDiff]
    · rw [i3, q_upm (by decide)]; exact q_upe rfl rfl
    · obtain ⟨a1, a2, a3⟩ := i6 h
      exact ⟨a1 (by omega), a2, a3⟩
end
