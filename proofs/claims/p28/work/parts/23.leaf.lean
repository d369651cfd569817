section
variable {E : q_E} {g : q_G} {Q : Option Value → q_E → q_G → Prop}
theorem s_isWithin (v lo hi : Int32) : q_X 17 0 [.int v, .int lo, .int hi] [] E g Q = Q (some (.int (q_b (q_ir lo.toInt hi.toInt v)))) E g := by
  simp (disch := omega) only [x17_0, x17_1, x17_2, x17_5, x17_6, x17_7, x17_10, x17_11, x17_14, x17_15, nI_add, pk_mul, q_cl31, q_vin, q_le, q_lt, q_eqn, q_b_0, q_b_t, q_b_f, q_nz, q_nz1, q_nz0, q_tl, q_tn, true_and, and_true, not_true_eq_false, not_false_eq_true, ite_true, ite_false, ↓reduceIte, true_or, or_true, and_self, ne_eq, q_or1, q_or2, Nat.add_eq_zero_iff, and_false, false_and, List.length_cons, List.length_nil, reduceCtorEq, q_toI, Nat.zero_add, Nat.le_refl, q_c0, q_c1, q_c2, q_c4, q_c9, q_c12, q_c30, q_c99, q_c100, q_c126, q_c32, q_c359, q_c999]
  exact q_irQ (F := fun r => Q (some (.int r)) E g)
theorem s_isSlot (v : Int32) : q_X 39 0 [.int v] [] E g Q = Q (some (.int (q_b (q_ir 0 9 v)))) E g := by
  simp (disch := omega) only [x39_0, x39_1, x39_2, x39_4, x39_7, nI_add, pk_mul, q_cl31, q_vin, q_le, q_lt, q_eqn, q_b_0, q_b_t, q_b_f, q_nz, q_nz1, q_nz0, q_tl, q_tn, true_and, and_true, not_true_eq_false, not_false_eq_true, ite_true, ite_false, ↓reduceIte, true_or, or_true, and_self, ne_eq, q_or1, q_or2, Nat.add_eq_zero_iff, and_false, false_and, List.length_cons, List.length_nil, reduceCtorEq, q_toI, Nat.zero_add, Nat.le_refl, q_c0, q_c1, q_c2, q_c4, q_c9, q_c12, q_c30, q_c99, q_c100, q_c126, q_c32, q_c359, q_c999, s_isWithin]
theorem s_isOccasion (v : Int32) : q_X 38 0 [.int v] [] E g Q = Q (some (.int (q_b (q_ir 0 4 v)))) E g := by
  simp (disch := omega) only [x38_0, x38_1, x38_2, x38_3, x38_6, nI_add, pk_mul, q_cl31, q_vin, q_le, q_lt, q_eqn, q_b_0, q_b_t, q_b_f, q_nz, q_nz1, q_nz0, q_tl, q_tn, true_and, and_true, not_true_eq_false, not_false_eq_true, ite_true, ite_false, ↓reduceIte, true_or, or_true, and_self, ne_eq, q_or1, q_or2, Nat.add_eq_zero_iff, and_false, false_and, List.length_cons, List.length_nil, reduceCtorEq, q_toI, Nat.zero_add, Nat.le_refl, q_c0, q_c1, q_c2, q_c4, q_c9, q_c12, q_c30, q_c99, q_c100, q_c126, q_c32, q_c359, q_c999, s_isWithin]
theorem q_fmod : ∀ a, a < 720 → (if nI 0 ≤ (nI a - nI 360) ^^^ nI 360 then (nI a - nI 360) - (nI a - nI 360) / nI 360 * nI 360 else if (nI a - nI 360) - (nI a - nI 360) / nI 360 * nI 360 = nI 0 then (nI a - nI 360) - (nI a - nI 360) / nI 360 * nI 360 else (nI a - nI 360) - (nI a - nI 360) / nI 360 * nI 360 + nI 360) = nI (a % 360) := by
  have h : ∀ a, a < 720 → decide ((if nI 0 ≤ (nI a - nI 360) ^^^ nI 360 then (nI a - nI 360) - (nI a - nI 360) / nI 360 * nI 360 else if (nI a - nI 360) - (nI a - nI 360) / nI 360 * nI 360 = nI 0 then (nI a - nI 360) - (nI a - nI 360) / nI 360 * nI 360 else (nI a - nI 360) - (nI a - nI 360) / nI 360 * nI 360 + nI 360) = nI (a % 360)) = true := by decide +kernel
  intro a ha
  exact of_decide_eq_true (h a ha)
theorem s_floorMod {a : Nat} {x : Int32} (hx : x = nI a - nI 360) (ha : a < 720) : q_X 0 0 [.int x, .int (nI 360), .null] [] E g Q = Q (some (.int (nI (a % 360)))) E g := by
  subst hx
  simp (disch := omega) only [x0_0, x0_1, x0_2, x0_3, x0_4, x0_5, x0_6, x0_7, x0_10, x0_11, x0_14, x0_15, x0_16, x0_17, x0_18, x0_19, nI_add, pk_mul, q_cl31, q_vin, q_le, q_lt, q_eqn, q_b_0, q_b_t, q_b_f, q_nz, q_nz1, q_nz0, q_tl, q_tn, true_and, and_true, not_true_eq_false, not_false_eq_true, ite_true, ite_false, ↓reduceIte, true_or, or_true, and_self, ne_eq, q_or1, q_or2, Nat.add_eq_zero_iff, and_false, false_and, List.length_cons, List.length_nil, reduceCtorEq, q_toI, Nat.zero_add, Nat.le_refl, q_c0, q_c1, q_c2, q_c4, q_c9, q_c12, q_c30, q_c99, q_c100, q_c126, q_c32, q_c359, q_c999]
  rw [← q_fmod a ha, eq_true (show ¬ nI 360 = 0 by decide), true_and]
  by_cases h1 : nI 0 ≤ (nI a - nI 360) ^^^ nI 360
  · rw [if_pos h1, if_pos h1]
  · rw [if_neg h1, if_neg h1]
    by_cases h2 : nI a - nI 360 - (nI a - nI 360) / nI 360 * nI 360 = nI 0
    · rw [if_pos h2, if_pos h2]
    · rw [if_neg h2, if_neg h2]
theorem q_shift {p t : Nat} (ht : t ≤ p + 360) : nI p - nI t = nI (p + 360 - t) - nI 360 := by
  have e : nI (p + 360 - t) + nI t = nI p + nI 360 := by rw [nI_add, nI_add, Nat.sub_add_cancel ht]
  have e2 : nI (p + 360 - t) = nI p + nI 360 - nI t := by rw [← e]; simp
  rw [e2]
  have : ∀ x y z : Int32, x - z = x + y - z - y := by intro x y z; grind
  exact this _ _ _
theorem s_max (x y : Int32) : q_X 1 0 [.int x, .int y] [] E g Q = Q (some (.int (if x < y then y else x))) E g := by
  simp (disch := omega) only [x1_0, x1_1, x1_2, x1_5, x1_6, x1_9, x1_10, nI_add, pk_mul, q_cl31, q_vin, q_le, q_lt, q_eqn, q_b_0, q_b_t, q_b_f, q_nz, q_nz1, q_nz0, q_tl, q_tn, true_and, and_true, not_true_eq_false, not_false_eq_true, ite_true, ite_false, ↓reduceIte, true_or, or_true, and_self, ne_eq, q_or1, q_or2, Nat.add_eq_zero_iff, and_false, false_and, List.length_cons, List.length_nil, reduceCtorEq, q_toI, Nat.zero_add, Nat.le_refl, q_c0, q_c1, q_c2, q_c4, q_c9, q_c12, q_c30, q_c99, q_c100, q_c126, q_c32, q_c359, q_c999]
  by_cases h : x < y <;> simp [h]
theorem s_min (x y : Int32) : q_X 2 0 [.int x, .int y] [] E g Q = Q (some (.int (if y < x then y else x))) E g := by
  simp (disch := omega) only [x2_0, x2_1, x2_2, x2_5, x2_6, x2_9, x2_10, nI_add, pk_mul, q_cl31, q_vin, q_le, q_lt, q_eqn, q_b_0, q_b_t, q_b_f, q_nz, q_nz1, q_nz0, q_tl, q_tn, true_and, and_true, not_true_eq_false, not_false_eq_true, ite_true, ite_false, ↓reduceIte, true_or, or_true, and_self, ne_eq, q_or1, q_or2, Nat.add_eq_zero_iff, and_false, false_and, List.length_cons, List.length_nil, reduceCtorEq, q_toI, Nat.zero_add, Nat.le_refl, q_c0, q_c1, q_c2, q_c4, q_c9, q_c12, q_c30, q_c99, q_c100, q_c126, q_c32, q_c359, q_c999]
  by_cases h : y < x <;> simp [h]
theorem s_has {v : Nat} (hV : q_VerB E v) (x : Int32) {m : Nat} (hm : m < 1000) (hs : g v 0 = nI m) : q_X 15 0 [.ref v, .int x] [] E g Q = Q (some (.int (q_b (q_ir 0 ((m : Int) - 1) x)))) E g := by
  obtain ⟨h1, -⟩ := hV
  simp (disch := omega) only [x15_0, x15_1, x15_4, x15_5, x15_6, x15_9, x15_12, x15_13, x15_16, x15_17, nI_add, pk_mul, q_cl31, q_vin, q_le, q_lt, q_eqn, q_b_0, q_b_t, q_b_f, q_nz, q_nz1, q_nz0, q_tl, q_tn, true_and, and_true, not_true_eq_false, not_false_eq_true, ite_true, ite_false, ↓reduceIte, true_or, or_true, and_self, ne_eq, q_or1, q_or2, Nat.add_eq_zero_iff, and_false, false_and, List.length_cons, List.length_nil, reduceCtorEq, q_toI, Nat.zero_add, Nat.le_refl, q_c0, q_c1, q_c2, q_c4, q_c9, q_c12, q_c30, q_c99, q_c100, q_c126, q_c32, q_c359, q_c999, h1, hs]
  exact q_irR (F := fun r => Q (some (.int r)) E g) (by omega)
theorem s_dayOfYear {c : Nat} (hC : q_CalB E c) {d : Nat} (hd : d < 10000) (hs : g c 0 = nI d) : q_X 4 0 [.ref c] [] E g Q = Q (some (.int (nI (d % 360)))) E g := by
  obtain ⟨h1, -⟩ := hC
  simp (disch := omega) only [x4_0, x4_1, x4_4, x4_7, x4_8, nI_add, pk_mul, q_cl31, q_vin, q_le, q_lt, q_eqn, q_b_0, q_b_t, q_b_f, q_nz, q_nz1, q_nz0, q_tl, q_tn, true_and, and_true, not_true_eq_false, not_false_eq_true, ite_true, ite_false, ↓reduceIte, true_or, or_true, and_self, ne_eq, q_or1, q_or2, Nat.add_eq_zero_iff, and_false, false_and, List.length_cons, List.length_nil, reduceCtorEq, q_toI, Nat.zero_add, Nat.le_refl, q_c0, q_c1, q_c2, q_c4, q_c9, q_c12, q_c30, q_c99, q_c100, q_c126, q_c32, q_c359, q_c999, h1, hs]
  rw [pk_rem (by omega) (by omega) (by omega)]
  exact propext ⟨fun h => h.2, fun h => ⟨by decide, h⟩⟩
/-- a season, by the year's day, its first and its last one -/
def q_on (t a b : Nat) : Bool := if a ≤ b then decide (a ≤ t) && decide (t ≤ b) else decide (a ≤ t) || decide (t ≤ b)
theorem s_isInSeason {c : Nat} (hC : q_CalB E c) {d a b o : Nat} (hd : d < 10000) (ha : a < 360) (hb : b < 360) (ho : o < 5) (hs : g c 0 = nI d) (h1 : g (c + 1) o = nI a) (h2 : g (c + 2) o = nI b) : q_X 21 0 [.ref c, .int (nI o), .null, .null, .null] [] E g Q = Q (some (.int (q_b (q_on (d % 360) a b)))) E g := by
  obtain ⟨c1, c2, c3, c4, c5⟩ := id hC
  have hm : d % 360 < 360 := Nat.mod_lt _ (by decide)
  simp (disch := omega) only [x21_0, x21_1, x21_4, x21_5, x21_8, x21_9, x21_10, x21_13, x21_14, x21_17, x21_18, x21_19, x21_20, x21_23, x21_24, x21_27, x21_28, x21_29, x21_32, x21_33, x21_36, x21_37, x21_38, x21_39, x21_42, x21_43, x21_44, x21_45, x21_48, x21_49, x21_50, x21_53, x21_54, x21_57, x21_58, x21_60, x21_62, x21_65, x21_66, x21_69, x21_70, x21_73, x21_74, x21_77, x21_78, x21_81, x21_82, x21_85, x21_86, x21_89, x21_90, x21_93, x21_94, nI_add, pk_mul, q_cl31, q_vin, q_le, q_lt, q_eqn, q_b_0, q_b_t, q_b_f, q_nz, q_nz1, q_nz0, q_tl, q_tn, true_and, and_true, not_true_eq_false, not_false_eq_true, ite_true, ite_false, ↓reduceIte, true_or, or_true, and_self, ne_eq, q_or1, q_or2, Nat.add_eq_zero_iff, and_false, false_and, List.length_cons, List.length_nil, reduceCtorEq, q_toI, Nat.zero_add, Nat.le_refl, q_c0, q_c1, q_c2, q_c4, q_c9, q_c12, q_c30, q_c99, q_c100, q_c126, q_c32, q_c359, q_c999, c1, c2, c3, c4, c5, s_dayOfYear hC hd hs, h1, h2]
  simp only [q_on, ← Nat.not_lt]
  by_cases e1 : d % 360 < a <;> by_cases e2 : b < d % 360 <;> by_cases e3 : b < a <;> simp [e1, e2, e3, q_b]
end
