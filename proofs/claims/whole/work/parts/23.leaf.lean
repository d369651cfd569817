section
variable {E : q_E} {g : q_G} {Q : Option Value → q_E → q_G → Prop}
theorem s_isWithin (v lo hi : Int32) : q_X 24 0 [.int v, .int lo, .int hi] [] E g Q = Q (some (.int (q_b (q_ir lo.toInt hi.toInt v)))) E g := by
  simp (disch := omega) only [x24_0, x24_1, x24_2, x24_5, x24_6, x24_7, x24_10, x24_11, x24_14, x24_15, nI_add, pk_mul, q_cl31, q_vin, q_le, q_lt, q_eqn, q_b_0, q_b_t, q_b_f, q_nz, q_nz1, q_nz0, q_tl, q_tn, true_and, and_true, not_true_eq_false, not_false_eq_true, ite_true, ite_false, ↓reduceIte, true_or, or_true, and_self, ne_eq, q_or1, q_or2, Nat.add_eq_zero_iff, and_false, false_and, List.length_cons, List.length_nil, reduceCtorEq, q_toI, Nat.zero_add, Nat.le_refl, q_c0, q_c1, q_c2, q_c4, q_c9, q_c12, q_c30, q_c99, q_c100, q_c126, q_c32, q_c359, q_c999]
  exact q_irQ (F := fun r => Q (some (.int r)) E g)
theorem s_in (v lo hi : Int32) : q_X 32 0 [.int v, .int lo, .int hi] [] E g Q = Q (some (.int (q_b (q_ir lo.toInt hi.toInt v)))) E g := by
  simp (disch := omega) only [x32_0, x32_1, x32_2, x32_5, x32_6, x32_7, x32_10, x32_11, x32_14, x32_15, nI_add, pk_mul, q_cl31, q_vin, q_le, q_lt, q_eqn, q_b_0, q_b_t, q_b_f, q_nz, q_nz1, q_nz0, q_tl, q_tn, true_and, and_true, not_true_eq_false, not_false_eq_true, ite_true, ite_false, ↓reduceIte, true_or, or_true, and_self, ne_eq, q_or1, q_or2, Nat.add_eq_zero_iff, and_false, false_and, List.length_cons, List.length_nil, reduceCtorEq, q_toI, Nat.zero_add, Nat.le_refl, q_c0, q_c1, q_c2, q_c4, q_c9, q_c12, q_c30, q_c99, q_c100, q_c126, q_c32, q_c359, q_c999]
  exact q_irQ (F := fun r => Q (some (.int r)) E g)
theorem s_isSlot (v : Int32) : q_X 63 0 [.int v] [] E g Q = Q (some (.int (q_b (q_ir 0 9 v)))) E g := by
  simp (disch := omega) only [x63_0, x63_1, x63_2, x63_4, x63_7, nI_add, pk_mul, q_cl31, q_vin, q_le, q_lt, q_eqn, q_b_0, q_b_t, q_b_f, q_nz, q_nz1, q_nz0, q_tl, q_tn, true_and, and_true, not_true_eq_false, not_false_eq_true, ite_true, ite_false, ↓reduceIte, true_or, or_true, and_self, ne_eq, q_or1, q_or2, Nat.add_eq_zero_iff, and_false, false_and, List.length_cons, List.length_nil, reduceCtorEq, q_toI, Nat.zero_add, Nat.le_refl, q_c0, q_c1, q_c2, q_c4, q_c9, q_c12, q_c30, q_c99, q_c100, q_c126, q_c32, q_c359, q_c999, s_isWithin]
theorem s_isOccasion (v : Int32) : q_X 62 0 [.int v] [] E g Q = Q (some (.int (q_b (q_ir 0 4 v)))) E g := by
  simp (disch := omega) only [x62_0, x62_1, x62_2, x62_3, x62_6, nI_add, pk_mul, q_cl31, q_vin, q_le, q_lt, q_eqn, q_b_0, q_b_t, q_b_f, q_nz, q_nz1, q_nz0, q_tl, q_tn, true_and, and_true, not_true_eq_false, not_false_eq_true, ite_true, ite_false, ↓reduceIte, true_or, or_true, and_self, ne_eq, q_or1, q_or2, Nat.add_eq_zero_iff, and_false, false_and, List.length_cons, List.length_nil, reduceCtorEq, q_toI, Nat.zero_add, Nat.le_refl, q_c0, q_c1, q_c2, q_c4, q_c9, q_c12, q_c30, q_c99, q_c100, q_c126, q_c32, q_c359, q_c999, s_isWithin]
theorem q_fmod : ∀ a, a < 720 → (if nI 0 ≤ (nI a - nI 360) ^^^ nI 360 then (nI a - nI 360) - (nI a - nI 360) / nI 360 * nI 360 else if (nI a - nI 360) - (nI a - nI 360) / nI 360 * nI 360 = nI 0 then (nI a - nI 360) - (nI a - nI 360) / nI 360 * nI 360 else (nI a - nI 360) - (nI a - nI 360) / nI 360 * nI 360 + nI 360) = nI (a % 360) := by
  have h : ∀ a, a < 720 → decide ((if nI 0 ≤ (nI a - nI 360) ^^^ nI 360 then (nI a - nI 360) - (nI a - nI 360) / nI 360 * nI 360 else if (nI a - nI 360) - (nI a - nI 360) / nI 360 * nI 360 = nI 0 then (nI a - nI 360) - (nI a - nI 360) / nI 360 * nI 360 else (nI a - nI 360) - (nI a - nI 360) / nI 360 * nI 360 + nI 360) = nI (a % 360)) = true := by decide +kernel
  intro a ha
  exact of_decide_eq_true (h a ha)
theorem s_floorMod {a : Nat} {x : Int32} (hx : x = nI a - nI 360) (ha : a < 720) : q_X 0 0 [.int x, .int (nI 360), .null] [] E g Q = Q (some (.int (nI (a % 360)))) E g := by
  subst hx
  simp (disch := omega) only [x0_0, x0_1, x0_2, x0_3, x0_4, x0_5, x0_6, x0_7, x0_10, x0_11, x0_14, x0_15, x0_16, x0_17, x0_18, x0_19, nI_add, pk_mul, q_cl31, q_vin, q_le, q_lt, q_eqn, q_b_0, q_b_t, q_b_f, q_nz, q_nz1, q_nz0, q_tl, q_tn, true_and, and_true, not_true_eq_false, not_false_eq_true, ite_true, ite_false, ↓reduceIte, true_or, or_true, and_self, ne_eq, q_or1, q_or2, Nat.add_eq_zero_iff, and_false, false_and, List.length_cons, List.length_nil, reduceCtorEq, q_toI, Nat.zero_add, Nat.le_refl, q_c0, q_c1, q_c2, q_c4, q_c9, q_c12, q_c30, q_c99, q_c100, q_c126, q_c32, q_c359, q_c999]
  rw [← q_fmod a ha, eq_true (show ¬ nI 360 = 0 by decide), true_and]
  by_cases h1 : nI 0 ≤ (nI a - nI 360) ^^^ nI 360
  · rw [if_pos h1, if_pos h1]
  · rw [if_neg h1, if_neg h1]
    by_cases h2 : nI a - nI 360 - (nI a - nI 360) / nI 360 * nI 360 = nI 0
    · rw [if_pos h2, if_pos h2]
    · rw [if_neg h2, if_neg h2]
theorem q_shift {p t : Nat} (ht : t ≤ p + 360) : nI p - nI t = nI (p + 360 - t) - nI 360 := by
  have e : nI (p + 360 - t) + nI t = nI p + nI 360 := by rw [nI_add, nI_add, Nat.sub_add_cancel ht]
  have e2 : nI (p + 360 - t) = nI p + nI 360 - nI t := by rw [← e]; simp
  rw [e2]
  have : ∀ x y z : Int32, x - z = x + y - z - y := by intro x y z; grind
  exact this _ _ _
theorem s_max (x y : Int32) : q_X 1 0 [.int x, .int y] [] E g Q = Q (some (.int (if x < y then y else x))) E g := by
  simp (disch := omega) only [x1_0, x1_1, x1_2, x1_5, x1_6, x1_9, x1_10, nI_add, pk_mul, q_cl31, q_vin, q_le, q_lt, q_eqn, q_b_0, q_b_t, q_b_f, q_nz, q_nz1, q_nz0, q_tl, q_tn, true_and, and_true, not_true_eq_false, not_false_eq_true, ite_true, ite_false, ↓reduceIte, true_or, or_true, and_self, ne_eq, q_or1, q_or2, Nat.add_eq_zero_iff, and_false, false_and, List.length_cons, List.length_nil, reduceCtorEq, q_toI, Nat.zero_add, Nat.le_refl, q_c0, q_c1, q_c2, q_c4, q_c9, q_c12, q_c30, q_c99, q_c100, q_c126, q_c32, q_c359, q_c999]
  by_cases h : x < y <;> simp [h]
theorem s_min (x y : Int32) : q_X 2 0 [.int x, .int y] [] E g Q = Q (some (.int (if y < x then y else x))) E g := by
  simp (disch := omega) only [x2_0, x2_1, x2_2, x2_5, x2_6, x2_9, x2_10, nI_add, pk_mul, q_cl31, q_vin, q_le, q_lt, q_eqn, q_b_0, q_b_t, q_b_f, q_nz, q_nz1, q_nz0, q_tl, q_tn, true_and, and_true, not_true_eq_false, not_false_eq_true, ite_true, ite_false, ↓reduceIte, true_or, or_true, and_self, ne_eq, q_or1, q_or2, Nat.add_eq_zero_iff, and_false, false_and, List.length_cons, List.length_nil, reduceCtorEq, q_toI, Nat.zero_add, Nat.le_refl, q_c0, q_c1, q_c2, q_c4, q_c9, q_c12, q_c30, q_c99, q_c100, q_c126, q_c32, q_c359, q_c999]
  by_cases h : y < x <;> simp [h]
theorem s_has {v : Nat} (hV : q_VerB E v) (x : Int32) {m : Nat} (hm : m < 1000) (hs : g v 0 = nI m) : q_X 20 0 [.ref v, .int x] [] E g Q = Q (some (.int (q_b (q_ir 0 ((m : Int) - 1) x)))) E g := by
  obtain ⟨h1, -⟩ := hV
  simp (disch := omega) only [x20_0, x20_1, x20_4, x20_5, x20_6, x20_9, x20_12, x20_13, x20_16, x20_17, nI_add, pk_mul, q_cl31, q_vin, q_le, q_lt, q_eqn, q_b_0, q_b_t, q_b_f, q_nz, q_nz1, q_nz0, q_tl, q_tn, true_and, and_true, not_true_eq_false, not_false_eq_true, ite_true, ite_false, ↓reduceIte, true_or, or_true, and_self, ne_eq, q_or1, q_or2, Nat.add_eq_zero_iff, and_false, false_and, List.length_cons, List.length_nil, reduceCtorEq, q_toI, Nat.zero_add, Nat.le_refl, q_c0, q_c1, q_c2, q_c4, q_c9, q_c12, q_c30, q_c99, q_c100, q_c126, q_c32, q_c359, q_c999, h1, hs]
  exact q_irR (F := fun r => Q (some (.int r)) E g) (by omega)
theorem s_dayOfYear {c : Nat} (hC : q_CalB E c) {d : Nat} (hd : d < 10000) (hs : g c 0 = nI d) : q_X 4 0 [.ref c] [] E g Q = Q (some (.int (nI (d % 360)))) E g := by
  obtain ⟨h1, -⟩ := hC
  simp (disch := omega) only [x4_0, x4_1, x4_4, x4_7, x4_8, nI_add, pk_mul, q_cl31, q_vin, q_le, q_lt, q_eqn, q_b_0, q_b_t, q_b_f, q_nz, q_nz1, q_nz0, q_tl, q_tn, true_and, and_true, not_true_eq_false, not_false_eq_true, ite_true, ite_false, ↓reduceIte, true_or, or_true, and_self, ne_eq, q_or1, q_or2, Nat.add_eq_zero_iff, and_false, false_and, List.length_cons, List.length_nil, reduceCtorEq, q_toI, Nat.zero_add, Nat.le_refl, q_c0, q_c1, q_c2, q_c4, q_c9, q_c12, q_c30, q_c99, q_c100, q_c126, q_c32, q_c359, q_c999, h1, hs]
  rw [pk_rem (by omega) (by omega) (by omega)]
  exact propext ⟨fun h => h.2, fun h => ⟨by decide, h⟩⟩
/-- a season, by the year's day, its first and its last one -/
def q_on (t a b : Nat) : Bool := if a ≤ b then decide (a ≤ t) && decide (t ≤ b) else decide (a ≤ t) || decide (t ≤ b)
theorem s_isInSeason {c : Nat} (hC : q_CalB E c) {d a b o : Nat} (hd : d < 10000) (ha : a < 360) (hb : b < 360) (ho : o < 5) (hs : g c 0 = nI d) (h1 : g (c + 1) o = nI a) (h2 : g (c + 2) o = nI b) : q_X 41 0 [.ref c, .int (nI o), .null, .null, .null] [] E g Q = Q (some (.int (q_b (q_on (d % 360) a b)))) E g := by
  obtain ⟨c1, c2, c3, c4, c5⟩ := id hC
  have hm : d % 360 < 360 := Nat.mod_lt _ (by decide)
  simp (disch := omega) only [x41_0, x41_1, x41_4, x41_5, x41_8, x41_9, x41_10, x41_13, x41_14, x41_17, x41_18, x41_19, x41_20, x41_23, x41_24, x41_27, x41_28, x41_29, x41_32, x41_33, x41_36, x41_37, x41_38, x41_39, x41_42, x41_43, x41_44, x41_45, x41_48, x41_49, x41_50, x41_53, x41_54, x41_57, x41_58, x41_60, x41_62, x41_65, x41_66, x41_69, x41_70, x41_73, x41_74, x41_77, x41_78, x41_81, x41_82, x41_85, x41_86, x41_89, x41_90, x41_93, x41_94, nI_add, pk_mul, q_cl31, q_vin, q_le, q_lt, q_eqn, q_b_0, q_b_t, q_b_f, q_nz, q_nz1, q_nz0, q_tl, q_tn, true_and, and_true, not_true_eq_false, not_false_eq_true, ite_true, ite_false, ↓reduceIte, true_or, or_true, and_self, ne_eq, q_or1, q_or2, Nat.add_eq_zero_iff, and_false, false_and, List.length_cons, List.length_nil, reduceCtorEq, q_toI, Nat.zero_add, Nat.le_refl, q_c0, q_c1, q_c2, q_c4, q_c9, q_c12, q_c30, q_c99, q_c100, q_c126, q_c32, q_c359, q_c999, c1, c2, c3, c4, c5, s_dayOfYear hC hd hs, h1, h2]
  simp only [q_on, ← Nat.not_lt]
  by_cases e1 : d % 360 < a <;> by_cases e2 : b < d % 360 <;> by_cases e3 : b < a <;> simp [e1, e2, e3, q_b]
theorem s_isOn {o : Nat} (hk : q_kd E 146 = (13, 8)) (hs : q_rf E 146 0 = 147) (hs2 : q_kd E 147 = (2, 1872)) {d a b : Nat} (hd : d < 10000) (ha : a < 360) (hb : b < 360) (ho : o < 5) (h0 : g 147 308 = nI d) (h1 : g 147 (2 * o) = nI a) (h2 : g 147 (2 * o + 1) = nI b) : q_X 74 0 [.ref 146, .int (nI o), .null, .null, .null] [] E g Q = Q (some (.int (q_b (q_on (d % 360) a b)))) E g := by
  have hm : d % 360 < 360 := Nat.mod_lt _ (by decide)
  simp (disch := omega) only [x74_0, x74_1, x74_4, x74_7, x74_8, x74_11, x74_12, x74_13, x74_14, x74_17, x74_18, x74_19, x74_20, x74_21, x74_22, x74_23, x74_24, x74_25, x74_28, x74_29, x74_30, x74_31, x74_32, x74_33, x74_34, x74_35, x74_36, x74_38, x74_39, x74_41, x74_44, x74_45, x74_46, x74_48, x74_51, x74_54, x74_55, x74_56, x74_59, x74_60, x74_62, x74_65, x74_66, x74_69, x74_70, nI_add, pk_mul, q_cl31, q_vin, q_le, q_lt, q_eqn, q_b_0, q_b_t, q_b_f, q_nz, q_nz1, q_nz0, q_tl, q_tn, true_and, and_true, not_true_eq_false, not_false_eq_true, ite_true, ite_false, ↓reduceIte, true_or, or_true, and_self, ne_eq, q_or1, q_or2, Nat.add_eq_zero_iff, and_false, false_and, List.length_cons, List.length_nil, reduceCtorEq, q_toI, Nat.zero_add, Nat.le_refl, q_c0, q_c1, q_c2, q_c4, q_c9, q_c12, q_c30, q_c99, q_c100, q_c126, q_c32, q_c359, q_c999, hk, hs, hs2, s_in, h0, h1, h2]
  rw [pk_rem (by omega) (by omega) (by omega), eq_true (show ¬ nI 360 = 0 by decide), true_and, q_ir_nI (by omega)]
  simp (disch := omega) only [q_le, q_lt, q_on, ← Nat.not_lt, Int.ofNat_le]
  by_cases e1 : d % 360 < a <;> by_cases e2 : b < d % 360 <;> by_cases e3 : b < a <;> simp [e1, e2, e3, q_b]
end
