/-! the class's public changes -/
section
variable {E : q_E} {g : q_G} {L st : Nat} {f : q_St}
theorem j_verse (hE : q_EB L E) (hS : q_Slo E) (hB : q_BesB E g) (hs : st ≤ 4) (h6 : g 3 6 = nI st) (hI : q_In f) (hV : q_Vsta g (q_rf E 3 0) f) (x y z : Int32) : ∃ E' g', (∀ Q : Option Value → q_E → q_G → Prop, q_X 84 0 [.ref 3, .int x, .int y, .int z] [] E g Q = Q (some (.int (p_verse f x y z).1)) E' g') ∧ q_Cend E g st (p_verse f x y z) E' g' := by
  obtain ⟨z0, z1, z2, z3, z4, z5⟩ := q_Slo_z hS
  obtain ⟨⟨o0, o1, -⟩, -⟩ := q_Slo_g hS
  have hT := hE.2.2.2.2 _ o1
  have hT2 : 2 < q_rf E 3 1 := by unfold q_okb at o1; omega
  have hT3 : q_rf E 3 1 + 23 ≤ 142 := by unfold q_okb at o1; omega
  have k3 := hE.2.1.1
  have t1 := hT.1
  obtain ⟨g1, a1, a2, a3⟩ := c_fresh (g := g) hE hS
  have hB1 := q_Bes_o hB a2 hT2
  have hV1 := a3 f hI.2.1.1 hV
  obtain ⟨g2, b1, b2, b3⟩ := k_verse hT hV1 hI x y z
  obtain ⟨E', g', c1, c2⟩ := q_Cend_of hE hS hs h6 (p_verse_ok hI x y z) (q_Rf_o (q_Out_t a2 b2) hT3) b3
  refine ⟨E', g', fun Q => ?_, c2⟩
  conv => lhs; simp (disch := omega) only [x84_0, x84_1, x84_2, x84_5, x84_6, x84_7, x84_8, x84_11, x84_14, nI_add, pk_mul, q_cl31, q_vin, q_le, q_lt, q_eqn, q_b_0, q_b_t, q_b_f, q_nz, q_nz1, q_nz0, q_tl, q_tn, true_and, and_true, not_true_eq_false, not_false_eq_true, ite_true, ite_false, ↓reduceIte, true_or, or_true, and_self, ne_eq, q_or1, q_or2, Nat.add_eq_zero_iff, and_false, false_and, List.length_cons, List.length_nil, reduceCtorEq, q_toI, Nat.zero_add, Nat.le_refl, q_c0, q_c1, q_c2, q_c4, q_c9, q_c12, q_c30, q_c99, q_c100, q_c126, q_c32, q_c359, q_c999, k3, t1, a1, b1, c1]
theorem j_season (hE : q_EB L E) (hS : q_Slo E) (hB : q_BesB E g) (hs : st ≤ 4) (h6 : g 3 6 = nI st) (hI : q_In f) (hV : q_Vsta g (q_rf E 3 0) f) (x y z : Int32) : ∃ E' g', (∀ Q : Option Value → q_E → q_G → Prop, q_X 81 0 [.ref 3, .int x, .int y, .int z] [] E g Q = Q (some (.int (p_season f x y z).1)) E' g') ∧ q_Cend E g st (p_season f x y z) E' g' := by
  obtain ⟨z0, z1, z2, z3, z4, z5⟩ := q_Slo_z hS
  obtain ⟨⟨o0, o1, -⟩, -⟩ := q_Slo_g hS
  have hT := hE.2.2.2.2 _ o1
  have hT2 : 2 < q_rf E 3 1 := by unfold q_okb at o1; omega
  have hT3 : q_rf E 3 1 + 23 ≤ 142 := by unfold q_okb at o1; omega
  have k3 := hE.2.1.1
  have t1 := hT.1
  obtain ⟨g1, a1, a2, a3⟩ := c_fresh (g := g) hE hS
  have hB1 := q_Bes_o hB a2 hT2
  have hV1 := a3 f hI.2.1.1 hV
  obtain ⟨g2, b1, b2, b3⟩ := k_season hT hV1 hI x y z
  obtain ⟨E', g', c1, c2⟩ := q_Cend_of hE hS hs h6 (p_season_ok hI x y z) (q_Rf_o (q_Out_t a2 b2) hT3) b3
  refine ⟨E', g', fun Q => ?_, c2⟩
  conv => lhs; simp (disch := omega) only [x81_0, x81_1, x81_2, x81_5, x81_6, x81_7, x81_8, x81_11, x81_14, nI_add, pk_mul, q_cl31, q_vin, q_le, q_lt, q_eqn, q_b_0, q_b_t, q_b_f, q_nz, q_nz1, q_nz0, q_tl, q_tn, true_and, and_true, not_true_eq_false, not_false_eq_true, ite_true, ite_false, ↓reduceIte, true_or, or_true, and_self, ne_eq, q_or1, q_or2, Nat.add_eq_zero_iff, and_false, false_and, List.length_cons, List.length_nil, reduceCtorEq, q_toI, Nat.zero_add, Nat.le_refl, q_c0, q_c1, q_c2, q_c4, q_c9, q_c12, q_c30, q_c99, q_c100, q_c126, q_c32, q_c359, q_c999, k3, t1, a1, b1, c1]
theorem j_order (hE : q_EB L E) (hS : q_Slo E) (hB : q_BesB E g) (hs : st ≤ 4) (h6 : g 3 6 = nI st) (hI : q_In f) (hV : q_Vsta g (q_rf E 3 0) f) (x y : Int32) : ∃ E' g', (∀ Q : Option Value → q_E → q_G → Prop, q_X 79 0 [.ref 3, .int x, .int y] [] E g Q = Q (some (.int (p_order f x y).1)) E' g') ∧ q_Cend E g st (p_order f x y) E' g' := by
  obtain ⟨z0, z1, z2, z3, z4, z5⟩ := q_Slo_z hS
  obtain ⟨⟨o0, o1, -⟩, -⟩ := q_Slo_g hS
  have hT := hE.2.2.2.2 _ o1
  have hT2 : 2 < q_rf E 3 1 := by unfold q_okb at o1; omega
  have hT3 : q_rf E 3 1 + 23 ≤ 142 := by unfold q_okb at o1; omega
  have k3 := hE.2.1.1
  have t1 := hT.1
  obtain ⟨g1, a1, a2, a3⟩ := c_fresh (g := g) hE hS
  have hB1 := q_Bes_o hB a2 hT2
  have hV1 := a3 f hI.2.1.1 hV
  obtain ⟨g2, b1, b2, b3⟩ := k_order hT hV1 hI x y
  obtain ⟨E', g', c1, c2⟩ := q_Cend_of hE hS hs h6 (p_order_ok hI x y) (q_Rf_o (q_Out_t a2 b2) hT3) b3
  refine ⟨E', g', fun Q => ?_, c2⟩
  conv => lhs; simp (disch := omega) only [x79_0, x79_1, x79_2, x79_5, x79_6, x79_7, x79_10, x79_13, nI_add, pk_mul, q_cl31, q_vin, q_le, q_lt, q_eqn, q_b_0, q_b_t, q_b_f, q_nz, q_nz1, q_nz0, q_tl, q_tn, true_and, and_true, not_true_eq_false, not_false_eq_true, ite_true, ite_false, ↓reduceIte, true_or, or_true, and_self, ne_eq, q_or1, q_or2, Nat.add_eq_zero_iff, and_false, false_and, List.length_cons, List.length_nil, reduceCtorEq, q_toI, Nat.zero_add, Nat.le_refl, q_c0, q_c1, q_c2, q_c4, q_c9, q_c12, q_c30, q_c99, q_c100, q_c126, q_c32, q_c359, q_c999, k3, t1, a1, b1, c1]
theorem j_lay (hE : q_EB L E) (hS : q_Slo E) (hB : q_BesB E g) (hs : st ≤ 4) (h6 : g 3 6 = nI st) (hI : q_In f) (hV : q_Vsta g (q_rf E 3 0) f) (x y z : Int32) : ∃ E' g', (∀ Q : Option Value → q_E → q_G → Prop, q_X 78 0 [.ref 3, .int x, .int y, .int z] [] E g Q = Q (some (.int (p_lay f x y z).1)) E' g') ∧ q_Cend E g st (p_lay f x y z) E' g' := by
  obtain ⟨z0, z1, z2, z3, z4, z5⟩ := q_Slo_z hS
  obtain ⟨⟨o0, o1, -⟩, -⟩ := q_Slo_g hS
  have hT := hE.2.2.2.2 _ o1
  have hT2 : 2 < q_rf E 3 1 := by unfold q_okb at o1; omega
  have hT3 : q_rf E 3 1 + 23 ≤ 142 := by unfold q_okb at o1; omega
  have k3 := hE.2.1.1
  have t1 := hT.1
  obtain ⟨g1, a1, a2, a3⟩ := c_fresh (g := g) hE hS
  have hB1 := q_Bes_o hB a2 hT2
  have hV1 := a3 f hI.2.1.1 hV
  obtain ⟨g2, b1, b2, b3⟩ := k_lay hT hV1 hI x y z
  obtain ⟨E', g', c1, c2⟩ := q_Cend_of hE hS hs h6 (p_lay_ok hI x y z) (q_Rf_o (q_Out_t a2 b2) hT3) b3
  refine ⟨E', g', fun Q => ?_, c2⟩
  conv => lhs; simp (disch := omega) only [x78_0, x78_1, x78_2, x78_5, x78_6, x78_7, x78_8, x78_11, x78_14, nI_add, pk_mul, q_cl31, q_vin, q_le, q_lt, q_eqn, q_b_0, q_b_t, q_b_f, q_nz, q_nz1, q_nz0, q_tl, q_tn, true_and, and_true, not_true_eq_false, not_false_eq_true, ite_true, ite_false, ↓reduceIte, true_or, or_true, and_self, ne_eq, q_or1, q_or2, Nat.add_eq_zero_iff, and_false, false_and, List.length_cons, List.length_nil, reduceCtorEq, q_toI, Nat.zero_add, Nat.le_refl, q_c0, q_c1, q_c2, q_c4, q_c9, q_c12, q_c30, q_c99, q_c100, q_c126, q_c32, q_c359, q_c999, k3, t1, a1, b1, c1]
theorem j_clear (hE : q_EB L E) (hS : q_Slo E) (hB : q_BesB E g) (hs : st ≤ 4) (h6 : g 3 6 = nI st) (hI : q_In f) (hV : q_Vsta g (q_rf E 3 0) f) (x : Int32) : ∃ E' g', (∀ Q : Option Value → q_E → q_G → Prop, q_X 76 0 [.ref 3, .int x] [] E g Q = Q (some (.int (p_clear f x).1)) E' g') ∧ q_Cend E g st (p_clear f x) E' g' := by
  obtain ⟨z0, z1, z2, z3, z4, z5⟩ := q_Slo_z hS
  obtain ⟨⟨o0, o1, -⟩, -⟩ := q_Slo_g hS
  have hT := hE.2.2.2.2 _ o1
  have hT2 : 2 < q_rf E 3 1 := by unfold q_okb at o1; omega
  have hT3 : q_rf E 3 1 + 23 ≤ 142 := by unfold q_okb at o1; omega
  have k3 := hE.2.1.1
  have t1 := hT.1
  obtain ⟨g1, a1, a2, a3⟩ := c_fresh (g := g) hE hS
  have hB1 := q_Bes_o hB a2 hT2
  have hV1 := a3 f hI.2.1.1 hV
  obtain ⟨g2, b1, b2, b3⟩ := k_clear hT hV1 hI x
  obtain ⟨E', g', c1, c2⟩ := q_Cend_of hE hS hs h6 (p_clear_ok hI x) (q_Rf_o (q_Out_t a2 b2) hT3) b3
  refine ⟨E', g', fun Q => ?_, c2⟩
  conv => lhs; simp (disch := omega) only [x76_0, x76_1, x76_2, x76_5, x76_6, x76_9, x76_12, nI_add, pk_mul, q_cl31, q_vin, q_le, q_lt, q_eqn, q_b_0, q_b_t, q_b_f, q_nz, q_nz1, q_nz0, q_tl, q_tn, true_and, and_true, not_true_eq_false, not_false_eq_true, ite_true, ite_false, ↓reduceIte, true_or, or_true, and_self, ne_eq, q_or1, q_or2, Nat.add_eq_zero_iff, and_false, false_and, List.length_cons, List.length_nil, reduceCtorEq, q_toI, Nat.zero_add, Nat.le_refl, q_c0, q_c1, q_c2, q_c4, q_c9, q_c12, q_c30, q_c99, q_c100, q_c126, q_c32, q_c359, q_c999, k3, t1, a1, b1, c1]
theorem j_sell (hE : q_EB L E) (hS : q_Slo E) (hB : q_BesB E g) (hs : st ≤ 4) (h6 : g 3 6 = nI st) (hI : q_In f) (hV : q_Vsta g (q_rf E 3 0) f) (x : Int32) : ∃ E' g', (∀ Q : Option Value → q_E → q_G → Prop, q_X 82 0 [.ref 3, .int x] [] E g Q = Q (some (.int (p_sell f x).1)) E' g') ∧ q_Cend E g st (p_sell f x) E' g' := by
  obtain ⟨z0, z1, z2, z3, z4, z5⟩ := q_Slo_z hS
  obtain ⟨⟨o0, o1, -⟩, -⟩ := q_Slo_g hS
  have hT := hE.2.2.2.2 _ o1
  have hT2 : 2 < q_rf E 3 1 := by unfold q_okb at o1; omega
  have hT3 : q_rf E 3 1 + 23 ≤ 142 := by unfold q_okb at o1; omega
  have k3 := hE.2.1.1
  have t1 := hT.1
  obtain ⟨g1, a1, a2, a3⟩ := c_fresh (g := g) hE hS
  have hB1 := q_Bes_o hB a2 hT2
  have hV1 := a3 f hI.2.1.1 hV
  obtain ⟨g2, b1, b2, b3⟩ := k_sell hB1 hT2 hT hV1 hI x
  obtain ⟨E', g', c1, c2⟩ := q_Cend_of hE hS hs h6 (p_sell_ok hI x) (q_Rf_o (q_Out_t a2 b2) hT3) b3
  refine ⟨E', g', fun Q => ?_, c2⟩
  conv => lhs; simp (disch := omega) only [x82_0, x82_1, x82_2, x82_5, x82_6, x82_9, x82_12, nI_add, pk_mul, q_cl31, q_vin, q_le, q_lt, q_eqn, q_b_0, q_b_t, q_b_f, q_nz, q_nz1, q_nz0, q_tl, q_tn, true_and, and_true, not_true_eq_false, not_false_eq_true, ite_true, ite_false, ↓reduceIte, true_or, or_true, and_self, ne_eq, q_or1, q_or2, Nat.add_eq_zero_iff, and_false, false_and, List.length_cons, List.length_nil, reduceCtorEq, q_toI, Nat.zero_add, Nat.le_refl, q_c0, q_c1, q_c2, q_c4, q_c9, q_c12, q_c30, q_c99, q_c100, q_c126, q_c32, q_c359, q_c999, k3, t1, a1, b1, c1]
theorem j_sellTwo (hE : q_EB L E) (hS : q_Slo E) (hB : q_BesB E g) (hs : st ≤ 4) (h6 : g 3 6 = nI st) (hI : q_In f) (hV : q_Vsta g (q_rf E 3 0) f) (x y : Int32) : ∃ E' g', (∀ Q : Option Value → q_E → q_G → Prop, q_X 85 0 [.ref 3, .int x, .int y] [] E g Q = Q (some (.int (p_two f x y).1)) E' g') ∧ q_Cend E g st (p_two f x y) E' g' := by
  obtain ⟨z0, z1, z2, z3, z4, z5⟩ := q_Slo_z hS
  obtain ⟨⟨o0, o1, -⟩, -⟩ := q_Slo_g hS
  have hT := hE.2.2.2.2 _ o1
  have hT2 : 2 < q_rf E 3 1 := by unfold q_okb at o1; omega
  have hT3 : q_rf E 3 1 + 23 ≤ 142 := by unfold q_okb at o1; omega
  have k3 := hE.2.1.1
  have t1 := hT.1
  obtain ⟨g1, a1, a2, a3⟩ := c_fresh (g := g) hE hS
  have hB1 := q_Bes_o hB a2 hT2
  have hV1 := a3 f hI.2.1.1 hV
  obtain ⟨g2, b1, b2, b3⟩ := k_two hB1 hT2 hT hV1 hI x y
  obtain ⟨E', g', c1, c2⟩ := q_Cend_of hE hS hs h6 (p_two_ok hI x y) (q_Rf_o (q_Out_t a2 b2) hT3) b3
  refine ⟨E', g', fun Q => ?_, c2⟩
  conv => lhs; simp (disch := omega) only [x85_0, x85_1, x85_2, x85_5, x85_6, x85_7, x85_10, x85_13, nI_add, pk_mul, q_cl31, q_vin, q_le, q_lt, q_eqn, q_b_0, q_b_t, q_b_f, q_nz, q_nz1, q_nz0, q_tl, q_tn, true_and, and_true, not_true_eq_false, not_false_eq_true, ite_true, ite_false, ↓reduceIte, true_or, or_true, and_self, ne_eq, q_or1, q_or2, Nat.add_eq_zero_iff, and_false, false_and, List.length_cons, List.length_nil, reduceCtorEq, q_toI, Nat.zero_add, Nat.le_refl, q_c0, q_c1, q_c2, q_c4, q_c9, q_c12, q_c30, q_c99, q_c100, q_c126, q_c32, q_c359, q_c999, k3, t1, a1, b1, c1]
theorem j_giveBack (hE : q_EB L E) (hS : q_Slo E) (hB : q_BesB E g) (hs : st ≤ 4) (h6 : g 3 6 = nI st) (hI : q_In f) (hV : q_Vsta g (q_rf E 3 0) f) : ∃ E' g', (∀ Q : Option Value → q_E → q_G → Prop, q_X 77 0 [.ref 3] [] E g Q = Q (some (.int (p_give f).1)) E' g') ∧ q_Cend E g st (p_give f) E' g' := by
  obtain ⟨z0, z1, z2, z3, z4, z5⟩ := q_Slo_z hS
  obtain ⟨⟨o0, o1, -⟩, -⟩ := q_Slo_g hS
  have hT := hE.2.2.2.2 _ o1
  have hT2 : 2 < q_rf E 3 1 := by unfold q_okb at o1; omega
  have hT3 : q_rf E 3 1 + 23 ≤ 142 := by unfold q_okb at o1; omega
  have k3 := hE.2.1.1
  have t1 := hT.1
  obtain ⟨g1, a1, a2, a3⟩ := c_fresh (g := g) hE hS
  have hB1 := q_Bes_o hB a2 hT2
  have hV1 := a3 f hI.2.1.1 hV
  obtain ⟨g2, b1, b2, b3⟩ := k_give hT hV1 hI
  obtain ⟨E', g', c1, c2⟩ := q_Cend_of hE hS hs h6 (p_give_ok hI) (q_Rf_o (q_Out_t a2 b2) hT3) b3
  refine ⟨E', g', fun Q => ?_, c2⟩
  conv => lhs; simp (disch := omega) only [x77_0, x77_1, x77_2, x77_5, x77_8, x77_11, nI_add, pk_mul, q_cl31, q_vin, q_le, q_lt, q_eqn, q_b_0, q_b_t, q_b_f, q_nz, q_nz1, q_nz0, q_tl, q_tn, true_and, and_true, not_true_eq_false, not_false_eq_true, ite_true, ite_false, ↓reduceIte, true_or, or_true, and_self, ne_eq, q_or1, q_or2, Nat.add_eq_zero_iff, and_false, false_and, List.length_cons, List.length_nil, reduceCtorEq, q_toI, Nat.zero_add, Nat.le_refl, q_c0, q_c1, q_c2, q_c4, q_c9, q_c12, q_c30, q_c99, q_c100, q_c126, q_c32, q_c359, q_c999, k3, t1, a1, b1, c1]
theorem j_pass (hE : q_EB L E) (hS : q_Slo E) (hB : q_BesB E g) (hs : st ≤ 4) (h6 : g 3 6 = nI st) (hI : q_In f) (hV : q_Vsta g (q_rf E 3 0) f) (x : Int32) : ∃ E' g', (∀ Q : Option Value → q_E → q_G → Prop, q_X 80 0 [.ref 3, .int x] [] E g Q = Q (some (.int (p_pass f x).1)) E' g') ∧ q_Cend E g st (p_pass f x) E' g' := by
  obtain ⟨z0, z1, z2, z3, z4, z5⟩ := q_Slo_z hS
  obtain ⟨⟨o0, o1, -⟩, -⟩ := q_Slo_g hS
  have hT := hE.2.2.2.2 _ o1
  have hT2 : 2 < q_rf E 3 1 := by unfold q_okb at o1; omega
  have hT3 : q_rf E 3 1 + 23 ≤ 142 := by unfold q_okb at o1; omega
  have k3 := hE.2.1.1
  have t1 := hT.1
  obtain ⟨g1, a1, a2, a3⟩ := c_fresh (g := g) hE hS
  have hB1 := q_Bes_o hB a2 hT2
  have hV1 := a3 f hI.2.1.1 hV
  obtain ⟨g2, b1, b2, b3⟩ := k_pass hT hV1 hI x
  obtain ⟨E', g', c1, c2⟩ := q_Cend_of hE hS hs h6 (p_pass_ok hI x) (q_Rf_o (q_Out_t a2 b2) hT3) b3
  refine ⟨E', g', fun Q => ?_, c2⟩
  conv => lhs; simp (disch := omega) only [x80_0, x80_1, x80_2, x80_5, x80_6, x80_9, x80_12, nI_add, pk_mul, q_cl31, q_vin, q_le, q_lt, q_eqn, q_b_0, q_b_t, q_b_f, q_nz, q_nz1, q_nz0, q_tl, q_tn, true_and, and_true, not_true_eq_false, not_false_eq_true, ite_true, ite_false, ↓reduceIte, true_or, or_true, and_self, ne_eq, q_or1, q_or2, Nat.add_eq_zero_iff, and_false, false_and, List.length_cons, List.length_nil, reduceCtorEq, q_toI, Nat.zero_add, Nat.le_refl, q_c0, q_c1, q_c2, q_c4, q_c9, q_c12, q_c30, q_c99, q_c100, q_c126, q_c32, q_c359, q_c999, k3, t1, a1, b1, c1]
theorem j_set (hE : q_EB L E) (hS : q_Slo E) (hB : q_BesB E g) (hs : st ≤ 4) (h6 : g 3 6 = nI st) (hI : q_In f) (hV : q_Vsta g (q_rf E 3 0) f) (x y : Int32) : ∃ E' g', (∀ Q : Option Value → q_E → q_G → Prop, q_X 83 0 [.ref 3, .int x, .int y] [] E g Q = Q (some (.int (p_set f x y).1)) E' g') ∧ q_Cend E g st (p_set f x y) E' g' := by
  obtain ⟨z0, z1, z2, z3, z4, z5⟩ := q_Slo_z hS
  obtain ⟨⟨o0, o1, -⟩, -⟩ := q_Slo_g hS
  have hT := hE.2.2.2.2 _ o1
  have hT2 : 2 < q_rf E 3 1 := by unfold q_okb at o1; omega
  have hT3 : q_rf E 3 1 + 23 ≤ 142 := by unfold q_okb at o1; omega
  have k3 := hE.2.1.1
  have t1 := hT.1
  obtain ⟨g1, a1, a2, a3⟩ := c_fresh (g := g) hE hS
  have hB1 := q_Bes_o hB a2 hT2
  have hV1 := a3 f hI.2.1.1 hV
  obtain ⟨g2, b1, b2, b3⟩ := k_set hT hV1 hI x y
  obtain ⟨E', g', c1, c2⟩ := q_Cend_of hE hS hs h6 (p_set_ok hI x y) (q_Rf_o (q_Out_t a2 b2) hT3) b3
  refine ⟨E', g', fun Q => ?_, c2⟩
  conv => lhs; simp (disch := omega) only [x83_0, x83_1, x83_2, x83_5, x83_6, x83_7, x83_10, x83_13, nI_add, pk_mul, q_cl31, q_vin, q_le, q_lt, q_eqn, q_b_0, q_b_t, q_b_f, q_nz, q_nz1, q_nz0, q_tl, q_tn, true_and, and_true, not_true_eq_false, not_false_eq_true, ite_true, ite_false, ↓reduceIte, true_or, or_true, and_self, ne_eq, q_or1, q_or2, Nat.add_eq_zero_iff, and_false, false_and, List.length_cons, List.length_nil, reduceCtorEq, q_toI, Nat.zero_add, Nat.le_refl, q_c0, q_c1, q_c2, q_c4, q_c9, q_c12, q_c30, q_c99, q_c100, q_c126, q_c32, q_c359, q_c999, k3, t1, a1, b1, c1]
end
