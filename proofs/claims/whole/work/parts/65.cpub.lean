/-! the class's public changes -/
section
variable {E : q_E} {g : q_G} {L st : Nat} {f : q_St}
theorem j_verse (hE : q_EB L E) (hS : q_Slo E) (hB : q_BesB E g) (hs : st ≤ 4) (h6 : g 3 6 = nI st) (hI : q_In f) (hV : q_Vsta g (q_rf E 3 0) f) (x y z : Int32) : ∃ E' g', (∀ Q : Option Value → q_E → q_G → Prop, q_X 154 0 [.ref 3, .int x, .int y, .int z] [] E g Q = Q (some (.int (p_verse f x y z).1)) E' g') ∧ q_Cend E g st (p_verse f x y z) E' g' := by
  obtain ⟨z0, z1, z2, z3, z4, z5⟩ := q_Slo_z hS
  obtain ⟨⟨o0, o1, -⟩, -⟩ := q_Slo_g hS
  have hT := hE.2.2.2.2 _ o1
  have hT2 : 2 < q_rf E 3 1 := by unfold q_okb at o1; omega
  have hT3 : q_rf E 3 1 + 23 ≤ 142 := by unfold q_okb at o1; omega
  have k3 := hE.2.1.1
  have t1 := hT.1
  obtain ⟨g1, a1, a2, a3⟩ := c_fresh (g := g) hE hS
  have hB1 := q_Bes_o hB a2 hT2
  have hV1 := a3 f hI.2.1.1 hV
  obtain ⟨g2, b1, b2, b3⟩ := k_verse hT hV1 hI x y z
  obtain ⟨E', g', c1, c2⟩ := q_Cend_of hE hS hs h6 (p_verse_ok hI x y z) (q_Rf_o (q_Out_t a2 b2) hT3) b3
  refine ⟨E', g', fun Q => ?_, c2⟩
  conv => lhs; simp (disch := omega) only [x154_0, x154_1, x154_2, x154_5, x154_6, x154_7, x154_8, x154_11, x154_14, nI_add, pk_mul, q_cl31, q_vin, q_le, q_lt, q_eqn, q_b_0, q_b_t, q_b_f, q_nz, q_nz1, q_nz0, q_tl, q_tn, true_and, and_true, not_true_eq_false, not_false_eq_true, ite_true, ite_false, ↓reduceIte, true_or, or_true, and_self, ne_eq, q_or1, q_or2, Nat.add_eq_zero_iff, and_false, false_and, List.length_cons, List.length_nil, reduceCtorEq, q_toI, Nat.zero_add, Nat.le_refl, q_c0, q_c1, q_c2, q_c4, q_c9, q_c12, q_c30, q_c99, q_c100, q_c126, q_c32, q_c359, q_c999, k3, t1, a1, b1, c1]
theorem j_season (hE : q_EB L E) (hS : q_Slo E) (hB : q_BesB E g) (hs : st ≤ 4) (h6 : g 3 6 = nI st) (hI : q_In f) (hV : q_Vsta g (q_rf E 3 0) f) (x y z : Int32) : ∃ E' g', (∀ Q : Option Value → q_E → q_G → Prop, q_X 151 0 [.ref 3, .int x, .int y, .int z] [] E g Q = Q (some (.int (p_season f x y z).1)) E' g') ∧ q_Cend E g st (p_season f x y z) E' g' := by
  obtain ⟨z0, z1, z2, z3, z4, z5⟩ := q_Slo_z hS
  obtain ⟨⟨o0, o1, -⟩, -⟩ := q_Slo_g hS
  have hT := hE.2.2.2.2 _ o1
  have hT2 : 2 < q_rf E 3 1 := by unfold q_okb at o1; omega
  have hT3 : q_rf E 3 1 + 23 ≤ 142 := by unfold q_okb at o1; omega
  have k3 := hE.2.1.1
  have t1 := hT.1
  obtain ⟨g1, a1, a2, a3⟩ := c_fresh (g := g) hE hS
  have hB1 := q_Bes_o hB a2 hT2
  have hV1 := a3 f hI.2.1.1 hV
  obtain ⟨g2, b1, b2, b3⟩ := k_season hT hV1 hI x y z
  obtain ⟨E', g', c1, c2⟩ := q_Cend_of hE hS hs h6 (p_season_ok hI x y z) (q_Rf_o (q_Out_t a2 b2) hT3) b3
  refine ⟨E', g', fun Q => ?_, c2⟩
  conv => lhs; simp (disch := omega) only [x151_0, x151_1, x151_2, x151_5, x151_6, x151_7, x151_8, x151_11, x151_14, nI_add, pk_mul, q_cl31, q_vin, q_le, q_lt, q_eqn, q_b_0, q_b_t, q_b_f, q_nz, q_nz1, q_nz0, q_tl, q_tn, true_and, and_true, not_true_eq_false, not_false_eq_true, ite_true, ite_false, ↓reduceIte, true_or, or_true, and_self, ne_eq, q_or1, q_or2, Nat.add_eq_zero_iff, and_false, false_and, List.length_cons, List.length_nil, reduceCtorEq, q_toI, Nat.zero_add, Nat.le_refl, q_c0, q_c1, q_c2, q_c4, q_c9, q_c12, q_c30, q_c99, q_c100, q_c126, q_c32, q_c359, q_c999, k3, t1, a1, b1, c1]
theorem j_order (hE : q_EB L E) (hS : q_Slo E) (hB : q_BesB E g) (hs : st ≤ 4) (h6 : g 3 6 = nI st) (hI : q_In f) (hV : q_Vsta g (q_rf E 3 0) f) (x y : Int32) : ∃ E' g', (∀ Q : Option Value → q_E → q_G → Prop, q_X 149 0 [.ref 3, .int x, .int y] [] E g Q = Q (some (.int (p_order f x y).1)) E' g') ∧ q_Cend E g st (p_order f x y) E' g' := by
  obtain ⟨z0, z1, z2, z3, z4, z5⟩ := q_Slo_z hS
  obtain ⟨⟨o0, o1, -⟩, -⟩ := q_Slo_g hS
  have hT := hE.2.2.2.2 _ o1
  have hT2 : 2 < q_rf E 3 1 := by unfold q_okb at o1; omega
  have hT3 : q_rf E 3 1 + 23 ≤ 142 := by unfold q_okb at o1; omega
  have k3 := hE.2.1.1
  have t1 := hT.1
  obtain ⟨g1, a1, a2, a3⟩ := c_fresh (g := g) hE hS
  have hB1 := q_Bes_o hB a2 hT2
  have hV1 := a3 f hI.2.1.1 hV
  obtain ⟨g2, b1, b2, b3⟩ := k_order hT hV1 hI x y
  obtain ⟨E', g', c1, c2⟩ := q_Cend_of hE hS hs h6 (p_order_ok hI x y) (q_Rf_o (q_Out_t a2 b2) hT3) b3
  refine ⟨E', g', fun Q => ?_, c2⟩
  conv => lhs; simp (disch := omega) only [x149_0, x149_1, x149_2, x149_5, x149_6, x149_7, x149_10, x149_13, nI_add, pk_mul, q_cl31, q_vin, q_le, q_lt, q_eqn, q_b_0, q_b_t, q_b_f, q_nz, q_nz1, q_nz0, q_tl, q_tn, true_and, and_true, not_true_eq_false, not_false_eq_true, ite_true, ite_false, ↓reduceIte, true_or, or_true, and_self, ne_eq, q_or1, q_or2, Nat.add_eq_zero_iff, and_false, false_and, List.length_cons, List.length_nil, reduceCtorEq, q_toI, Nat.zero_add, Nat.le_refl, q_c0, q_c1, q_c2, q_c4, q_c9, q_c12, q_c30, q_c99, q_c100, q_c126, q_c32, q_c359, q_c999, k3, t1, a1, b1, c1]
theorem j_lay (hE : q_EB L E) (hS : q_Slo E) (hB : q_BesB E g) (hs : st ≤ 4) (h6 : g 3 6 = nI st) (hI : q_In f) (hV : q_Vsta g (q_rf E 3 0) f) (x y z : Int32) : ∃ E' g', (∀ Q : Option Value → q_E → q_G → Prop, q_X 148 0 [.ref 3, .int x, .int y, .int z] [] E g Q = Q (some (.int (p_lay f x y z).1)) E' g') ∧ q_Cend E g st (p_lay f x y z) E' g' := by
  obtain ⟨z0, z1, z2, z3, z4, z5⟩ := q_Slo_z hS
  obtain ⟨⟨o0, o1, -⟩, -⟩ := q_Slo_g hS
  have hT := hE.2.2.2.2 _ o1
  have hT2 : 2 < q_rf E 3 1 := by unfold q_okb at o1; omega
  have hT3 : q_rf E 3 1 + 23 ≤ 142 := by unfold q_okb at o1; omega
  have k3 := hE.2.1.1
  have t1 := hT.1
  obtain ⟨g1, a1, a2, a3⟩ := c_fresh (g := g) hE hS
  have hB1 := q_Bes_o hB a2 hT2
  have hV1 := a3 f hI.2.1.1 hV
  obtain ⟨g2, b1, b2, b3⟩ := k_lay hT hV1 hI x y z
  obtain ⟨E', g', c1, c2⟩ := q_Cend_of hE hS hs h6 (p_lay_ok hI x y z) (q_Rf_o (q_Out_t a2 b2) hT3) b3
  refine ⟨E', g', fun Q => ?_, c2⟩
  conv => lhs; simp (disch := omega) only [x148_0, x148_1, x148_2, x148_5, x148_6, x148_7, x148_8, x148_11, x148_14, nI_add, pk_mul, q_cl31, q_vin, q_le, q_lt, q_eqn, q_b_0, q_b_t, q_b_f, q_nz, q_nz1, q_nz0, q_tl, q_tn, true_and, and_true, not_true_eq_false, not_false_eq_true, ite_true, ite_false, ↓reduceIte, true_or, or_true, and_self, ne_eq, q_or1, q_or2, Nat.add_eq_zero_iff, and_false, false_and, List.length_cons, List.length_nil, reduceCtorEq, q_toI, Nat.zero_add, Nat.le_refl, q_c0, q_c1, q_c2, q_c4, q_c9, q_c12, q_c30, q_c99, q_c100, q_c126, q_c32, q_c359, q_c999, k3, t1, a1, b1, c1]
theorem j_clear (hE : q_EB L E) (hS : q_Slo E) (hB : q_BesB E g) (hs : st ≤ 4) (h6 : g 3 6 = nI st) (hI : q_In f) (hV : q_Vsta g (q_rf E 3 0) f) (x : Int32) : ∃ E' g', (∀ Q : Option Value → q_E → q_G → Prop, q_X 146 0 [.ref 3, .int x] [] E g Q = Q (some (.int (p_clear f x).1)) E' g') ∧ q_Cend E g st (p_clear f x) E' g' := by
  obtain ⟨z0, z1, z2, z3, z4, z5⟩ := q_Slo_z hS
  obtain ⟨⟨o0, o1, -⟩, -⟩ := q_Slo_g hS
  have hT := hE.2.2.2.2 _ o1
  have hT2 : 2 < q_rf E 3 1 := by unfold q_okb at o1; omega
  have hT3 : q_rf E 3 1 + 23 ≤ 142 := by unfold q_okb at o1; omega
  have k3 := hE.2.1.1
  have t1 := hT.1
  obtain ⟨g1, a1, a2, a3⟩ := c_fresh (g := g) hE hS
  have hB1 := q_Bes_o hB a2 hT2
  have hV1 := a3 f hI.2.1.1 hV
  obtain ⟨g2, b1, b2, b3⟩ := k_clear hT hV1 hI x
  obtain ⟨E', g', c1, c2⟩ := q_Cend_of hE hS hs h6 (p_clear_ok hI x) (q_Rf_o (q_Out_t a2 b2) hT3) b3
  refine ⟨E', g', fun Q => ?_, c2⟩
  conv => lhs; simp (disch := omega) only [x146_0, x146_1, x146_2, x146_5, x146_6, x146_9, x146_12, nI_add, pk_mul, q_cl31, q_vin, q_le, q_lt, q_eqn, q_b_0, q_b_t, q_b_f, q_nz, q_nz1, q_nz0, q_tl, q_tn, true_and, and_true, not_true_eq_false, not_false_eq_true, ite_true, ite_false, ↓reduceIte, true_or, or_true, and_self, ne_eq, q_or1, q_or2, Nat.add_eq_zero_iff, and_false, false_and, List.length_cons, List.length_nil, reduceCtorEq, q_toI, Nat.zero_add, Nat.le_refl, q_c0, q_c1, q_c2, q_c4, q_c9, q_c12, q_c30, q_c99, q_c100, q_c126, q_c32, q_c359, q_c999, k3, t1, a1, b1, c1]
theorem j_sell (hE : q_EB L E) (hS : q_Slo E) (hB : q_BesB E g) (hs : st ≤ 4) (h6 : g 3 6 = nI st) (hI : q_In f) (hV : q_Vsta g (q_rf E 3 0) f) (x : Int32) : ∃ E' g', (∀ Q : Option Value → q_E → q_G → Prop, q_X 152 0 [.ref 3, .int x] [] E g Q = Q (some (.int (p_sell f x).1)) E' g') ∧ q_Cend E g st (p_sell f x) E' g' := by
  obtain ⟨z0, z1, z2, z3, z4, z5⟩ := q_Slo_z hS
  obtain ⟨⟨o0, o1, -⟩, -⟩ := q_Slo_g hS
  have hT := hE.2.2.2.2 _ o1
  have hT2 : 2 < q_rf E 3 1 := by unfold q_okb at o1; omega
  have hT3 : q_rf E 3 1 + 23 ≤ 142 := by unfold q_okb at o1; omega
  have k3 := hE.2.1.1
  have t1 := hT.1
  obtain ⟨g1, a1, a2, a3⟩ := c_fresh (g := g) hE hS
  have hB1 := q_Bes_o hB a2 hT2
  have hV1 := a3 f hI.2.1.1 hV
  obtain ⟨g2, b1, b2, b3⟩ := k_sell hB1 hT2 hT hV1 hI x
  obtain ⟨E', g', c1, c2⟩ := q_Cend_of hE hS hs h6 (p_sell_ok hI x) (q_Rf_o (q_Out_t a2 b2) hT3) b3
  refine ⟨E', g', fun Q => ?_, c2⟩
  conv => lhs; simp (disch := omega) only [x152_0, x152_1, x152_2, x152_5, x152_6, x152_9, x152_12, nI_add, pk_mul, q_cl31, q_vin, q_le, q_lt, q_eqn, q_b_0, q_b_t, q_b_f, q_nz, q_nz1, q_nz0, q_tl, q_tn, true_and, and_true, not_true_eq_false, not_false_eq_true, ite_true, ite_false, ↓reduceIte, true_or, or_true, and_self, ne_eq, q_or1, q_or2, Nat.add_eq_zero_iff, and_false, false_and, List.length_cons, List.length_nil, reduceCtorEq, q_toI, Nat.zero_add, Nat.le_refl, q_c0, q_c1, q_c2, q_c4, q_c9, q_c12, q_c30, q_c99, q_c100, q_c126, q_c32, q_c359, q_c999, k3, t1, a1, b1, c1]
theorem j_sellTwo (hE : q_EB L E) (hS : q_Slo E) (hB : q_BesB E g) (hs : st ≤ 4) (h6 : g 3 6 = nI st) (hI : q_In f) (hV : q_Vsta g (q_rf E 3 0) f) (x y : Int32) : ∃ E' g', (∀ Q : Option Value → q_E → q_G → Prop, q_X 158 0 [.ref 3, .int x, .int y] [] E g Q = Q (some (.int (p_two f x y).1)) E' g') ∧ q_Cend E g st (p_two f x y) E' g' := by
  obtain ⟨z0, z1, z2, z3, z4, z5⟩ := q_Slo_z hS
  obtain ⟨⟨o0, o1, -⟩, -⟩ := q_Slo_g hS
  have hT := hE.2.2.2.2 _ o1
  have hT2 : 2 < q_rf E 3 1 := by unfold q_okb at o1; omega
  have hT3 : q_rf E 3 1 + 23 ≤ 142 := by unfold q_okb at o1; omega
  have k3 := hE.2.1.1
  have t1 := hT.1
  obtain ⟨g1, a1, a2, a3⟩ := c_fresh (g := g) hE hS
  have hB1 := q_Bes_o hB a2 hT2
  have hV1 := a3 f hI.2.1.1 hV
  obtain ⟨g2, b1, b2, b3⟩ := k_two hB1 hT2 hT hV1 hI x y
  obtain ⟨E', g', c1, c2⟩ := q_Cend_of hE hS hs h6 (p_two_ok hI x y) (q_Rf_o (q_Out_t a2 b2) hT3) b3
  refine ⟨E', g', fun Q => ?_, c2⟩
  conv => lhs; simp (disch := omega) only [x158_0, x158_1, x158_2, x158_5, x158_6, x158_7, x158_10, x158_13, nI_add, pk_mul, q_cl31, q_vin, q_le, q_lt, q_eqn, q_b_0, q_b_t, q_b_f, q_nz, q_nz1, q_nz0, q_tl, q_tn, true_and, and_true, not_true_eq_false, not_false_eq_true, ite_true, ite_false, ↓reduceIte, true_or, or_true, and_self, ne_eq, q_or1, q_or2, Nat.add_eq_zero_iff, and_false, false_and, List.length_cons, List.length_nil, reduceCtorEq, q_toI, Nat.zero_add, Nat.le_refl, q_c0, q_c1, q_c2, q_c4, q_c9, q_c12, q_c30, q_c99, q_c100, q_c126, q_c32, q_c359, q_c999, k3, t1, a1, b1, c1]
theorem j_giveBack (hE : q_EB L E) (hS : q_Slo E) (hB : q_BesB E g) (hs : st ≤ 4) (h6 : g 3 6 = nI st) (hI : q_In f) (hV : q_Vsta g (q_rf E 3 0) f) : ∃ E' g', (∀ Q : Option Value → q_E → q_G → Prop, q_X 147 0 [.ref 3] [] E g Q = Q (some (.int (p_give f).1)) E' g') ∧ q_Cend E g st (p_give f) E' g' := by
  obtain ⟨z0, z1, z2, z3, z4, z5⟩ := q_Slo_z hS
  obtain ⟨⟨o0, o1, -⟩, -⟩ := q_Slo_g hS
  have hT := hE.2.2.2.2 _ o1
  have hT2 : 2 < q_rf E 3 1 := by unfold q_okb at o1; omega
  have hT3 : q_rf E 3 1 + 23 ≤ 142 := by unfold q_okb at o1; omega
  have k3 := hE.2.1.1
  have t1 := hT.1
  obtain ⟨g1, a1, a2, a3⟩ := c_fresh (g := g) hE hS
  have hB1 := q_Bes_o hB a2 hT2
  have hV1 := a3 f hI.2.1.1 hV
  obtain ⟨g2, b1, b2, b3⟩ := k_give hT hV1 hI
  obtain ⟨E', g', c1, c2⟩ := q_Cend_of hE hS hs h6 (p_give_ok hI) (q_Rf_o (q_Out_t a2 b2) hT3) b3
  refine ⟨E', g', fun Q => ?_, c2⟩
  conv => lhs; simp (disch := omega) only [x147_0, x147_1, x147_2, x147_5, x147_8, x147_11, nI_add, pk_mul, q_cl31, q_vin, q_le, q_lt, q_eqn, q_b_0, q_b_t, q_b_f, q_nz, q_nz1, q_nz0, q_tl, q_tn, true_and, and_true, not_true_eq_false, not_false_eq_true, ite_true, ite_false, ↓reduceIte, true_or, or_true, and_self, ne_eq, q_or1, q_or2, Nat.add_eq_zero_iff, and_false, false_and, List.length_cons, List.length_nil, reduceCtorEq, q_toI, Nat.zero_add, Nat.le_refl, q_c0, q_c1, q_c2, q_c4, q_c9, q_c12, q_c30, q_c99, q_c100, q_c126, q_c32, q_c359, q_c999, k3, t1, a1, b1, c1]
theorem j_pass (hE : q_EB L E) (hS : q_Slo E) (hB : q_BesB E g) (hs : st ≤ 4) (h6 : g 3 6 = nI st) (hI : q_In f) (hV : q_Vsta g (q_rf E 3 0) f) (x : Int32) : ∃ E' g', (∀ Q : Option Value → q_E → q_G → Prop, q_X 150 0 [.ref 3, .int x] [] E g Q = Q (some (.int (p_pass f x).1)) E' g') ∧ q_Cend E g st (p_pass f x) E' g' := by
  obtain ⟨z0, z1, z2, z3, z4, z5⟩ := q_Slo_z hS
  obtain ⟨⟨o0, o1, -⟩, -⟩ := q_Slo_g hS
  have hT := hE.2.2.2.2 _ o1
  have hT2 : 2 < q_rf E 3 1 := by unfold q_okb at o1; omega
  have hT3 : q_rf E 3 1 + 23 ≤ 142 := by unfold q_okb at o1; omega
  have k3 := hE.2.1.1
  have t1 := hT.1
  obtain ⟨g1, a1, a2, a3⟩ := c_fresh (g := g) hE hS
  have hB1 := q_Bes_o hB a2 hT2
  have hV1 := a3 f hI.2.1.1 hV
  obtain ⟨g2, b1, b2, b3⟩ := k_pass hT hV1 hI x
  obtain ⟨E', g', c1, c2⟩ := q_Cend_of hE hS hs h6 (p_pass_ok hI x) (q_Rf_o (q_Out_t a2 b2) hT3) b3
  refine ⟨E', g', fun Q => ?_, c2⟩
  conv => lhs; simp (disch := omega) only [x150_0, x150_1, x150_2, x150_5, x150_6, x150_9, x150_12, nI_add, pk_mul, q_cl31, q_vin, q_le, q_lt, q_eqn, q_b_0, q_b_t, q_b_f, q_nz, q_nz1, q_nz0, q_tl, q_tn, true_and, and_true, not_true_eq_false, not_false_eq_true, ite_true, ite_false, ↓reduceIte, true_or, or_true, and_self, ne_eq, q_or1, q_or2, Nat.add_eq_zero_iff, and_false, false_and, List.length_cons, List.length_nil, reduceCtorEq, q_toI, Nat.zero_add, Nat.le_refl, q_c0, q_c1, q_c2, q_c4, q_c9, q_c12, q_c30, q_c99, q_c100, q_c126, q_c32, q_c359, q_c999, k3, t1, a1, b1, c1]
theorem j_set (hE : q_EB L E) (hS : q_Slo E) (hB : q_BesB E g) (hs : st ≤ 4) (h6 : g 3 6 = nI st) (hI : q_In f) (hV : q_Vsta g (q_rf E 3 0) f) (x y : Int32) : ∃ E' g', (∀ Q : Option Value → q_E → q_G → Prop, q_X 153 0 [.ref 3, .int x, .int y] [] E g Q = Q (some (.int (p_set f x y).1)) E' g') ∧ q_Cend E g st (p_set f x y) E' g' := by
  obtain ⟨z0, z1, z2, z3, z4, z5⟩ := q_Slo_z hS
  obtain ⟨⟨o0, o1, -⟩, -⟩ := q_Slo_g hS
  have hT := hE.2.2.2.2 _ o1
  have hT2 : 2 < q_rf E 3 1 := by unfold q_okb at o1; omega
  have hT3 : q_rf E 3 1 + 23 ≤ 142 := by unfold q_okb at o1; omega
  have k3 := hE.2.1.1
  have t1 := hT.1
  obtain ⟨g1, a1, a2, a3⟩ := c_fresh (g := g) hE hS
  have hB1 := q_Bes_o hB a2 hT2
  have hV1 := a3 f hI.2.1.1 hV
  obtain ⟨g2, b1, b2, b3⟩ := k_set hT hV1 hI x y
  obtain ⟨E', g', c1, c2⟩ := q_Cend_of hE hS hs h6 (p_set_ok hI x y) (q_Rf_o (q_Out_t a2 b2) hT3) b3
  refine ⟨E', g', fun Q => ?_, c2⟩
  conv => lhs; simp (disch := omega) only [x153_0, x153_1, x153_2, x153_5, x153_6, x153_7, x153_10, x153_13, nI_add, pk_mul, q_cl31, q_vin, q_le, q_lt, q_eqn, q_b_0, q_b_t, q_b_f, q_nz, q_nz1, q_nz0, q_tl, q_tn, true_and, and_true, not_true_eq_false, not_false_eq_true, ite_true, ite_false, ↓reduceIte, true_or, or_true, and_self, ne_eq, q_or1, q_or2, Nat.add_eq_zero_iff, and_false, false_and, List.length_cons, List.length_nil, reduceCtorEq, q_toI, Nat.zero_add, Nat.le_refl, q_c0, q_c1, q_c2, q_c4, q_c9, q_c12, q_c30, q_c99, q_c100, q_c126, q_c32, q_c359, q_c999, k3, t1, a1, b1, c1]
theorem j_play (hE : q_EB L E) (hS : q_Slo E) (hB : q_BesB E g) (hs : st ≤ 4) (h6 : g 3 6 = nI st) (hI : q_In f) (hV : q_Vsta g (q_rf E 3 0) f) {t : Nat → Int32} {n : Nat} (hT0 : q_Vtx g t n) : ∃ E' g', (∀ Q : Option Value → q_E → q_G → Prop, q_X 161 0 [.ref 3] [] E g Q = Q (some (.int (p_play t n f).1)) E' g') ∧ q_Cend E g st (p_play t n f) E' g' := by
  obtain ⟨z0, z1, z2, z3, z4, z5⟩ := q_Slo_z hS
  obtain ⟨⟨o0, o1, -⟩, -⟩ := q_Slo_g hS
  have hT := hE.2.2.2.2 _ o1
  have hT2 : 2 < q_rf E 3 1 := by unfold q_okb at o1; omega
  have hT3 : q_rf E 3 1 + 23 ≤ 142 := by unfold q_okb at o1; omega
  have k3 := hE.2.1.1
  have t1 := hT.1
  obtain ⟨g1, a1, a2, a3⟩ := c_fresh (g := g) hE hS
  have hB1 := q_Bes_o hB a2 hT2
  have hV1 := a3 f hI.2.1.1 hV
  obtain ⟨-, ⟨-, r7, r8, k145⟩, hX, -⟩ := id hE
  obtain ⟨g2, b1, b2, b3⟩ := c_go hX k145 hT2 hT3 hT hB1 (q_Vtx_r hT0 (q_Rf_o a2 hT3) hT3) hV1 hI
  have ok := p_play_ok (t := t) (n := n) hT0.1.2 hI
  have hf := q_Rf_t (q_Rf_o a2 hT3) b2
  have x1 := hX.1
  unfold p_play at ok ⊢
  generalize p_go t n 60 0 0 f = r at *
  obtain ⟨r1, c, f'⟩ := r
  obtain ⟨b3, b4⟩ := b3
  rcases r1 with _ | ⟨q, w, x⟩
  · dsimp only at b3 ok ⊢
    obtain ⟨d1, d2, d3⟩ := b3 rfl
    obtain ⟨E', g', c1, c2⟩ := q_Cend_of hE hS hs h6 ok hf (fun _ => d3)
    refine ⟨E', g', fun Q => ?_, c2⟩
    conv => lhs; simp (disch := omega) only [x161_0, x161_1, x161_4, x161_5, x161_8, x161_9, x161_12, x161_15, x161_16, x161_17, x161_20, x161_23, x161_26, x161_27, x161_30, x161_33, x161_36, x161_38, x161_41, nI_add, pk_mul, q_cl31, q_vin, q_le, q_lt, q_eqn, q_b_0, q_b_t, q_b_f, q_nz, q_nz1, q_nz0, q_tl, q_tn, true_and, and_true, not_true_eq_false, not_false_eq_true, ite_true, ite_false, ↓reduceIte, true_or, or_true, and_self, ne_eq, q_or1, q_or2, Nat.add_eq_zero_iff, and_false, false_and, List.length_cons, List.length_nil, reduceCtorEq, q_toI, Nat.zero_add, Nat.le_refl, q_c0, q_c1, q_c2, q_c4, q_c9, q_c12, q_c30, q_c99, q_c100, q_c126, q_c32, q_c359, q_c999, k3, t1, a1, b1, r7, r8, k145, d1, d2, c1, Nat.reduceEqDiff]
  · dsimp only at b4 ok ⊢
    obtain ⟨d0, d1, d2, d3⟩ := b4 q w x rfl
    obtain ⟨E', g', c1, c2⟩ := q_Cend_of hE hS hs h6 ok hf (fun h => absurd (Or.inr (Or.inl rfl)) h)
    refine ⟨E', g', fun Q => ?_, c2⟩
    rcases d3 with rfl | rfl
    all_goals
      conv => lhs; simp (disch := omega) only [x161_0, x161_1, x161_4, x161_5, x161_8, x161_9, x161_12, x161_15, x161_16, x161_17, x161_20, x161_23, x161_26, x161_27, x161_30, x161_33, x161_36, x161_38, x161_41, nI_add, pk_mul, q_cl31, q_vin, q_le, q_lt, q_eqn, q_b_0, q_b_t, q_b_f, q_nz, q_nz1, q_nz0, q_tl, q_tn, true_and, and_true, not_true_eq_false, not_false_eq_true, ite_true, ite_false, ↓reduceIte, true_or, or_true, and_self, ne_eq, q_or1, q_or2, Nat.add_eq_zero_iff, and_false, false_and, List.length_cons, List.length_nil, reduceCtorEq, q_toI, Nat.zero_add, Nat.le_refl, q_c0, q_c1, q_c2, q_c4, q_c9, q_c12, q_c30, q_c99, q_c100, q_c126, q_c32, q_c359, q_c999, k3, t1, a1, b1, r7, r8, k145, d1, c1, Nat.reduceEqDiff]
theorem j_fault (hE : q_EB L E) (hS : q_Slo E) (hB : q_BesB E g) (hI : q_In f) (hV : q_Vsta g (q_rf E 3 0) f) {t : Nat → Int32} {n : Nat} (hT0 : q_Vtx g t n) (x : Int32) : ∃ g', (∀ Q : Option Value → q_E → q_G → Prop, q_X 160 0 [.ref 3, .int x] [] E g Q = Q (some (.int (if q_ir 0 2 x = true then a_fault t n f x.toNatClampNeg else -1000001))) E g') ∧ q_Rf (q_rf E 3 1) g g' := by
  obtain ⟨z0, z1, z2, z3, z4, z5⟩ := q_Slo_z hS
  obtain ⟨⟨o0, o1, -⟩, -⟩ := q_Slo_g hS
  have hT := hE.2.2.2.2 _ o1
  have hT2 : 2 < q_rf E 3 1 := by unfold q_okb at o1; omega
  have hT3 : q_rf E 3 1 + 23 ≤ 142 := by unfold q_okb at o1; omega
  have k3 := hE.2.1.1
  have t1 := hT.1
  obtain ⟨g1, a1, a2, a3⟩ := c_fresh (g := g) hE hS
  have hB1 := q_Bes_o hB a2 hT2
  have hV1 := a3 f hI.2.1.1 hV
  obtain ⟨-, ⟨-, r7, r8, k145⟩, hX, -⟩ := id hE
  cases e : q_ir 0 2 x
  · refine ⟨g, fun Q => ?_, q_Rf_r _ g⟩
    simp (disch := omega) only [x160_0, x160_1, x160_2, x160_3, x160_6, x160_9, x160_11, x160_12, x160_13, x160_16, x160_17, x160_20, x160_21, x160_24, x160_27, x160_28, x160_31, x160_34, x160_37, x160_39, x160_40, x160_41, x160_68, x160_69, x160_72, x160_75, x160_76, x160_77, x160_80, x160_83, x160_84, x160_85, x160_88, x160_91, nI_add, pk_mul, q_cl31, q_vin, q_le, q_lt, q_eqn, q_b_0, q_b_t, q_b_f, q_nz, q_nz1, q_nz0, q_tl, q_tn, true_and, and_true, not_true_eq_false, not_false_eq_true, ite_true, ite_false, ↓reduceIte, true_or, or_true, and_self, ne_eq, q_or1, q_or2, Nat.add_eq_zero_iff, and_false, false_and, List.length_cons, List.length_nil, reduceCtorEq, q_toI, Nat.zero_add, Nat.le_refl, q_c0, q_c1, q_c2, q_c4, q_c9, q_c12, q_c30, q_c99, q_c100, q_c126, q_c32, q_c359, q_c999, s_isWithin, e, Bool.false_eq_true]
  obtain ⟨j, -, j1, rfl, j4⟩ := q_lo (lo := 0) (n := 2) e (by omega)
  rw [j4]
  obtain ⟨g2, b1, b2, b3⟩ := c_go hX k145 hT2 hT3 hT hB1 (q_Vtx_r hT0 (q_Rf_o a2 hT3) hT3) hV1 hI
  have hf := q_Rf_t (q_Rf_o a2 hT3) b2
  have x1 := hX.1
  refine ⟨g2, fun Q => ?_, hf⟩
  unfold a_fault
  generalize p_go t n 60 0 0 f = r at *
  obtain ⟨r1, c, f'⟩ := r
  obtain ⟨b3, b4⟩ := b3
  rcases r1 with _ | ⟨q, w, y⟩
  · dsimp only at b3 ⊢
    obtain ⟨d1, d2, d3⟩ := b3 rfl
    conv => lhs; simp (disch := omega) only [x160_0, x160_1, x160_2, x160_3, x160_6, x160_9, x160_11, x160_12, x160_13, x160_16, x160_17, x160_20, x160_21, x160_24, x160_27, x160_28, x160_31, x160_34, x160_37, x160_39, x160_40, x160_41, x160_68, x160_69, x160_72, x160_75, x160_76, x160_77, x160_80, x160_83, x160_84, x160_85, x160_88, x160_91, nI_add, pk_mul, q_cl31, q_vin, q_le, q_lt, q_eqn, q_b_0, q_b_t, q_b_f, q_nz, q_nz1, q_nz0, q_tl, q_tn, true_and, and_true, not_true_eq_false, not_false_eq_true, ite_true, ite_false, ↓reduceIte, true_or, or_true, and_self, ne_eq, q_or1, q_or2, Nat.add_eq_zero_iff, and_false, false_and, List.length_cons, List.length_nil, reduceCtorEq, q_toI, Nat.zero_add, Nat.le_refl, q_c0, q_c1, q_c2, q_c4, q_c9, q_c12, q_c30, q_c99, q_c100, q_c126, q_c32, q_c359, q_c999, s_isWithin, e, k3, t1, a1, b1, r7, r8, k145, d1, d2, Nat.reduceEqDiff]
    simp only [↓reduceIte]
  · dsimp only at b4 ⊢
    obtain ⟨d0, d1, d2, d3⟩ := b4 q w y rfl
    have dz : (nI w = nI 0) = False := by rcases d3 with rfl | rfl <;> decide
    rcases (by omega : j = 0 ∨ j = 1 ∨ j = 2) with rfl | rfl | rfl
    all_goals
      simp (disch := omega) only [x160_0, x160_1, x160_2, x160_3, x160_6, x160_9, x160_11, x160_12, x160_13, x160_16, x160_17, x160_20, x160_21, x160_24, x160_27, x160_28, x160_31, x160_34, x160_37, x160_39, x160_40, x160_41, x160_68, x160_69, x160_72, x160_75, x160_76, x160_77, x160_80, x160_83, x160_84, x160_85, x160_88, x160_91, nI_add, pk_mul, q_cl31, q_vin, q_le, q_lt, q_eqn, q_b_0, q_b_t, q_b_f, q_nz, q_nz1, q_nz0, q_tl, q_tn, true_and, and_true, not_true_eq_false, not_false_eq_true, ite_true, ite_false, ↓reduceIte, true_or, or_true, and_self, ne_eq, q_or1, q_or2, Nat.add_eq_zero_iff, and_false, false_and, List.length_cons, List.length_nil, reduceCtorEq, q_toI, Nat.zero_add, Nat.le_refl, q_c0, q_c1, q_c2, q_c4, q_c9, q_c12, q_c30, q_c99, q_c100, q_c126, q_c32, q_c359, q_c999, s_isWithin, e, k3, t1, a1, b1, r7, r8, k145, d0, d1, d2, dz, Nat.reduceEqDiff]
theorem j_clearText (hE : q_EB L E) {Q : Option Value → q_E → q_G → Prop} : q_X 23 0 [.ref 3, .null] [] E g Q = Q (some (.int (g 142 1))) E (q_up g 142 1 (nI 0)) := by
  obtain ⟨-, ⟨k3, r7, r8, k145⟩, hX, -⟩ := id hE
  simp (disch := omega) only [x23_0, x23_1, x23_4, x23_7, x23_8, x23_9, x23_12, x23_13, x23_16, x23_17, nI_add, pk_mul, q_cl31, q_vin, q_le, q_lt, q_eqn, q_b_0, q_b_t, q_b_f, q_nz, q_nz1, q_nz0, q_tl, q_tn, true_and, and_true, not_true_eq_false, not_false_eq_true, ite_true, ite_false, ↓reduceIte, true_or, or_true, and_self, ne_eq, q_or1, q_or2, Nat.add_eq_zero_iff, and_false, false_and, List.length_cons, List.length_nil, reduceCtorEq, q_toI, Nat.zero_add, Nat.le_refl, q_c0, q_c1, q_c2, q_c4, q_c9, q_c12, q_c30, q_c99, q_c100, q_c126, q_c32, q_c359, q_c999, k3, r7, hX.1, Nat.reduceEqDiff]
theorem j_type (hE : q_EB L E) {t : Nat → Int32} {n : Nat} (hT0 : q_Vtx g t n) (x : Int32) {Q : Option Value → q_E → q_G → Prop} : q_X 67 0 [.ref 3, .int x] [] E g Q = if q_ir 32 126 x = true then (if n = 60 then Q (some (.int (-1000003))) E g else Q (some (.int (nI (n + 1)))) E (q_up (q_up g 143 n x) 142 1 (nI (n + 1)))) else Q (some (.int (-1000001))) E g := by
  obtain ⟨-, ⟨k3, r7, r8, k145⟩, ⟨x1, x2, x3, x4, x5⟩, -⟩ := id hE
  obtain ⟨⟨v1, v2⟩, -⟩ := hT0
  cases e : q_ir 32 126 x
  · simp (disch := omega) only [x67_0, x67_1, x67_3, x67_5, x67_8, x67_11, x67_13, x67_14, x67_15, x67_18, x67_19, x67_20, x67_23, x67_26, x67_27, x67_30, x67_33, x67_36, x67_38, nI_add, pk_mul, q_cl31, q_vin, q_le, q_lt, q_eqn, q_b_0, q_b_t, q_b_f, q_nz, q_nz1, q_nz0, q_tl, q_tn, true_and, and_true, not_true_eq_false, not_false_eq_true, ite_true, ite_false, ↓reduceIte, true_or, or_true, and_self, ne_eq, q_or1, q_or2, Nat.add_eq_zero_iff, and_false, false_and, List.length_cons, List.length_nil, reduceCtorEq, q_toI, Nat.zero_add, Nat.le_refl, q_c0, q_c1, q_c2, q_c4, q_c9, q_c12, q_c30, q_c99, q_c100, q_c126, q_c32, q_c359, q_c999, s_isWithin, e, Bool.false_eq_true]
  · obtain ⟨j, j0, j1, rfl, j4⟩ := q_lo (lo := 32) (n := 126) e (by omega)
    have ch := q_chr (j := j) (by omega)
    by_cases c : n = 60
    · simp (disch := omega) only [x67_0, x67_1, x67_3, x67_5, x67_8, x67_11, x67_13, x67_14, x67_15, x67_18, x67_19, x67_20, x67_23, x67_26, x67_27, x67_30, x67_33, x67_36, x67_38, x17_0, x17_1, x17_4, x17_6, x17_9, x17_10, x17_11, x17_12, x17_15, x17_16, x17_19, x17_20, x17_21, x17_22, x17_23, x17_26, x17_27, x17_28, x17_31, x17_32, nI_add, pk_mul, q_cl31, q_vin, q_le, q_lt, q_eqn, q_b_0, q_b_t, q_b_f, q_nz, q_nz1, q_nz0, q_tl, q_tn, true_and, and_true, not_true_eq_false, not_false_eq_true, ite_true, ite_false, ↓reduceIte, true_or, or_true, and_self, ne_eq, q_or1, q_or2, Nat.add_eq_zero_iff, and_false, false_and, List.length_cons, List.length_nil, reduceCtorEq, q_toI, Nat.zero_add, Nat.le_refl, q_c0, q_c1, q_c2, q_c4, q_c9, q_c12, q_c30, q_c99, q_c100, q_c126, q_c32, q_c359, q_c999, s_isWithin, e, k3, r7, x1, v1, c, Nat.reduceEqDiff, Nat.lt_irrefl]
    · simp (disch := omega) only [x67_0, x67_1, x67_3, x67_5, x67_8, x67_11, x67_13, x67_14, x67_15, x67_18, x67_19, x67_20, x67_23, x67_26, x67_27, x67_30, x67_33, x67_36, x67_38, x17_0, x17_1, x17_4, x17_6, x17_9, x17_10, x17_11, x17_12, x17_15, x17_16, x17_19, x17_20, x17_21, x17_22, x17_23, x17_26, x17_27, x17_28, x17_31, x17_32, nI_add, pk_mul, q_cl31, q_vin, q_le, q_lt, q_eqn, q_b_0, q_b_t, q_b_f, q_nz, q_nz1, q_nz0, q_tl, q_tn, true_and, and_true, not_true_eq_false, not_false_eq_true, ite_true, ite_false, ↓reduceIte, true_or, or_true, and_self, ne_eq, q_or1, q_or2, Nat.add_eq_zero_iff, and_false, false_and, List.length_cons, List.length_nil, reduceCtorEq, q_toI, Nat.zero_add, Nat.le_refl, q_c0, q_c1, q_c2, q_c4, q_c9, q_c12, q_c30, q_c99, q_c100, q_c126, q_c32, q_c359, q_c999, s_isWithin, e, k3, r7, x1, x2, x4, v1, c, show (n < 60) = True from eq_true (by omega), Nat.reduceEqDiff, ch, q_upn, q_ups]
end
