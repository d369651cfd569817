/-! p28: a turn of the law -/
section
variable {L m i : Nat} {xs : Nat → Int32} {E : q_E} {g : q_G} {f : q_St} {Q : Option Value → q_E → q_G → Prop} {ord acc : Int32}
theorem s_cell (h1 : q_kd E 1 = (1, L)) (hL : L ≤ 260) {k : Nat} (hk : k < 1000) : ∃ y : Nat, y < 2147483648 ∧ ∀ Q : Option Value → q_E → q_G → Prop, q_X 3 0 [.ref 1, .int (nI k)] [] E g Q = Q (some (.int (nI y))) E g := by
  by_cases c : k < L
  · obtain ⟨y, y1, y2⟩ := pk_andE (g 1 k) (m := nI 2147483647) 31 (by decide)
    refine ⟨y, by omega, fun Q => ?_⟩
    simp (disch := omega) only [x3_0, x3_1, x3_2, x3_3, x3_6, x3_7, x3_8, x3_9, x3_12, x3_14, x3_15, x3_18, x3_19, x3_20, x3_23, x3_24, x3_26, x3_27, nI_add, pk_mul, q_cl31, q_vin, q_le, q_lt, q_eqn, q_b_0, q_b_t, q_b_f, q_nz, q_nz1, q_nz0, q_tl, q_tn, true_and, and_true, not_true_eq_false, not_false_eq_true, ite_true, ite_false, ↓reduceIte, true_or, or_true, and_self, ne_eq, q_or1, q_or2, Nat.add_eq_zero_iff, and_false, false_and, List.length_cons, List.length_nil, reduceCtorEq, q_toI, Nat.zero_add, Nat.le_refl, q_c0, q_c1, q_c2, q_c4, q_c9, q_c12, q_c30, q_c99, q_c100, q_c126, q_c32, q_c359, q_c999, h1, y2, show (L ≤ k) = False from eq_false (by omega)]
  · obtain ⟨y, y1, y2⟩ := pk_andE (nI (35279 * (k % 4096) + 137)) (m := nI 2147483647) 31 (by decide)
    refine ⟨y, by omega, fun Q => ?_⟩
    simp (disch := omega) only [x3_0, x3_1, x3_2, x3_3, x3_6, x3_7, x3_8, x3_9, x3_12, x3_14, x3_15, x3_18, x3_19, x3_20, x3_23, x3_24, x3_26, x3_27, nI_add, pk_mul, q_cl31, q_vin, q_le, q_lt, q_eqn, q_b_0, q_b_t, q_b_f, q_nz, q_nz1, q_nz0, q_tl, q_tn, true_and, and_true, not_true_eq_false, not_false_eq_true, ite_true, ite_false, ↓reduceIte, true_or, or_true, and_self, ne_eq, q_or1, q_or2, Nat.add_eq_zero_iff, and_false, false_and, List.length_cons, List.length_nil, reduceCtorEq, q_toI, Nat.zero_add, Nat.le_refl, q_c0, q_c1, q_c2, q_c4, q_c9, q_c12, q_c30, q_c99, q_c100, q_c126, q_c32, q_c359, q_c999, h1, y2, pk_div, hg_rem, hg_nz, show (L ≤ k) = True from eq_true (by omega)]
theorem hg_if {c : Prop} [hd : Decidable c] {A B : Prop} (a : A) (b : B) : if c then A else B := by
  by_cases h : c
  · rw [if_pos h]; exact a
  · rw [if_neg h]; exact b
/-- the loop's head before turn i -/
def hg_Hd (L : Nat) (xs : Nat → Int32) (m i : Nat) (Q : Option Value → q_E → q_G → Prop) : Prop := ∀ (E : q_E) (g : q_G) (f : q_St) (ord acc : Int32), q_Rc L xs E g f 4 → hg_Le m i (2 * i) ord acc f → ∀ l7 l8 l9 l10 l11 l12 l13 l14 l15 l16 l17 l18 l19 l20 l21 l22 l23 l24 l25 l26 l27 l28 l29 l30 l31 : Value, q_X 86 186 [.ref 1, .ref 3, .int (nI 1), .int (nI m), .int ord, .int acc, .int (nI i), l7, l8, l9, l10, l11, l12, l13, l14, l15, l16, l17, l18, l19, l20, l21, l22, l23, l24, l25, l26, l27, l28, l29, l30, l31] [] E g Q
theorem hg_HK (hi : i < 36) (H : hg_Hd L xs m (i + 1) Q) : hg_K L xs m i Q := by
  intro E g f ord acc h hL l7 l8 l9 l10 l11 l12 l13 l14 l15 l16 l17 l18 l19 l20 l21 l22 l23 l24 l25 l26 l27 l28 l29 l30 l31
  simp (disch := omega) only [x86_1275, x86_1276, x86_1279, x86_1280, x86_1281, x86_1283, x86_1285, nI_add, pk_mul, q_cl31, q_vin, q_le, q_lt, q_eqn, q_b_0, q_b_t, q_b_f, q_nz, q_nz1, q_nz0, q_tl, q_tn, true_and, and_true, not_true_eq_false, not_false_eq_true, ite_true, ite_false, ↓reduceIte, true_or, or_true, and_self, ne_eq, q_or1, q_or2, Nat.add_eq_zero_iff, and_false, false_and, List.length_cons, List.length_nil, reduceCtorEq, q_toI, Nat.zero_add, Nat.le_refl, q_c0, q_c1, q_c2, q_c4, q_c9, q_c12, q_c30, q_c99, q_c100, q_c126, q_c32, q_c359, q_c999]
  refine s_hangs h hL (by omega) ?_
  simp (disch := omega) only [x86_1288, x86_1291, x86_1292, x86_1295, x86_1296, x86_1297, nI_add, pk_mul, q_cl31, q_vin, q_le, q_lt, q_eqn, q_b_0, q_b_t, q_b_f, q_nz, q_nz1, q_nz0, q_tl, q_tn, true_and, and_true, not_true_eq_false, not_false_eq_true, ite_true, ite_false, ↓reduceIte, true_or, or_true, and_self, ne_eq, q_or1, q_or2, Nat.add_eq_zero_iff, and_false, false_and, List.length_cons, List.length_nil, reduceCtorEq, q_toI, Nat.zero_add, Nat.le_refl, q_c0, q_c1, q_c2, q_c4, q_c9, q_c12, q_c30, q_c99, q_c100, q_c126, q_c32, q_c359, q_c999]
  simp only [x86_1300]
  exact H _ _ _ _ _ h hL _ _ _ _ _ _ _ _ _ _ _ _ _ _ _ _ _ _ _ _ _ _ _ _ _
theorem hg_turn (hN : L ≤ 260) (hi : i < 36) (H : hg_Hd L xs m (i + 1) Q) : hg_Hd L xs m i Q := by
  have K := hg_HK hi H
  intro E g f ord acc h hL l7 l8 l9 l10 l11 l12 l13 l14 l15 l16 l17 l18 l19 l20 l21 l22 l23 l24 l25 l26 l27 l28 l29 l30 l31
  obtain ⟨y, y1, y2⟩ := s_cell (g := g) h.1.1.1.2.2.1 hN (k := 11 + i) (by omega)
  have h2 := hL.1.2.1
  have h6 := hL.1.2.2
  obtain ⟨z, hz⟩ : ∃ z, z = y / 16 := ⟨_, rfl⟩
  have hz2 : z < 2147483648 := by omega
  have hv : z % m < m := Nat.mod_lt _ (by omega)
  have hk : z / 8 % 10 < 10 := Nat.mod_lt _ (by omega)
  simp (disch := omega) only [x86_186, x86_188, x86_190, x86_193, x86_194, x86_197, x86_198, x86_200, x86_202, x86_203, x86_206, x86_208, x86_210, x86_212, x86_213, x86_215, x86_217, x86_218, x86_219, x86_221, x86_223, x86_225, x86_226, x86_228, x86_229, x86_231, x86_233, x86_235, nI_add, pk_mul, q_cl31, q_vin, q_le, q_lt, q_eqn, q_b_0, q_b_t, q_b_f, q_nz, q_nz1, q_nz0, q_tl, q_tn, true_and, and_true, not_true_eq_false, not_false_eq_true, ite_true, ite_false, ↓reduceIte, true_or, or_true, and_self, ne_eq, q_or1, q_or2, Nat.add_eq_zero_iff, and_false, false_and, List.length_cons, List.length_nil, reduceCtorEq, q_toI, Nat.zero_add, Nat.le_refl, q_c0, q_c1, q_c2, q_c4, q_c9, q_c12, q_c30, q_c99, q_c100, q_c126, q_c32, q_c359, q_c999, y2, pk_div, hg_rem, hg_nz, ← hz, show (36 ≤ i) = False from eq_false (by omega)]
  generalize z % m = v at *
  generalize z / 8 % 10 = k at *
  rw [x86_236]
  exact hg_if (hg_c0 K h hL hi hv hz2) (hg_if (hg_c0 K h hL hi hv hz2) (hg_if (hg_c0 K h hL hi hv hz2) (hg_if (hg_c3 K h hL hi hv hk hz2) (hg_if (hg_c3 K h hL hi hv hk hz2) (hg_if (hg_c3 K h hL hi hv hk hz2) (hg_if (hg_c6 K h hL hi hk) (hg_if (hg_c7 K h hL hi) (hg_if (hg_c8 K h hL hi hz2) (hg_if (hg_c9 K h hL hi hv hz2) (hg_if (hg_c9 K h hL hi hv hz2) (hg_c11 K h hL hi hv)))))))))))
/-- all turns -/
theorem hg_all (hN : L ≤ 260) (H : hg_Hd L xs m 36 Q) : hg_Hd L xs m 0 Q := hg_down (N := 36) (P := fun i => hg_Hd L xs m i Q) (fun i hi h => hg_turn hN hi h) H
/-- the law's end -/
theorem hg_fin (hQ : ∀ (E' : q_E) (g' : q_G), E'.1 ≤ 146 → E'.2.1 ≤ 2079 → Q (some (.int (nI 1))) E' g') : hg_Hd L xs m 36 Q := by
  intro E g f ord acc h hL l7 l8 l9 l10 l11 l12 l13 l14 l15 l16 l17 l18 l19 l20 l21 l22 l23 l24 l25 l26 l27 l28 l29 l30 l31
  have k3 := h.1.1.2.1.1
  have hI := h.2.2.1
  have h2 := hL.1.2.1
  have h6 := hL.1.2.2
  obtain ⟨E1, g1, W1, st1, r1, s1⟩ := w_sell h (nI 0)
  have pos : ∃ r : Nat, r < 1000 ∧ (p_sell f (nI 0)).1 = nI r := by
    rcases hg_sell hI hL (by omega) (by omega) (v := 0) (by omega) with ⟨-, q, -⟩ | ⟨-, u, -, -, -, u2, -, -, -, -, -, -, -, u1, -⟩
    · exact ⟨100, by omega, q⟩
    · exact ⟨u, by omega, u1⟩
  obtain ⟨r, hr, hr2⟩ := pos
  rcases s1 with ⟨s1, -⟩ | ⟨-, s2, s3⟩
  · exact absurd (by rw [← hr2]; exact s1) (q_er_n (n := r) (by omega))
  obtain rfl : st1 = 4 := s2
  obtain ⟨E2, g2, W2, r2⟩ := w_undo r1 (by omega) hI s3
  obtain ⟨E3, g3, W3, st3, r3, -⟩ := w_lay r2 (nI 10) (nI 0) (nI 1)
  have e3 : p_lay f (nI 10) (nI 0) (nI 1) = (-1000001, f) := if_neg (by rw [show q_ir 0 9 (nI 10) = false by decide]; simp)
  rw [e3] at W3 r3
  obtain ⟨E4, g4, W4, st4, r4, -⟩ := w_lay r3 (nI 0) (nI 0) (nI 13)
  have e4 : p_lay f (nI 0) (nI 0) (nI 13) = (-1000001, f) := if_neg (by rw [show q_ir 1 12 (nI 13) = false by decide]; simp)
  dsimp only at W4 r4
  rw [e4] at W4 r4
  obtain ⟨E5, g5, W5, st5, r5, -⟩ := w_order r4 (nI 0) (nI 1000)
  have e5 : p_order f (nI 0) (nI 1000) = (-1000001, f) := if_neg (by rw [show q_ir 1 999 (nI 1000) = false by decide]; simp)
  dsimp only at W5 r5
  rw [e5] at W5 r5
  obtain ⟨E6, g6, W6, st6, r6, -⟩ := w_pass r5 (nI 0)
  have e6 : p_pass f (nI 0) = (-1000001, f) := if_neg (by rw [show q_ir 1 99 (nI 0) = false by decide]; simp)
  dsimp only at W6 r6
  rw [e6] at W6 r6
  obtain ⟨E7, g7, W7, st7, r7, -⟩ := w_clear r6 (-1)
  have e7 : p_clear f (-1) = (-1000001, f) := if_neg (by rw [show q_ir 0 9 (-1) = false by decide]; simp)
  dsimp only at W7 r7
  rw [e7] at W7 r7
  dsimp only at W3 W4 W5 W6 W7 r7
  have j1 := r1.1.1.2.1.1
  have j2 := r2.1.1.2.1.1
  have j3 := r3.1.1.2.1.1
  have j4 := r4.1.1.2.1.1
  have j5 := r5.1.1.2.1.1
  have j6 := r6.1.1.2.1.1
  simp (disch := omega) only [x86_186, x86_188, x86_190, x86_1303, x86_1304, x86_1305, x86_1308, x86_1310, x86_1311, x86_1314, x86_1315, x86_1316, x86_1319, x86_1322, x86_1323, x86_1326, x86_1327, x86_1330, x86_1331, x86_1332, x86_1335, x86_1337, x86_1340, x86_1341, x86_1343, x86_1344, x86_1345, x86_1348, x86_1350, x86_1353, x86_1354, x86_1355, x86_1356, x86_1358, x86_1361, x86_1363, x86_1366, x86_1367, x86_1368, x86_1371, x86_1374, x86_1376, x86_1379, x86_1380, x86_1381, x86_1384, x86_1386, x86_1389, x86_1390, x86_1391, x86_1394, x86_1396, x86_1399, x86_1400, x86_1403, x86_1404, nI_add, pk_mul, q_cl31, q_vin, q_le, q_lt, q_eqn, q_b_0, q_b_t, q_b_f, q_nz, q_nz1, q_nz0, q_tl, q_tn, true_and, and_true, not_true_eq_false, not_false_eq_true, ite_true, ite_false, ↓reduceIte, true_or, or_true, and_self, ne_eq, q_or1, q_or2, Nat.add_eq_zero_iff, and_false, false_and, List.length_cons, List.length_nil, reduceCtorEq, q_toI, Nat.zero_add, Nat.le_refl, q_c0, q_c1, q_c2, q_c4, q_c9, q_c12, q_c30, q_c99, q_c100, q_c126, q_c32, q_c359, q_c999, k3, j1, j2, j3, j4, j5, j6, r_count h, r_count r2, ac_5, W1, hr2, W2, W3, W4, W5, W6, W7, Nat.not_lt_zero, eq_self, Nat.le_refl, Nat.reduceSub]
  exact hQ _ _ (Nat.le_of_eq r7.1.1.1.1) r7.1.1.1.2.1
end
