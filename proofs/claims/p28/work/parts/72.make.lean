/-! the class's object and the model's are made -/
section
variable {s b c : Nat} {K : Nat → Nat × Nat} {R : Nat → Nat → Nat} {g : q_G}
theorem c_iTex (hk : K b = (10, 5)) : ∃ K' R' g', (∀ Q : Option Value → q_E → q_G → Prop, q_X 35 0 [.ref b] [] (b + 1, s, K, R) g Q = Q none (b + 3, s + 63, K', R') g') ∧ q_Bel b K K' R R' g g' ∧ (K' b = (10, 5) ∧ R' b 0 = b + 1 ∧ R' b 2 = b + 2 ∧ K' (b + 1) = (3, 60) ∧ K' (b + 2) = (2, 3)) ∧ g' b 1 = nI 0 := by
  obtain ⟨na1, na2⟩ := q_nar (j := 0) (by omega)
  apply Exists.intro
  apply Exists.intro
  apply Exists.intro
  refine ⟨fun Q => ?_, fun a ha => ⟨?_, fun j => ?_, ?_⟩, ⟨?_, ?_, ?_, ?_, ?_⟩, ?_⟩
  · conv => lhs; simp (disch := omega) only [x35_0, x35_1, x35_4, x35_5, x35_7, x35_9, x35_12, x35_13, x35_14, x35_17, x35_18, x35_19, x35_21, x35_24, x35_25, x35_26, x35_29, x35_30, x35_31, x35_34, nI_add, pk_mul, q_cl31, q_vin, q_le, q_lt, q_eqn, q_b_0, q_b_t, q_b_f, q_nz, q_nz1, q_nz0, q_tl, q_tn, true_and, and_true, not_true_eq_false, not_false_eq_true, ite_true, ite_false, ↓reduceIte, true_or, or_true, and_self, ne_eq, q_or1, q_or2, Nat.add_eq_zero_iff, and_false, false_and, List.length_cons, List.length_nil, reduceCtorEq, q_toI, Nat.zero_add, Nat.le_refl, q_c0, q_c1, q_c2, q_c4, q_c9, q_c12, q_c30, q_c99, q_c100, q_c126, q_c32, q_c359, q_c999, e_new, e_set, e_kd, e_rf, tK_n, tK_e, tZ_n, tR_n, tR_m, tR_e, hk, na1, na2, Nat.reduceLeDiff, Nat.reduceAdd, Nat.reduceEqDiff]
    try exact rfl
  · simp (disch := omega) only [tK_n]
  · simp (disch := omega) only [tZ_n, tR_n]
  · simp (disch := omega) only [q_upf, q_upA_n]
  · simp (disch := omega) only [tK_n, hk]
  · simp (disch := omega) only [tZ_n, tR_n, tR_m, tR_e]
  · simp (disch := omega) only [tZ_n, tR_n, tR_m, tR_e]
  · simp (disch := omega) only [tK_n, tK_e]
  · simp (disch := omega) only [tK_n, tK_e]
  · simp (disch := omega) only [q_upn, q_upm, q_upe, q_upA_n]
theorem c_iReh (hk : K b = (8, 4)) : ∃ g', (∀ Q : Option Value → q_E → q_G → Prop, q_X 29 0 [.ref b] [] (b + 1, s, K, R) g Q = Q none (b + 1, s, K, R) g') ∧ q_Bel b K K R R g g' := by
  apply Exists.intro
  refine ⟨fun Q => ?_, fun a ha => ⟨rfl, fun j => rfl, ?_⟩⟩
  · conv => lhs; simp (disch := omega) only [x29_0, x29_1, x29_4, x29_5, x29_6, x29_9, x29_10, x29_11, x29_14, x29_15, x29_16, x29_19, x29_20, x29_21, x29_24, nI_add, pk_mul, q_cl31, q_vin, q_le, q_lt, q_eqn, q_b_0, q_b_t, q_b_f, q_nz, q_nz1, q_nz0, q_tl, q_tn, true_and, and_true, not_true_eq_false, not_false_eq_true, ite_true, ite_false, ↓reduceIte, true_or, or_true, and_self, ne_eq, q_or1, q_or2, Nat.add_eq_zero_iff, and_false, false_and, List.length_cons, List.length_nil, reduceCtorEq, q_toI, Nat.zero_add, Nat.le_refl, q_c0, q_c1, q_c2, q_c4, q_c9, q_c12, q_c30, q_c99, q_c100, q_c126, q_c32, q_c359, q_c999, e_new, e_set, e_kd, e_rf, hk]
    try exact rfl
  · simp (disch := omega) only [q_upf]
theorem c_iAll (hk : K c = (12, 9)) : ∃ K' R' g', (∀ Q : Option Value → q_E → q_G → Prop, q_X 68 0 [.ref c] [] (c + 1, s, K, R) g Q = Q none (c + 143, s + 2070, K', R') g') ∧ q_Bel c K K' R R' g g' ∧ (K' c = (12, 9) ∧ R' c 7 = c + 139 ∧ R' c 8 = c + 142 ∧ K' (c + 142) = (8, 4)) ∧ (K' (c + 139) = (10, 5) ∧ R' (c + 139) 0 = c + 140 ∧ R' (c + 139) 2 = c + 141 ∧ K' (c + 140) = (3, 60) ∧ K' (c + 141) = (2, 3)) ∧ (R' c 0 = c + 1 ∧ R' c 1 = c + 24 ∧ R' c 2 = c + 47 ∧ R' c 3 = c + 70 ∧ R' c 4 = c + 93 ∧ R' c 5 = c + 116) ∧ (q_StaB (0, 0, K', R') (c + 1) ∧ q_StaB (0, 0, K', R') (c + 24) ∧ q_StaB (0, 0, K', R') (c + 47) ∧ q_StaB (0, 0, K', R') (c + 70) ∧ q_StaB (0, 0, K', R') (c + 93) ∧ q_StaB (0, 0, K', R') (c + 116)) ∧ g' c 6 = nI 0 ∧ g' (c + 139) 1 = nI 0 ∧ q_Vsta g' (c + 1) q_f0 := by
  obtain ⟨K1, R1, g1, i1, b1, t1, v1⟩ := c_iSta (b := c + 1) (s := s + 9) (K := q_tK K (c + 1) (9, 9)) (R := q_tZ R (c + 1)) (g := q_upA g (c + 1) (fun _ => nI 0)) (tK_e rfl)
  obtain ⟨K2, R2, g2, i2, b2, t2, v2⟩ := c_iSta (b := c + 1 + 23) (s := s + 9 + 324 + 9) (K := q_tK K1 (c + 1 + 23) (9, 9)) (R := q_tZ (q_tR R1 c 0 (c + 1)) (c + 1 + 23)) (g := q_upA g1 (c + 1 + 23) (fun _ => nI 0)) (tK_e rfl)
  obtain ⟨K3, R3, g3, i3, b3, t3, v3⟩ := c_iSta (b := c + 1 + 23 + 23) (s := s + 9 + 324 + 9 + 324 + 9) (K := q_tK K2 (c + 1 + 23 + 23) (9, 9)) (R := q_tZ (q_tR R2 c 1 (c + 1 + 23)) (c + 1 + 23 + 23)) (g := q_upA g2 (c + 1 + 23 + 23) (fun _ => nI 0)) (tK_e rfl)
  obtain ⟨K4, R4, g4, i4, b4, t4, v4⟩ := c_iSta (b := c + 1 + 23 + 23 + 23) (s := s + 9 + 324 + 9 + 324 + 9 + 324 + 9) (K := q_tK K3 (c + 1 + 23 + 23 + 23) (9, 9)) (R := q_tZ (q_tR R3 c 2 (c + 1 + 23 + 23)) (c + 1 + 23 + 23 + 23)) (g := q_upA g3 (c + 1 + 23 + 23 + 23) (fun _ => nI 0)) (tK_e rfl)
  obtain ⟨K5, R5, g5, i5, b5, t5, v5⟩ := c_iSta (b := c + 1 + 23 + 23 + 23 + 23) (s := s + 9 + 324 + 9 + 324 + 9 + 324 + 9 + 324 + 9) (K := q_tK K4 (c + 1 + 23 + 23 + 23 + 23) (9, 9)) (R := q_tZ (q_tR R4 c 3 (c + 1 + 23 + 23 + 23)) (c + 1 + 23 + 23 + 23 + 23)) (g := q_upA g4 (c + 1 + 23 + 23 + 23 + 23) (fun _ => nI 0)) (tK_e rfl)
  obtain ⟨K6, R6, g6, i6, b6, t6, v6⟩ := c_iSta (b := c + 1 + 23 + 23 + 23 + 23 + 23) (s := s + 9 + 324 + 9 + 324 + 9 + 324 + 9 + 324 + 9 + 324 + 9) (K := q_tK K5 (c + 1 + 23 + 23 + 23 + 23 + 23) (9, 9)) (R := q_tZ (q_tR R5 c 4 (c + 1 + 23 + 23 + 23 + 23)) (c + 1 + 23 + 23 + 23 + 23 + 23)) (g := q_upA g5 (c + 1 + 23 + 23 + 23 + 23 + 23) (fun _ => nI 0)) (tK_e rfl)
  obtain ⟨K7, R7, g7, i7, b7, t7, v7⟩ := c_iTex (b := c + 1 + 23 + 23 + 23 + 23 + 23 + 23) (s := s + 9 + 324 + 9 + 324 + 9 + 324 + 9 + 324 + 9 + 324 + 9 + 324 + 5) (K := q_tK K6 (c + 1 + 23 + 23 + 23 + 23 + 23 + 23) (10, 5)) (R := q_tZ (q_tR R6 c 5 (c + 1 + 23 + 23 + 23 + 23 + 23)) (c + 1 + 23 + 23 + 23 + 23 + 23 + 23)) (g := q_upA (q_up g6 c 6 (nI 0)) (c + 1 + 23 + 23 + 23 + 23 + 23 + 23) (fun _ => nI 0)) (tK_e rfl)
  obtain ⟨g8, i8, b8⟩ := c_iReh (b := c + 1 + 23 + 23 + 23 + 23 + 23 + 23 + 3) (s := s + 9 + 324 + 9 + 324 + 9 + 324 + 9 + 324 + 9 + 324 + 9 + 324 + 5 + 63 + 4) (K := q_tK K7 (c + 1 + 23 + 23 + 23 + 23 + 23 + 23 + 3) (8, 4)) (R := q_tZ (q_tR R7 c 7 (c + 1 + 23 + 23 + 23 + 23 + 23 + 23)) (c + 1 + 23 + 23 + 23 + 23 + 23 + 23 + 3)) (g := q_upA g7 (c + 1 + 23 + 23 + 23 + 23 + 23 + 23 + 3) (fun _ => nI 0)) (tK_e rfl)
  have u1 : q_Bel (c + 1) K K1 R R1 g g1 := q_Bel_t (q_Bel_n K R g (9, 9)) b1
  have u2 : q_Bel (c + 1 + 23) K1 K2 (q_tR R1 c 0 (c + 1)) R2 g1 g2 := q_Bel_t (q_Bel_n K1 _ g1 (9, 9)) b2
  have u3 : q_Bel (c + 1 + 23 + 23) K2 K3 (q_tR R2 c 1 (c + 1 + 23)) R3 g2 g3 := q_Bel_t (q_Bel_n K2 _ g2 (9, 9)) b3
  have u4 : q_Bel (c + 1 + 23 + 23 + 23) K3 K4 (q_tR R3 c 2 (c + 1 + 23 + 23)) R4 g3 g4 := q_Bel_t (q_Bel_n K3 _ g3 (9, 9)) b4
  have u5 : q_Bel (c + 1 + 23 + 23 + 23 + 23) K4 K5 (q_tR R4 c 3 (c + 1 + 23 + 23 + 23)) R5 g4 g5 := q_Bel_t (q_Bel_n K4 _ g4 (9, 9)) b5
  have u6 : q_Bel (c + 1 + 23 + 23 + 23 + 23 + 23) K5 K6 (q_tR R5 c 4 (c + 1 + 23 + 23 + 23 + 23)) R6 g5 g6 := q_Bel_t (q_Bel_n K5 _ g5 (9, 9)) b6
  have u7 : q_Bel (c + 1 + 23 + 23 + 23 + 23 + 23 + 23) K6 K7 (q_tR R6 c 5 (c + 1 + 23 + 23 + 23 + 23 + 23)) R7 (q_up g6 c 6 (nI 0)) g7 := q_Bel_t (q_Bel_n K6 _ _ (10, 5)) b7
  have u8 : q_Bel (c + 1 + 23 + 23 + 23 + 23 + 23 + 23 + 3) K7 (q_tK K7 (c + 1 + 23 + 23 + 23 + 23 + 23 + 23 + 3) (8, 4)) (q_tR R7 c 7 (c + 1 + 23 + 23 + 23 + 23 + 23 + 23)) (q_tZ (q_tR R7 c 7 (c + 1 + 23 + 23 + 23 + 23 + 23 + 23)) (c + 1 + 23 + 23 + 23 + 23 + 23 + 23 + 3)) g7 g8 := q_Bel_t (q_Bel_n K7 _ _ (8, 4)) b8
  have k1 : K1 c = (12, 9) := (u1 c (by omega)).1.trans hk
  have k2 : K2 c = (12, 9) := (u2 c (by omega)).1.trans k1
  have k3 : K3 c = (12, 9) := (u3 c (by omega)).1.trans k2
  have k4 : K4 c = (12, 9) := (u4 c (by omega)).1.trans k3
  have k5 : K5 c = (12, 9) := (u5 c (by omega)).1.trans k4
  have k6 : K6 c = (12, 9) := (u6 c (by omega)).1.trans k5
  have k7 : K7 c = (12, 9) := (u7 c (by omega)).1.trans k6
  have r2 : ∀ j, R2 c j = q_tR R1 c 0 (c + 1) c j := fun j => (u2 c (by omega)).2.1 j
  have r3 : ∀ j, R3 c j = q_tR R2 c 1 (c + 1 + 23) c j := fun j => (u3 c (by omega)).2.1 j
  have r4 : ∀ j, R4 c j = q_tR R3 c 2 (c + 1 + 23 + 23) c j := fun j => (u4 c (by omega)).2.1 j
  have r5 : ∀ j, R5 c j = q_tR R4 c 3 (c + 1 + 23 + 23 + 23) c j := fun j => (u5 c (by omega)).2.1 j
  have r6 : ∀ j, R6 c j = q_tR R5 c 4 (c + 1 + 23 + 23 + 23 + 23) c j := fun j => (u6 c (by omega)).2.1 j
  have r7 : ∀ j, R7 c j = q_tR R6 c 5 (c + 1 + 23 + 23 + 23 + 23 + 23) c j := fun j => (u7 c (by omega)).2.1 j
  have r8 : ∀ j, q_tZ (q_tR R7 c 7 (c + 1 + 23 + 23 + 23 + 23 + 23 + 23)) (c + 1 + 23 + 23 + 23 + 23 + 23 + 23 + 3) c j = q_tR R7 c 7 (c + 1 + 23 + 23 + 23 + 23 + 23 + 23) c j := fun j => tZ_n (by omega)
  have fe : q_Bet (c + 1) (c + 200) (q_tK K7 (c + 1 + 23 + 23 + 23 + 23 + 23 + 23 + 3) (8, 4)) (q_tK K7 (c + 1 + 23 + 23 + 23 + 23 + 23 + 23 + 3) (8, 4)) (q_tZ (q_tR R7 c 7 (c + 1 + 23 + 23 + 23 + 23 + 23 + 23)) (c + 1 + 23 + 23 + 23 + 23 + 23 + 23 + 3)) (q_tR (q_tZ (q_tR R7 c 7 (c + 1 + 23 + 23 + 23 + 23 + 23 + 23)) (c + 1 + 23 + 23 + 23 + 23 + 23 + 23 + 3)) c 8 (c + 1 + 23 + 23 + 23 + 23 + 23 + 23 + 3)) g8 g8 := fun a a1 a2 => ⟨rfl, fun j => tR_n (by omega), rfl⟩
  have w8 : q_Bet (c + 1) (c + 1 + 23 + 23 + 23 + 23 + 23 + 23 + 3) K7 (q_tK K7 (c + 1 + 23 + 23 + 23 + 23 + 23 + 23 + 3) (8, 4)) R7 (q_tR (q_tZ (q_tR R7 c 7 (c + 1 + 23 + 23 + 23 + 23 + 23 + 23)) (c + 1 + 23 + 23 + 23 + 23 + 23 + 23 + 3)) c 8 (c + 1 + 23 + 23 + 23 + 23 + 23 + 23 + 3)) g7 g8 := q_Bet_t (q_Bet_o u8) (q_Bet_l fe (Nat.le_refl _) (by omega))
  have w7 : q_Bet (c + 1) (c + 1 + 23 + 23 + 23 + 23 + 23 + 23) K6 (q_tK K7 (c + 1 + 23 + 23 + 23 + 23 + 23 + 23 + 3) (8, 4)) R6 (q_tR (q_tZ (q_tR R7 c 7 (c + 1 + 23 + 23 + 23 + 23 + 23 + 23)) (c + 1 + 23 + 23 + 23 + 23 + 23 + 23 + 3)) c 8 (c + 1 + 23 + 23 + 23 + 23 + 23 + 23 + 3)) g6 g8 := q_Bet_t (fun a a1 a2 => ⟨(q_Bet_o u7 a a1 a2).1, (q_Bet_o u7 a a1 a2).2.1, (q_Bet_o u7 a a1 a2).2.2.trans (q_upf (by omega))⟩) (q_Bet_l w8 (Nat.le_refl _) (by omega))
  have w6 : q_Bet (c + 1) (c + 1 + 23 + 23 + 23 + 23 + 23) K5 (q_tK K7 (c + 1 + 23 + 23 + 23 + 23 + 23 + 23 + 3) (8, 4)) R5 (q_tR (q_tZ (q_tR R7 c 7 (c + 1 + 23 + 23 + 23 + 23 + 23 + 23)) (c + 1 + 23 + 23 + 23 + 23 + 23 + 23 + 3)) c 8 (c + 1 + 23 + 23 + 23 + 23 + 23 + 23 + 3)) g5 g8 := q_Bet_t (q_Bet_o u6) (q_Bet_l w7 (Nat.le_refl _) (by omega))
  have w5 : q_Bet (c + 1) (c + 1 + 23 + 23 + 23 + 23) K4 (q_tK K7 (c + 1 + 23 + 23 + 23 + 23 + 23 + 23 + 3) (8, 4)) R4 (q_tR (q_tZ (q_tR R7 c 7 (c + 1 + 23 + 23 + 23 + 23 + 23 + 23)) (c + 1 + 23 + 23 + 23 + 23 + 23 + 23 + 3)) c 8 (c + 1 + 23 + 23 + 23 + 23 + 23 + 23 + 3)) g4 g8 := q_Bet_t (q_Bet_o u5) (q_Bet_l w6 (Nat.le_refl _) (by omega))
  have w4 : q_Bet (c + 1) (c + 1 + 23 + 23 + 23) K3 (q_tK K7 (c + 1 + 23 + 23 + 23 + 23 + 23 + 23 + 3) (8, 4)) R3 (q_tR (q_tZ (q_tR R7 c 7 (c + 1 + 23 + 23 + 23 + 23 + 23 + 23)) (c + 1 + 23 + 23 + 23 + 23 + 23 + 23 + 3)) c 8 (c + 1 + 23 + 23 + 23 + 23 + 23 + 23 + 3)) g3 g8 := q_Bet_t (q_Bet_o u4) (q_Bet_l w5 (Nat.le_refl _) (by omega))
  have w3 : q_Bet (c + 1) (c + 1 + 23 + 23) K2 (q_tK K7 (c + 1 + 23 + 23 + 23 + 23 + 23 + 23 + 3) (8, 4)) R2 (q_tR (q_tZ (q_tR R7 c 7 (c + 1 + 23 + 23 + 23 + 23 + 23 + 23)) (c + 1 + 23 + 23 + 23 + 23 + 23 + 23 + 3)) c 8 (c + 1 + 23 + 23 + 23 + 23 + 23 + 23 + 3)) g2 g8 := q_Bet_t (q_Bet_o u3) (q_Bet_l w4 (Nat.le_refl _) (by omega))
  have w2 : q_Bet (c + 1) (c + 1 + 23) K1 (q_tK K7 (c + 1 + 23 + 23 + 23 + 23 + 23 + 23 + 3) (8, 4)) R1 (q_tR (q_tZ (q_tR R7 c 7 (c + 1 + 23 + 23 + 23 + 23 + 23 + 23)) (c + 1 + 23 + 23 + 23 + 23 + 23 + 23 + 3)) c 8 (c + 1 + 23 + 23 + 23 + 23 + 23 + 23 + 3)) g1 g8 := q_Bet_t (q_Bet_o u2) (q_Bet_l w3 (Nat.le_refl _) (by omega))
  refine ⟨(q_tK K7 (c + 1 + 23 + 23 + 23 + 23 + 23 + 23 + 3) (8, 4)), (q_tR (q_tZ (q_tR R7 c 7 (c + 1 + 23 + 23 + 23 + 23 + 23 + 23)) (c + 1 + 23 + 23 + 23 + 23 + 23 + 23 + 3)) c 8 (c + 1 + 23 + 23 + 23 + 23 + 23 + 23 + 3)), g8, fun Q => ?_, ?_, ⟨?_, ?_, tR_e rfl rfl, tK_e rfl⟩, ⟨(w8 _ (by omega) (by omega)).1.trans t7.1, ((w8 _ (by omega) (by omega)).2.1 _).trans t7.2.1, ((w8 _ (by omega) (by omega)).2.1 _).trans t7.2.2.1, (w8 _ (by omega) (by omega)).1.trans t7.2.2.2.1, (w8 _ (by omega) (by omega)).1.trans t7.2.2.2.2⟩, ⟨?_, ?_, ?_, ?_, ?_, ?_⟩, ⟨q_Sta_t t1 w2 (by omega) (by omega), q_Sta_t t2 w3 (by omega) (by omega), q_Sta_t t3 w4 (by omega) (by omega), q_Sta_t t4 w5 (by omega) (by omega), q_Sta_t t5 w6 (by omega) (by omega), q_Sta_t t6 w7 (by omega) (by omega)⟩, ?_, ?_, ?_⟩
  · conv => lhs; simp (disch := omega) only [x68_0, x68_1, x68_4, x68_5, x68_8, x68_9, x68_12, x68_15, x68_16, x68_19, x68_20, x68_23, x68_26, x68_27, x68_30, x68_31, x68_34, x68_37, x68_38, x68_41, x68_42, x68_45, x68_48, x68_49, x68_52, x68_53, x68_56, x68_59, x68_60, x68_63, x68_64, x68_67, x68_70, x68_71, x68_72, x68_75, x68_76, x68_79, x68_80, x68_83, x68_86, x68_87, x68_90, x68_91, x68_94, x68_97, nI_add, pk_mul, q_cl31, q_vin, q_le, q_lt, q_eqn, q_b_0, q_b_t, q_b_f, q_nz, q_nz1, q_nz0, q_tl, q_tn, true_and, and_true, not_true_eq_false, not_false_eq_true, ite_true, ite_false, ↓reduceIte, true_or, or_true, and_self, ne_eq, q_or1, q_or2, Nat.add_eq_zero_iff, and_false, false_and, List.length_cons, List.length_nil, reduceCtorEq, q_toI, Nat.zero_add, Nat.le_refl, q_c0, q_c1, q_c2, q_c4, q_c9, q_c12, q_c30, q_c99, q_c100, q_c126, q_c32, q_c359, q_c999, e_new, e_set, e_kd, e_rf, tK_n, hk, k1, k2, k3, k4, k5, k6, k7, i1, i2, i3, i4, i5, i6, i7, i8]
    try exact rfl
  · exact (q_Bel_t (q_Bel_l u1 (by omega)) (q_Bel_t (q_Bel_r K1 R1 g1 (Nat.le_refl c)) (q_Bel_t (q_Bel_l u2 (by omega)) (q_Bel_t (q_Bel_r K2 R2 g2 (Nat.le_refl c)) (q_Bel_t (q_Bel_l u3 (by omega)) (q_Bel_t (q_Bel_r K3 R3 g3 (Nat.le_refl c)) (q_Bel_t (q_Bel_l u4 (by omega)) (q_Bel_t (q_Bel_r K4 R4 g4 (Nat.le_refl c)) (q_Bel_t (q_Bel_l u5 (by omega)) (q_Bel_t (q_Bel_r K5 R5 g5 (Nat.le_refl c)) (q_Bel_t (q_Bel_l u6 (by omega)) (q_Bel_t (q_Bel_r K6 R6 g6 (Nat.le_refl c)) (q_Bel_t (q_Bel_i K6 _ g6 (Nat.le_refl c)) (q_Bel_t (q_Bel_l u7 (by omega)) (q_Bel_t (q_Bel_r K7 R7 g7 (Nat.le_refl c)) (q_Bel_t (q_Bel_l u8 (by omega)) (fun a ha => ⟨rfl, fun j => tR_n (by omega), rfl⟩)))))))))))))))))
  · rw [tK_n (by omega)]; exact k7
  · rw [tR_m (by omega), r8, tR_e rfl rfl]
  · rw [tR_m (by omega), r8, tR_m (by omega), r7, tR_m (by omega), r6, tR_m (by omega), r5, tR_m (by omega), r4, tR_m (by omega), r3, tR_m (by omega), r2, tR_e rfl rfl]
  · rw [tR_m (by omega), r8, tR_m (by omega), r7, tR_m (by omega), r6, tR_m (by omega), r5, tR_m (by omega), r4, tR_m (by omega), r3, tR_e rfl rfl]
  · rw [tR_m (by omega), r8, tR_m (by omega), r7, tR_m (by omega), r6, tR_m (by omega), r5, tR_m (by omega), r4, tR_e rfl rfl]
  · rw [tR_m (by omega), r8, tR_m (by omega), r7, tR_m (by omega), r6, tR_m (by omega), r5, tR_e rfl rfl]
  · rw [tR_m (by omega), r8, tR_m (by omega), r7, tR_m (by omega), r6, tR_e rfl rfl]
  · rw [tR_m (by omega), r8, tR_m (by omega), r7, tR_e rfl rfl]
  · rw [(u8 c (by omega)).2.2, (u7 c (by omega)).2.2]
    exact q_upe rfl rfl
  · rw [(w8 _ (by omega) (by omega)).2.2]
    exact v7
  · exact q_V_o v1 fun a a1 a2 => (w2 a (by omega) (by omega)).2.2
end
