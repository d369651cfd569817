/-! returns -/
section
variable {E : q_E} {B : Nat}
theorem c_takeCards {g : q_G} {r : Nat} (hR : q_RacB E r) (x : Int32) : ∃ g' : q_G, (∀ Q : Option Value → q_E → q_G → Prop, q_X 13 0 [.ref r, .int x, .null] [] E g Q = Q none E g') ∧ (∀ c, ¬ c = r + 2 → g' c = g c) ∧ ∀ k, k < 10 → g' (r + 2) k = if g (r + 1) k = x then nI 0 else g (r + 2) k := by
  obtain ⟨r1, r2, r3, r4, r5, r6, r7⟩ := hR
  refine ⟨q_upA g (r + 2) (fun i => if i < 10 ∧ g (r + 1) i = x then nI 0 else g (r + 2) i), fun Q => ?_, fun c hc => q_upA_n _ _ hc, fun k hk => ?_⟩
  · simp (disch := omega) only [x13_0, x13_1, nI_add, pk_mul, q_cl31, q_vin, q_le, q_lt, q_eqn, q_b_0, q_b_t, q_b_f, q_nz, q_nz1, q_nz0, q_tl, q_tn, true_and, and_true, not_true_eq_false, not_false_eq_true, ite_true, ite_false, ↓reduceIte, true_or, or_true, and_self, ne_eq, q_or1, q_or2, Nat.add_eq_zero_iff, and_false, false_and, List.length_cons, List.length_nil, reduceCtorEq, q_toI, Nat.zero_add, Nat.le_refl, q_c0, q_c1, q_c2, q_c4, q_c9, q_c12, q_c30, q_c99, q_c100, q_c126, q_c32, q_c359, q_c999]
    have e0 : q_upA g (r + 2) (fun i => if i < 0 ∧ g (r + 1) i = x then nI 0 else g (r + 2) i) = g := by
      rw [show (fun i => if i < 0 ∧ g (r + 1) i = x then nI 0 else g (r + 2) i) = g (r + 2) from funext fun i => if_neg (fun q => absurd q.1 (by omega)), q_upAid]
    conv => lhs; rw [← e0]
    refine (q_loop (N := 10) (P := fun j => q_X 13 2 [.ref r, .int x, .int (nI j)] [] E (q_upA g (r + 2) (fun i => if i < j ∧ g (r + 1) i = x then nI 0 else g (r + 2) i)) Q) (fun j hj => ?_)).trans ?_
    · try dsimp only
      have g1 : q_upA g (r + 2) (fun i => if i < j ∧ g (r + 1) i = x then nI 0 else g (r + 2) i) (r + 1) = g (r + 1) := q_upA_n _ _ (by omega)
      by_cases c : g (r + 1) j = x
      · have e : q_up (q_upA g (r + 2) (fun i => if i < j ∧ g (r + 1) i = x then nI 0 else g (r + 2) i)) (r + 2) j (nI 0) = q_upA g (r + 2) (fun i => if i < j + 1 ∧ g (r + 1) i = x then nI 0 else g (r + 2) i) := by
          rw [q_upD, q_upA_s, q_upAA]
          congr 1
          funext i
          unfold upd
          by_cases h1 : i = j
          · subst h1; rw [if_pos rfl, if_pos ⟨by omega, c⟩]
          · rw [if_neg h1]
            dsimp only
            by_cases h2 : i < j ∧ g (r + 1) i = x
            · rw [if_pos h2, if_pos ⟨by omega, h2.2⟩]
            · rw [if_neg h2, if_neg (fun q => h2 ⟨by omega, q.2⟩)]
        rw [← e]
        conv => lhs; simp (disch := omega) only [x13_0, x13_1, x13_2, x13_3, x13_5, x13_8, x13_9, x13_12, x13_13, x13_14, x13_15, x13_18, x13_19, x13_22, x13_23, x13_24, x13_25, x13_31, nI_add, pk_mul, q_cl31, q_vin, q_le, q_lt, q_eqn, q_b_0, q_b_t, q_b_f, q_nz, q_nz1, q_nz0, q_tl, q_tn, true_and, and_true, not_true_eq_false, not_false_eq_true, ite_true, ite_false, ↓reduceIte, true_or, or_true, and_self, ne_eq, q_or1, q_or2, Nat.add_eq_zero_iff, and_false, false_and, List.length_cons, List.length_nil, reduceCtorEq, q_toI, Nat.zero_add, Nat.le_refl, q_c0, q_c1, q_c2, q_c4, q_c9, q_c12, q_c30, q_c99, q_c100, q_c126, q_c32, q_c359, q_c999, r1, r2, r3, r5, r6, g1, c, show (10 ≤ j) = False from eq_false (by omega)]
        simp only [x13_28]
      · have e : q_upA g (r + 2) (fun i => if i < j ∧ g (r + 1) i = x then nI 0 else g (r + 2) i) = q_upA g (r + 2) (fun i => if i < j + 1 ∧ g (r + 1) i = x then nI 0 else g (r + 2) i) := by
          congr 1
          funext i
          by_cases h2 : i < j ∧ g (r + 1) i = x
          · rw [if_pos h2, if_pos ⟨by omega, h2.2⟩]
          · rw [if_neg h2, if_neg (fun q => h2 ⟨by
              rcases (by omega : i < j ∨ i = j) with h | h
              · exact h
              · subst h; exact absurd q.2 c, q.2⟩)]
        rw [← e]
        conv => lhs; simp (disch := omega) only [x13_0, x13_1, x13_2, x13_3, x13_5, x13_8, x13_9, x13_12, x13_13, x13_14, x13_15, x13_18, x13_19, x13_22, x13_23, x13_24, x13_25, x13_31, nI_add, pk_mul, q_cl31, q_vin, q_le, q_lt, q_eqn, q_b_0, q_b_t, q_b_f, q_nz, q_nz1, q_nz0, q_tl, q_tn, true_and, and_true, not_true_eq_false, not_false_eq_true, ite_true, ite_false, ↓reduceIte, true_or, or_true, and_self, ne_eq, q_or1, q_or2, Nat.add_eq_zero_iff, and_false, false_and, List.length_cons, List.length_nil, reduceCtorEq, q_toI, Nat.zero_add, Nat.le_refl, q_c0, q_c1, q_c2, q_c4, q_c9, q_c12, q_c30, q_c99, q_c100, q_c126, q_c32, q_c359, q_c999, r1, r2, r3, r5, r6, g1, c, show (10 ≤ j) = False from eq_false (by omega)]
        simp only [x13_28]
    · simp (disch := omega) only [x13_0, x13_1, x13_2, x13_3, x13_5, x13_8, x13_9, x13_12, x13_13, x13_14, x13_15, x13_18, x13_19, x13_22, x13_23, x13_24, x13_25, x13_28, x13_31, nI_add, pk_mul, q_cl31, q_vin, q_le, q_lt, q_eqn, q_b_0, q_b_t, q_b_f, q_nz, q_nz1, q_nz0, q_tl, q_tn, true_and, and_true, not_true_eq_false, not_false_eq_true, ite_true, ite_false, ↓reduceIte, true_or, or_true, and_self, ne_eq, q_or1, q_or2, Nat.add_eq_zero_iff, and_false, false_and, List.length_cons, List.length_nil, reduceCtorEq, q_toI, Nat.zero_add, Nat.le_refl, q_c0, q_c1, q_c2, q_c4, q_c9, q_c12, q_c30, q_c99, q_c100, q_c126, q_c32, q_c359, q_c999]
  · rw [q_upA_s]
    by_cases h : g (r + 1) k = x
    · rw [if_pos ⟨hk, h⟩, if_pos h]
    · rw [if_neg (fun q => h q.2), if_neg h]
/-- one verse's cards go back -/
theorem c_gb1 {g : q_G} {f : q_St} (hS : q_StaB E B) (hV : q_Vsta g B f) (hI : q_In f) {n : Nat} (hn : n < q_sz f) (h : q_onf f (q_occ f n) = false) : ∃ g' : q_G, (∀ Q : Option Value → q_E → q_G → Prop, q_X 34 0 [.ref B, .int (nI n), .null] [] E g Q = Q (some (.int (q_hav f n))) E g') ∧ q_Out B g g' ∧ q_Vsta g' B (p_gb1 f n).2 := by
  obtain ⟨ks0, -, hC, hN, hP, hR, hD⟩ := id hS
  obtain ⟨kn0, -, km1, km2, km3, km4, km5, km6, km7, km8⟩ := id hN
  obtain ⟨kr0, -, -, -, kr5, kr6, kr7⟩ := id hR
  obtain ⟨kd0, -, -, -, kd5, kd6, kd7⟩ := id hD
  obtain ⟨⟨kw5, kw6, kw7, kw8⟩, vC, vN, vP, vR, vD⟩ := id hV
  obtain ⟨ko0, ko1, ko2, ko3, ko4, ko5, ko6, ko7, ko8⟩ := id vN
  obtain ⟨kx1, kx2, kx3⟩ := id vR
  have h12 := hI.1.1
  obtain ⟨g1, t1, t2, t3⟩ := c_takeCards (E := E) (g := q_up g (B + 8) n (nI 0)) hR (nI n)
  have a8 : g1 B 8 = f 310 := by rw [t2 _ (by omega), q_upn (by omega)]; exact kw8
  have a6 : g1 B 6 = f 307 := by rw [t2 _ (by omega), q_upn (by omega)]; exact kw6
  have a7 : ∀ i, i < 12 → g1 (B + 4 + 3) i = f (11 + 8 * i + 2) := fun i hi => by rw [t2 _ (by omega), q_upn (by omega)]; exact ko3 i hi
  have i100 : (nI 100 = 0) = False := by decide
  refine ⟨q_up g1 B 8 (f 310 + q_hav f n * (f (11 + 8 * n + 2) * f 307 / nI 100)), fun Q => ?_, fun b hb => ?_, ?_⟩
  · unfold q_hav
    conv => lhs; simp (disch := omega) only [x34_0, x34_1, x34_4, x34_7, x34_8, x34_9, x34_10, x34_13, x34_14, x34_17, x34_18, x34_19, x34_20, x34_23, x34_26, x34_27, x34_28, x34_29, x34_30, x34_33, x34_34, x34_37, x34_38, x34_39, x34_42, x34_43, x34_44, x34_47, x34_50, x34_51, x34_52, x34_53, x34_56, x34_57, x34_59, x34_60, x34_61, x34_62, x34_65, x34_66, nI_add, pk_mul, q_cl31, q_vin, q_le, q_lt, q_eqn, q_b_0, q_b_t, q_b_f, q_nz, q_nz1, q_nz0, q_tl, q_tn, true_and, and_true, not_true_eq_false, not_false_eq_true, ite_true, ite_false, ↓reduceIte, true_or, or_true, and_self, ne_eq, q_or1, q_or2, Nat.add_eq_zero_iff, and_false, false_and, List.length_cons, List.length_nil, reduceCtorEq, q_toI, Nat.zero_add, Nat.le_refl, q_c0, q_c1, q_c2, q_c4, q_c9, q_c12, q_c30, q_c99, q_c100, q_c126, q_c32, q_c359, q_c999, ks0, kd0, hD.2.1, hD.2.2.1, hD.2.2.2.1, kd5, kd6, kd7, hC.1, hP.1, hS.2.1.1, hS.2.1.2.1, hS.2.1.2.2.1, hS.2.1.2.2.2.1, hS.2.1.2.2.2.2, kn0, hN.2.1.1, hN.2.1.2.1, hN.2.1.2.2.1, hN.2.1.2.2.2.1, hN.2.1.2.2.2.2.1, hN.2.1.2.2.2.2.2.1, hN.2.1.2.2.2.2.2.2.1, hN.2.1.2.2.2.2.2.2.2, km1, km2, km3, km4, km5, km6, km7, km8, kr0, hR.2.1, hR.2.2.1, hR.2.2.2.1, kr5, kr6, kr7, kw5, kw6, kw7, kw8, ko0, ko1, ko2, ko3, ko4, ko5, ko6, ko7, ko8, kx1, kx2, kx3, c_cards hR vR, t1, a6, a7, a8, i100]
  · rw [q_upf (by omega), t2 _ (by omega), q_upf (by omega)]
  · unfold p_gb1
    rw [if_neg (by rw [h]; decide), Int32.mul_comm (f 307)]
    have em : ∀ i, (∀ k, k < 10 → i ≠ 107 + 3 * k + 1) → q_emp (upd (upd f 310 (f 310 + q_hav f n * (f (11 + 8 * n + 2) * f 307 / nI 100))) (11 + 8 * n + 3) (nI 0)) n 10 i = upd (upd f 310 (f 310 + q_hav f n * (f (11 + 8 * n + 2) * f 307 / nI 100))) (11 + 8 * n + 3) (nI 0) i := by
      intro i hi
      refine if_neg fun q => hi ((i - 108) / 3) (by omega) (by omega)
    dsimp only
    refine q_V_mk (fun o j i hl => ?_) (fun i j hi hj => ?_) ⟨?_, ?_⟩
    · have e := q_V_get hV hl
      by_cases c : o = 17
      · subst c
        have hl' := hl
        unfold q_lc at hl'
        obtain ⟨j1, rfl⟩ : j < 10 ∧ i = 107 + 3 * j + 1 := by omega
        have e1 := kx1 j j1
        have t3 := t3 j j1
        rw [q_upn (show ¬ B + 15 + 1 = B + 8 by omega), e1, q_upn (show ¬ B + 15 + 2 = B + 8 by omega)] at t3
        rw [q_upn (show ¬ B + 17 = B by omega)]
        refine t3.trans ?_
        show _ = if _ then _ else _
        rw [show 107 + 3 * j + 1 - 1 = 107 + 3 * j by omega, q_updn (show ¬ 107 + 3 * j = 11 + 8 * n + 3 by omega), q_updn (show ¬ 107 + 3 * j = 310 by omega), q_updn (show ¬ 107 + 3 * j + 1 = 11 + 8 * n + 3 by omega), q_updn (show ¬ 107 + 3 * j + 1 = 310 by omega)]
        by_cases h2 : f (107 + 3 * j) = nI n
        · rw [if_pos h2, if_pos ⟨by omega, by omega, by omega, h2⟩]
        · rw [if_neg h2, if_neg (fun q => h2 q.2.2.2)]
          exact e
      · have hl' := hl
        unfold q_lc at hl'
        rw [em i (by omega)]
        by_cases c2 : B + o = B ∧ j = 8
        · obtain ⟨c3, rfl⟩ := c2
          obtain rfl : o = 0 := by omega
          obtain rfl : i = 310 := by omega
          rw [q_updn (by omega), q_upds rfl]
          exact q_upe rfl rfl
        · rw [q_upg, if_neg c2, t2 _ (by omega)]
          exact q_up_upd (by rw [q_updn (by omega)]; exact e) (by omega)
    · have := q_pr_b hi hj
      rw [em _ (by omega), q_upn (by omega), t2 _ (by omega), q_upn (by omega), q_updn (by omega), q_updn (by omega)]
      exact vP i j hi hj
    · rw [em _ (by omega), q_upn (by omega), t2 _ (by omega), q_upn (by omega), q_updn (by omega), q_updn (by omega)]
      exact vD.1
    · have e1 : q_no (q_emp (upd (upd f 310 (f 310 + q_hav f n * (f (11 + 8 * n + 2) * f 307 / nI 100))) (11 + 8 * n + 3) (nI 0)) n 10) = q_no f := by
        unfold q_no
        rw [em _ (by omega), q_updn (by omega), q_updn (by omega)]
      have h8 := hI.2.1.1
      rw [e1, q_os_c (f := f) _ (fun i h1 h2 => by rw [em _ (by omega), q_updn (by omega), q_updn (by omega)]), ← vD.2]
      unfold q_ol
      rw [q_upf (by omega), q_upf (by omega), q_upf (by omega), t2 _ (by omega), t2 _ (by omega), t2 _ (by omega), q_upf (by omega), q_upf (by omega), q_upf (by omega)]
theorem k_give {g : q_G} {f : q_St} (hS : q_StaB E B) (hV : q_Vsta g B f) (hI : q_In f) : q_Cop E g B 56 [.ref B, .null, .null] (p_give f) := by
  have h12 := hI.1
  obtain ⟨ks0, -, hC, hN, hP, hR, hD⟩ := id hS
  obtain ⟨kn0, -, km1, km2, km3, km4, km5, km6, km7, km8⟩ := id hN
  have key : ∀ n, n ≤ q_sz f → ∃ g' : q_G, (∀ Q : Option Value → q_E → q_G → Prop, q_X 56 4 [.ref B, .int (nI 0), .int (nI 0)] [] E g Q = q_X 56 4 [.ref B, .int (p_gb f n).1, .int (nI n)] [] E g' Q) ∧ q_Out B g g' ∧ q_Vsta g' B (p_gb f n).2 := by
    intro n
    induction n with
    | zero => intro _; exact ⟨g, fun Q => rfl, q_Out_r B g, hV⟩
    | succ n ih =>
      intro hn
      obtain ⟨g1, i1, i2, i3⟩ := ih (by omega)
      obtain ⟨⟨I1, z1⟩, -⟩ := p_gb_In hI n (by omega)
      show ∃ g' : q_G, (∀ Q : Option Value → q_E → q_G → Prop, _ = q_X 56 4 [.ref B, .int ((p_gb f n).1 + (p_gb1 (p_gb f n).2 n).1), .int (nI (n + 1))] [] E g' Q) ∧ q_Out B g g' ∧ q_Vsta g' B (p_gb1 (p_gb f n).2 n).2
      generalize p_gb f n = s at *
      obtain ⟨a, f1⟩ := s
      dsimp only at *
      have nz : g1 (B + 4) 0 = nI (q_sz f) := i3.2.2.1.1.trans (by rw [I1.1.2, z1])
      obtain ⟨oc1, oc2⟩ := I1.2.2.2.2.2.1 n (by omega)
      have k1 : g1 (B + 4 + 1) n = nI (q_occ f1 n) := (i3.2.2.1.2.1 n (by omega)).trans oc2
      cases e : q_onf f1 (q_occ f1 n)
      · obtain ⟨g2, j1, j2, j3⟩ := c_gb1 hS i3 I1 (n := n) (by omega) e
        refine ⟨g2, fun Q => ?_, q_Out_t i2 j2, j3⟩
        have e1 : (p_gb1 f1 n).1 = q_hav f1 n := by unfold p_gb1; rw [if_neg (by rw [e]; decide)]
        rw [i1 Q, e1]
        conv => lhs; simp (disch := omega) only [x56_0, x56_1, x56_2, x56_3, x56_4, x56_5, x56_6, x56_9, x56_12, x56_15, x56_16, x56_19, x56_20, x56_23, x56_26, x56_27, x56_28, x56_31, x56_34, x56_35, x56_36, x56_37, x56_40, x56_41, x56_42, x56_48, x56_49, x56_52, x56_54, x56_55, x56_56, x56_57, x56_60, x56_61, x56_62, x56_65, x56_66, nI_add, pk_mul, q_cl31, q_vin, q_le, q_lt, q_eqn, q_b_0, q_b_t, q_b_f, q_nz, q_nz1, q_nz0, q_tl, q_tn, true_and, and_true, not_true_eq_false, not_false_eq_true, ite_true, ite_false, ↓reduceIte, true_or, or_true, and_self, ne_eq, q_or1, q_or2, Nat.add_eq_zero_iff, and_false, false_and, List.length_cons, List.length_nil, reduceCtorEq, q_toI, Nat.zero_add, Nat.le_refl, q_c0, q_c1, q_c2, q_c4, q_c9, q_c12, q_c30, q_c99, q_c100, q_c126, q_c32, q_c359, q_c999, ks0, hS.2.1.1, hS.2.1.2.1, hC.1, kn0, hN.2.1.1, km1, nz, k1, c_isIn hC i3.2.1 I1 oc1, e, j1, show (q_sz f ≤ n) = False from eq_false (by omega)]
        simp only [x56_45]
      · have e1 : p_gb1 f1 n = (nI 0, f1) := by unfold p_gb1; rw [if_pos e]
        rw [e1]
        refine ⟨g1, fun Q => ?_, i2, i3⟩
        rw [i1 Q, q_a0]
        conv => lhs; simp (disch := omega) only [x56_0, x56_1, x56_2, x56_3, x56_4, x56_5, x56_6, x56_9, x56_12, x56_15, x56_16, x56_19, x56_20, x56_23, x56_26, x56_27, x56_28, x56_31, x56_34, x56_35, x56_36, x56_37, x56_40, x56_41, x56_42, x56_48, x56_49, x56_52, x56_54, x56_55, x56_56, x56_57, x56_60, x56_61, x56_62, x56_65, x56_66, nI_add, pk_mul, q_cl31, q_vin, q_le, q_lt, q_eqn, q_b_0, q_b_t, q_b_f, q_nz, q_nz1, q_nz0, q_tl, q_tn, true_and, and_true, not_true_eq_false, not_false_eq_true, ite_true, ite_false, ↓reduceIte, true_or, or_true, and_self, ne_eq, q_or1, q_or2, Nat.add_eq_zero_iff, and_false, false_and, List.length_cons, List.length_nil, reduceCtorEq, q_toI, Nat.zero_add, Nat.le_refl, q_c0, q_c1, q_c2, q_c4, q_c9, q_c12, q_c30, q_c99, q_c100, q_c126, q_c32, q_c359, q_c999, ks0, hS.2.1.1, hS.2.1.2.1, hC.1, kn0, hN.2.1.1, km1, nz, k1, c_isIn hC i3.2.1 I1 oc1, e, show (q_sz f ≤ n) = False from eq_false (by omega), Bool.true_eq_false]
        simp only [x56_45]
  obtain ⟨g1, i1, i2, i3⟩ := key (q_sz f) (Nat.le_refl _)
  obtain ⟨⟨I1, z1⟩, c, c1, c2, c3⟩ := p_gb_In hI (q_sz f) (Nat.le_refl _)
  unfold p_give
  generalize p_gb f (q_sz f) = s at *
  obtain ⟨a, f1⟩ := s
  dsimp only at *
  have nz : g1 (B + 4) 0 = nI (q_sz f) := i3.2.2.1.1.trans (by rw [I1.1.2, z1])
  have k7 : g1 B 7 = f1 309 := i3.1.2.2.1
  by_cases e : a = nI 0
  · rw [if_pos e]
    refine ⟨g1, fun Q => ?_, i2, fun q => absurd (Or.inr (Or.inl rfl)) q⟩
    subst e
    simp (disch := omega) only [x56_0, x56_1, x56_2, x56_3, nI_add, pk_mul, q_cl31, q_vin, q_le, q_lt, q_eqn, q_b_0, q_b_t, q_b_f, q_nz, q_nz1, q_nz0, q_tl, q_tn, true_and, and_true, not_true_eq_false, not_false_eq_true, ite_true, ite_false, ↓reduceIte, true_or, or_true, and_self, ne_eq, q_or1, q_or2, Nat.add_eq_zero_iff, and_false, false_and, List.length_cons, List.length_nil, reduceCtorEq, q_toI, Nat.zero_add, Nat.le_refl, q_c0, q_c1, q_c2, q_c4, q_c9, q_c12, q_c30, q_c99, q_c100, q_c126, q_c32, q_c359, q_c999]
    rw [i1 Q]
    simp (disch := omega) only [x56_0, x56_1, x56_2, x56_3, x56_4, x56_5, x56_6, x56_9, x56_12, x56_15, x56_16, x56_19, x56_20, x56_23, x56_26, x56_27, x56_28, x56_31, x56_34, x56_35, x56_36, x56_37, x56_40, x56_41, x56_42, x56_48, x56_49, x56_52, x56_54, x56_55, x56_56, x56_57, x56_60, x56_61, x56_62, x56_65, x56_66, nI_add, pk_mul, q_cl31, q_vin, q_le, q_lt, q_eqn, q_b_0, q_b_t, q_b_f, q_nz, q_nz1, q_nz0, q_tl, q_tn, true_and, and_true, not_true_eq_false, not_false_eq_true, ite_true, ite_false, ↓reduceIte, true_or, or_true, and_self, ne_eq, q_or1, q_or2, Nat.add_eq_zero_iff, and_false, false_and, List.length_cons, List.length_nil, reduceCtorEq, q_toI, Nat.zero_add, Nat.le_refl, q_c0, q_c1, q_c2, q_c4, q_c9, q_c12, q_c30, q_c99, q_c100, q_c126, q_c32, q_c359, q_c999, ks0, hS.2.1.2.1, kn0, nz]
  · rw [if_neg e]
    refine ⟨q_up g1 B 7 (f1 309 + a), fun Q => ?_, q_Out_u i2 (by omega), fun _ => (q_W_up (o := 0) (hl := (Or.inl ⟨rfl, by decide⟩)) (j := 7) (i := 309) (q_W_i i3 I1)).1⟩
    simp (disch := omega) only [x56_0, x56_1, x56_2, x56_3, nI_add, pk_mul, q_cl31, q_vin, q_le, q_lt, q_eqn, q_b_0, q_b_t, q_b_f, q_nz, q_nz1, q_nz0, q_tl, q_tn, true_and, and_true, not_true_eq_false, not_false_eq_true, ite_true, ite_false, ↓reduceIte, true_or, or_true, and_self, ne_eq, q_or1, q_or2, Nat.add_eq_zero_iff, and_false, false_and, List.length_cons, List.length_nil, reduceCtorEq, q_toI, Nat.zero_add, Nat.le_refl, q_c0, q_c1, q_c2, q_c4, q_c9, q_c12, q_c30, q_c99, q_c100, q_c126, q_c32, q_c359, q_c999]
    rw [i1 Q]
    simp (disch := omega) only [x56_0, x56_1, x56_2, x56_3, x56_4, x56_5, x56_6, x56_9, x56_12, x56_15, x56_16, x56_19, x56_20, x56_23, x56_26, x56_27, x56_28, x56_31, x56_34, x56_35, x56_36, x56_37, x56_40, x56_41, x56_42, x56_48, x56_49, x56_52, x56_54, x56_55, x56_56, x56_57, x56_60, x56_61, x56_62, x56_65, x56_66, nI_add, pk_mul, q_cl31, q_vin, q_le, q_lt, q_eqn, q_b_0, q_b_t, q_b_f, q_nz, q_nz1, q_nz0, q_tl, q_tn, true_and, and_true, not_true_eq_false, not_false_eq_true, ite_true, ite_false, ↓reduceIte, true_or, or_true, and_self, ne_eq, q_or1, q_or2, Nat.add_eq_zero_iff, and_false, false_and, List.length_cons, List.length_nil, reduceCtorEq, q_toI, Nat.zero_add, Nat.le_refl, q_c0, q_c1, q_c2, q_c4, q_c9, q_c12, q_c30, q_c99, q_c100, q_c126, q_c32, q_c359, q_c999, ks0, hS.2.1.2.1, kn0, nz, e, k7]
end
