/-! the State's changes -/
theorem q_upd_id {h : q_St} {i : Nat} {x : Int32} (hx : h i = x) : upd h i x = h := by
  funext k
  unfold upd
  by_cases c : k = i
  · rw [if_pos c, c, hx]
  · rw [if_neg c]
section
variable {E : q_E} {g : q_G} {f : q_St} {B : Nat}
theorem k_verse (hS : q_StaB E B) (hV : q_Vsta g B f) (hI : q_In f) (x y z : Int32) : q_Cop E g B 49 [.ref B, .int x, .int y, .int z, .null] (p_verse f x y z) := by
  obtain ⟨ks0, ⟨ks1, ks2, ks3, ks4, ks5⟩, hC, hN, hP, hR, hD⟩ := id hS
  obtain ⟨kn0, ⟨kn1, kn2, kn3, kn4, kn5, kn6, kn7, kn8⟩, km1, km2, km3, km4, km5, km6, km7, km8⟩ := id hN
  obtain ⟨kr0, kr1, kr2, kr3, kr5, kr6, kr7⟩ := id hR
  obtain ⟨kd0, kd1, kd2, kd3, kd5, kd6, kd7⟩ := id hD
  obtain ⟨⟨kw5, kw6, kw7, kw8⟩, vC, vN, vP, vR, vD⟩ := id hV
  obtain ⟨ko0, ko1, ko2, ko3, ko4, ko5, ko6, ko7, ko8⟩ := id vN
  obtain ⟨kx1, kx2, kx3⟩ := id vR
  have nz := hI.1.2
  have h12 := hI.1.1
  unfold p_verse
  by_cases hc : (q_ir 0 4 x && (q_ir 1 99 y && q_ir 0 99 z)) = true
  · rw [if_pos hc]
    obtain ⟨e1, e2, e3⟩ : q_ir 0 4 x = true ∧ q_ir 1 99 y = true ∧ q_ir 0 99 z = true := by simpa only [Bool.and_eq_true] using hc
    generalize hm : q_sz f = m at *
    by_cases h : m = 12
    · rw [if_pos h]
      refine q_Cop_er (Or.inr (Or.inr rfl)) fun Q => ?_
      subst h
      simp (disch := omega) only [x49_0, x49_1, x49_4, x49_7, x49_8, x49_9, x49_11, x49_14, x49_17, x49_18, x49_19, x49_21, x49_24, x49_27, x49_29, x49_30, x49_31, x49_34, x49_37, x49_39, x49_41, x49_43, x49_46, x49_48, x49_49, x49_50, x49_53, x49_56, x49_58, x49_59, x49_60, x49_61, x49_64, x49_67, x49_69, x49_70, x49_71, x49_72, x49_75, x49_78, x49_80, x49_81, x49_82, x49_83, x49_86, x49_87, x49_90, x49_91, x49_92, x49_95, x49_97, nI_add, pk_mul, q_cl31, q_vin, q_le, q_lt, q_eqn, q_b_0, q_b_t, q_b_f, q_nz, q_nz1, q_nz0, q_tl, q_tn, true_and, and_true, not_true_eq_false, not_false_eq_true, ite_true, ite_false, ↓reduceIte, true_or, or_true, and_self, ne_eq, q_or1, q_or2, Nat.add_eq_zero_iff, and_false, false_and, List.length_cons, List.length_nil, reduceCtorEq, q_toI, Nat.zero_add, Nat.le_refl, q_c0, q_c1, q_c2, q_c4, q_c9, q_c12, q_c30, q_c99, q_c100, q_c126, q_c32, q_c359, q_c999, ks0, kd0, kd1, kd2, kd3, kd5, kd6, kd7, hC.1, hP.1, ks1, ks2, ks3, ks4, ks5, kn0, kn1, kn2, kn3, kn4, kn5, kn6, kn7, kn8, km1, km2, km3, km4, km5, km6, km7, km8, kr0, kr1, kr2, kr3, kr5, kr6, kr7, kw5, kw6, kw7, kw8, ko0, ko1, ko2, ko3, ko4, ko5, ko6, ko7, ko8, kx1, kx2, kx3, s_isOccasion, s_isWithin, e1, e2, e3, nz, Nat.lt_irrefl]
    · rw [if_neg h]
      apply Exists.intro
      refine ⟨fun Q => ?_, ?_, ?_⟩
      · conv => lhs; simp (disch := omega) only [x49_0, x49_1, x49_4, x49_7, x49_8, x49_9, x49_11, x49_14, x49_17, x49_18, x49_19, x49_21, x49_24, x49_27, x49_29, x49_30, x49_31, x49_34, x49_37, x49_39, x49_41, x49_43, x49_46, x49_48, x49_49, x49_50, x49_53, x49_56, x49_58, x49_59, x49_60, x49_61, x49_64, x49_67, x49_69, x49_70, x49_71, x49_72, x49_75, x49_78, x49_80, x49_81, x49_82, x49_83, x49_86, x49_87, x49_90, x49_91, x49_92, x49_95, x49_97, nI_add, pk_mul, q_cl31, q_vin, q_le, q_lt, q_eqn, q_b_0, q_b_t, q_b_f, q_nz, q_nz1, q_nz0, q_tl, q_tn, true_and, and_true, not_true_eq_false, not_false_eq_true, ite_true, ite_false, ↓reduceIte, true_or, or_true, and_self, ne_eq, q_or1, q_or2, Nat.add_eq_zero_iff, and_false, false_and, List.length_cons, List.length_nil, reduceCtorEq, q_toI, Nat.zero_add, Nat.le_refl, q_c0, q_c1, q_c2, q_c4, q_c9, q_c12, q_c30, q_c99, q_c100, q_c126, q_c32, q_c359, q_c999, ks0, kd0, kd1, kd2, kd3, kd5, kd6, kd7, hC.1, hP.1, ks1, ks2, ks3, ks4, ks5, kn0, kn1, kn2, kn3, kn4, kn5, kn6, kn7, kn8, km1, km2, km3, km4, km5, km6, km7, km8, kr0, kr1, kr2, kr3, kr5, kr6, kr7, kw5, kw6, kw7, kw8, ko0, ko1, ko2, ko3, ko4, ko5, ko6, ko7, ko8, kx1, kx2, kx3, s_isOccasion, s_isWithin, e1, e2, e3, nz, show (m < 12) = True from eq_true (by omega), q_upn]
        try exact rfl
      · exact q_Out_u (q_Out_u (q_Out_u (q_Out_u (q_Out_r B g) (by omega)) (by omega)) (by omega)) (by omega)
      · intro _
        dsimp only
        rw [q_upd_cm (show ¬ 10 = 11 + 8 * m by omega), q_upd_cm (show ¬ 10 = 11 + 8 * m + 1 by omega), q_upd_cm (show ¬ 10 = 11 + 8 * m + 2 by omega)]
        exact (q_W_up (o := 4) (hl := (Or.inr (Or.inr (Or.inr (Or.inr (Or.inl ⟨rfl, rfl, rfl⟩)))))) (j := 0) (i := 10) (q_W_up (o := 7) (hl := (Or.inr (Or.inr (Or.inr (Or.inr (Or.inr (Or.inl ⟨by decide, by decide, by omega, rfl⟩))))))) (j := m) (i := 11 + 8 * m + 2) (q_W_up (o := 6) (hl := (Or.inr (Or.inr (Or.inr (Or.inr (Or.inr (Or.inl ⟨by decide, by decide, by omega, rfl⟩))))))) (j := m) (i := 11 + 8 * m + 1) (q_W_up (o := 5) (hl := (Or.inr (Or.inr (Or.inr (Or.inr (Or.inr (Or.inl ⟨by decide, by decide, by omega, rfl⟩))))))) (j := m) (i := 11 + 8 * m) (q_W_i hV hI))))).1
  · rw [if_neg hc]
    refine q_Cop_er (Or.inl rfl) fun Q => ?_
    rcases Bool.eq_false_or_eq_true (q_ir 0 4 x) with e1 | e1 <;> rcases Bool.eq_false_or_eq_true (q_ir 1 99 y) with e2 | e2 <;> rcases Bool.eq_false_or_eq_true (q_ir 0 99 z) with e3 | e3
    all_goals first
      | exact absurd (by rw [e1, e2, e3]; rfl) hc
      | simp (disch := omega) only [x49_0, x49_1, x49_4, x49_7, x49_8, x49_9, x49_11, x49_14, x49_17, x49_18, x49_19, x49_21, x49_24, x49_27, x49_29, x49_30, x49_31, x49_34, x49_37, x49_39, x49_41, x49_43, x49_46, x49_48, x49_49, x49_50, x49_53, x49_56, x49_58, x49_59, x49_60, x49_61, x49_64, x49_67, x49_69, x49_70, x49_71, x49_72, x49_75, x49_78, x49_80, x49_81, x49_82, x49_83, x49_86, x49_87, x49_90, x49_91, x49_92, x49_95, x49_97, nI_add, pk_mul, q_cl31, q_vin, q_le, q_lt, q_eqn, q_b_0, q_b_t, q_b_f, q_nz, q_nz1, q_nz0, q_tl, q_tn, true_and, and_true, not_true_eq_false, not_false_eq_true, ite_true, ite_false, ↓reduceIte, true_or, or_true, and_self, ne_eq, q_or1, q_or2, Nat.add_eq_zero_iff, and_false, false_and, List.length_cons, List.length_nil, reduceCtorEq, q_toI, Nat.zero_add, Nat.le_refl, q_c0, q_c1, q_c2, q_c4, q_c9, q_c12, q_c30, q_c99, q_c100, q_c126, q_c32, q_c359, q_c999, ks0, kd0, kd1, kd2, kd3, kd5, kd6, kd7, hC.1, hP.1, ks1, ks2, ks3, ks4, ks5, kn0, kn1, kn2, kn3, kn4, kn5, kn6, kn7, kn8, km1, km2, km3, km4, km5, km6, km7, km8, kr0, kr1, kr2, kr3, kr5, kr6, kr7, kw5, kw6, kw7, kw8, ko0, ko1, ko2, ko3, ko4, ko5, ko6, ko7, ko8, kx1, kx2, kx3, s_isOccasion, s_isWithin, e1, e2, e3, Bool.false_eq_true, Bool.true_eq_false]
theorem k_season (hS : q_StaB E B) (hV : q_Vsta g B f) (hI : q_In f) (x y z : Int32) : q_Cop E g B 51 [.ref B, .int x, .int y, .int z] (p_season f x y z) := by
  obtain ⟨ks0, ⟨ks1, ks2, ks3, ks4, ks5⟩, hC, hN, hP, hR, hD⟩ := id hS
  obtain ⟨kn0, ⟨kn1, kn2, kn3, kn4, kn5, kn6, kn7, kn8⟩, km1, km2, km3, km4, km5, km6, km7, km8⟩ := id hN
  obtain ⟨kr0, kr1, kr2, kr3, kr5, kr6, kr7⟩ := id hR
  obtain ⟨kd0, kd1, kd2, kd3, kd5, kd6, kd7⟩ := id hD
  obtain ⟨⟨kw5, kw6, kw7, kw8⟩, vC, vN, vP, vR, vD⟩ := id hV
  obtain ⟨ko0, ko1, ko2, ko3, ko4, ko5, ko6, ko7, ko8⟩ := id vN
  obtain ⟨kx1, kx2, kx3⟩ := id vR
  have ok := p_season_ok hI x y z
  unfold p_season at ok ⊢
  by_cases hc : (q_ir 0 4 x && (q_ir 0 359 y && q_ir 0 359 z)) = true
  · rw [if_pos hc] at ok ⊢
    obtain ⟨e1, e2, e3⟩ : q_ir 0 4 x = true ∧ q_ir 0 359 y = true ∧ q_ir 0 359 z = true := by simpa only [Bool.and_eq_true] using hc
    have hI' := (ok.resolve_left (fun q => q_er_b _ q.1))
    obtain ⟨-, -, -, hI'⟩ := hI'
    obtain ⟨o, -, o1, rfl, o3⟩ := q_lo (lo := 0) (n := 4) e1 (by omega)
    rw [o3] at hI' ⊢
    have hW := q_W_up (o := 3) (hl := (Or.inr (Or.inr (Or.inr (Or.inl ⟨rfl, by omega, rfl⟩))))) (j := o) (i := 2 * o + 1) (x := z) (q_W_up (o := 2) (hl := (Or.inr (Or.inr (Or.inl ⟨rfl, by omega, rfl⟩)))) (j := o) (i := 2 * o) (x := y) (q_W_i hV hI))
    dsimp only at hI' ⊢
    have ci := fun Q => c_isIn (Q := Q) (o := o) hC hW.1.2.1 hI' (by omega)
    generalize q_onf _ o = c at ci ⊢
    refine ⟨q_up (q_up g (B + 2) o y) (B + 3) o z, fun Q => ?_, q_Out_u (q_Out_u (q_Out_r B g) (by omega)) (by omega), fun _ => hW.1⟩
    cases c
    all_goals
      conv => lhs; simp (disch := omega) only [x51_0, x51_1, x51_4, x51_7, x51_8, x51_9, x51_12, x51_15, x51_18, x51_19, x51_20, x51_23, x51_26, x51_29, x51_31, x51_32, x51_33, x51_36, x51_39, x51_40, x51_41, x51_42, x51_43, x51_46, x51_49, x51_50, x51_51, x51_52, x51_53, x51_56, x51_57, x51_60, x51_63, x51_64, x51_67, x51_68, nI_add, pk_mul, q_cl31, q_vin, q_le, q_lt, q_eqn, q_b_0, q_b_t, q_b_f, q_nz, q_nz1, q_nz0, q_tl, q_tn, true_and, and_true, not_true_eq_false, not_false_eq_true, ite_true, ite_false, ↓reduceIte, true_or, or_true, and_self, ne_eq, q_or1, q_or2, Nat.add_eq_zero_iff, and_false, false_and, List.length_cons, List.length_nil, reduceCtorEq, q_toI, Nat.zero_add, Nat.le_refl, q_c0, q_c1, q_c2, q_c4, q_c9, q_c12, q_c30, q_c99, q_c100, q_c126, q_c32, q_c359, q_c999, ks0, kd0, kd1, kd2, kd3, kd5, kd6, kd7, hC.1, hP.1, ks1, ks2, ks3, ks4, ks5, kn0, kn1, kn2, kn3, kn4, kn5, kn6, kn7, kn8, km1, km2, km3, km4, km5, km6, km7, km8, kr0, kr1, kr2, kr3, kr5, kr6, kr7, kw5, kw6, kw7, kw8, ko0, ko1, ko2, ko3, ko4, ko5, ko6, ko7, ko8, kx1, kx2, kx3, hC.2.1, hC.2.2.1, hC.2.2.2.1, hC.2.2.2.2, s_isOccasion, s_isWithin, e1, e2, e3, ci]
      try rfl
  · rw [if_neg hc]
    refine q_Cop_er (Or.inl rfl) fun Q => ?_
    rcases Bool.eq_false_or_eq_true (q_ir 0 4 x) with e1 | e1 <;> rcases Bool.eq_false_or_eq_true (q_ir 0 359 y) with e2 | e2 <;> rcases Bool.eq_false_or_eq_true (q_ir 0 359 z) with e3 | e3
    all_goals first
      | exact absurd (by rw [e1, e2, e3]; rfl) hc
      | simp (disch := omega) only [x51_0, x51_1, x51_4, x51_7, x51_8, x51_9, x51_12, x51_15, x51_18, x51_19, x51_20, x51_23, x51_26, x51_29, x51_31, x51_32, x51_33, x51_36, x51_39, x51_40, x51_41, x51_42, x51_43, x51_46, x51_49, x51_50, x51_51, x51_52, x51_53, x51_56, x51_57, x51_60, x51_63, x51_64, x51_67, x51_68, nI_add, pk_mul, q_cl31, q_vin, q_le, q_lt, q_eqn, q_b_0, q_b_t, q_b_f, q_nz, q_nz1, q_nz0, q_tl, q_tn, true_and, and_true, not_true_eq_false, not_false_eq_true, ite_true, ite_false, ↓reduceIte, true_or, or_true, and_self, ne_eq, q_or1, q_or2, Nat.add_eq_zero_iff, and_false, false_and, List.length_cons, List.length_nil, reduceCtorEq, q_toI, Nat.zero_add, Nat.le_refl, q_c0, q_c1, q_c2, q_c4, q_c9, q_c12, q_c30, q_c99, q_c100, q_c126, q_c32, q_c359, q_c999, ks0, kd0, kd1, kd2, kd3, kd5, kd6, kd7, hC.1, hP.1, ks1, ks2, ks3, ks4, ks5, kn0, kn1, kn2, kn3, kn4, kn5, kn6, kn7, kn8, km1, km2, km3, km4, km5, km6, km7, km8, kr0, kr1, kr2, kr3, kr5, kr6, kr7, kw5, kw6, kw7, kw8, ko0, ko1, ko2, ko3, ko4, ko5, ko6, ko7, ko8, kx1, kx2, kx3, s_isOccasion, s_isWithin, e1, e2, e3, Bool.false_eq_true, Bool.true_eq_false]
theorem k_set (hS : q_StaB E B) (hV : q_Vsta g B f) (hI : q_In f) (x y : Int32) : q_Cop E g B 31 [.ref B, .int x, .int y, .null] (p_set f x y) := by
  obtain ⟨ks0, ⟨ks1, ks2, ks3, ks4, ks5⟩, hC, hN, hP, hR, hD⟩ := id hS
  obtain ⟨kn0, ⟨kn1, kn2, kn3, kn4, kn5, kn6, kn7, kn8⟩, km1, km2, km3, km4, km5, km6, km7, km8⟩ := id hN
  obtain ⟨kr0, kr1, kr2, kr3, kr5, kr6, kr7⟩ := id hR
  obtain ⟨kd0, kd1, kd2, kd3, kd5, kd6, kd7⟩ := id hD
  obtain ⟨⟨kw5, kw6, kw7, kw8⟩, vC, vN, vP, vR, vD⟩ := id hV
  obtain ⟨ko0, ko1, ko2, ko3, ko4, ko5, ko6, ko7, ko8⟩ := id vN
  obtain ⟨kx1, kx2, kx3⟩ := id vR
  unfold p_set
  by_cases hc : (q_ir 0 1 x && q_ir 0 (if x = nI 0 then 30 else 100) y) = true
  · rw [if_pos hc]
    obtain ⟨e1, e2⟩ : q_ir 0 1 x = true ∧ q_ir 0 (if x = nI 0 then 30 else 100) y = true := by simpa only [Bool.and_eq_true] using hc
    obtain ⟨o, -, o1, rfl, o3⟩ := q_lo (lo := 0) (n := 1) e1 (by omega)
    rw [o3]
    rcases (by omega : o = 0 ∨ o = 1) with rfl | rfl
    · rw [if_pos rfl] at e2
      refine ⟨q_up g B 5 y, fun Q => ?_, q_Out_u (q_Out_r B g) (by omega), fun _ => (q_W_up (o := 0) (hl := (Or.inl ⟨rfl, by decide⟩)) (j := 5) (i := 306) (q_W_i hV hI)).1⟩
      conv => lhs; simp (disch := omega) only [x31_0, x31_1, x31_4, x31_5, x31_6, x31_8, x31_11, x31_14, x31_15, x31_18, x31_19, x31_20, x31_21, x31_24, x31_25, x31_26, x31_27, x31_28, x31_31, x31_32, x31_33, x31_35, x31_38, x31_41, x31_42, x31_45, x31_46, x31_47, x31_48, x31_51, x31_52, x31_53, x31_55, nI_add, pk_mul, q_cl31, q_vin, q_le, q_lt, q_eqn, q_b_0, q_b_t, q_b_f, q_nz, q_nz1, q_nz0, q_tl, q_tn, true_and, and_true, not_true_eq_false, not_false_eq_true, ite_true, ite_false, ↓reduceIte, true_or, or_true, and_self, ne_eq, q_or1, q_or2, Nat.add_eq_zero_iff, and_false, false_and, List.length_cons, List.length_nil, reduceCtorEq, q_toI, Nat.zero_add, Nat.le_refl, q_c0, q_c1, q_c2, q_c4, q_c9, q_c12, q_c30, q_c99, q_c100, q_c126, q_c32, q_c359, q_c999, ks0, kd0, kd1, kd2, kd3, kd5, kd6, kd7, hC.1, hP.1, ks1, ks2, ks3, ks4, ks5, kn0, kn1, kn2, kn3, kn4, kn5, kn6, kn7, kn8, km1, km2, km3, km4, km5, km6, km7, km8, kr0, kr1, kr2, kr3, kr5, kr6, kr7, kw5, kw6, kw7, kw8, ko0, ko1, ko2, ko3, ko4, ko5, ko6, ko7, ko8, kx1, kx2, kx3, s_isWithin, e2]
    · rw [if_neg (by decide)] at e2
      refine ⟨q_up g B 6 y, fun Q => ?_, q_Out_u (q_Out_r B g) (by omega), fun _ => (q_W_up (o := 0) (hl := (Or.inl ⟨rfl, by decide⟩)) (j := 6) (i := 307) (q_W_i hV hI)).1⟩
      conv => lhs; simp (disch := omega) only [x31_0, x31_1, x31_4, x31_5, x31_6, x31_8, x31_11, x31_14, x31_15, x31_18, x31_19, x31_20, x31_21, x31_24, x31_25, x31_26, x31_27, x31_28, x31_31, x31_32, x31_33, x31_35, x31_38, x31_41, x31_42, x31_45, x31_46, x31_47, x31_48, x31_51, x31_52, x31_53, x31_55, nI_add, pk_mul, q_cl31, q_vin, q_le, q_lt, q_eqn, q_b_0, q_b_t, q_b_f, q_nz, q_nz1, q_nz0, q_tl, q_tn, true_and, and_true, not_true_eq_false, not_false_eq_true, ite_true, ite_false, ↓reduceIte, true_or, or_true, and_self, ne_eq, q_or1, q_or2, Nat.add_eq_zero_iff, and_false, false_and, List.length_cons, List.length_nil, reduceCtorEq, q_toI, Nat.zero_add, Nat.le_refl, q_c0, q_c1, q_c2, q_c4, q_c9, q_c12, q_c30, q_c99, q_c100, q_c126, q_c32, q_c359, q_c999, ks0, kd0, kd1, kd2, kd3, kd5, kd6, kd7, hC.1, hP.1, ks1, ks2, ks3, ks4, ks5, kn0, kn1, kn2, kn3, kn4, kn5, kn6, kn7, kn8, km1, km2, km3, km4, km5, km6, km7, km8, kr0, kr1, kr2, kr3, kr5, kr6, kr7, kw5, kw6, kw7, kw8, ko0, ko1, ko2, ko3, ko4, ko5, ko6, ko7, ko8, kx1, kx2, kx3, s_isWithin, e2, Nat.reduceEqDiff]
  · rw [if_neg hc]
    refine q_Cop_er (Or.inl rfl) fun Q => ?_
    by_cases h0 : x = nI 0
    · subst h0
      have e2 : q_ir 0 30 y = false := by
        rw [if_pos rfl, show q_ir 0 1 (nI 0) = true from by decide, Bool.true_and] at hc
        simpa using hc
      simp (disch := omega) only [x31_0, x31_1, x31_4, x31_5, x31_6, x31_8, x31_11, x31_14, x31_15, x31_18, x31_19, x31_20, x31_21, x31_24, x31_25, x31_26, x31_27, x31_28, x31_31, x31_32, x31_33, x31_35, x31_38, x31_41, x31_42, x31_45, x31_46, x31_47, x31_48, x31_51, x31_52, x31_53, x31_55, nI_add, pk_mul, q_cl31, q_vin, q_le, q_lt, q_eqn, q_b_0, q_b_t, q_b_f, q_nz, q_nz1, q_nz0, q_tl, q_tn, true_and, and_true, not_true_eq_false, not_false_eq_true, ite_true, ite_false, ↓reduceIte, true_or, or_true, and_self, ne_eq, q_or1, q_or2, Nat.add_eq_zero_iff, and_false, false_and, List.length_cons, List.length_nil, reduceCtorEq, q_toI, Nat.zero_add, Nat.le_refl, q_c0, q_c1, q_c2, q_c4, q_c9, q_c12, q_c30, q_c99, q_c100, q_c126, q_c32, q_c359, q_c999, ks0, kd0, kd1, kd2, kd3, kd5, kd6, kd7, hC.1, hP.1, ks1, ks2, ks3, ks4, ks5, kn0, kn1, kn2, kn3, kn4, kn5, kn6, kn7, kn8, km1, km2, km3, km4, km5, km6, km7, km8, kr0, kr1, kr2, kr3, kr5, kr6, kr7, kw5, kw6, kw7, kw8, ko0, ko1, ko2, ko3, ko4, ko5, ko6, ko7, ko8, kx1, kx2, kx3, s_isWithin, e2, Nat.reduceEqDiff, Bool.false_eq_true]
    · by_cases h1 : x = nI 1
      · subst h1
        have e2 : q_ir 0 100 y = false := by
          rw [if_neg (by decide), show q_ir 0 1 (nI 1) = true from by decide, Bool.true_and] at hc
          simpa using hc
        simp (disch := omega) only [x31_0, x31_1, x31_4, x31_5, x31_6, x31_8, x31_11, x31_14, x31_15, x31_18, x31_19, x31_20, x31_21, x31_24, x31_25, x31_26, x31_27, x31_28, x31_31, x31_32, x31_33, x31_35, x31_38, x31_41, x31_42, x31_45, x31_46, x31_47, x31_48, x31_51, x31_52, x31_53, x31_55, nI_add, pk_mul, q_cl31, q_vin, q_le, q_lt, q_eqn, q_b_0, q_b_t, q_b_f, q_nz, q_nz1, q_nz0, q_tl, q_tn, true_and, and_true, not_true_eq_false, not_false_eq_true, ite_true, ite_false, ↓reduceIte, true_or, or_true, and_self, ne_eq, q_or1, q_or2, Nat.add_eq_zero_iff, and_false, false_and, List.length_cons, List.length_nil, reduceCtorEq, q_toI, Nat.zero_add, Nat.le_refl, q_c0, q_c1, q_c2, q_c4, q_c9, q_c12, q_c30, q_c99, q_c100, q_c126, q_c32, q_c359, q_c999, ks0, kd0, kd1, kd2, kd3, kd5, kd6, kd7, hC.1, hP.1, ks1, ks2, ks3, ks4, ks5, kn0, kn1, kn2, kn3, kn4, kn5, kn6, kn7, kn8, km1, km2, km3, km4, km5, km6, km7, km8, kr0, kr1, kr2, kr3, kr5, kr6, kr7, kw5, kw6, kw7, kw8, ko0, ko1, ko2, ko3, ko4, ko5, ko6, ko7, ko8, kx1, kx2, kx3, s_isWithin, e2, Nat.reduceEqDiff, Bool.false_eq_true]
      · simp (disch := omega) only [x31_0, x31_1, x31_4, x31_5, x31_6, x31_8, x31_11, x31_14, x31_15, x31_18, x31_19, x31_20, x31_21, x31_24, x31_25, x31_26, x31_27, x31_28, x31_31, x31_32, x31_33, x31_35, x31_38, x31_41, x31_42, x31_45, x31_46, x31_47, x31_48, x31_51, x31_52, x31_53, x31_55, nI_add, pk_mul, q_cl31, q_vin, q_le, q_lt, q_eqn, q_b_0, q_b_t, q_b_f, q_nz, q_nz1, q_nz0, q_tl, q_tn, true_and, and_true, not_true_eq_false, not_false_eq_true, ite_true, ite_false, ↓reduceIte, true_or, or_true, and_self, ne_eq, q_or1, q_or2, Nat.add_eq_zero_iff, and_false, false_and, List.length_cons, List.length_nil, reduceCtorEq, q_toI, Nat.zero_add, Nat.le_refl, q_c0, q_c1, q_c2, q_c4, q_c9, q_c12, q_c30, q_c99, q_c100, q_c126, q_c32, q_c359, q_c999, ks0, kd0, kd1, kd2, kd3, kd5, kd6, kd7, hC.1, hP.1, ks1, ks2, ks3, ks4, ks5, kn0, kn1, kn2, kn3, kn4, kn5, kn6, kn7, kn8, km1, km2, km3, km4, km5, km6, km7, km8, kr0, kr1, kr2, kr3, kr5, kr6, kr7, kw5, kw6, kw7, kw8, ko0, ko1, ko2, ko3, ko4, ko5, ko6, ko7, ko8, kx1, kx2, kx3, s_isWithin, h0, h1]
theorem k_lay (hS : q_StaB E B) (hV : q_Vsta g B f) (hI : q_In f) (s x y : Int32) : q_Cop E g B 54 [.ref B, .int s, .int x, .int y, .null] (p_lay f s x y) := by
  obtain ⟨ks0, ⟨ks1, ks2, ks3, ks4, ks5⟩, hC, hN, hP, hR, hD⟩ := id hS
  obtain ⟨kn0, ⟨kn1, kn2, kn3, kn4, kn5, kn6, kn7, kn8⟩, km1, km2, km3, km4, km5, km6, km7, km8⟩ := id hN
  obtain ⟨kr0, kr1, kr2, kr3, kr5, kr6, kr7⟩ := id hR
  obtain ⟨kd0, kd1, kd2, kd3, kd5, kd6, kd7⟩ := id hD
  obtain ⟨⟨kw5, kw6, kw7, kw8⟩, vC, vN, vP, vR, vD⟩ := id hV
  obtain ⟨ko0, ko1, ko2, ko3, ko4, ko5, ko6, ko7, ko8⟩ := id vN
  obtain ⟨kx1, kx2, kx3⟩ := id vR
  have h12 := hI.1.1
  unfold p_lay
  by_cases hc : (q_ir 0 9 s && (q_isv f x && q_ir 1 12 y)) = true
  · rw [if_pos hc]
    obtain ⟨e0, e1, e2⟩ : q_ir 0 9 s = true ∧ q_isv f x = true ∧ q_ir 1 12 y = true := by simpa only [Bool.and_eq_true] using hc
    obtain ⟨k, -, k1, rfl, k3⟩ := q_lo (lo := 0) (n := 9) e0 (by omega)
    obtain ⟨v, v1, rfl, v3⟩ := q_isv_lo hI e1
    obtain ⟨a, a0, a1, rfl, a3⟩ := q_lo (lo := 1) (n := 12) e2 (by omega)
    rw [v3, k3]
    by_cases hn : (¬ f (107 + 3 * k) = nI v ∧ nI 0 < f (107 + 3 * k + 1)) ∨ f (11 + 8 * v + 3) < nI a
    · rw [if_pos hn]
      refine q_Cop_er (Or.inr (Or.inl rfl)) fun Q => ?_
      by_cases x1 : f (107 + 3 * k) = nI v <;> by_cases x2 : nI 0 < f (107 + 3 * k + 1) <;> by_cases x3 : f (11 + 8 * v + 3) < nI a
      all_goals first
        | (exfalso; rcases hn with ⟨n1, n2⟩ | n1 <;> contradiction)
        | simp (disch := omega) only [x54_0, x54_1, x54_4, x54_7, x54_8, x54_11, x54_12, x54_15, x54_18, x54_19, x54_20, x54_22, x54_25, x54_28, x54_30, x54_31, x54_32, x54_35, x54_38, x54_39, x54_40, x54_41, x54_44, x54_45, x54_48, x54_51, x54_52, x54_53, x54_56, x54_57, x54_60, x54_61, x54_63, x54_65, x54_68, x54_69, x54_72, x54_75, x54_76, x54_77, x54_78, x54_81, x54_83, x54_84, x54_85, x54_88, x54_91, x54_92, x54_93, x54_94, x54_95, x54_97, x54_100, x54_102, x54_103, x54_104, x54_107, x54_110, x54_111, x54_112, x54_113, x54_114, x54_115, x54_116, x54_117, x54_120, x54_123, x54_124, x54_125, x54_126, x54_127, x54_130, x54_133, x54_134, x54_135, x54_136, x54_137, x54_138, x54_139, x54_140, x54_143, x54_146, x54_147, x54_148, nI_add, pk_mul, q_cl31, q_vin, q_le, q_lt, q_eqn, q_b_0, q_b_t, q_b_f, q_nz, q_nz1, q_nz0, q_tl, q_tn, true_and, and_true, not_true_eq_false, not_false_eq_true, ite_true, ite_false, ↓reduceIte, true_or, or_true, and_self, ne_eq, q_or1, q_or2, Nat.add_eq_zero_iff, and_false, false_and, List.length_cons, List.length_nil, reduceCtorEq, q_toI, Nat.zero_add, Nat.le_refl, q_c0, q_c1, q_c2, q_c4, q_c9, q_c12, q_c30, q_c99, q_c100, q_c126, q_c32, q_c359, q_c999, ks0, kd0, kd1, kd2, kd3, kd5, kd6, kd7, hC.1, hP.1, ks1, ks2, ks3, ks4, ks5, kn0, kn1, kn2, kn3, kn4, kn5, kn6, kn7, kn8, km1, km2, km3, km4, km5, km6, km7, km8, kr0, kr1, kr2, kr3, kr5, kr6, kr7, kw5, kw6, kw7, kw8, ko0, ko1, ko2, ko3, ko4, ko5, ko6, ko7, ko8, kx1, kx2, kx3, s_isSlot, c_hasv hN vN hI, s_isWithin, e0, e1, e2, x1, x2, x3, ← Int32.not_lt]
    · rw [if_neg hn]
      have x3 : ¬ f (11 + 8 * v + 3) < nI a := fun q => hn (Or.inr q)
      by_cases x4 : nI 12 < f (107 + 3 * k + 1) + nI a
      · rw [if_pos x4]
        refine q_Cop_er (Or.inr (Or.inr rfl)) fun Q => ?_
        by_cases x1 : f (107 + 3 * k) = nI v <;> by_cases x2 : nI 0 < f (107 + 3 * k + 1)
        all_goals first
          | (exfalso; apply hn; left; constructor <;> assumption)
          | simp (disch := omega) only [x54_0, x54_1, x54_4, x54_7, x54_8, x54_11, x54_12, x54_15, x54_18, x54_19, x54_20, x54_22, x54_25, x54_28, x54_30, x54_31, x54_32, x54_35, x54_38, x54_39, x54_40, x54_41, x54_44, x54_45, x54_48, x54_51, x54_52, x54_53, x54_56, x54_57, x54_60, x54_61, x54_63, x54_65, x54_68, x54_69, x54_72, x54_75, x54_76, x54_77, x54_78, x54_81, x54_83, x54_84, x54_85, x54_88, x54_91, x54_92, x54_93, x54_94, x54_95, x54_97, x54_100, x54_102, x54_103, x54_104, x54_107, x54_110, x54_111, x54_112, x54_113, x54_114, x54_115, x54_116, x54_117, x54_120, x54_123, x54_124, x54_125, x54_126, x54_127, x54_130, x54_133, x54_134, x54_135, x54_136, x54_137, x54_138, x54_139, x54_140, x54_143, x54_146, x54_147, x54_148, nI_add, pk_mul, q_cl31, q_vin, q_le, q_lt, q_eqn, q_b_0, q_b_t, q_b_f, q_nz, q_nz1, q_nz0, q_tl, q_tn, true_and, and_true, not_true_eq_false, not_false_eq_true, ite_true, ite_false, ↓reduceIte, true_or, or_true, and_self, ne_eq, q_or1, q_or2, Nat.add_eq_zero_iff, and_false, false_and, List.length_cons, List.length_nil, reduceCtorEq, q_toI, Nat.zero_add, Nat.le_refl, q_c0, q_c1, q_c2, q_c4, q_c9, q_c12, q_c30, q_c99, q_c100, q_c126, q_c32, q_c359, q_c999, ks0, kd0, kd1, kd2, kd3, kd5, kd6, kd7, hC.1, hP.1, ks1, ks2, ks3, ks4, ks5, kn0, kn1, kn2, kn3, kn4, kn5, kn6, kn7, kn8, km1, km2, km3, km4, km5, km6, km7, km8, kr0, kr1, kr2, kr3, kr5, kr6, kr7, kw5, kw6, kw7, kw8, ko0, ko1, ko2, ko3, ko4, ko5, ko6, ko7, ko8, kx1, kx2, kx3, s_isSlot, c_hasv hN vN hI, s_isWithin, e0, e1, e2, x1, x2, x3, x4, ← Int32.not_lt]
      · rw [if_neg x4]
        by_cases x1 : f (107 + 3 * k) = nI v <;> by_cases x2 : nI 0 < f (107 + 3 * k + 1)
        all_goals first
          | (exfalso; apply hn; left; constructor <;> assumption)
          | skip
        all_goals
          apply Exists.intro
          refine ⟨fun Q => ?_, ?_, ?_⟩
          · conv => lhs; simp (disch := omega) only [x54_0, x54_1, x54_4, x54_7, x54_8, x54_11, x54_12, x54_15, x54_18, x54_19, x54_20, x54_22, x54_25, x54_28, x54_30, x54_31, x54_32, x54_35, x54_38, x54_39, x54_40, x54_41, x54_44, x54_45, x54_48, x54_51, x54_52, x54_53, x54_56, x54_57, x54_60, x54_61, x54_63, x54_65, x54_68, x54_69, x54_72, x54_75, x54_76, x54_77, x54_78, x54_81, x54_83, x54_84, x54_85, x54_88, x54_91, x54_92, x54_93, x54_94, x54_95, x54_97, x54_100, x54_102, x54_103, x54_104, x54_107, x54_110, x54_111, x54_112, x54_113, x54_114, x54_115, x54_116, x54_117, x54_120, x54_123, x54_124, x54_125, x54_126, x54_127, x54_130, x54_133, x54_134, x54_135, x54_136, x54_137, x54_138, x54_139, x54_140, x54_143, x54_146, x54_147, x54_148, nI_add, pk_mul, q_cl31, q_vin, q_le, q_lt, q_eqn, q_b_0, q_b_t, q_b_f, q_nz, q_nz1, q_nz0, q_tl, q_tn, true_and, and_true, not_true_eq_false, not_false_eq_true, ite_true, ite_false, ↓reduceIte, true_or, or_true, and_self, ne_eq, q_or1, q_or2, Nat.add_eq_zero_iff, and_false, false_and, List.length_cons, List.length_nil, reduceCtorEq, q_toI, Nat.zero_add, Nat.le_refl, q_c0, q_c1, q_c2, q_c4, q_c9, q_c12, q_c30, q_c99, q_c100, q_c126, q_c32, q_c359, q_c999, ks0, kd0, kd1, kd2, kd3, kd5, kd6, kd7, hC.1, hP.1, ks1, ks2, ks3, ks4, ks5, kn0, kn1, kn2, kn3, kn4, kn5, kn6, kn7, kn8, km1, km2, km3, km4, km5, km6, km7, km8, kr0, kr1, kr2, kr3, kr5, kr6, kr7, kw5, kw6, kw7, kw8, ko0, ko1, ko2, ko3, ko4, ko5, ko6, ko7, ko8, kx1, kx2, kx3, s_isSlot, c_hasv hN vN hI, s_isWithin, e0, e1, e2, x1, x2, x3, x4, ← Int32.not_lt, q_upn, q_upe]
            try exact rfl
          · exact q_Out_u (q_Out_u (q_Out_u (q_Out_r B g) (by omega)) (by omega)) (by omega)
          · intro _
            dsimp only
            rw [q_upd_cm (show ¬ 107 + 3 * k + 1 = 11 + 8 * v + 3 by omega), q_upd_cm (show ¬ 107 + 3 * k = 11 + 8 * v + 3 by omega)]
            exact (q_W_up (o := 17) (hl := (Or.inr (Or.inr (Or.inr (Or.inr (Or.inr (Or.inr (⟨by decide, by decide, by omega, rfl⟩)))))))) (j := k) (i := 107 + 3 * k + 1) (q_W_up (o := 16) (hl := (Or.inr (Or.inr (Or.inr (Or.inr (Or.inr (Or.inr (⟨by decide, by decide, by omega, rfl⟩)))))))) (j := k) (i := 107 + 3 * k) (q_W_up (o := 8) (hl := (Or.inr (Or.inr (Or.inr (Or.inr (Or.inr (Or.inl ⟨by decide, by decide, by omega, rfl⟩))))))) (j := v) (i := 11 + 8 * v + 3) (q_W_i hV hI)))).1
  · rw [if_neg hc]
    refine q_Cop_er (Or.inl rfl) fun Q => ?_
    rcases Bool.eq_false_or_eq_true (q_ir 0 9 s) with e1 | e1 <;> rcases Bool.eq_false_or_eq_true (q_isv f x) with e2 | e2 <;> rcases Bool.eq_false_or_eq_true (q_ir 1 12 y) with e3 | e3
    all_goals first
      | exact absurd (by rw [e1, e2, e3]; rfl) hc
      | simp (disch := omega) only [x54_0, x54_1, x54_4, x54_7, x54_8, x54_11, x54_12, x54_15, x54_18, x54_19, x54_20, x54_22, x54_25, x54_28, x54_30, x54_31, x54_32, x54_35, x54_38, x54_39, x54_40, x54_41, x54_44, x54_45, x54_48, x54_51, x54_52, x54_53, x54_56, x54_57, x54_60, x54_61, x54_63, x54_65, x54_68, x54_69, x54_72, x54_75, x54_76, x54_77, x54_78, x54_81, x54_83, x54_84, x54_85, x54_88, x54_91, x54_92, x54_93, x54_94, x54_95, x54_97, x54_100, x54_102, x54_103, x54_104, x54_107, x54_110, x54_111, x54_112, x54_113, x54_114, x54_115, x54_116, x54_117, x54_120, x54_123, x54_124, x54_125, x54_126, x54_127, x54_130, x54_133, x54_134, x54_135, x54_136, x54_137, x54_138, x54_139, x54_140, x54_143, x54_146, x54_147, x54_148, nI_add, pk_mul, q_cl31, q_vin, q_le, q_lt, q_eqn, q_b_0, q_b_t, q_b_f, q_nz, q_nz1, q_nz0, q_tl, q_tn, true_and, and_true, not_true_eq_false, not_false_eq_true, ite_true, ite_false, ↓reduceIte, true_or, or_true, and_self, ne_eq, q_or1, q_or2, Nat.add_eq_zero_iff, and_false, false_and, List.length_cons, List.length_nil, reduceCtorEq, q_toI, Nat.zero_add, Nat.le_refl, q_c0, q_c1, q_c2, q_c4, q_c9, q_c12, q_c30, q_c99, q_c100, q_c126, q_c32, q_c359, q_c999, ks0, kd0, kd1, kd2, kd3, kd5, kd6, kd7, hC.1, hP.1, ks1, ks2, ks3, ks4, ks5, kn0, kn1, kn2, kn3, kn4, kn5, kn6, kn7, kn8, km1, km2, km3, km4, km5, km6, km7, km8, kr0, kr1, kr2, kr3, kr5, kr6, kr7, kw5, kw6, kw7, kw8, ko0, ko1, ko2, ko3, ko4, ko5, ko6, ko7, ko8, kx1, kx2, kx3, s_isSlot, c_hasv hN vN hI, s_isWithin, e1, e2, e3, Bool.false_eq_true, Bool.true_eq_false]
theorem k_clear (hS : q_StaB E B) (hV : q_Vsta g B f) (hI : q_In f) (s : Int32) : q_Cop E g B 52 [.ref B, .int s, .null, .null] (p_clear f s) := by
  obtain ⟨ks0, ⟨ks1, ks2, ks3, ks4, ks5⟩, hC, hN, hP, hR, hD⟩ := id hS
  obtain ⟨kn0, ⟨kn1, kn2, kn3, kn4, kn5, kn6, kn7, kn8⟩, km1, km2, km3, km4, km5, km6, km7, km8⟩ := id hN
  obtain ⟨kr0, kr1, kr2, kr3, kr5, kr6, kr7⟩ := id hR
  obtain ⟨kd0, kd1, kd2, kd3, kd5, kd6, kd7⟩ := id hD
  obtain ⟨⟨kw5, kw6, kw7, kw8⟩, vC, vN, vP, vR, vD⟩ := id hV
  obtain ⟨ko0, ko1, ko2, ko3, ko4, ko5, ko6, ko7, ko8⟩ := id vN
  obtain ⟨kx1, kx2, kx3⟩ := id vR
  have h12 := hI.1.1
  unfold p_clear
  by_cases e0 : q_ir 0 9 s = true
  · rw [if_pos e0]
    obtain ⟨k, -, k1, rfl, k3⟩ := q_lo (lo := 0) (n := 9) e0 (by omega)
    rw [k3]
    rcases hI.2.2.2.2.2.2.2.1 k (by omega) with ⟨h, -⟩ | ⟨h, h'⟩
    · rw [if_pos (by rw [h]; decide)]
      refine q_Cop_er (Or.inr (Or.inl rfl)) fun Q => ?_
      simp (disch := omega) only [x52_0, x52_1, x52_4, x52_7, x52_9, x52_10, x52_11, x52_14, x52_17, x52_18, x52_19, x52_20, x52_21, x52_24, x52_25, x52_28, x52_31, x52_33, x52_34, x52_35, x52_38, x52_41, x52_42, x52_43, x52_44, x52_45, x52_46, x52_47, x52_50, x52_53, x52_55, x52_56, x52_57, x52_60, x52_63, x52_64, x52_65, x52_66, x52_67, x52_68, x52_69, x52_70, x52_73, x52_76, x52_77, x52_78, x52_79, x52_80, x52_83, x52_86, x52_87, x52_88, x52_89, x52_90, nI_add, pk_mul, q_cl31, q_vin, q_le, q_lt, q_eqn, q_b_0, q_b_t, q_b_f, q_nz, q_nz1, q_nz0, q_tl, q_tn, true_and, and_true, not_true_eq_false, not_false_eq_true, ite_true, ite_false, ↓reduceIte, true_or, or_true, and_self, ne_eq, q_or1, q_or2, Nat.add_eq_zero_iff, and_false, false_and, List.length_cons, List.length_nil, reduceCtorEq, q_toI, Nat.zero_add, Nat.le_refl, q_c0, q_c1, q_c2, q_c4, q_c9, q_c12, q_c30, q_c99, q_c100, q_c126, q_c32, q_c359, q_c999, ks0, kd0, kd1, kd2, kd3, kd5, kd6, kd7, hC.1, hP.1, ks1, ks2, ks3, ks4, ks5, kn0, kn1, kn2, kn3, kn4, kn5, kn6, kn7, kn8, km1, km2, km3, km4, km5, km6, km7, km8, kr0, kr1, kr2, kr3, kr5, kr6, kr7, kw5, kw6, kw7, kw8, ko0, ko1, ko2, ko3, ko4, ko5, ko6, ko7, ko8, kx1, kx2, kx3, s_isSlot, c_hasv hN vN hI, e0, h, q_isv_m, Bool.true_eq_false]
    · rw [if_neg (by rw [h', q_lt (by omega) (by omega)]; omega), h']
      generalize q_hd f k = v at *
      by_cases x1 : nI 9999 < f (11 + 8 * v + 3) + q_ow f (q_no f) (nI v) + f (107 + 3 * k + 1)
      · rw [if_pos x1]
        refine q_Cop_er (Or.inr (Or.inr rfl)) fun Q => ?_
        have x1' : decide (f (11 + 8 * v + 3) + q_ow f (q_no f) (nI v) + f (107 + 3 * k + 1) ≤ nI 9999) = false := decide_eq_false (Int32.not_le.mpr x1)
        simp (disch := omega) only [x52_0, x52_1, x52_4, x52_7, x52_9, x52_10, x52_11, x52_14, x52_17, x52_18, x52_19, x52_20, x52_21, x52_24, x52_25, x52_28, x52_31, x52_33, x52_34, x52_35, x52_38, x52_41, x52_42, x52_43, x52_44, x52_45, x52_46, x52_47, x52_50, x52_53, x52_55, x52_56, x52_57, x52_60, x52_63, x52_64, x52_65, x52_66, x52_67, x52_68, x52_69, x52_70, x52_73, x52_76, x52_77, x52_78, x52_79, x52_80, x52_83, x52_86, x52_87, x52_88, x52_89, x52_90, nI_add, pk_mul, q_cl31, q_vin, q_le, q_lt, q_eqn, q_b_0, q_b_t, q_b_f, q_nz, q_nz1, q_nz0, q_tl, q_tn, true_and, and_true, not_true_eq_false, not_false_eq_true, ite_true, ite_false, ↓reduceIte, true_or, or_true, and_self, ne_eq, q_or1, q_or2, Nat.add_eq_zero_iff, and_false, false_and, List.length_cons, List.length_nil, reduceCtorEq, q_toI, Nat.zero_add, Nat.le_refl, q_c0, q_c1, q_c2, q_c4, q_c9, q_c12, q_c30, q_c99, q_c100, q_c126, q_c32, q_c359, q_c999, ks0, kd0, kd1, kd2, kd3, kd5, kd6, kd7, hC.1, hP.1, ks1, ks2, ks3, ks4, ks5, kn0, kn1, kn2, kn3, kn4, kn5, kn6, kn7, kn8, km1, km2, km3, km4, km5, km6, km7, km8, kr0, kr1, kr2, kr3, kr5, kr6, kr7, kw5, kw6, kw7, kw8, ko0, ko1, ko2, ko3, ko4, ko5, ko6, ko7, ko8, kx1, kx2, kx3, s_isSlot, c_hasv hN vN hI, e0, h', q_isv_n, h, decide_true, Bool.true_eq_false, c_room2 hS hV hI, x1']
      · rw [if_neg x1]
        have x1' : decide (f (11 + 8 * v + 3) + q_ow f (q_no f) (nI v) + f (107 + 3 * k + 1) ≤ nI 9999) = true := decide_eq_true (Int32.not_lt.mp x1)
        apply Exists.intro
        refine ⟨fun Q => ?_, ?_, ?_⟩
        · conv => lhs; simp (disch := omega) only [x52_0, x52_1, x52_4, x52_7, x52_9, x52_10, x52_11, x52_14, x52_17, x52_18, x52_19, x52_20, x52_21, x52_24, x52_25, x52_28, x52_31, x52_33, x52_34, x52_35, x52_38, x52_41, x52_42, x52_43, x52_44, x52_45, x52_46, x52_47, x52_50, x52_53, x52_55, x52_56, x52_57, x52_60, x52_63, x52_64, x52_65, x52_66, x52_67, x52_68, x52_69, x52_70, x52_73, x52_76, x52_77, x52_78, x52_79, x52_80, x52_83, x52_86, x52_87, x52_88, x52_89, x52_90, nI_add, pk_mul, q_cl31, q_vin, q_le, q_lt, q_eqn, q_b_0, q_b_t, q_b_f, q_nz, q_nz1, q_nz0, q_tl, q_tn, true_and, and_true, not_true_eq_false, not_false_eq_true, ite_true, ite_false, ↓reduceIte, true_or, or_true, and_self, ne_eq, q_or1, q_or2, Nat.add_eq_zero_iff, and_false, false_and, List.length_cons, List.length_nil, reduceCtorEq, q_toI, Nat.zero_add, Nat.le_refl, q_c0, q_c1, q_c2, q_c4, q_c9, q_c12, q_c30, q_c99, q_c100, q_c126, q_c32, q_c359, q_c999, ks0, kd0, kd1, kd2, kd3, kd5, kd6, kd7, hC.1, hP.1, ks1, ks2, ks3, ks4, ks5, kn0, kn1, kn2, kn3, kn4, kn5, kn6, kn7, kn8, km1, km2, km3, km4, km5, km6, km7, km8, kr0, kr1, kr2, kr3, kr5, kr6, kr7, kw5, kw6, kw7, kw8, ko0, ko1, ko2, ko3, ko4, ko5, ko6, ko7, ko8, kx1, kx2, kx3, s_isSlot, c_hasv hN vN hI, e0, h', q_isv_n, h, decide_true, Bool.true_eq_false, c_room2 hS hV hI, x1', q_upn, q_upe]
          try exact rfl
        · exact q_Out_u (q_Out_u (q_Out_u (q_Out_r B g) (by omega)) (by omega)) (by omega)
        · intro _
          exact (q_W_up (o := 17) (hl := (Or.inr (Or.inr (Or.inr (Or.inr (Or.inr (Or.inr (⟨by decide, by decide, by omega, rfl⟩)))))))) (j := k) (i := 107 + 3 * k + 1) (q_W_up (o := 16) (hl := (Or.inr (Or.inr (Or.inr (Or.inr (Or.inr (Or.inr (⟨by decide, by decide, by omega, rfl⟩)))))))) (j := k) (i := 107 + 3 * k) (q_W_up (o := 8) (hl := (Or.inr (Or.inr (Or.inr (Or.inr (Or.inr (Or.inl ⟨by decide, by decide, by omega, rfl⟩))))))) (j := v) (i := 11 + 8 * v + 3) (q_W_i hV hI)))).1
  · rw [if_neg e0]
    refine q_Cop_er (Or.inl rfl) fun Q => ?_
    have e0' : q_ir 0 9 s = false := by simpa using e0
    simp (disch := omega) only [x52_0, x52_1, x52_4, x52_7, x52_9, x52_10, x52_11, x52_14, x52_17, x52_18, x52_19, x52_20, x52_21, x52_24, x52_25, x52_28, x52_31, x52_33, x52_34, x52_35, x52_38, x52_41, x52_42, x52_43, x52_44, x52_45, x52_46, x52_47, x52_50, x52_53, x52_55, x52_56, x52_57, x52_60, x52_63, x52_64, x52_65, x52_66, x52_67, x52_68, x52_69, x52_70, x52_73, x52_76, x52_77, x52_78, x52_79, x52_80, x52_83, x52_86, x52_87, x52_88, x52_89, x52_90, nI_add, pk_mul, q_cl31, q_vin, q_le, q_lt, q_eqn, q_b_0, q_b_t, q_b_f, q_nz, q_nz1, q_nz0, q_tl, q_tn, true_and, and_true, not_true_eq_false, not_false_eq_true, ite_true, ite_false, ↓reduceIte, true_or, or_true, and_self, ne_eq, q_or1, q_or2, Nat.add_eq_zero_iff, and_false, false_and, List.length_cons, List.length_nil, reduceCtorEq, q_toI, Nat.zero_add, Nat.le_refl, q_c0, q_c1, q_c2, q_c4, q_c9, q_c12, q_c30, q_c99, q_c100, q_c126, q_c32, q_c359, q_c999, ks0, kd0, kd1, kd2, kd3, kd5, kd6, kd7, hC.1, hP.1, ks1, ks2, ks3, ks4, ks5, kn0, kn1, kn2, kn3, kn4, kn5, kn6, kn7, kn8, km1, km2, km3, km4, km5, km6, km7, km8, kr0, kr1, kr2, kr3, kr5, kr6, kr7, kw5, kw6, kw7, kw8, ko0, ko1, ko2, ko3, ko4, ko5, ko6, ko7, ko8, kx1, kx2, kx3, s_isSlot, e0', Bool.true_eq_false]
end
