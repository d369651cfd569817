/-! the State's changes -/
theorem q_upd_id {h : q_St} {i : Nat} {x : Int32} (hx : h i = x) : upd h i x = h := by
  funext k
  unfold upd
  by_cases c : k = i
  · rw [if_pos c, c, hx]
  · rw [if_neg c]
section
variable {E : q_E} {g : q_G} {f : q_St} {B : Nat}
theorem k_verse (hS : q_StaB E B) (hV : q_Vsta g B f) (hI : q_In f) (x y z : Int32) : q_Cop E g B 89 [.ref B, .int x, .int y, .int z, .null] (p_verse f x y z) := by
  obtain ⟨ks0, ⟨ks1, ks2, ks3, ks4, ks5⟩, hC, hN, hP, hR, hD⟩ := id hS
  obtain ⟨kn0, ⟨kn1, kn2, kn3, kn4, kn5, kn6, kn7, kn8⟩, km1, km2, km3, km4, km5, km6, km7, km8⟩ := id hN
  obtain ⟨kr0, kr1, kr2, kr3, kr5, kr6, kr7⟩ := id hR
  obtain ⟨kd0, kd1, kd2, kd3, kd5, kd6, kd7⟩ := id hD
  obtain ⟨⟨kw5, kw6, kw7, kw8⟩, vC, vN, vP, vR, vD⟩ := id hV
  obtain ⟨ko0, ko1, ko2, ko3, ko4, ko5, ko6, ko7, ko8⟩ := id vN
  obtain ⟨kx1, kx2, kx3⟩ := id vR
  have nz := hI.1.2
  have h12 := hI.1.1
  unfold p_verse
  by_cases hc : (q_ir 0 4 x && (q_ir 1 99 y && q_ir 0 99 z)) = true
  · rw [if_pos hc]
    obtain ⟨e1, e2, e3⟩ : q_ir 0 4 x = true ∧ q_ir 1 99 y = true ∧ q_ir 0 99 z = true := by simpa only [Bool.and_eq_true] using hc
    generalize hm : q_sz f = m at *
    by_cases h : m = 12
    · rw [if_pos h]
      refine q_Cop_er (Or.inr (Or.inr rfl)) fun Q => ?_
      subst h
      simp (disch := omega) only [x89_0, x89_1, x89_4, x89_7, x89_8, x89_9, x89_11, x89_14, x89_17, x89_18, x89_19, x89_21, x89_24, x89_27, x89_29, x89_30, x89_31, x89_34, x89_37, x89_39, x89_41, x89_43, x89_46, x89_48, x89_49, x89_50, x89_53, x89_56, x89_58, x89_59, x89_60, x89_61, x89_64, x89_67, x89_69, x89_70, x89_71, x89_72, x89_75, x89_78, x89_80, x89_81, x89_82, x89_83, x89_86, x89_87, x89_90, x89_91, x89_92, x89_95, x89_97, nI_add, pk_mul, q_cl31, q_vin, q_le, q_lt, q_eqn, q_b_0, q_b_t, q_b_f, q_nz, q_nz1, q_nz0, q_tl, q_tn, true_and, and_true, not_true_eq_false, not_false_eq_true, ite_true, ite_false, ↓reduceIte, true_or, or_true, and_self, ne_eq, q_or1, q_or2, Nat.add_eq_zero_iff, and_false, false_and, List.length_cons, List.length_nil, reduceCtorEq, q_toI, Nat.zero_add, Nat.le_refl, q_c0, q_c1, q_c2, q_c4, q_c9, q_c12, q_c30, q_c99, q_c100, q_c126, q_c32, q_c359, q_c999, ks0, kd0, kd1, kd2, kd3, kd5, kd6, kd7, hC.1, hP.1, ks1, ks2, ks3, ks4, ks5, kn0, kn1, kn2, kn3, kn4, kn5, kn6, kn7, kn8, km1, km2, km3, km4, km5, km6, km7, km8, kr0, kr1, kr2, kr3, kr5, kr6, kr7, kw5, kw6, kw7, kw8, ko0, ko1, ko2, ko3, ko4, ko5, ko6, ko7, ko8, kx1, kx2, kx3, s_isOccasion, s_isWithin, e1, e2, e3, nz, Nat.lt_irrefl]
    · rw [if_neg h]
      apply Exists.intro
      refine ⟨fun Q => ?_, ?_, ?_⟩
      · conv => lhs; simp (disch := omega) only [x89_0, x89_1, x89_4, x89_7, x89_8, x89_9, x89_11, x89_14, x89_17, x89_18, x89_19, x89_21, x89_24, x89_27, x89_29, x89_30, x89_31, x89_34, x89_37, x89_39, x89_41, x89_43, x89_46, x89_48, x89_49, x89_50, x89_53, x89_56, x89_58, x89_59, x89_60, x89_61, x89_64, x89_67, x89_69, x89_70, x89_71, x89_72, x89_75, x89_78, x89_80, x89_81, x89_82, x89_83, x89_86, x89_87, x89_90, x89_91, x89_92, x89_95, x89_97, nI_add, pk_mul, q_cl31, q_vin, q_le, q_lt, q_eqn, q_b_0, q_b_t, q_b_f, q_nz, q_nz1, q_nz0, q_tl, q_tn, true_and, and_true, not_true_eq_false, not_false_eq_true, ite_true, ite_false, ↓reduceIte, true_or, or_true, and_self, ne_eq, q_or1, q_or2, Nat.add_eq_zero_iff, and_false, false_and, List.length_cons, List.length_nil, reduceCtorEq, q_toI, Nat.zero_add, Nat.le_refl, q_c0, q_c1, q_c2, q_c4, q_c9, q_c12, q_c30, q_c99, q_c100, q_c126, q_c32, q_c359, q_c999, ks0, kd0, kd1, kd2, kd3, kd5, kd6, kd7, hC.1, hP.1, ks1, ks2, ks3, ks4, ks5, kn0, kn1, kn2, kn3, kn4, kn5, kn6, kn7, kn8, km1, km2, km3, km4, km5, km6, km7, km8, kr0, kr1, kr2, kr3, kr5, kr6, kr7, kw5, kw6, kw7, kw8, ko0, ko1, ko2, ko3, ko4, ko5, ko6, ko7, ko8, kx1, kx2, kx3, s_isOccasion, s_isWithin, e1, e2, e3, nz, show (m < 12) = True from eq_true (by omega), q_upn]
        try exact rfl
      · exact q_Out_u (q_Out_u (q_Out_u (q_Out_u (q_Out_r B g) (by omega)) (by omega)) (by omega)) (by omega)
      · intro _
        dsimp only
        rw [q_upd_cm (show ¬ 10 = 11 + 8 * m by omega), q_upd_cm (show ¬ 10 = 11 + 8 * m + 1 by omega), q_upd_cm (show ¬ 10 = 11 + 8 * m + 2 by omega)]
        exact (q_W_up (o := 4) (hl := (Or.inr (Or.inr (Or.inr (Or.inr (Or.inl ⟨rfl, rfl, rfl⟩)))))) (j := 0) (i := 10) (q_W_up (o := 7) (hl := (Or.inr (Or.inr (Or.inr (Or.inr (Or.inr (Or.inl ⟨by decide, by decide, by omega, rfl⟩))))))) (j := m) (i := 11 + 8 * m + 2) (q_W_up (o := 6) (hl := (Or.inr (Or.inr (Or.inr (Or.inr (Or.inr (Or.inl ⟨by decide, by decide, by omega, rfl⟩))))))) (j := m) (i := 11 + 8 * m + 1) (q_W_up (o := 5) (hl := (Or.inr (Or.inr (Or.inr (Or.inr (Or.inr (Or.inl ⟨by decide, by decide, by omega, rfl⟩))))))) (j := m) (i := 11 + 8 * m) (q_W_i hV hI))))).1
  · rw [if_neg hc]
    refine q_Cop_er (Or.inl rfl) fun Q => ?_
    rcases Bool.eq_false_or_eq_true (q_ir 0 4 x) with e1 | e1 <;> rcases Bool.eq_false_or_eq_true (q_ir 1 99 y) with e2 | e2 <;> rcases Bool.eq_false_or_eq_true (q_ir 0 99 z) with e3 | e3
    all_goals first
      | exact absurd (by rw [e1, e2, e3]; rfl) hc
      | simp (disch := omega) only [x89_0, x89_1, x89_4, x89_7, x89_8, x89_9, x89_11, x89_14, x89_17, x89_18, x89_19, x89_21, x89_24, x89_27, x89_29, x89_30, x89_31, x89_34, x89_37, x89_39, x89_41, x89_43, x89_46, x89_48, x89_49, x89_50, x89_53, x89_56, x89_58, x89_59, x89_60, x89_61, x89_64, x89_67, x89_69, x89_70, x89_71, x89_72, x89_75, x89_78, x89_80, x89_81, x89_82, x89_83, x89_86, x89_87, x89_90, x89_91, x89_92, x89_95, x89_97, nI_add, pk_mul, q_cl31, q_vin, q_le, q_lt, q_eqn, q_b_0, q_b_t, q_b_f, q_nz, q_nz1, q_nz0, q_tl, q_tn, true_and, and_true, not_true_eq_false, not_false_eq_true, ite_true, ite_false, ↓reduceIte, true_or, or_true, and_self, ne_eq, q_or1, q_or2, Nat.add_eq_zero_iff, and_false, false_and, List.length_cons, List.length_nil, reduceCtorEq, q_toI, Nat.zero_add, Nat.le_refl, q_c0, q_c1, q_c2, q_c4, q_c9, q_c12, q_c30, q_c99, q_c100, q_c126, q_c32, q_c359, q_c999, ks0, kd0, kd1, kd2, kd3, kd5, kd6, kd7, hC.1, hP.1, ks1, ks2, ks3, ks4, ks5, kn0, kn1, kn2, kn3, kn4, kn5, kn6, kn7, kn8, km1, km2, km3, km4, km5, km6, km7, km8, kr0, kr1, kr2, kr3, kr5, kr6, kr7, kw5, kw6, kw7, kw8, ko0, ko1, ko2, ko3, ko4, ko5, ko6, ko7, ko8, kx1, kx2, kx3, s_isOccasion, s_isWithin, e1, e2, e3, Bool.false_eq_true, Bool.true_eq_false]
theorem k_season (hS : q_StaB E B) (hV : q_Vsta g B f) (hI : q_In f) (x y z : Int32) : q_Cop E g B 91 [.ref B, .int x, .int y, .int z] (p_season f x y z) := by
  obtain ⟨ks0, ⟨ks1, ks2, ks3, ks4, ks5⟩, hC, hN, hP, hR, hD⟩ := id hS
  obtain ⟨kn0, ⟨kn1, kn2, kn3, kn4, kn5, kn6, kn7, kn8⟩, km1, km2, km3, km4, km5, km6, km7, km8⟩ := id hN
  obtain ⟨kr0, kr1, kr2, kr3, kr5, kr6, kr7⟩ := id hR
  obtain ⟨kd0, kd1, kd2, kd3, kd5, kd6, kd7⟩ := id hD
  obtain ⟨⟨kw5, kw6, kw7, kw8⟩, vC, vN, vP, vR, vD⟩ := id hV
  obtain ⟨ko0, ko1, ko2, ko3, ko4, ko5, ko6, ko7, ko8⟩ := id vN
  obtain ⟨kx1, kx2, kx3⟩ := id vR
  have ok := p_season_ok hI x y z
  unfold p_season at ok ⊢
  by_cases hc : (q_ir 0 4 x && (q_ir 0 359 y && q_ir 0 359 z)) = true
  · rw [if_pos hc] at ok ⊢
    obtain ⟨e1, e2, e3⟩ : q_ir 0 4 x = true ∧ q_ir 0 359 y = true ∧ q_ir 0 359 z = true := by simpa only [Bool.and_eq_true] using hc
    have hI' := (ok.resolve_left (fun q => q_er_b _ q.1))
    obtain ⟨-, -, -, hI'⟩ := hI'
    obtain ⟨o, -, o1, rfl, o3⟩ := q_lo (lo := 0) (n := 4) e1 (by omega)
    rw [o3] at hI' ⊢
    have hW := q_W_up (o := 3) (hl := (Or.inr (Or.inr (Or.inr (Or.inl ⟨rfl, by omega, rfl⟩))))) (j := o) (i := 2 * o + 1) (x := z) (q_W_up (o := 2) (hl := (Or.inr (Or.inr (Or.inl ⟨rfl, by omega, rfl⟩)))) (j := o) (i := 2 * o) (x := y) (q_W_i hV hI))
    dsimp only at hI' ⊢
    have ci := fun Q => c_isIn (Q := Q) (o := o) hC hW.1.2.1 hI' (by omega)
    generalize q_onf _ o = c at ci ⊢
    refine ⟨q_up (q_up g (B + 2) o y) (B + 3) o z, fun Q => ?_, q_Out_u (q_Out_u (q_Out_r B g) (by omega)) (by omega), fun _ => hW.1⟩
    cases c
    all_goals
      conv => lhs; simp (disch := omega) only [x91_0, x91_1, x91_4, x91_7, x91_8, x91_9, x91_12, x91_15, x91_18, x91_19, x91_20, x91_23, x91_26, x91_29, x91_31, x91_32, x91_33, x91_36, x91_39, x91_40, x91_41, x91_42, x91_43, x91_46, x91_49, x91_50, x91_51, x91_52, x91_53, x91_56, x91_57, x91_60, x91_63, x91_64, x91_67, x91_68, nI_add, pk_mul, q_cl31, q_vin, q_le, q_lt, q_eqn, q_b_0, q_b_t, q_b_f, q_nz, q_nz1, q_nz0, q_tl, q_tn, true_and, and_true, not_true_eq_false, not_false_eq_true, ite_true, ite_false, ↓reduceIte, true_or, or_true, and_self, ne_eq, q_or1, q_or2, Nat.add_eq_zero_iff, and_false, false_and, List.length_cons, List.length_nil, reduceCtorEq, q_toI, Nat.zero_add, Nat.le_refl, q_c0, q_c1, q_c2, q_c4, q_c9, q_c12, q_c30, q_c99, q_c100, q_c126, q_c32, q_c359, q_c999, ks0, kd0, kd1, kd2, kd3, kd5, kd6, kd7, hC.1, hP.1, ks1, ks2, ks3, ks4, ks5, kn0, kn1, kn2, kn3, kn4, kn5, kn6, kn7, kn8, km1, km2, km3, km4, km5, km6, km7, km8, kr0, kr1, kr2, kr3, kr5, kr6, kr7, kw5, kw6, kw7, kw8, ko0, ko1, ko2, ko3, ko4, ko5, ko6, ko7, ko8, kx1, kx2, kx3, hC.2.1, hC.2.2.1, hC.2.2.2.1, hC.2.2.2.2, s_isOccasion, s_isWithin, e1, e2, e3, ci]
      try rfl
  · rw [if_neg hc]
    refine q_Cop_er (Or.inl rfl) fun Q => ?_
    rcases Bool.eq_false_or_eq_true (q_ir 0 4 x) with e1 | e1 <;> rcases Bool.eq_false_or_eq_true (q_ir 0 359 y) with e2 | e2 <;> rcases Bool.eq_false_or_eq_true (q_ir 0 359 z) with e3 | e3
    all_goals first
      | exact absurd (by rw [e1, e2, e3]; rfl) hc
      | simp (disch := omega) only [x91_0, x91_1, x91_4, x91_7, x91_8, x91_9, x91_12, x91_15, x91_18, x91_19, x91_20, x91_23, x91_26, x91_29, x91_31, x91_32, x91_33, x91_36, x91_39, x91_40, x91_41, x91_42, x91_43, x91_46, x91_49, x91_50, x91_51, x91_52, x91_53, x91_56, x91_57, x91_60, x91_63, x91_64, x91_67, x91_68, nI_add, pk_mul, q_cl31, q_vin, q_le, q_lt, q_eqn, q_b_0, q_b_t, q_b_f, q_nz, q_nz1, q_nz0, q_tl, q_tn, true_and, and_true, not_true_eq_false, not_false_eq_true, ite_true, ite_false, ↓reduceIte, true_or, or_true, and_self, ne_eq, q_or1, q_or2, Nat.add_eq_zero_iff, and_false, false_and, List.length_cons, List.length_nil, reduceCtorEq, q_toI, Nat.zero_add, Nat.le_refl, q_c0, q_c1, q_c2, q_c4, q_c9, q_c12, q_c30, q_c99, q_c100, q_c126, q_c32, q_c359, q_c999, ks0, kd0, kd1, kd2, kd3, kd5, kd6, kd7, hC.1, hP.1, ks1, ks2, ks3, ks4, ks5, kn0, kn1, kn2, kn3, kn4, kn5, kn6, kn7, kn8, km1, km2, km3, km4, km5, km6, km7, km8, kr0, kr1, kr2, kr3, kr5, kr6, kr7, kw5, kw6, kw7, kw8, ko0, ko1, ko2, ko3, ko4, ko5, ko6, ko7, ko8, kx1, kx2, kx3, s_isOccasion, s_isWithin, e1, e2, e3, Bool.false_eq_true, Bool.true_eq_false]
theorem k_set (hS : q_StaB E B) (hV : q_Vsta g B f) (hI : q_In f) (x y : Int32) : q_Cop E g B 53 [.ref B, .int x, .int y, .null] (p_set f x y) := by
  obtain ⟨ks0, ⟨ks1, ks2, ks3, ks4, ks5⟩, hC, hN, hP, hR, hD⟩ := id hS
  obtain ⟨kn0, ⟨kn1, kn2, kn3, kn4, kn5, kn6, kn7, kn8⟩, km1, km2, km3, km4, km5, km6, km7, km8⟩ := id hN
  obtain ⟨kr0, kr1, kr2, kr3, kr5, kr6, kr7⟩ := id hR
  obtain ⟨kd0, kd1, kd2, kd3, kd5, kd6, kd7⟩ := id hD
  obtain ⟨⟨kw5, kw6, kw7, kw8⟩, vC, vN, vP, vR, vD⟩ := id hV
  obtain ⟨ko0, ko1, ko2, ko3, ko4, ko5, ko6, ko7, ko8⟩ := id vN
  obtain ⟨kx1, kx2, kx3⟩ := id vR
  unfold p_set
  by_cases hc : (q_ir 0 1 x && q_ir 0 (if x = nI 0 then 30 else 100) y) = true
  · rw [if_pos hc]
    obtain ⟨e1, e2⟩ : q_ir 0 1 x = true ∧ q_ir 0 (if x = nI 0 then 30 else 100) y = true := by simpa only [Bool.and_eq_true] using hc
    obtain ⟨o, -, o1, rfl, o3⟩ := q_lo (lo := 0) (n := 1) e1 (by omega)
    rw [o3]
    rcases (by omega : o = 0 ∨ o = 1) with rfl | rfl
    · rw [if_pos rfl] at e2
      refine ⟨q_up g B 5 y, fun Q => ?_, q_Out_u (q_Out_r B g) (by omega), fun _ => (q_W_up (o := 0) (hl := (Or.inl ⟨rfl, by decide⟩)) (j := 5) (i := 306) (q_W_i hV hI)).1⟩
      conv => lhs; simp (disch := omega) only [x53_0, x53_1, x53_4, x53_5, x53_6, x53_8, x53_11, x53_14, x53_15, x53_18, x53_19, x53_20, x53_21, x53_24, x53_25, x53_26, x53_27, x53_28, x53_31, x53_32, x53_33, x53_35, x53_38, x53_41, x53_42, x53_45, x53_46, x53_47, x53_48, x53_51, x53_52, x53_53, x53_55, nI_add, pk_mul, q_cl31, q_vin, q_le, q_lt, q_eqn, q_b_0, q_b_t, q_b_f, q_nz, q_nz1, q_nz0, q_tl, q_tn, true_and, and_true, not_true_eq_false, not_false_eq_true, ite_true, ite_false, ↓reduceIte, true_or, or_true, and_self, ne_eq, q_or1, q_or2, Nat.add_eq_zero_iff, and_false, false_and, List.length_cons, List.length_nil, reduceCtorEq, q_toI, Nat.zero_add, Nat.le_refl, q_c0, q_c1, q_c2, q_c4, q_c9, q_c12, q_c30, q_c99, q_c100, q_c126, q_c32, q_c359, q_c999, ks0, kd0, kd1, kd2, kd3, kd5, kd6, kd7, hC.1, hP.1, ks1, ks2, ks3, ks4, ks5, kn0, kn1, kn2, kn3, kn4, kn5, kn6, kn7, kn8, km1, km2, km3, km4, km5, km6, km7, km8, kr0, kr1, kr2, kr3, kr5, kr6, kr7, kw5, kw6, kw7, kw8, ko0, ko1, ko2, ko3, ko4, ko5, ko6, ko7, ko8, kx1, kx2, kx3, s_isWithin, e2]
    · rw [if_neg (by decide)] at e2
      refine ⟨q_up g B 6 y, fun Q => ?_, q_Out_u (q_Out_r B g) (by omega), fun _ => (q_W_up (o := 0) (hl := (Or.inl ⟨rfl, by decide⟩)) (j := 6) (i := 307) (q_W_i hV hI)).1⟩
      conv => lhs; simp (disch := omega) only [x53_0, x53_1, x53_4, x53_5, x53_6, x53_8, x53_11, x53_14, x53_15, x53_18, x53_19, x53_20, x53_21, x53_24, x53_25, x53_26, x53_27, x53_28, x53_31, x53_32, x53_33, x53_35, x53_38, x53_41, x53_42, x53_45, x53_46, x53_47, x53_48, x53_51, x53_52, x53_53, x53_55, nI_add, pk_mul, q_cl31, q_vin, q_le, q_lt, q_eqn, q_b_0, q_b_t, q_b_f, q_nz, q_nz1, q_nz0, q_tl, q_tn, true_and, and_true, not_true_eq_false, not_false_eq_true, ite_true, ite_false, ↓reduceIte, true_or, or_true, and_self, ne_eq, q_or1, q_or2, Nat.add_eq_zero_iff, and_false, false_and, List.length_cons, List.length_nil, reduceCtorEq, q_toI, Nat.zero_add, Nat.le_refl, q_c0, q_c1, q_c2, q_c4, q_c9, q_c12, q_c30, q_c99, q_c100, q_c126, q_c32, q_c359, q_c999, ks0, kd0, kd1, kd2, kd3, kd5, kd6, kd7, hC.1, hP.1, ks1, ks2, ks3, ks4, ks5, kn0, kn1, kn2, kn3, kn4, kn5, kn6, kn7, kn8, km1, km2, km3, km4, km5, km6, km7, km8, kr0, kr1, kr2, kr3, kr5, kr6, kr7, kw5, kw6, kw7, kw8, ko0, ko1, ko2, ko3, ko4, ko5, ko6, ko7, ko8, kx1, kx2, kx3, s_isWithin, e2, Nat.reduceEqDiff]
  · rw [if_neg hc]
    refine q_Cop_er (Or.inl rfl) fun Q => ?_
    by_cases h0 : x = nI 0
    · subst h0
      have e2 : q_ir 0 30 y = false := by
        rw [if_pos rfl, show q_ir 0 1 (nI 0) = true from by decide, Bool.true_and] at hc
        simpa using hc
      simp (disch := omega) only [x53_0, x53_1, x53_4, x53_5, x53_6, x53_8, x53_11, x53_14, x53_15, x53_18, x53_19, x53_20, x53_21, x53_24, x53_25, x53_26, x53_27, x53_28, x53_31, x53_32, x53_33, x53_35, x53_38, x53_41, x53_42, x53_45, x53_46, x53_47, x53_48, x53_51, x53_52, x53_53, x53_55, nI_add, pk_mul, q_cl31, q_vin, q_le, q_lt, q_eqn, q_b_0, q_b_t, q_b_f, q_nz, q_nz1, q_nz0, q_tl, q_tn, true_and, and_true, not_true_eq_false, not_false_eq_true, ite_true, ite_false, ↓reduceIte, true_or, or_true, and_self, ne_eq, q_or1, q_or2, Nat.add_eq_zero_iff, and_false, false_and, List.length_cons, List.length_nil, reduceCtorEq, q_toI, Nat.zero_add, Nat.le_refl, q_c0, q_c1, q_c2, q_c4, q_c9, q_c12, q_c30, q_c99, q_c100, q_c126, q_c32, q_c359, q_c999, ks0, kd0, kd1, kd2, kd3, kd5, kd6, kd7, hC.1, hP.1, ks1, ks2, ks3, ks4, ks5, kn0, kn1, kn2, kn3, kn4, kn5, kn6, kn7, kn8, km1, km2, km3, km4, km5, km6, km7, km8, kr0, kr1, kr2, kr3, kr5, kr6, kr7, kw5, kw6, kw7, kw8, ko0, ko1, ko2, ko3, ko4, ko5, ko6, ko7, ko8, kx1, kx2, kx3, s_isWithin, e2, Nat.reduceEqDiff, Bool.false_eq_true]
    · by_cases h1 : x = nI 1
      · subst h1
        have e2 : q_ir 0 100 y = false := by
          rw [if_neg (by decide), show q_ir 0 1 (nI 1) = true from by decide, Bool.true_and] at hc
          simpa using hc
        simp (disch := omega) only [x53_0, x53_1, x53_4, x53_5, x53_6, x53_8, x53_11, x53_14, x53_15, x53_18, x53_19, x53_20, x53_21, x53_24, x53_25, x53_26, x53_27, x53_28, x53_31, x53_32, x53_33, x53_35, x53_38, x53_41, x53_42, x53_45, x53_46, x53_47, x53_48, x53_51, x53_52, x53_53, x53_55, nI_add, pk_mul, q_cl31, q_vin, q_le, q_lt, q_eqn, q_b_0, q_b_t, q_b_f, q_nz, q_nz1, q_nz0, q_tl, q_tn, true_and, and_true, not_true_eq_false, not_false_eq_true, ite_true, ite_false, ↓reduceIte, true_or, or_true, and_self, ne_eq, q_or1, q_or2, Nat.add_eq_zero_iff, and_false, false_and, List.length_cons, List.length_nil, reduceCtorEq, q_toI, Nat.zero_add, Nat.le_refl, q_c0, q_c1, q_c2, q_c4, q_c9, q_c12, q_c30, q_c99, q_c100, q_c126, q_c32, q_c359, q_c999, ks0, kd0, kd1, kd2, kd3, kd5, kd6, kd7, hC.1, hP.1, ks1, ks2, ks3, ks4, ks5, kn0, kn1, kn2, kn3, kn4, kn5, kn6, kn7, kn8, km1, km2, km3, km4, km5, km6, km7, km8, kr0, kr1, kr2, kr3, kr5, kr6, kr7, kw5, kw6, kw7, kw8, ko0, ko1, ko2, ko3, ko4, ko5, ko6, ko7, ko8, kx1, kx2, kx3, s_isWithin, e2, Nat.reduceEqDiff, Bool.false_eq_true]
      · simp (disch := omega) only [x53_0, x53_1, x53_4, x53_5, x53_6, x53_8, x53_11, x53_14, x53_15, x53_18, x53_19, x53_20, x53_21, x53_24, x53_25, x53_26, x53_27, x53_28, x53_31, x53_32, x53_33, x53_35, x53_38, x53_41, x53_42, x53_45, x53_46, x53_47, x53_48, x53_51, x53_52, x53_53, x53_55, nI_add, pk_mul, q_cl31, q_vin, q_le, q_lt, q_eqn, q_b_0, q_b_t, q_b_f, q_nz, q_nz1, q_nz0, q_tl, q_tn, true_and, and_true, not_true_eq_false, not_false_eq_true, ite_true, ite_false, ↓reduceIte, true_or, or_true, and_self, ne_eq, q_or1, q_or2, Nat.add_eq_zero_iff, and_false, false_and, List.length_cons, List.length_nil, reduceCtorEq, q_toI, Nat.zero_add, Nat.le_refl, q_c0, q_c1, q_c2, q_c4, q_c9, q_c12, q_c30, q_c99, q_c100, q_c126, q_c32, q_c359, q_c999, ks0, kd0, kd1, kd2, kd3, kd5, kd6, kd7, hC.1, hP.1, ks1, ks2, ks3, ks4, ks5, kn0, kn1, kn2, kn3, kn4, kn5, kn6, kn7, kn8, km1, km2, km3, km4, km5, km6, km7, km8, kr0, kr1, kr2, kr3, kr5, kr6, kr7, kw5, kw6, kw7, kw8, ko0, ko1, ko2, ko3, ko4, ko5, ko6, ko7, ko8, kx1, kx2, kx3, s_isWithin, h0, h1]
theorem k_lay (hS : q_StaB E B) (hV : q_Vsta g B f) (hI : q_In f) (s x y : Int32) : q_Cop E g B 94 [.ref B, .int s, .int x, .int y, .null] (p_lay f s x y) := by
  obtain ⟨ks0, ⟨ks1, ks2, ks3, ks4, ks5⟩, hC, hN, hP, hR, hD⟩ := id hS
  obtain ⟨kn0, ⟨kn1, kn2, kn3, kn4, kn5, kn6, kn7, kn8⟩, km1, km2, km3, km4, km5, km6, km7, km8⟩ := id hN
  obtain ⟨kr0, kr1, kr2, kr3, kr5, kr6, kr7⟩ := id hR
  obtain ⟨kd0, kd1, kd2, kd3, kd5, kd6, kd7⟩ := id hD
  obtain ⟨⟨kw5, kw6, kw7, kw8⟩, vC, vN, vP, vR, vD⟩ := id hV
  obtain ⟨ko0, ko1, ko2, ko3, ko4, ko5, ko6, ko7, ko8⟩ := id vN
  obtain ⟨kx1, kx2, kx3⟩ := id vR
  have h12 := hI.1.1
  unfold p_lay
  by_cases hc : (q_ir 0 9 s && (q_isv f x && q_ir 1 12 y)) = true
  · rw [if_pos hc]
    obtain ⟨e0, e1, e2⟩ : q_ir 0 9 s = true ∧ q_isv f x = true ∧ q_ir 1 12 y = true := by simpa only [Bool.and_eq_true] using hc
    obtain ⟨k, -, k1, rfl, k3⟩ := q_lo (lo := 0) (n := 9) e0 (by omega)
    obtain ⟨v, v1, rfl, v3⟩ := q_isv_lo hI e1
    obtain ⟨a, a0, a1, rfl, a3⟩ := q_lo (lo := 1) (n := 12) e2 (by omega)
    rw [v3, k3]
    by_cases hn : (¬ f (107 + 3 * k) = nI v ∧ nI 0 < f (107 + 3 * k + 1)) ∨ f (11 + 8 * v + 3) < nI a
    · rw [if_pos hn]
      refine q_Cop_er (Or.inr (Or.inl rfl)) fun Q => ?_
      by_cases x1 : f (107 + 3 * k) = nI v <;> by_cases x2 : nI 0 < f (107 + 3 * k + 1) <;> by_cases x3 : f (11 + 8 * v + 3) < nI a
      all_goals first
        | (exfalso; rcases hn with ⟨n1, n2⟩ | n1 <;> contradiction)
        | simp (disch := omega) only [x94_0, x94_1, x94_4, x94_7, x94_8, x94_11, x94_12, x94_15, x94_18, x94_19, x94_20, x94_22, x94_25, x94_28, x94_30, x94_31, x94_32, x94_35, x94_38, x94_39, x94_40, x94_41, x94_44, x94_45, x94_48, x94_51, x94_52, x94_53, x94_56, x94_57, x94_60, x94_61, x94_63, x94_65, x94_68, x94_69, x94_72, x94_75, x94_76, x94_77, x94_78, x94_81, x94_83, x94_84, x94_85, x94_88, x94_91, x94_92, x94_93, x94_94, x94_95, x94_97, x94_100, x94_102, x94_103, x94_104, x94_107, x94_110, x94_111, x94_112, x94_113, x94_114, x94_115, x94_116, x94_117, x94_120, x94_123, x94_124, x94_125, x94_126, x94_127, x94_130, x94_133, x94_134, x94_135, x94_136, x94_137, x94_138, x94_139, x94_140, x94_143, x94_146, x94_147, x94_148, nI_add, pk_mul, q_cl31, q_vin, q_le, q_lt, q_eqn, q_b_0, q_b_t, q_b_f, q_nz, q_nz1, q_nz0, q_tl, q_tn, true_and, and_true, not_true_eq_false, not_false_eq_true, ite_true, ite_false, ↓reduceIte, true_or, or_true, and_self, ne_eq, q_or1, q_or2, Nat.add_eq_zero_iff, and_false, false_and, List.length_cons, List.length_nil, reduceCtorEq, q_toI, Nat.zero_add, Nat.le_refl, q_c0, q_c1, q_c2, q_c4, q_c9, q_c12, q_c30, q_c99, q_c100, q_c126, q_c32, q_c359, q_c999, ks0, kd0, kd1, kd2, kd3, kd5, kd6, kd7, hC.1, hP.1, ks1, ks2, ks3, ks4, ks5, kn0, kn1, kn2, kn3, kn4, kn5, kn6, kn7, kn8, km1, km2, km3, km4, km5, km6, km7, km8, kr0, kr1, kr2, kr3, kr5, kr6, kr7, kw5, kw6, kw7, kw8, ko0, ko1, ko2, ko3, ko4, ko5, ko6, ko7, ko8, kx1, kx2, kx3, s_isSlot, c_hasv hN vN hI, s_isWithin, e0, e1, e2, x1, x2, x3, ← Int32.not_lt]
    · rw [if_neg hn]
      have x3 : ¬ f (11 + 8 * v + 3) < nI a := fun q => hn (Or.inr q)
      by_cases x4 : nI 12 < f (107 + 3 * k + 1) + nI a
      · rw [if_pos x4]
        refine q_Cop_er (Or.inr (Or.inr rfl)) fun Q => ?_
        by_cases x1 : f (107 + 3 * k) = nI v <;> by_cases x2 : nI 0 < f (107 + 3 * k + 1)
        all_goals first
          | (exfalso; apply hn; left; constructor <;> assumption)
          | simp (disch := omega) only [x94_0, x94_1, x94_4, x94_7, x94_8, x94_11, x94_12, x94_15, x94_18, x94_19, x94_20, x94_22, x94_25, x94_28, x94_30, x94_31, x94_32, x94_35, x94_38, x94_39, x94_40, x94_41, x94_44, x94_45, x94_48, x94_51, x94_52, x94_53, x94_56, x94_57, x94_60, x94_61, x94_63, x94_65, x94_68, x94_69, x94_72, x94_75, x94_76, x94_77, x94_78, x94_81, x94_83, x94_84, x94_85, x94_88, x94_91, x94_92, x94_93, x94_94, x94_95, x94_97, x94_100, x94_102, x94_103, x94_104, x94_107, x94_110, x94_111, x94_112, x94_113, x94_114, x94_115, x94_116, x94_117, x94_120, x94_123, x94_124, x94_125, x94_126, x94_127, x94_130, x94_133, x94_134, x94_135, x94_136, x94_137, x94_138, x94_139, x94_140, x94_143, x94_146, x94_147, x94_148, nI_add, pk_mul, q_cl31, q_vin, q_le, q_lt, q_eqn, q_b_0, q_b_t, q_b_f, q_nz, q_nz1, q_nz0, q_tl, q_tn, true_and, and_true, not_true_eq_false, not_false_eq_true, ite_true, ite_false, ↓reduceIte, true_or, or_true, and_self, ne_eq, q_or1, q_or2, Nat.add_eq_zero_iff, and_false, false_and, List.length_cons, List.length_nil, reduceCtorEq, q_toI, Nat.zero_add, Nat.le_refl, q_c0, q_c1, q_c2, q_c4, q_c9, q_c12, q_c30, q_c99, q_c100, q_c126, q_c32, q_c359, q_c999, ks0, kd0, kd1, kd2, kd3, kd5, kd6, kd7, hC.1, hP.1, ks1, ks2, ks3, ks4, ks5, kn0, kn1, kn2, kn3, kn4, kn5, kn6, kn7, kn8, km1, km2, km3, km4, km5, km6, km7, km8, kr0, kr1, kr2, kr3, kr5, kr6, kr7, kw5, kw6, kw7, kw8, ko0, ko1, ko2, ko3, ko4, ko5, ko6, ko7, ko8, kx1, kx2, kx3, s_isSlot, c_hasv hN vN hI, s_isWithin, e0, e1, e2, x1, x2, x3, x4, ← Int32.not_lt]
      · rw [if_neg x4]
        by_cases x1 : f (107 + 3 * k) = nI v <;> by_cases x2 : nI 0 < f (107 + 3 * k + 1)
        all_goals first
          | (exfalso; apply hn; left; constructor <;> assumption)
          | skip
        all_goals
          apply Exists.intro
          refine ⟨fun Q => ?_, ?_, ?_⟩
          · conv => lhs; simp (disch := omega) only [x94_0, x94_1, x94_4, x94_7, x94_8, x94_11, x94_12, x94_15, x94_18, x94_19, x94_20, x94_22, x94_25, x94_28, x94_30, x94_31, x94_32, x94_35, x94_38, x94_39, x94_40, x94_41, x94_44, x94_45, x94_48, x94_51, x94_52, x94_53, x94_56, x94_57, x94_60, x94_61, x94_63, x94_65, x94_68, x94_69, x94_72, x94_75, x94_76, x94_77, x94_78, x94_81, x94_83, x94_84, x94_85, x94_88, x94_91, x94_92, x94_93, x94_94, x94_95, x94_97, x94_100, x94_102, x94_103, x94_104, x94_107, x94_110, x94_111, x94_112, x94_113, x94_114, x94_115, x94_116, x94_117, x94_120, x94_123, x94_124, x94_125, x94_126, x94_127, x94_130, x94_133, x94_134, x94_135, x94_136, x94_137, x94_138, x94_139, x94_140, x94_143, x94_146, x94_147, x94_148, nI_add, pk_mul, q_cl31, q_vin, q_le, q_lt, q_eqn, q_b_0, q_b_t, q_b_f, q_nz, q_nz1, q_nz0, q_tl, q_tn, true_and, and_true, not_true_eq_false, not_false_eq_true, ite_true, ite_false, ↓reduceIte, true_or, or_true, and_self, ne_eq, q_or1, q_or2, Nat.add_eq_zero_iff, and_false, false_and, List.length_cons, List.length_nil, reduceCtorEq, q_toI, Nat.zero_add, Nat.le_refl, q_c0, q_c1, q_c2, q_c4, q_c9, q_c12, q_c30, q_c99, q_c100, q_c126, q_c32, q_c359, q_c999, ks0, kd0, kd1, kd2, kd3, kd5, kd6, kd7, hC.1, hP.1, ks1, ks2, ks3, ks4, ks5, kn0, kn1, kn2, kn3, kn4, kn5, kn6, kn7, kn8, km1, km2, km3, km4, km5, km6, km7, km8, kr0, kr1, kr2, kr3, kr5, kr6, kr7, kw5, kw6, kw7, kw8, ko0, ko1, ko2, ko3, ko4, ko5, ko6, ko7, ko8, kx1, kx2, kx3, s_isSlot, c_hasv hN vN hI, s_isWithin, e0, e1, e2, x1, x2, x3, x4, ← Int32.not_lt, q_upn, q_upe]
            try exact rfl
          · exact q_Out_u (q_Out_u (q_Out_u (q_Out_r B g) (by omega)) (by omega)) (by omega)
          · intro _
            dsimp only
            rw [q_upd_cm (show ¬ 107 + 3 * k + 1 = 11 + 8 * v + 3 by omega), q_upd_cm (show ¬ 107 + 3 * k = 11 + 8 * v + 3 by omega)]
            exact (q_W_up (o := 17) (hl := (Or.inr (Or.inr (Or.inr (Or.inr (Or.inr (Or.inr (⟨by decide, by decide, by omega, rfl⟩)))))))) (j := k) (i := 107 + 3 * k + 1) (q_W_up (o := 16) (hl := (Or.inr (Or.inr (Or.inr (Or.inr (Or.inr (Or.inr (⟨by decide, by decide, by omega, rfl⟩)))))))) (j := k) (i := 107 + 3 * k) (q_W_up (o := 8) (hl := (Or.inr (Or.inr (Or.inr (Or.inr (Or.inr (Or.inl ⟨by decide, by decide, by omega, rfl⟩))))))) (j := v) (i := 11 + 8 * v + 3) (q_W_i hV hI)))).1
  · rw [if_neg hc]
    refine q_Cop_er (Or.inl rfl) fun Q => ?_
    rcases Bool.eq_false_or_eq_true (q_ir 0 9 s) with e1 | e1 <;> rcases Bool.eq_false_or_eq_true (q_isv f x) with e2 | e2 <;> rcases Bool.eq_false_or_eq_true (q_ir 1 12 y) with e3 | e3
    all_goals first
      | exact absurd (by rw [e1, e2, e3]; rfl) hc
      | simp (disch := omega) only [x94_0, x94_1, x94_4, x94_7, x94_8, x94_11, x94_12, x94_15, x94_18, x94_19, x94_20, x94_22, x94_25, x94_28, x94_30, x94_31, x94_32, x94_35, x94_38, x94_39, x94_40, x94_41, x94_44, x94_45, x94_48, x94_51, x94_52, x94_53, x94_56, x94_57, x94_60, x94_61, x94_63, x94_65, x94_68, x94_69, x94_72, x94_75, x94_76, x94_77, x94_78, x94_81, x94_83, x94_84, x94_85, x94_88, x94_91, x94_92, x94_93, x94_94, x94_95, x94_97, x94_100, x94_102, x94_103, x94_104, x94_107, x94_110, x94_111, x94_112, x94_113, x94_114, x94_115, x94_116, x94_117, x94_120, x94_123, x94_124, x94_125, x94_126, x94_127, x94_130, x94_133, x94_134, x94_135, x94_136, x94_137, x94_138, x94_139, x94_140, x94_143, x94_146, x94_147, x94_148, nI_add, pk_mul, q_cl31, q_vin, q_le, q_lt, q_eqn, q_b_0, q_b_t, q_b_f, q_nz, q_nz1, q_nz0, q_tl, q_tn, true_and, and_true, not_true_eq_false, not_false_eq_true, ite_true, ite_false, ↓reduceIte, true_or, or_true, and_self, ne_eq, q_or1, q_or2, Nat.add_eq_zero_iff, and_false, false_and, List.length_cons, List.length_nil, reduceCtorEq, q_toI, Nat.zero_add, Nat.le_refl, q_c0, q_c1, q_c2, q_c4, q_c9, q_c12, q_c30, q_c99, q_c100, q_c126, q_c32, q_c359, q_c999, ks0, kd0, kd1, kd2, kd3, kd5, kd6, kd7, hC.1, hP.1, ks1, ks2, ks3, ks4, ks5, kn0, kn1, kn2, kn3, kn4, kn5, kn6, kn7, kn8, km1, km2, km3, km4, km5, km6, km7, km8, kr0, kr1, kr2, kr3, kr5, kr6, kr7, kw5, kw6, kw7, kw8, ko0, ko1, ko2, ko3, ko4, ko5, ko6, ko7, ko8, kx1, kx2, kx3, s_isSlot, c_hasv hN vN hI, s_isWithin, e1, e2, e3, Bool.false_eq_true, Bool.true_eq_false]
theorem k_clear (hS : q_StaB E B) (hV : q_Vsta g B f) (hI : q_In f) (s : Int32) : q_Cop E g B 92 [.ref B, .int s, .null, .null] (p_clear f s) := by
  obtain ⟨ks0, ⟨ks1, ks2, ks3, ks4, ks5⟩, hC, hN, hP, hR, hD⟩ := id hS
  obtain ⟨kn0, ⟨kn1, kn2, kn3, kn4, kn5, kn6, kn7, kn8⟩, km1, km2, km3, km4, km5, km6, km7, km8⟩ := id hN
  obtain ⟨kr0, kr1, kr2, kr3, kr5, kr6, kr7⟩ := id hR
  obtain ⟨kd0, kd1, kd2, kd3, kd5, kd6, kd7⟩ := id hD
  obtain ⟨⟨kw5, kw6, kw7, kw8⟩, vC, vN, vP, vR, vD⟩ := id hV
  obtain ⟨ko0, ko1, ko2, ko3, ko4, ko5, ko6, ko7, ko8⟩ := id vN
  obtain ⟨kx1, kx2, kx3⟩ := id vR
  have h12 := hI.1.1
  unfold p_clear
  by_cases e0 : q_ir 0 9 s = true
  · rw [if_pos e0]
    obtain ⟨k, -, k1, rfl, k3⟩ := q_lo (lo := 0) (n := 9) e0 (by omega)
    rw [k3]
    rcases hI.2.2.2.2.2.2.2.1 k (by omega) with ⟨h, -⟩ | ⟨h, h'⟩
    · rw [if_pos (by rw [h]; decide)]
      refine q_Cop_er (Or.inr (Or.inl rfl)) fun Q => ?_
      simp (disch := omega) only [x92_0, x92_1, x92_4, x92_7, x92_9, x92_10, x92_11, x92_14, x92_17, x92_18, x92_19, x92_20, x92_21, x92_24, x92_25, x92_28, x92_31, x92_33, x92_34, x92_35, x92_38, x92_41, x92_42, x92_43, x92_44, x92_45, x92_46, x92_47, x92_50, x92_53, x92_55, x92_56, x92_57, x92_60, x92_63, x92_64, x92_65, x92_66, x92_67, x92_68, x92_69, x92_70, x92_73, x92_76, x92_77, x92_78, x92_79, x92_80, x92_83, x92_86, x92_87, x92_88, x92_89, x92_90, nI_add, pk_mul, q_cl31, q_vin, q_le, q_lt, q_eqn, q_b_0, q_b_t, q_b_f, q_nz, q_nz1, q_nz0, q_tl, q_tn, true_and, and_true, not_true_eq_false, not_false_eq_true, ite_true, ite_false, ↓reduceIte, true_or, or_true, and_self, ne_eq, q_or1, q_or2, Nat.add_eq_zero_iff, and_false, false_and, List.length_cons, List.length_nil, reduceCtorEq, q_toI, Nat.zero_add, Nat.le_refl, q_c0, q_c1, q_c2, q_c4, q_c9, q_c12, q_c30, q_c99, q_c100, q_c126, q_c32, q_c359, q_c999, ks0, kd0, kd1, kd2, kd3, kd5, kd6, kd7, hC.1, hP.1, ks1, ks2, ks3, ks4, ks5, kn0, kn1, kn2, kn3, kn4, kn5, kn6, kn7, kn8, km1, km2, km3, km4, km5, km6, km7, km8, kr0, kr1, kr2, kr3, kr5, kr6, kr7, kw5, kw6, kw7, kw8, ko0, ko1, ko2, ko3, ko4, ko5, ko6, ko7, ko8, kx1, kx2, kx3, s_isSlot, c_hasv hN vN hI, e0, h, q_isv_m, Bool.true_eq_false]
    · rw [if_neg (by rw [h', q_lt (by omega) (by omega)]; omega), h']
      generalize q_hd f k = v at *
      by_cases x1 : nI 9999 < f (11 + 8 * v + 3) + q_ow f (q_no f) (nI v) + f (107 + 3 * k + 1)
      · rw [if_pos x1]
        refine q_Cop_er (Or.inr (Or.inr rfl)) fun Q => ?_
        have x1' : decide (f (11 + 8 * v + 3) + q_ow f (q_no f) (nI v) + f (107 + 3 * k + 1) ≤ nI 9999) = false := decide_eq_false (Int32.not_le.mpr x1)
        simp (disch := omega) only [x92_0, x92_1, x92_4, x92_7, x92_9, x92_10, x92_11, x92_14, x92_17, x92_18, x92_19, x92_20, x92_21, x92_24, x92_25, x92_28, x92_31, x92_33, x92_34, x92_35, x92_38, x92_41, x92_42, x92_43, x92_44, x92_45, x92_46, x92_47, x92_50, x92_53, x92_55, x92_56, x92_57, x92_60, x92_63, x92_64, x92_65, x92_66, x92_67, x92_68, x92_69, x92_70, x92_73, x92_76, x92_77, x92_78, x92_79, x92_80, x92_83, x92_86, x92_87, x92_88, x92_89, x92_90, nI_add, pk_mul, q_cl31, q_vin, q_le, q_lt, q_eqn, q_b_0, q_b_t, q_b_f, q_nz, q_nz1, q_nz0, q_tl, q_tn, true_and, and_true, not_true_eq_false, not_false_eq_true, ite_true, ite_false, ↓reduceIte, true_or, or_true, and_self, ne_eq, q_or1, q_or2, Nat.add_eq_zero_iff, and_false, false_and, List.length_cons, List.length_nil, reduceCtorEq, q_toI, Nat.zero_add, Nat.le_refl, q_c0, q_c1, q_c2, q_c4, q_c9, q_c12, q_c30, q_c99, q_c100, q_c126, q_c32, q_c359, q_c999, ks0, kd0, kd1, kd2, kd3, kd5, kd6, kd7, hC.1, hP.1, ks1, ks2, ks3, ks4, ks5, kn0, kn1, kn2, kn3, kn4, kn5, kn6, kn7, kn8, km1, km2, km3, km4, km5, km6, km7, km8, kr0, kr1, kr2, kr3, kr5, kr6, kr7, kw5, kw6, kw7, kw8, ko0, ko1, ko2, ko3, ko4, ko5, ko6, ko7, ko8, kx1, kx2, kx3, s_isSlot, c_hasv hN vN hI, e0, h', q_isv_n, h, decide_true, Bool.true_eq_false, c_room2 hS hV hI, x1']
      · rw [if_neg x1]
        have x1' : decide (f (11 + 8 * v + 3) + q_ow f (q_no f) (nI v) + f (107 + 3 * k + 1) ≤ nI 9999) = true := decide_eq_true (Int32.not_lt.mp x1)
        apply Exists.intro
        refine ⟨fun Q => ?_, ?_, ?_⟩
        · conv => lhs; simp (disch := omega) only [x92_0, x92_1, x92_4, x92_7, x92_9, x92_10, x92_11, x92_14, x92_17, x92_18, x92_19, x92_20, x92_21, x92_24, x92_25, x92_28, x92_31, x92_33, x92_34, x92_35, x92_38, x92_41, x92_42, x92_43, x92_44, x92_45, x92_46, x92_47, x92_50, x92_53, x92_55, x92_56, x92_57, x92_60, x92_63, x92_64, x92_65, x92_66, x92_67, x92_68, x92_69, x92_70, x92_73, x92_76, x92_77, x92_78, x92_79, x92_80, x92_83, x92_86, x92_87, x92_88, x92_89, x92_90, nI_add, pk_mul, q_cl31, q_vin, q_le, q_lt, q_eqn, q_b_0, q_b_t, q_b_f, q_nz, q_nz1, q_nz0, q_tl, q_tn, true_and, and_true, not_true_eq_false, not_false_eq_true, ite_true, ite_false, ↓reduceIte, true_or, or_true, and_self, ne_eq, q_or1, q_or2, Nat.add_eq_zero_iff, and_false, false_and, List.length_cons, List.length_nil, reduceCtorEq, q_toI, Nat.zero_add, Nat.le_refl, q_c0, q_c1, q_c2, q_c4, q_c9, q_c12, q_c30, q_c99, q_c100, q_c126, q_c32, q_c359, q_c999, ks0, kd0, kd1, kd2, kd3, kd5, kd6, kd7, hC.1, hP.1, ks1, ks2, ks3, ks4, ks5, kn0, kn1, kn2, kn3, kn4, kn5, kn6, kn7, kn8, km1, km2, km3, km4, km5, km6, km7, km8, kr0, kr1, kr2, kr3, kr5, kr6, kr7, kw5, kw6, kw7, kw8, ko0, ko1, ko2, ko3, ko4, ko5, ko6, ko7, ko8, kx1, kx2, kx3, s_isSlot, c_hasv hN vN hI, e0, h', q_isv_n, h, decide_true, Bool.true_eq_false, c_room2 hS hV hI, x1', q_upn, q_upe]
          try exact rfl
        · exact q_Out_u (q_Out_u (q_Out_u (q_Out_r B g) (by omega)) (by omega)) (by omega)
        · intro _
          exact (q_W_up (o := 17) (hl := (Or.inr (Or.inr (Or.inr (Or.inr (Or.inr (Or.inr (⟨by decide, by decide, by omega, rfl⟩)))))))) (j := k) (i := 107 + 3 * k + 1) (q_W_up (o := 16) (hl := (Or.inr (Or.inr (Or.inr (Or.inr (Or.inr (Or.inr (⟨by decide, by decide, by omega, rfl⟩)))))))) (j := k) (i := 107 + 3 * k) (q_W_up (o := 8) (hl := (Or.inr (Or.inr (Or.inr (Or.inr (Or.inr (Or.inl ⟨by decide, by decide, by omega, rfl⟩))))))) (j := v) (i := 11 + 8 * v + 3) (q_W_i hV hI)))).1
  · rw [if_neg e0]
    refine q_Cop_er (Or.inl rfl) fun Q => ?_
    have e0' : q_ir 0 9 s = false := by simpa using e0
    simp (disch := omega) only [x92_0, x92_1, x92_4, x92_7, x92_9, x92_10, x92_11, x92_14, x92_17, x92_18, x92_19, x92_20, x92_21, x92_24, x92_25, x92_28, x92_31, x92_33, x92_34, x92_35, x92_38, x92_41, x92_42, x92_43, x92_44, x92_45, x92_46, x92_47, x92_50, x92_53, x92_55, x92_56, x92_57, x92_60, x92_63, x92_64, x92_65, x92_66, x92_67, x92_68, x92_69, x92_70, x92_73, x92_76, x92_77, x92_78, x92_79, x92_80, x92_83, x92_86, x92_87, x92_88, x92_89, x92_90, nI_add, pk_mul, q_cl31, q_vin, q_le, q_lt, q_eqn, q_b_0, q_b_t, q_b_f, q_nz, q_nz1, q_nz0, q_tl, q_tn, true_and, and_true, not_true_eq_false, not_false_eq_true, ite_true, ite_false, ↓reduceIte, true_or, or_true, and_self, ne_eq, q_or1, q_or2, Nat.add_eq_zero_iff, and_false, false_and, List.length_cons, List.length_nil, reduceCtorEq, q_toI, Nat.zero_add, Nat.le_refl, q_c0, q_c1, q_c2, q_c4, q_c9, q_c12, q_c30, q_c99, q_c100, q_c126, q_c32, q_c359, q_c999, ks0, kd0, kd1, kd2, kd3, kd5, kd6, kd7, hC.1, hP.1, ks1, ks2, ks3, ks4, ks5, kn0, kn1, kn2, kn3, kn4, kn5, kn6, kn7, kn8, km1, km2, km3, km4, km5, km6, km7, km8, kr0, kr1, kr2, kr3, kr5, kr6, kr7, kw5, kw6, kw7, kw8, ko0, ko1, ko2, ko3, ko4, ko5, ko6, ko7, ko8, kx1, kx2, kx3, s_isSlot, e0', Bool.true_eq_false]
end
