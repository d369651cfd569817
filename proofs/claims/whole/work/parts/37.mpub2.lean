theorem q_er_n {n : Nat} (hn : n < 1000000) : ¬ q_Er (nI n) := by
  intro q
  have : ∀ x : Int32, q_Er x → x.toInt < 0 := by intro x hx; rcases hx with rfl | rfl | rfl <;> decide
  have := this _ q
  rw [nI_toInt (by omega)] at this
  omega
theorem q_Mop_er {E : q_E} {g : q_G} {st : Nat} {k : Nat} {A : List Value} {p : Int32 × q_St} (he : q_Er p.1) (hx : ∀ Q : Option Value → q_E → q_G → Prop, q_X k 0 A [] E g Q = Q (some (.int p.1)) E g) : q_Mop E g st k A p :=
  ⟨fun _ => ⟨g 147, fun _ _ => rfl, fun Q => by rw [q_upAid]; exact hx Q⟩, fun r hr h => absurd (h ▸ he) (q_er_n hr)⟩
theorem q_no_k1 (F : q_St) : q_no (q_k1 F) = q_no F := by unfold q_no; rw [q_k1_n (by omega)]
theorem q_dl_k1 (F : q_St) : q_dl (q_k1 F) = q_dl F := by unfold q_dl; rw [q_k1_n (by omega)]
theorem q_dy_k1 (F : q_St) : q_dy (q_k1 F) = q_dy F := by unfold q_dy; rw [q_k1_n (by omega)]
theorem q_hd_k1 (F : q_St) {k : Nat} (hk : k < 10) : q_hd (q_k1 F) k = q_hd F k := by unfold q_hd; rw [q_k1_n (by omega)]
theorem q_isv_k1 (F : q_St) (x : Int32) : q_isv (q_k1 F) x = q_isv F x := by unfold q_isv; rw [q_sz_k1]
theorem q_ow_k1 (F : q_St) {n : Nat} (hn : n ≤ 8) (x : Int32) : q_ow (q_k1 F) n x = q_ow F n x := by
  refine q_sum_c fun j hj => ?_
  try dsimp only
  rw [q_k1_n (by omega), q_k1_n (by omega)]
theorem q_pr_lt {i j : Nat} (hi : i < 12) (hj : j < 12) : q_pr i j < 312 := by
  unfold q_pr
  split <;> omega
theorem q_pv {i j : Nat} (hi : i < 12) (hj : j < 12) : vp_in (nI (q_pr i j)) 1872 = True := q_vin (by have := q_pr_lt hi hj; omega) (by omega)
theorem q_pc {i j : Nat} (hi : i < 12) (hj : j < 12) : (nI (q_pr i j)).toNatClampNeg = q_pr i j := q_cl31 (by have := q_pr_lt hi hj; omega)
section
variable {E : q_E} {g : q_G} {st : Nat}
theorem m_season (hM : q_ModB E) (hI : q_In (g 147)) (hs : st ≤ 4) (h : g 146 1 = nI st) (x y z : Int32) : q_Mop E g st 117 [.ref 146, .int x, .int y, .int z] (p_season (q_k1 (g 147)) x y z) := by
  have hI1 := q_In_k1 hI
  have ok := p_season_ok hI1 x y z
  unfold p_season at ok ⊢
  cases e1 : q_ir 0 4 x
  · exact q_Mop_er (Or.inl rfl) (fun Q => by simp (disch := omega) only [x117_0, x117_1, x117_2, x117_3, x117_6, x117_9, x117_10, x117_11, x117_14, x117_17, x117_20, x117_21, x117_22, x117_25, x117_28, x117_31, x117_33, x117_34, x117_35, x117_38, x117_39, x117_42, x117_43, x117_44, x117_45, x117_46, x117_47, x117_48, x117_49, x117_50, x117_53, x117_54, x117_55, x117_56, x117_57, x117_58, x117_59, x117_60, x117_61, x117_62, x117_63, x117_64, x117_65, x117_68, x117_71, x117_72, x117_75, x117_76, x117_79, nI_add, pk_mul, q_cl31, q_vin, q_le, q_lt, q_eqn, q_b_0, q_b_t, q_b_f, q_nz, q_nz1, q_nz0, q_tl, q_tn, true_and, and_true, not_true_eq_false, not_false_eq_true, ite_true, ite_false, ↓reduceIte, true_or, or_true, and_self, ne_eq, q_or1, q_or2, Nat.add_eq_zero_iff, and_false, false_and, List.length_cons, List.length_nil, reduceCtorEq, q_toI, Nat.zero_add, Nat.le_refl, q_c0, q_c1, q_c2, q_c4, q_c9, q_c12, q_c30, q_c99, q_c100, q_c126, q_c32, q_c359, q_c999, hM.1, hM.2.1, hM.2.2.1, hM.2.2.2.1, hM.2.2.2.2.1, hM.2.2.2.2.2.1, hM.2.2.2.2.2.2, s_in, e1]; try rfl)
  cases e2 : q_ir 0 359 y
  · exact q_Mop_er (Or.inl rfl) (fun Q => by simp (disch := omega) only [x117_0, x117_1, x117_2, x117_3, x117_6, x117_9, x117_10, x117_11, x117_14, x117_17, x117_20, x117_21, x117_22, x117_25, x117_28, x117_31, x117_33, x117_34, x117_35, x117_38, x117_39, x117_42, x117_43, x117_44, x117_45, x117_46, x117_47, x117_48, x117_49, x117_50, x117_53, x117_54, x117_55, x117_56, x117_57, x117_58, x117_59, x117_60, x117_61, x117_62, x117_63, x117_64, x117_65, x117_68, x117_71, x117_72, x117_75, x117_76, x117_79, nI_add, pk_mul, q_cl31, q_vin, q_le, q_lt, q_eqn, q_b_0, q_b_t, q_b_f, q_nz, q_nz1, q_nz0, q_tl, q_tn, true_and, and_true, not_true_eq_false, not_false_eq_true, ite_true, ite_false, ↓reduceIte, true_or, or_true, and_self, ne_eq, q_or1, q_or2, Nat.add_eq_zero_iff, and_false, false_and, List.length_cons, List.length_nil, reduceCtorEq, q_toI, Nat.zero_add, Nat.le_refl, q_c0, q_c1, q_c2, q_c4, q_c9, q_c12, q_c30, q_c99, q_c100, q_c126, q_c32, q_c359, q_c999, hM.1, hM.2.1, hM.2.2.1, hM.2.2.2.1, hM.2.2.2.2.1, hM.2.2.2.2.2.1, hM.2.2.2.2.2.2, s_in, e1, e2]; try rfl)
  cases e3 : q_ir 0 359 z
  · exact q_Mop_er (Or.inl rfl) (fun Q => by simp (disch := omega) only [x117_0, x117_1, x117_2, x117_3, x117_6, x117_9, x117_10, x117_11, x117_14, x117_17, x117_20, x117_21, x117_22, x117_25, x117_28, x117_31, x117_33, x117_34, x117_35, x117_38, x117_39, x117_42, x117_43, x117_44, x117_45, x117_46, x117_47, x117_48, x117_49, x117_50, x117_53, x117_54, x117_55, x117_56, x117_57, x117_58, x117_59, x117_60, x117_61, x117_62, x117_63, x117_64, x117_65, x117_68, x117_71, x117_72, x117_75, x117_76, x117_79, nI_add, pk_mul, q_cl31, q_vin, q_le, q_lt, q_eqn, q_b_0, q_b_t, q_b_f, q_nz, q_nz1, q_nz0, q_tl, q_tn, true_and, and_true, not_true_eq_false, not_false_eq_true, ite_true, ite_false, ↓reduceIte, true_or, or_true, and_self, ne_eq, q_or1, q_or2, Nat.add_eq_zero_iff, and_false, false_and, List.length_cons, List.length_nil, reduceCtorEq, q_toI, Nat.zero_add, Nat.le_refl, q_c0, q_c1, q_c2, q_c4, q_c9, q_c12, q_c30, q_c99, q_c100, q_c126, q_c32, q_c359, q_c999, hM.1, hM.2.1, hM.2.2.1, hM.2.2.2.1, hM.2.2.2.2.1, hM.2.2.2.2.2.1, hM.2.2.2.2.2.2, s_in, e1, e2, e3]; try rfl)
  rw [e1, e2, e3] at ok
  rw [if_pos (by rfl)] at ok ⊢
  refine q_Mop_of hM hs h ok fun Q => ?_
  obtain ⟨j, -, j2, rfl, j4⟩ := q_lo (lo := 0) (n := 4) e1 (by omega)
  rw [j4] at ok ⊢
  have hI3 : q_In (q_upA g 147 (upd (upd (q_k1 (g 147)) (2 * j) y) (2 * j + 1) z) 147) := by
    rw [q_upA_s]
    rcases ok with ⟨h1, -⟩ | ⟨r, -, -, h2⟩
    · rcases h1 with h1 | h1 | h1 <;> dsimp only at h1 <;> cases hb : q_onf (upd (upd (q_k1 (g 147)) (2 * j) y) (2 * j + 1) z) j <;> rw [hb] at h1 <;> exact absurd h1 (by decide)
    · exact h2
  apply Exists.intro
  constructor
  · simp (disch := omega) only [x117_0, x117_1, x117_2, x117_3, x117_6, x117_9, x117_10, x117_11, x117_14, x117_17, x117_20, x117_21, x117_22, x117_25, x117_28, x117_31, x117_33, x117_34, x117_35, x117_38, x117_39, x117_42, x117_43, x117_44, x117_45, x117_46, x117_47, x117_48, x117_49, x117_50, x117_53, x117_54, x117_55, x117_56, x117_57, x117_58, x117_59, x117_60, x117_61, x117_62, x117_63, x117_64, x117_65, x117_68, x117_71, x117_72, x117_75, x117_76, x117_79, nI_add, pk_mul, q_cl31, q_vin, q_le, q_lt, q_eqn, q_b_0, q_b_t, q_b_f, q_nz, q_nz1, q_nz0, q_tl, q_tn, true_and, and_true, not_true_eq_false, not_false_eq_true, ite_true, ite_false, ↓reduceIte, true_or, or_true, and_self, ne_eq, q_or1, q_or2, Nat.add_eq_zero_iff, and_false, false_and, List.length_cons, List.length_nil, reduceCtorEq, q_toI, Nat.zero_add, Nat.le_refl, q_c0, q_c1, q_c2, q_c4, q_c9, q_c12, q_c30, q_c99, q_c100, q_c126, q_c32, q_c359, q_c999, hM.1, hM.2.1, hM.2.2.1, hM.2.2.2.1, hM.2.2.2.2.1, hM.2.2.2.2.2.1, hM.2.2.2.2.2.2, s_in, e1, e2, e3, s_keeps hM, ← q_k1.eq_1, q_upD, q_upAA, q_upA_s, q_updn, q_upds, Nat.add_zero, s_isOnf hM hI3]
    cases hb : q_onf (upd (upd (q_k1 (g 147)) (2 * j) y) (2 * j + 1) z) j
    all_goals
      simp only [hb, Bool.false_eq_true, ↓reduceIte, reduceCtorEq]
      exact rfl
  · intro r E' g'
    simp only [x117_0, x117_1, x117_2, x117_3, x117_6, x117_9, x117_10, x117_11, x117_14, x117_17, x117_20, x117_21, x117_22, x117_25, x117_28, x117_31, x117_33, x117_34, x117_35, x117_38, x117_39, x117_42, x117_43, x117_44, x117_45, x117_46, x117_47, x117_48, x117_49, x117_50, x117_53, x117_54, x117_55, x117_56, x117_57, x117_58, x117_59, x117_60, x117_61, x117_62, x117_63, x117_64, x117_65, x117_68, x117_71, x117_72, x117_75, x117_76, x117_79, nI_add, pk_mul, q_cl31, q_vin, q_le, q_lt, q_eqn, q_b_0, q_b_t, q_b_f, q_nz, q_nz1, q_nz0, q_tl, q_tn, true_and, and_true, not_true_eq_false, not_false_eq_true, ite_true, ite_false, ↓reduceIte, true_or, or_true, and_self, ne_eq, q_or1, q_or2, Nat.add_eq_zero_iff, and_false, false_and, List.length_cons, List.length_nil, reduceCtorEq, q_toI, Nat.zero_add, Nat.le_refl, q_c0, q_c1, q_c2, q_c4, q_c9, q_c12, q_c30, q_c99, q_c100, q_c126, q_c32, q_c359, q_c999]
theorem m_set (hM : q_ModB E) (hI : q_In (g 147)) (hs : st ≤ 4) (h : g 146 1 = nI st) (x y : Int32) : q_Mop E g st 118 [.ref 146, .int x, .int y, .null] (p_set (q_k1 (g 147)) x y) := by
  have hI1 := q_In_k1 hI
  have ok := p_set_ok hI1 x y
  unfold p_set at ok ⊢
  cases e1 : q_ir 0 1 x
  · exact q_Mop_er (Or.inl rfl) (fun Q => by simp (disch := omega) only [x118_0, x118_1, x118_2, x118_3, x118_6, x118_9, x118_10, x118_11, x118_12, x118_15, x118_17, x118_20, x118_22, x118_25, x118_28, x118_30, x118_31, x118_32, x118_35, x118_36, x118_39, x118_42, x118_43, x118_44, x118_45, x118_46, x118_47, x118_50, x118_53, x118_54, x118_55, x118_56, x118_57, x118_58, x118_59, x118_62, nI_add, pk_mul, q_cl31, q_vin, q_le, q_lt, q_eqn, q_b_0, q_b_t, q_b_f, q_nz, q_nz1, q_nz0, q_tl, q_tn, true_and, and_true, not_true_eq_false, not_false_eq_true, ite_true, ite_false, ↓reduceIte, true_or, or_true, and_self, ne_eq, q_or1, q_or2, Nat.add_eq_zero_iff, and_false, false_and, List.length_cons, List.length_nil, reduceCtorEq, q_toI, Nat.zero_add, Nat.le_refl, q_c0, q_c1, q_c2, q_c4, q_c9, q_c12, q_c30, q_c99, q_c100, q_c126, q_c32, q_c359, q_c999, hM.1, hM.2.1, hM.2.2.1, hM.2.2.2.1, hM.2.2.2.2.1, hM.2.2.2.2.2.1, hM.2.2.2.2.2.2, s_in, e1]; try rfl)
  rw [e1] at ok
  obtain ⟨j, -, j2, rfl, j4⟩ := q_lo (lo := 0) (n := 1) e1 (by omega)
  rcases (by omega : j = 0 ∨ j = 1) with rfl | rfl
  · simp only [↓reduceIte, Bool.true_and] at ok ⊢
    cases e2 : q_ir 0 30 y
    · exact q_Mop_er (Or.inl rfl) (fun Q => by simp (disch := omega) only [x118_0, x118_1, x118_2, x118_3, x118_6, x118_9, x118_10, x118_11, x118_12, x118_15, x118_17, x118_20, x118_22, x118_25, x118_28, x118_30, x118_31, x118_32, x118_35, x118_36, x118_39, x118_42, x118_43, x118_44, x118_45, x118_46, x118_47, x118_50, x118_53, x118_54, x118_55, x118_56, x118_57, x118_58, x118_59, x118_62, nI_add, pk_mul, q_cl31, q_vin, q_le, q_lt, q_eqn, q_b_0, q_b_t, q_b_f, q_nz, q_nz1, q_nz0, q_tl, q_tn, true_and, and_true, not_true_eq_false, not_false_eq_true, ite_true, ite_false, ↓reduceIte, true_or, or_true, and_self, ne_eq, q_or1, q_or2, Nat.add_eq_zero_iff, and_false, false_and, List.length_cons, List.length_nil, reduceCtorEq, q_toI, Nat.zero_add, Nat.le_refl, q_c0, q_c1, q_c2, q_c4, q_c9, q_c12, q_c30, q_c99, q_c100, q_c126, q_c32, q_c359, q_c999, hM.1, hM.2.1, hM.2.2.1, hM.2.2.2.1, hM.2.2.2.2.1, hM.2.2.2.2.2.1, hM.2.2.2.2.2.2, s_in, e1, e2]; try rfl)
    simp only [e2, ↓reduceIte] at ok ⊢
    refine q_Mop_of hM hs h ok fun Q => ?_
    apply Exists.intro
    constructor
    · simp (disch := omega) only [x118_0, x118_1, x118_2, x118_3, x118_6, x118_9, x118_10, x118_11, x118_12, x118_15, x118_17, x118_20, x118_22, x118_25, x118_28, x118_30, x118_31, x118_32, x118_35, x118_36, x118_39, x118_42, x118_43, x118_44, x118_45, x118_46, x118_47, x118_50, x118_53, x118_54, x118_55, x118_56, x118_57, x118_58, x118_59, x118_62, nI_add, pk_mul, q_cl31, q_vin, q_le, q_lt, q_eqn, q_b_0, q_b_t, q_b_f, q_nz, q_nz1, q_nz0, q_tl, q_tn, true_and, and_true, not_true_eq_false, not_false_eq_true, ite_true, ite_false, ↓reduceIte, true_or, or_true, and_self, ne_eq, q_or1, q_or2, Nat.add_eq_zero_iff, and_false, false_and, List.length_cons, List.length_nil, reduceCtorEq, q_toI, Nat.zero_add, Nat.le_refl, q_c0, q_c1, q_c2, q_c4, q_c9, q_c12, q_c30, q_c99, q_c100, q_c126, q_c32, q_c359, q_c999, hM.1, hM.2.1, hM.2.2.1, hM.2.2.2.1, hM.2.2.2.2.1, hM.2.2.2.2.2.1, hM.2.2.2.2.2.2, s_in, e1, e2, s_keeps hM, ← q_k1.eq_1, q_upD, q_upAA, q_upA_s, q_updn, q_upds, Nat.add_zero]
      exact rfl
    · intro r E' g'
      simp only [x118_0, x118_1, x118_2, x118_3, x118_6, x118_9, x118_10, x118_11, x118_12, x118_15, x118_17, x118_20, x118_22, x118_25, x118_28, x118_30, x118_31, x118_32, x118_35, x118_36, x118_39, x118_42, x118_43, x118_44, x118_45, x118_46, x118_47, x118_50, x118_53, x118_54, x118_55, x118_56, x118_57, x118_58, x118_59, x118_62, nI_add, pk_mul, q_cl31, q_vin, q_le, q_lt, q_eqn, q_b_0, q_b_t, q_b_f, q_nz, q_nz1, q_nz0, q_tl, q_tn, true_and, and_true, not_true_eq_false, not_false_eq_true, ite_true, ite_false, ↓reduceIte, true_or, or_true, and_self, ne_eq, q_or1, q_or2, Nat.add_eq_zero_iff, and_false, false_and, List.length_cons, List.length_nil, reduceCtorEq, q_toI, Nat.zero_add, Nat.le_refl, q_c0, q_c1, q_c2, q_c4, q_c9, q_c12, q_c30, q_c99, q_c100, q_c126, q_c32, q_c359, q_c999]
  · simp only [↓reduceIte, Bool.true_and, show (nI 1 = nI 0) = False from by decide] at ok ⊢
    cases e2 : q_ir 0 100 y
    · exact q_Mop_er (Or.inl rfl) (fun Q => by simp (disch := omega) only [x118_0, x118_1, x118_2, x118_3, x118_6, x118_9, x118_10, x118_11, x118_12, x118_15, x118_17, x118_20, x118_22, x118_25, x118_28, x118_30, x118_31, x118_32, x118_35, x118_36, x118_39, x118_42, x118_43, x118_44, x118_45, x118_46, x118_47, x118_50, x118_53, x118_54, x118_55, x118_56, x118_57, x118_58, x118_59, x118_62, nI_add, pk_mul, q_cl31, q_vin, q_le, q_lt, q_eqn, q_b_0, q_b_t, q_b_f, q_nz, q_nz1, q_nz0, q_tl, q_tn, true_and, and_true, not_true_eq_false, not_false_eq_true, ite_true, ite_false, ↓reduceIte, true_or, or_true, and_self, ne_eq, q_or1, q_or2, Nat.add_eq_zero_iff, and_false, false_and, List.length_cons, List.length_nil, reduceCtorEq, q_toI, Nat.zero_add, Nat.le_refl, q_c0, q_c1, q_c2, q_c4, q_c9, q_c12, q_c30, q_c99, q_c100, q_c126, q_c32, q_c359, q_c999, hM.1, hM.2.1, hM.2.2.1, hM.2.2.2.1, hM.2.2.2.2.1, hM.2.2.2.2.2.1, hM.2.2.2.2.2.2, s_in, e1, e2]; try rfl)
    simp only [e2, ↓reduceIte] at ok ⊢
    refine q_Mop_of hM hs h ok fun Q => ?_
    apply Exists.intro
    constructor
    · simp (disch := omega) only [x118_0, x118_1, x118_2, x118_3, x118_6, x118_9, x118_10, x118_11, x118_12, x118_15, x118_17, x118_20, x118_22, x118_25, x118_28, x118_30, x118_31, x118_32, x118_35, x118_36, x118_39, x118_42, x118_43, x118_44, x118_45, x118_46, x118_47, x118_50, x118_53, x118_54, x118_55, x118_56, x118_57, x118_58, x118_59, x118_62, nI_add, pk_mul, q_cl31, q_vin, q_le, q_lt, q_eqn, q_b_0, q_b_t, q_b_f, q_nz, q_nz1, q_nz0, q_tl, q_tn, true_and, and_true, not_true_eq_false, not_false_eq_true, ite_true, ite_false, ↓reduceIte, true_or, or_true, and_self, ne_eq, q_or1, q_or2, Nat.add_eq_zero_iff, and_false, false_and, List.length_cons, List.length_nil, reduceCtorEq, q_toI, Nat.zero_add, Nat.le_refl, q_c0, q_c1, q_c2, q_c4, q_c9, q_c12, q_c30, q_c99, q_c100, q_c126, q_c32, q_c359, q_c999, hM.1, hM.2.1, hM.2.2.1, hM.2.2.2.1, hM.2.2.2.2.1, hM.2.2.2.2.2.1, hM.2.2.2.2.2.2, s_in, e1, e2, s_keeps hM, ← q_k1.eq_1, q_upD, q_upAA, q_upA_s, q_updn, q_upds, Nat.add_zero]
      exact rfl
    · intro r E' g'
      simp only [x118_0, x118_1, x118_2, x118_3, x118_6, x118_9, x118_10, x118_11, x118_12, x118_15, x118_17, x118_20, x118_22, x118_25, x118_28, x118_30, x118_31, x118_32, x118_35, x118_36, x118_39, x118_42, x118_43, x118_44, x118_45, x118_46, x118_47, x118_50, x118_53, x118_54, x118_55, x118_56, x118_57, x118_58, x118_59, x118_62, nI_add, pk_mul, q_cl31, q_vin, q_le, q_lt, q_eqn, q_b_0, q_b_t, q_b_f, q_nz, q_nz1, q_nz0, q_tl, q_tn, true_and, and_true, not_true_eq_false, not_false_eq_true, ite_true, ite_false, ↓reduceIte, true_or, or_true, and_self, ne_eq, q_or1, q_or2, Nat.add_eq_zero_iff, and_false, false_and, List.length_cons, List.length_nil, reduceCtorEq, q_toI, Nat.zero_add, Nat.le_refl, q_c0, q_c1, q_c2, q_c4, q_c9, q_c12, q_c30, q_c99, q_c100, q_c126, q_c32, q_c359, q_c999]
theorem m_clear (hM : q_ModB E) (hI : q_In (g 147)) (hs : st ≤ 4) (h : g 146 1 = nI st) (x : Int32) : q_Mop E g st 108 [.ref 146, .int x, .null, .null] (p_clear (q_k1 (g 147)) x) := by
  have hI1 := q_In_k1 hI
  have ok := p_clear_ok hI1 x
  have h12 := hI.1.1
  have h8 := hI.2.1.1
  unfold p_clear at ok ⊢
  cases e1 : q_ir 0 9 x
  · exact q_Mop_er (Or.inl rfl) (fun Q => by simp (disch := omega) only [x108_0, x108_1, x108_2, x108_4, x108_7, x108_10, x108_12, x108_13, x108_14, x108_15, x108_18, x108_19, x108_20, x108_23, x108_25, x108_26, x108_27, x108_28, x108_31, x108_32, x108_33, x108_34, x108_35, x108_38, x108_39, x108_40, x108_43, x108_44, x108_45, x108_46, x108_49, x108_52, x108_54, x108_55, x108_56, x108_59, x108_60, x108_61, x108_62, x108_63, x108_66, x108_67, x108_70, x108_72, x108_73, x108_74, x108_75, x108_76, x108_77, x108_78, x108_79, x108_82, x108_84, x108_85, x108_86, x108_87, x108_88, x108_89, x108_90, x108_91, x108_92, x108_93, x108_94, x108_97, nI_add, pk_mul, q_cl31, q_vin, q_le, q_lt, q_eqn, q_b_0, q_b_t, q_b_f, q_nz, q_nz1, q_nz0, q_tl, q_tn, true_and, and_true, not_true_eq_false, not_false_eq_true, ite_true, ite_false, ↓reduceIte, true_or, or_true, and_self, ne_eq, q_or1, q_or2, Nat.add_eq_zero_iff, and_false, false_and, List.length_cons, List.length_nil, reduceCtorEq, q_toI, Nat.zero_add, Nat.le_refl, q_c0, q_c1, q_c2, q_c4, q_c9, q_c12, q_c30, q_c99, q_c100, q_c126, q_c32, q_c359, q_c999, hM.1, hM.2.1, hM.2.2.1, hM.2.2.2.1, hM.2.2.2.2.1, hM.2.2.2.2.2.1, hM.2.2.2.2.2.2, s_in, e1]; try rfl)
  rw [e1] at ok
  rw [if_pos rfl] at ok ⊢
  obtain ⟨j, -, j2, rfl, j4⟩ := q_lo (lo := 0) (n := 9) e1 (by omega)
  rw [j4] at ok ⊢
  rw [q_no_k1, q_ow_k1 _ h8, q_hd_k1 _ (by omega), q_k1_n (show 107 + 3 * j < 1560 by omega), q_k1_n (show 107 + 3 * j + 1 < 1560 by omega)] at ok ⊢
  rcases hI.2.2.2.2.2.2.2.1 j (by omega) with ⟨h1, -⟩ | ⟨h1, h2⟩
  · rw [h1, if_pos (by decide)]
    exact q_Mop_er (Or.inr (Or.inl rfl)) (fun Q => by simp (disch := omega) only [x108_0, x108_1, x108_2, x108_4, x108_7, x108_10, x108_12, x108_13, x108_14, x108_15, x108_18, x108_19, x108_20, x108_23, x108_25, x108_26, x108_27, x108_28, x108_31, x108_32, x108_33, x108_34, x108_35, x108_38, x108_39, x108_40, x108_43, x108_44, x108_45, x108_46, x108_49, x108_52, x108_54, x108_55, x108_56, x108_59, x108_60, x108_61, x108_62, x108_63, x108_66, x108_67, x108_70, x108_72, x108_73, x108_74, x108_75, x108_76, x108_77, x108_78, x108_79, x108_82, x108_84, x108_85, x108_86, x108_87, x108_88, x108_89, x108_90, x108_91, x108_92, x108_93, x108_94, x108_97, nI_add, pk_mul, q_cl31, q_vin, q_le, q_lt, q_eqn, q_b_0, q_b_t, q_b_f, q_nz, q_nz1, q_nz0, q_tl, q_tn, true_and, and_true, not_true_eq_false, not_false_eq_true, ite_true, ite_false, ↓reduceIte, true_or, or_true, and_self, ne_eq, q_or1, q_or2, Nat.add_eq_zero_iff, and_false, false_and, List.length_cons, List.length_nil, reduceCtorEq, q_toI, Nat.zero_add, Nat.le_refl, q_c0, q_c1, q_c2, q_c4, q_c9, q_c12, q_c30, q_c99, q_c100, q_c126, q_c32, q_c359, q_c999, hM.1, hM.2.1, hM.2.2.1, hM.2.2.2.1, hM.2.2.2.2.1, hM.2.2.2.2.2.1, hM.2.2.2.2.2.2, s_in, e1, s_held hM, h1, show (nI 0 ≤ (-1 : Int32)) = False from by decide])
  · rw [h2, if_neg (by rw [q_lt (by omega) (by omega)]; omega)] at ok ⊢
    generalize q_hd (g 147) j = v at *
    rw [q_k1_n (by omega)] at ok ⊢
    by_cases c : nI 9999 < g 147 (11 + 8 * v + 3) + q_ow (g 147) (q_no (g 147)) (nI v) + g 147 (107 + 3 * j + 1)
    · rw [if_pos c]
      exact q_Mop_er (Or.inr (Or.inr rfl)) (fun Q => by simp (disch := omega) only [x108_0, x108_1, x108_2, x108_4, x108_7, x108_10, x108_12, x108_13, x108_14, x108_15, x108_18, x108_19, x108_20, x108_23, x108_25, x108_26, x108_27, x108_28, x108_31, x108_32, x108_33, x108_34, x108_35, x108_38, x108_39, x108_40, x108_43, x108_44, x108_45, x108_46, x108_49, x108_52, x108_54, x108_55, x108_56, x108_59, x108_60, x108_61, x108_62, x108_63, x108_66, x108_67, x108_70, x108_72, x108_73, x108_74, x108_75, x108_76, x108_77, x108_78, x108_79, x108_82, x108_84, x108_85, x108_86, x108_87, x108_88, x108_89, x108_90, x108_91, x108_92, x108_93, x108_94, x108_97, nI_add, pk_mul, q_cl31, q_vin, q_le, q_lt, q_eqn, q_b_0, q_b_t, q_b_f, q_nz, q_nz1, q_nz0, q_tl, q_tn, true_and, and_true, not_true_eq_false, not_false_eq_true, ite_true, ite_false, ↓reduceIte, true_or, or_true, and_self, ne_eq, q_or1, q_or2, Nat.add_eq_zero_iff, and_false, false_and, List.length_cons, List.length_nil, reduceCtorEq, q_toI, Nat.zero_add, Nat.le_refl, q_c0, q_c1, q_c2, q_c4, q_c9, q_c12, q_c30, q_c99, q_c100, q_c126, q_c32, q_c359, q_c999, hM.1, hM.2.1, hM.2.2.1, hM.2.2.2.1, hM.2.2.2.2.1, hM.2.2.2.2.2.1, hM.2.2.2.2.2.2, s_in, e1, s_held hM, s_cards hM, s_of hM, s_onWay hM h8 hI.2.1.2, h2, c, ← Int32.not_lt, not_true_eq_false, Nat.not_lt_zero])
    · rw [if_neg c] at ok ⊢
      refine q_Mop_of hM hs h ok fun Q => ?_
      apply Exists.intro
      constructor
      · simp (disch := omega) only [x108_0, x108_1, x108_2, x108_4, x108_7, x108_10, x108_12, x108_13, x108_14, x108_15, x108_18, x108_19, x108_20, x108_23, x108_25, x108_26, x108_27, x108_28, x108_31, x108_32, x108_33, x108_34, x108_35, x108_38, x108_39, x108_40, x108_43, x108_44, x108_45, x108_46, x108_49, x108_52, x108_54, x108_55, x108_56, x108_59, x108_60, x108_61, x108_62, x108_63, x108_66, x108_67, x108_70, x108_72, x108_73, x108_74, x108_75, x108_76, x108_77, x108_78, x108_79, x108_82, x108_84, x108_85, x108_86, x108_87, x108_88, x108_89, x108_90, x108_91, x108_92, x108_93, x108_94, x108_97, nI_add, pk_mul, q_cl31, q_vin, q_le, q_lt, q_eqn, q_b_0, q_b_t, q_b_f, q_nz, q_nz1, q_nz0, q_tl, q_tn, true_and, and_true, not_true_eq_false, not_false_eq_true, ite_true, ite_false, ↓reduceIte, true_or, or_true, and_self, ne_eq, q_or1, q_or2, Nat.add_eq_zero_iff, and_false, false_and, List.length_cons, List.length_nil, reduceCtorEq, q_toI, Nat.zero_add, Nat.le_refl, q_c0, q_c1, q_c2, q_c4, q_c9, q_c12, q_c30, q_c99, q_c100, q_c126, q_c32, q_c359, q_c999, hM.1, hM.2.1, hM.2.2.1, hM.2.2.2.1, hM.2.2.2.2.1, hM.2.2.2.2.2.1, hM.2.2.2.2.2.2, s_in, e1, s_held hM, s_cards hM, s_of hM, s_onWay hM h8 hI.2.1.2, h2, c, ← Int32.not_lt, not_true_eq_false, Nat.not_lt_zero, s_keeps hM, s_adds hM, ← q_k1.eq_1, q_upD, q_upAA, q_upA_s, q_updn, q_upds, Nat.add_zero, q_k1_n]
        exact rfl
      · intro r E' g'
        simp only [x108_0, x108_1, x108_2, x108_4, x108_7, x108_10, x108_12, x108_13, x108_14, x108_15, x108_18, x108_19, x108_20, x108_23, x108_25, x108_26, x108_27, x108_28, x108_31, x108_32, x108_33, x108_34, x108_35, x108_38, x108_39, x108_40, x108_43, x108_44, x108_45, x108_46, x108_49, x108_52, x108_54, x108_55, x108_56, x108_59, x108_60, x108_61, x108_62, x108_63, x108_66, x108_67, x108_70, x108_72, x108_73, x108_74, x108_75, x108_76, x108_77, x108_78, x108_79, x108_82, x108_84, x108_85, x108_86, x108_87, x108_88, x108_89, x108_90, x108_91, x108_92, x108_93, x108_94, x108_97, nI_add, pk_mul, q_cl31, q_vin, q_le, q_lt, q_eqn, q_b_0, q_b_t, q_b_f, q_nz, q_nz1, q_nz0, q_tl, q_tn, true_and, and_true, not_true_eq_false, not_false_eq_true, ite_true, ite_false, ↓reduceIte, true_or, or_true, and_self, ne_eq, q_or1, q_or2, Nat.add_eq_zero_iff, and_false, false_and, List.length_cons, List.length_nil, reduceCtorEq, q_toI, Nat.zero_add, Nat.le_refl, q_c0, q_c1, q_c2, q_c4, q_c9, q_c12, q_c30, q_c99, q_c100, q_c126, q_c32, q_c359, q_c999]
theorem m_two (hM : q_ModB E) (hI : q_In (g 147)) (hs : st ≤ 4) (h : g 146 1 = nI st) (x y : Int32) : q_Mop E g st 143 [.ref 146, .int x, .int y, .null, .null] (p_two (q_k1 (g 147)) x y) := by
  have hI1 := q_In_k1 hI
  have ok := p_two_ok hI1 x y
  have h12 := hI.1.1
  have z1 : q_sz (q_k1 (g 147)) = q_sz (g 147) := q_sz_k1 _
  unfold p_two at ok ⊢
  rw [q_isv_k1, q_isv_k1] at ok ⊢
  cases e1 : q_isv (g 147) x
  · exact q_Mop_er (Or.inl rfl) (fun Q => by simp (disch := omega) only [x143_0, x143_1, x143_2, x143_5, x143_8, x143_9, x143_10, x143_13, x143_16, x143_18, x143_19, x143_20, x143_23, x143_24, x143_25, x143_28, x143_29, x143_30, x143_31, x143_34, x143_36, x143_37, x143_40, x143_42, x143_45, x143_46, x143_49, x143_50, x143_52, x143_55, x143_56, x143_57, x143_58, x143_59, x143_60, x143_61, x143_62, x143_65, x143_66, x143_69, x143_70, x143_72, x143_75, x143_76, x143_79, x143_80, x143_81, x143_84, nI_add, pk_mul, q_cl31, q_vin, q_le, q_lt, q_eqn, q_b_0, q_b_t, q_b_f, q_nz, q_nz1, q_nz0, q_tl, q_tn, true_and, and_true, not_true_eq_false, not_false_eq_true, ite_true, ite_false, ↓reduceIte, true_or, or_true, and_self, ne_eq, q_or1, q_or2, Nat.add_eq_zero_iff, and_false, false_and, List.length_cons, List.length_nil, reduceCtorEq, q_toI, Nat.zero_add, Nat.le_refl, q_c0, q_c1, q_c2, q_c4, q_c9, q_c12, q_c30, q_c99, q_c100, q_c126, q_c32, q_c359, q_c999, hM.1, hM.2.1, hM.2.2.1, hM.2.2.2.1, hM.2.2.2.2.1, hM.2.2.2.2.2.1, hM.2.2.2.2.2.2, s_isv hM hI, e1]; try rfl)
  cases e2 : q_isv (g 147) y
  · exact q_Mop_er (Or.inl rfl) (fun Q => by simp (disch := omega) only [x143_0, x143_1, x143_2, x143_5, x143_8, x143_9, x143_10, x143_13, x143_16, x143_18, x143_19, x143_20, x143_23, x143_24, x143_25, x143_28, x143_29, x143_30, x143_31, x143_34, x143_36, x143_37, x143_40, x143_42, x143_45, x143_46, x143_49, x143_50, x143_52, x143_55, x143_56, x143_57, x143_58, x143_59, x143_60, x143_61, x143_62, x143_65, x143_66, x143_69, x143_70, x143_72, x143_75, x143_76, x143_79, x143_80, x143_81, x143_84, nI_add, pk_mul, q_cl31, q_vin, q_le, q_lt, q_eqn, q_b_0, q_b_t, q_b_f, q_nz, q_nz1, q_nz0, q_tl, q_tn, true_and, and_true, not_true_eq_false, not_false_eq_true, ite_true, ite_false, ↓reduceIte, true_or, or_true, and_self, ne_eq, q_or1, q_or2, Nat.add_eq_zero_iff, and_false, false_and, List.length_cons, List.length_nil, reduceCtorEq, q_toI, Nat.zero_add, Nat.le_refl, q_c0, q_c1, q_c2, q_c4, q_c9, q_c12, q_c30, q_c99, q_c100, q_c126, q_c32, q_c359, q_c999, hM.1, hM.2.1, hM.2.2.1, hM.2.2.2.1, hM.2.2.2.2.1, hM.2.2.2.2.2.1, hM.2.2.2.2.2.2, s_isv hM hI, e1, e2]; try rfl)
  rw [e1, e2] at ok
  rw [if_pos (by rfl)] at ok ⊢
  refine q_Mop_of hM hs h ok fun Q => ?_
  obtain ⟨v, v1, rfl, v4⟩ := q_isv_lo hI e1
  obtain ⟨w, w1, rfl, w4⟩ := q_isv_lo hI e2
  rw [v4, w4]
  clear ok
  obtain ⟨a1, a2, a3⟩ := p_sells_In hI1 (v := v) (by omega)
  obtain ⟨b1, b2, b3⟩ := p_sells_In a1 (v := w) (by omega)
  have t1 := fun Q => s_sells (Q := Q) (E := E) (g := q_upA g 147 (q_k1 (g 147))) hM (by rw [q_upA_s]; exact hI1) (v := v) (by rw [q_upA_s]; omega)
  have t2 := fun Q => s_sells (Q := Q) (E := E) (g := q_upA g 147 (p_sells (q_k1 (g 147)) v).2) hM (by rw [q_upA_s]; exact a1) (v := w) (by rw [q_upA_s]; omega)
  rw [q_upA_s, q_upAA] at t1 t2
  generalize p_sells (q_k1 (g 147)) v = q1 at *
  generalize p_sells q1.2 w = q2 at *
  have m1 : ((-1 : Int32) < nI 0) = True := by decide
  have m2 : (nI 0 ≤ (-1 : Int32)) = False := by decide
  have k0 : nI 0 + nI 1 = nI 1 := by decide
  have k1 : nI 1 + nI 0 = nI 1 := by decide
  have k2 : nI 0 + nI 0 = nI 0 := by decide
  have k3 : nI 1 + nI 1 = nI 2 := by decide
  rcases a3 with h1 | ⟨u1, hu1, h1⟩ <;> rcases b3 with h2 | ⟨u2, hu2, h2⟩
  all_goals
    apply Exists.intro
    constructor
    · simp (disch := omega) only [x143_0, x143_1, x143_2, x143_5, x143_8, x143_9, x143_10, x143_13, x143_16, x143_18, x143_19, x143_20, x143_23, x143_24, x143_25, x143_28, x143_29, x143_30, x143_31, x143_34, x143_36, x143_37, x143_40, x143_42, x143_45, x143_46, x143_49, x143_50, x143_52, x143_55, x143_56, x143_57, x143_58, x143_59, x143_60, x143_61, x143_62, x143_65, x143_66, x143_69, x143_70, x143_72, x143_75, x143_76, x143_79, x143_80, x143_81, x143_84, nI_add, pk_mul, q_cl31, q_vin, q_le, q_lt, q_eqn, q_b_0, q_b_t, q_b_f, q_nz, q_nz1, q_nz0, q_tl, q_tn, true_and, and_true, not_true_eq_false, not_false_eq_true, ite_true, ite_false, ↓reduceIte, true_or, or_true, and_self, ne_eq, q_or1, q_or2, Nat.add_eq_zero_iff, and_false, false_and, List.length_cons, List.length_nil, reduceCtorEq, q_toI, Nat.zero_add, Nat.le_refl, q_c0, q_c1, q_c2, q_c4, q_c9, q_c12, q_c30, q_c99, q_c100, q_c126, q_c32, q_c359, q_c999, hM.1, hM.2.1, hM.2.2.1, hM.2.2.2.1, hM.2.2.2.2.1, hM.2.2.2.2.2.1, hM.2.2.2.2.2.2, s_isv hM hI, e1, e2, s_keeps hM, ← q_k1.eq_1, t1, t2, h1, h2, m1, m2, k0, k1, k2, k3, s_pair, q_pv, q_pc, or_self, or_false, false_or, q_upD, q_upAA, q_upA_s, q_updn, q_upds, Nat.add_zero, Nat.not_lt_zero, Nat.zero_le]
      exact rfl
    · intro r E' g'
      simp only [x143_0, x143_1, x143_2, x143_5, x143_8, x143_9, x143_10, x143_13, x143_16, x143_18, x143_19, x143_20, x143_23, x143_24, x143_25, x143_28, x143_29, x143_30, x143_31, x143_34, x143_36, x143_37, x143_40, x143_42, x143_45, x143_46, x143_49, x143_50, x143_52, x143_55, x143_56, x143_57, x143_58, x143_59, x143_60, x143_61, x143_62, x143_65, x143_66, x143_69, x143_70, x143_72, x143_75, x143_76, x143_79, x143_80, x143_81, x143_84, nI_add, pk_mul, q_cl31, q_vin, q_le, q_lt, q_eqn, q_b_0, q_b_t, q_b_f, q_nz, q_nz1, q_nz0, q_tl, q_tn, true_and, and_true, not_true_eq_false, not_false_eq_true, ite_true, ite_false, ↓reduceIte, true_or, or_true, and_self, ne_eq, q_or1, q_or2, Nat.add_eq_zero_iff, and_false, false_and, List.length_cons, List.length_nil, reduceCtorEq, q_toI, Nat.zero_add, Nat.le_refl, q_c0, q_c1, q_c2, q_c4, q_c9, q_c12, q_c30, q_c99, q_c100, q_c126, q_c32, q_c359, q_c999]
end
