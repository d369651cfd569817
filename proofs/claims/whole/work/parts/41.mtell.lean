def q_all (f : q_St) (v : Nat) : Int32 := q_ik f (nI v) + f (11 + 8 * v + 3) + q_ow f (q_no f) (nI v)
theorem q_all_N {f : q_St} (hI : q_In f) {v : Nat} (hv : v < q_sz f) : ∃ n : Nat, n ≤ 10119 ∧ q_all f v = nI n := by
  have h12 := hI.1.1
  obtain ⟨c, c1, c2⟩ := q_ik_N hI (nI v)
  obtain ⟨s, s1, s2⟩ := hI.2.2.2.2.2.2.2.2.2.2.2.2.2.1 v (by omega)
  refine ⟨c + s + q_owN f v (q_no f), by omega, ?_⟩
  unfold q_all
  rw [c2, s1, q_ow_N hI, nI_add, nI_add]
def q_dd (f : q_St) : Nat := if q_dy f < 1 then 1 else q_dy f
/-- how long v lasts -/
def a_lasts (f : q_St) (v : Nat) : Int32 := if f (11 + 8 * v + 7) = nI 0 then -1000004 else (q_ldv (q_all f v).toNatClampNeg (q_dd f) (f (11 + 8 * v + 7)).toNatClampNeg).toInt32
theorem q_feqv {n d w : Nat} (hn : n < 2147483648) (hd : 1 ≤ d ∧ d < 2147483648) (hw : 1 ≤ w ∧ w < 2147483648) : FP.fcmp (q_ldv n d w) (q_ldv n d w) = some .eq := by
  rcases (q_fvp hn hd hw).2 with ⟨-, h⟩ | ⟨c, e, h1, h2⟩
  · rw [h]; exact q_feq0
  · rw [h2]; exact q_feq h1
def a_verse (f : q_St) (v j : Nat) : Int32 := if j < 4 then f (11 + 8 * v + j) else if j = 4 then q_ik f (nI v) else if j = 5 then q_ow f (q_no f) (nI v) else f (11 + 8 * v + (j - 2))
theorem q_nei {x : Int32} {m k : Nat} (h : q_ir 0 m x = false) (hk : k ≤ m) (hm : m < 2147483648) : (x = nI k) = False := by
  refine eq_false fun e => ?_
  subst e
  rw [q_ir_nI (by omega)] at h
  simp only [Bool.and_eq_false_iff, decide_eq_false_iff_not] at h
  omega
section
variable {E : q_E} {g : q_G} {Q : Option Value → q_E → q_G → Prop}
theorem s_lasts (hM : q_ModB E) (hI : q_In (g 147)) (hW : ∀ v, v < 12 → ∃ w : Nat, w < 2147483648 ∧ g 147 (11 + 8 * v + 7) = nI w) (x : Int32) : q_X 114 0 [.ref 146, .int x, .null, .null] [] E g Q = Q (some (.int (if q_isv (g 147) x = true then a_lasts (g 147) x.toNatClampNeg else -1000001))) E g := by
  have h12 := hI.1.1
  have hd := hI.2.2.2.1
  cases e1 : q_isv (g 147) x
  · simp (disch := omega) only [x114_0, x114_1, x114_2, x114_5, x114_8, x114_10, x114_11, x114_12, x114_13, x114_15, x114_18, x114_21, x114_23, x114_24, x114_25, x114_26, x114_29, x114_30, x114_31, x114_32, x114_35, x114_36, x114_37, x114_38, x114_41, x114_42, x114_43, x114_44, x114_47, x114_50, x114_51, x114_52, x114_55, x114_56, x114_59, x114_60, x114_63, x114_66, x114_67, x114_68, x114_69, x114_70, x114_71, x114_72, x114_73, x114_74, x114_75, x114_77, x114_80, x114_81, x114_82, x114_85, nI_add, pk_mul, q_cl31, q_vin, q_le, q_lt, q_eqn, q_b_0, q_b_t, q_b_f, q_nz, q_nz1, q_nz0, q_tl, q_tn, true_and, and_true, not_true_eq_false, not_false_eq_true, ite_true, ite_false, ↓reduceIte, true_or, or_true, and_self, ne_eq, q_or1, q_or2, Nat.add_eq_zero_iff, and_false, false_and, List.length_cons, List.length_nil, reduceCtorEq, q_toI, Nat.zero_add, Nat.le_refl, q_c0, q_c1, q_c2, q_c4, q_c9, q_c12, q_c30, q_c99, q_c100, q_c126, q_c32, q_c359, q_c999, hM.1, hM.2.1, hM.2.2.1, hM.2.2.2.1, hM.2.2.2.2.1, hM.2.2.2.2.2.1, hM.2.2.2.2.2.2, s_isv hM hI, e1, Bool.false_eq_true]
  obtain ⟨v, v1, rfl, v4⟩ := q_isv_lo hI e1
  obtain ⟨n, n1, n2⟩ := q_all_N hI v1
  obtain ⟨w, w1, w2⟩ := hW v (by omega)
  have n3 : q_ik (g 147) (nI v) + g 147 (11 + 8 * v + 3) + q_ow (g 147) (q_no (g 147)) (nI v) = nI n := n2
  by_cases w0 : w = 0
  · subst w0
    simp (disch := omega) only [x114_0, x114_1, x114_2, x114_5, x114_8, x114_10, x114_11, x114_12, x114_13, x114_15, x114_18, x114_21, x114_23, x114_24, x114_25, x114_26, x114_29, x114_30, x114_31, x114_32, x114_35, x114_36, x114_37, x114_38, x114_41, x114_42, x114_43, x114_44, x114_47, x114_50, x114_51, x114_52, x114_55, x114_56, x114_59, x114_60, x114_63, x114_66, x114_67, x114_68, x114_69, x114_70, x114_71, x114_72, x114_73, x114_74, x114_75, x114_77, x114_80, x114_81, x114_82, x114_85, nI_add, pk_mul, q_cl31, q_vin, q_le, q_lt, q_eqn, q_b_0, q_b_t, q_b_f, q_nz, q_nz1, q_nz0, q_tl, q_tn, true_and, and_true, not_true_eq_false, not_false_eq_true, ite_true, ite_false, ↓reduceIte, true_or, or_true, and_self, ne_eq, q_or1, q_or2, Nat.add_eq_zero_iff, and_false, false_and, List.length_cons, List.length_nil, reduceCtorEq, q_toI, Nat.zero_add, Nat.le_refl, q_c0, q_c1, q_c2, q_c4, q_c9, q_c12, q_c30, q_c99, q_c100, q_c126, q_c32, q_c359, q_c999, hM.1, hM.2.1, hM.2.2.1, hM.2.2.2.1, hM.2.2.2.2.1, hM.2.2.2.2.2.1, hM.2.2.2.2.2.2, s_isv hM hI, e1, v4, s_of hM, w2, a_lasts]
  · have hd1 : 1 ≤ q_dd (g 147) ∧ q_dd (g 147) < 2147483648 := by unfold q_dd; split <;> omega
    obtain ⟨⟨f1, f2⟩, -⟩ := q_fvp (n := n) (d := q_dd (g 147)) (w := w) (by omega) hd1 (by omega)
    have f3 := q_feqv (n := n) (d := q_dd (g 147)) (w := w) (by omega) hd1 (by omega)
    unfold q_ldv at f2 f3
    unfold q_dd at f1 f2 f3
    by_cases d0 : q_dy (g 147) < 1
    · rw [if_pos d0] at f1 f2 f3
      simp (disch := omega) only [x114_0, x114_1, x114_2, x114_5, x114_8, x114_10, x114_11, x114_12, x114_13, x114_15, x114_18, x114_21, x114_23, x114_24, x114_25, x114_26, x114_29, x114_30, x114_31, x114_32, x114_35, x114_36, x114_37, x114_38, x114_41, x114_42, x114_43, x114_44, x114_47, x114_50, x114_51, x114_52, x114_55, x114_56, x114_59, x114_60, x114_63, x114_66, x114_67, x114_68, x114_69, x114_70, x114_71, x114_72, x114_73, x114_74, x114_75, x114_77, x114_80, x114_81, x114_82, x114_85, nI_add, pk_mul, q_cl31, q_vin, q_le, q_lt, q_eqn, q_b_0, q_b_t, q_b_f, q_nz, q_nz1, q_nz0, q_tl, q_tn, true_and, and_true, not_true_eq_false, not_false_eq_true, ite_true, ite_false, ↓reduceIte, true_or, or_true, and_self, ne_eq, q_or1, q_or2, Nat.add_eq_zero_iff, and_false, false_and, List.length_cons, List.length_nil, reduceCtorEq, q_toI, Nat.zero_add, Nat.le_refl, q_c0, q_c1, q_c2, q_c4, q_c9, q_c12, q_c30, q_c99, q_c100, q_c126, q_c32, q_c359, q_c999, hM.1, hM.2.1, hM.2.2.1, hM.2.2.2.1, hM.2.2.2.2.1, hM.2.2.2.2.2.1, hM.2.2.2.2.2.2, s_isv hM hI, e1, v4, s_of hM, w2, w0, s_inRack hM, s_onWay hM hI.2.1.1 hI.2.1.2, n3, hd.2, Nat.not_le, d0, f1, f2, s_f2b f3, a_lasts, n2, q_dd, q_ldv, Nat.not_lt]
      simp only [show ¬ 1 ≤ q_dy (g 147) by omega, f1, f2, ↓reduceIte, true_and]
    · rw [if_neg d0] at f1 f2 f3
      simp (disch := omega) only [x114_0, x114_1, x114_2, x114_5, x114_8, x114_10, x114_11, x114_12, x114_13, x114_15, x114_18, x114_21, x114_23, x114_24, x114_25, x114_26, x114_29, x114_30, x114_31, x114_32, x114_35, x114_36, x114_37, x114_38, x114_41, x114_42, x114_43, x114_44, x114_47, x114_50, x114_51, x114_52, x114_55, x114_56, x114_59, x114_60, x114_63, x114_66, x114_67, x114_68, x114_69, x114_70, x114_71, x114_72, x114_73, x114_74, x114_75, x114_77, x114_80, x114_81, x114_82, x114_85, nI_add, pk_mul, q_cl31, q_vin, q_le, q_lt, q_eqn, q_b_0, q_b_t, q_b_f, q_nz, q_nz1, q_nz0, q_tl, q_tn, true_and, and_true, not_true_eq_false, not_false_eq_true, ite_true, ite_false, ↓reduceIte, true_or, or_true, and_self, ne_eq, q_or1, q_or2, Nat.add_eq_zero_iff, and_false, false_and, List.length_cons, List.length_nil, reduceCtorEq, q_toI, Nat.zero_add, Nat.le_refl, q_c0, q_c1, q_c2, q_c4, q_c9, q_c12, q_c30, q_c99, q_c100, q_c126, q_c32, q_c359, q_c999, hM.1, hM.2.1, hM.2.2.1, hM.2.2.2.1, hM.2.2.2.2.1, hM.2.2.2.2.2.1, hM.2.2.2.2.2.2, s_isv hM hI, e1, v4, s_of hM, w2, w0, s_inRack hM, s_onWay hM hI.2.1.1 hI.2.1.2, n3, hd.2, f1, f2, s_f2b f3, a_lasts, n2, q_dd, q_ldv, d0, show (1 ≤ q_dy (g 147)) = True from eq_true (by omega)]
theorem s_verseOf (hM : q_ModB E) (hI : q_In (g 147)) (x y : Int32) : q_X 123 0 [.ref 146, .int x, .int y] [] E g Q = Q (some (.int (if (q_isv (g 147) x && q_ir 0 9 y) = true then a_verse (g 147) x.toNatClampNeg y.toNatClampNeg else -1000001))) E g := by
  have h12 := hI.1.1
  cases e1 : q_isv (g 147) x
  · simp (disch := omega) only [x123_0, x123_1, x123_2, x123_5, x123_8, x123_10, x123_11, x123_12, x123_68, x123_69, x123_70, x123_71, x123_74, x123_75, x123_76, x123_77, x123_80, x123_81, x123_82, x123_83, x123_86, x123_87, x123_88, x123_89, x123_90, x123_91, x123_92, x123_95, x123_96, x123_98, nI_add, pk_mul, q_cl31, q_vin, q_le, q_lt, q_eqn, q_b_0, q_b_t, q_b_f, q_nz, q_nz1, q_nz0, q_tl, q_tn, true_and, and_true, not_true_eq_false, not_false_eq_true, ite_true, ite_false, ↓reduceIte, true_or, or_true, and_self, ne_eq, q_or1, q_or2, Nat.add_eq_zero_iff, and_false, false_and, List.length_cons, List.length_nil, reduceCtorEq, q_toI, Nat.zero_add, Nat.le_refl, q_c0, q_c1, q_c2, q_c4, q_c9, q_c12, q_c30, q_c99, q_c100, q_c126, q_c32, q_c359, q_c999, hM.1, hM.2.1, hM.2.2.1, hM.2.2.2.1, hM.2.2.2.2.1, hM.2.2.2.2.2.1, hM.2.2.2.2.2.2, s_isv hM hI, e1, Bool.false_eq_true, Bool.false_and]
  obtain ⟨v, v1, rfl, v4⟩ := q_isv_lo hI e1
  simp (disch := omega) only [x123_0, x123_1, x123_2, x123_5, x123_8, x123_10, x123_11, nI_add, pk_mul, q_cl31, q_vin, q_le, q_lt, q_eqn, q_b_0, q_b_t, q_b_f, q_nz, q_nz1, q_nz0, q_tl, q_tn, true_and, and_true, not_true_eq_false, not_false_eq_true, ite_true, ite_false, ↓reduceIte, true_or, or_true, and_self, ne_eq, q_or1, q_or2, Nat.add_eq_zero_iff, and_false, false_and, List.length_cons, List.length_nil, reduceCtorEq, q_toI, Nat.zero_add, Nat.le_refl, q_c0, q_c1, q_c2, q_c4, q_c9, q_c12, q_c30, q_c99, q_c100, q_c126, q_c32, q_c359, q_c999, hM.1, hM.2.1, hM.2.2.1, hM.2.2.2.1, hM.2.2.2.2.1, hM.2.2.2.2.2.1, hM.2.2.2.2.2.2, s_isv hM hI, e1, v4]
  cases e2 : q_ir 0 9 y
  · have n := fun k hk => q_nei (m := 9) (k := k) e2 hk (by omega)
    simp (disch := omega) only [x123_0, x123_1, x123_2, x123_5, x123_8, x123_10, x123_11, x123_12, x123_68, x123_69, x123_70, x123_71, x123_74, x123_75, x123_76, x123_77, x123_80, x123_81, x123_82, x123_83, x123_86, x123_87, x123_88, x123_89, x123_90, x123_91, x123_92, x123_95, x123_96, x123_98, nI_add, pk_mul, q_cl31, q_vin, q_le, q_lt, q_eqn, q_b_0, q_b_t, q_b_f, q_nz, q_nz1, q_nz0, q_tl, q_tn, true_and, and_true, not_true_eq_false, not_false_eq_true, ite_true, ite_false, ↓reduceIte, true_or, or_true, and_self, ne_eq, q_or1, q_or2, Nat.add_eq_zero_iff, and_false, false_and, List.length_cons, List.length_nil, reduceCtorEq, q_toI, Nat.zero_add, Nat.le_refl, q_c0, q_c1, q_c2, q_c4, q_c9, q_c12, q_c30, q_c99, q_c100, q_c126, q_c32, q_c359, q_c999, n 0 (by omega), n 1 (by omega), n 2 (by omega), n 3 (by omega), n 4 (by omega), n 5 (by omega), n 6 (by omega), n 7 (by omega), n 8 (by omega), n 9 (by omega), Bool.and_false, Bool.false_eq_true]
  obtain ⟨j, -, j1, rfl, j4⟩ := q_lo (lo := 0) (n := 9) e2 (by omega)
  rw [j4]
  rcases (by omega : j = 0 ∨ j = 1 ∨ j = 2 ∨ j = 3 ∨ j = 4 ∨ j = 5 ∨ j = 6 ∨ j = 7 ∨ j = 8 ∨ j = 9) with rfl | rfl | rfl | rfl | rfl | rfl | rfl | rfl | rfl | rfl
  all_goals
    simp (disch := omega) only [x123_0, x123_1, x123_2, x123_5, x123_8, x123_10, x123_11, x123_12, x123_68, x123_69, x123_70, x123_71, x123_74, x123_75, x123_76, x123_77, x123_80, x123_81, x123_82, x123_83, x123_86, x123_87, x123_88, x123_89, x123_90, x123_91, x123_92, x123_95, x123_96, x123_98, nI_add, pk_mul, q_cl31, q_vin, q_le, q_lt, q_eqn, q_b_0, q_b_t, q_b_f, q_nz, q_nz1, q_nz0, q_tl, q_tn, true_and, and_true, not_true_eq_false, not_false_eq_true, ite_true, ite_false, ↓reduceIte, true_or, or_true, and_self, ne_eq, q_or1, q_or2, Nat.add_eq_zero_iff, and_false, false_and, List.length_cons, List.length_nil, reduceCtorEq, q_toI, Nat.zero_add, Nat.le_refl, q_c0, q_c1, q_c2, q_c4, q_c9, q_c12, q_c30, q_c99, q_c100, q_c126, q_c32, q_c359, q_c999, hM.1, hM.2.1, hM.2.2.1, hM.2.2.2.1, hM.2.2.2.2.1, hM.2.2.2.2.2.1, hM.2.2.2.2.2.2, s_of hM, s_inRack hM, s_onWay hM hI.2.1.1 hI.2.1.2, pk_sub, a_verse, Bool.and_self, Nat.reduceEqDiff, Nat.reduceLT, Nat.reduceSub, Nat.lt_irrefl]
end
