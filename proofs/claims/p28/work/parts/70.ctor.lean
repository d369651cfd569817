/-! the objects are made -/
def q_tK (K : Nat → Nat × Nat) (m : Nat) (t : Nat × Nat) : Nat → Nat × Nat := fun b => if b = m then t else K b
def q_tZ (R : Nat → Nat → Nat) (m : Nat) : Nat → Nat → Nat := fun b j => if b = m then 0 else R b j
def q_tR (R : Nat → Nat → Nat) (a k v : Nat) : Nat → Nat → Nat := fun b j => if b = a ∧ j = k then v else R b j
section
variable {m s t n a k v b j : Nat} {K : Nat → Nat × Nat} {R : Nat → Nat → Nat}
theorem e_new : q_new (m, s, K, R) t n = (m + 1, s + n, q_tK K m (t, n), q_tZ R m) := rfl
theorem e_set : q_setR (m, s, K, R) a k v = (m, s, K, q_tR R a k v) := rfl
theorem e_kd : q_kd (m, s, K, R) a = K a := rfl
theorem e_rf : q_rf (m, s, K, R) a j = R a j := rfl
theorem tK_n {t : Nat × Nat} (h : ¬ b = m) : q_tK K m t b = K b := if_neg h
theorem tK_e {t : Nat × Nat} (h : b = m) : q_tK K m t b = t := if_pos h
theorem tZ_n (h : ¬ b = m) : q_tZ R m b j = R b j := if_neg h
theorem tR_n (h : ¬ b = a) : q_tR R a k v b j = R b j := if_neg fun q => h q.1
theorem tR_m (h : ¬ j = k) : q_tR R a k v b j = R b j := if_neg fun q => h q.2
theorem tR_e (h : b = a) (h2 : j = k) : q_tR R a k v b j = v := if_pos ⟨h, h2⟩
end
/-- below c nothing changed -/
def q_Bel (c : Nat) (K K' : Nat → Nat × Nat) (R R' : Nat → Nat → Nat) (g g' : q_G) : Prop := ∀ a, a < c → K' a = K a ∧ (∀ j, R' a j = R a j) ∧ g' a = g a
theorem q_Bel_t {c : Nat} {K K' K'' : Nat → Nat × Nat} {R R' R'' : Nat → Nat → Nat} {g g' g'' : q_G} (h : q_Bel c K K' R R' g g') (h2 : q_Bel c K' K'' R' R'' g' g'') : q_Bel c K K'' R R'' g g'' := fun a ha => ⟨(h2 a ha).1.trans (h a ha).1, fun j => ((h2 a ha).2.1 j).trans ((h a ha).2.1 j), (h2 a ha).2.2.trans (h a ha).2.2⟩
theorem q_Bel_l {c d : Nat} {K K' : Nat → Nat × Nat} {R R' : Nat → Nat → Nat} {g g' : q_G} (h : q_Bel d K K' R R' g g') (hc : c ≤ d) : q_Bel c K K' R R' g g' := fun a ha => h a (by omega)
/-- a new object at c -/
theorem q_Bel_n {c : Nat} (K : Nat → Nat × Nat) (R : Nat → Nat → Nat) (g : q_G) (t : Nat × Nat) : q_Bel c K (q_tK K c t) R (q_tZ R c) g (q_upA g c (fun _ => nI 0)) := fun a ha => ⟨tK_n (by omega), fun j => tZ_n (by omega), q_upA_n _ _ (by omega)⟩
theorem q_Bel_r {c : Nat} (K : Nat → Nat × Nat) (R : Nat → Nat → Nat) (g : q_G) {a k v : Nat} (h : c ≤ a) : q_Bel c K K R (q_tR R a k v) g g := fun b hb => ⟨rfl, fun j => tR_n (by omega), rfl⟩
theorem q_Bel_i {c : Nat} (K : Nat → Nat × Nat) (R : Nat → Nat → Nat) (g : q_G) {a k : Nat} {v : Int32} (h : c ≤ a) : q_Bel c K K R R g (q_up g a k v) := fun b hb => ⟨rfl, fun j => rfl, q_upf (by omega)⟩
section
variable {s c : Nat} {K : Nat → Nat × Nat} {R : Nat → Nat → Nat} {g : q_G}
theorem c_iCal (hk : K c = (4, 3)) : ∃ K' R' g', (∀ Q : Option Value → q_E → q_G → Prop, q_X 20 0 [.ref c, .null] [] (c + 1, s, K, R) g Q = Q none (c + 3, s + 10, K', R') g') ∧ q_Bel c K K' R R' g g' ∧ q_CalB (0, 0, K', R') c ∧ g' c 0 = nI 0 ∧ (∀ o, o < 5 → g' (c + 1) o = nI 0) ∧ ∀ o, o < 5 → g' (c + 2) o = nI 359 := by
  apply Exists.intro
  apply Exists.intro
  apply Exists.intro
  refine ⟨fun Q => ?_, fun a ha => ⟨?_, fun j => ?_, ?_⟩, ⟨?_, ?_, ?_, ?_, ?_⟩, ?_, fun o ho => ?_, fun o ho => ?_⟩
  · conv => lhs; simp (disch := omega) only [x20_0, x20_1, x20_4, x20_5, x20_6, x20_9, x20_10, x20_11, x20_13, x20_16, x20_17, x20_18, x20_20, x20_23, x20_24, x20_25, x20_26, x20_27, x20_30, x20_31, x20_34, x20_35, x20_38, x20_39, x20_42, x20_45, nI_add, pk_mul, q_cl31, q_vin, q_le, q_lt, q_eqn, q_b_0, q_b_t, q_b_f, q_nz, q_nz1, q_nz0, q_tl, q_tn, true_and, and_true, not_true_eq_false, not_false_eq_true, ite_true, ite_false, ↓reduceIte, true_or, or_true, and_self, ne_eq, q_or1, q_or2, Nat.add_eq_zero_iff, and_false, false_and, List.length_cons, List.length_nil, reduceCtorEq, q_toI, Nat.zero_add, Nat.le_refl, q_c0, q_c1, q_c2, q_c4, q_c9, q_c12, q_c30, q_c99, q_c100, q_c126, q_c32, q_c359, q_c999, e_new, e_set, e_kd, e_rf, tK_n, tK_e, tZ_n, tR_n, tR_m, tR_e, hk, Nat.reduceLeDiff, Nat.reduceAdd, Nat.reduceEqDiff]
    try exact rfl
  · simp (disch := omega) only [tK_n]
  · simp (disch := omega) only [tZ_n, tR_n]
  · simp (disch := omega) only [q_upf, q_upA_n]
  · simp (disch := omega) only [e_kd, tK_n, hk]
  · simp (disch := omega) only [e_rf, tZ_n, tR_n, tR_m, tR_e]
  · simp (disch := omega) only [e_rf, tZ_n, tR_n, tR_m, tR_e]
  · simp (disch := omega) only [e_kd, tK_n, tK_e]
  · simp (disch := omega) only [e_kd, tK_n, tK_e]
  · simp (disch := omega) only [q_upn, q_upe, q_upA_n]
  · simp (disch := omega) only [q_upn, q_upA_n, q_upA_s]
  · rcases (by omega : o = 0 ∨ o = 1 ∨ o = 2 ∨ o = 3 ∨ o = 4) with rfl | rfl | rfl | rfl | rfl <;> simp (disch := omega) only [q_upm, q_upe]
theorem c_iVer (hk : K c = (11, 9)) : ∃ K' R' g', (∀ Q : Option Value → q_E → q_G → Prop, q_X 36 0 [.ref c] [] (c + 1, s, K, R) g Q = Q none (c + 9, s + 96, K', R') g') ∧ q_Bel c K K' R R' g g' ∧ q_VerB (0, 0, K', R') c ∧ g' c 0 = nI 0 ∧ ∀ w, w < 8 → ∀ o, g' (c + 1 + w) o = nI 0 := by
  apply Exists.intro
  apply Exists.intro
  apply Exists.intro
  refine ⟨fun Q => ?_, fun a ha => ⟨?_, fun j => ?_, ?_⟩, ⟨?_, ⟨?_, ?_, ?_, ?_, ?_, ?_, ?_, ?_⟩, ?_, ?_, ?_, ?_, ?_, ?_, ?_, ?_⟩, ?_, fun w hw o => ?_⟩
  · conv => lhs; simp (disch := omega) only [x36_0, x36_1, x36_4, x36_5, x36_6, x36_9, x36_10, x36_12, x36_14, x36_17, x36_18, x36_20, x36_22, x36_25, x36_26, x36_28, x36_30, x36_33, x36_34, x36_36, x36_38, x36_41, x36_42, x36_44, x36_46, x36_49, x36_50, x36_52, x36_54, x36_57, x36_58, x36_60, x36_62, x36_65, x36_66, x36_68, x36_70, x36_73, nI_add, pk_mul, q_cl31, q_vin, q_le, q_lt, q_eqn, q_b_0, q_b_t, q_b_f, q_nz, q_nz1, q_nz0, q_tl, q_tn, true_and, and_true, not_true_eq_false, not_false_eq_true, ite_true, ite_false, ↓reduceIte, true_or, or_true, and_self, ne_eq, q_or1, q_or2, Nat.add_eq_zero_iff, and_false, false_and, List.length_cons, List.length_nil, reduceCtorEq, q_toI, Nat.zero_add, Nat.le_refl, q_c0, q_c1, q_c2, q_c4, q_c9, q_c12, q_c30, q_c99, q_c100, q_c126, q_c32, q_c359, q_c999, e_new, e_set, e_kd, e_rf, tK_n, tK_e, tZ_n, tR_n, tR_m, tR_e, hk, Nat.reduceLeDiff, Nat.reduceAdd, Nat.reduceEqDiff]
    try exact rfl
  · simp (disch := omega) only [tK_n]
  · simp (disch := omega) only [tZ_n, tR_n]
  · simp (disch := omega) only [q_upf, q_upA_n]
  · simp (disch := omega) only [e_kd, tK_n, hk]
  · simp (disch := omega) only [e_rf, tZ_n, tR_n, tR_m, tR_e]
  · simp (disch := omega) only [e_rf, tZ_n, tR_n, tR_m, tR_e]
  · simp (disch := omega) only [e_rf, tZ_n, tR_n, tR_m, tR_e]
  · simp (disch := omega) only [e_rf, tZ_n, tR_n, tR_m, tR_e]
  · simp (disch := omega) only [e_rf, tZ_n, tR_n, tR_m, tR_e]
  · simp (disch := omega) only [e_rf, tZ_n, tR_n, tR_m, tR_e]
  · simp (disch := omega) only [e_rf, tZ_n, tR_n, tR_m, tR_e]
  · simp (disch := omega) only [e_rf, tZ_n, tR_n, tR_m, tR_e]
  · simp (disch := omega) only [e_kd, tK_n, tK_e]
  · simp (disch := omega) only [e_kd, tK_n, tK_e]
  · simp (disch := omega) only [e_kd, tK_n, tK_e]
  · simp (disch := omega) only [e_kd, tK_n, tK_e]
  · simp (disch := omega) only [e_kd, tK_n, tK_e]
  · simp (disch := omega) only [e_kd, tK_n, tK_e]
  · simp (disch := omega) only [e_kd, tK_n, tK_e]
  · simp (disch := omega) only [e_kd, tK_n, tK_e]
  · simp (disch := omega) only [q_upn, q_upe, q_upA_n]
  · rcases (by omega : w = 0 ∨ w = 1 ∨ w = 2 ∨ w = 3 ∨ w = 4 ∨ w = 5 ∨ w = 6 ∨ w = 7) with rfl | rfl | rfl | rfl | rfl | rfl | rfl | rfl <;> simp (disch := omega) only [q_upn, q_upA_n, q_upA_s, Nat.add_zero, Nat.add_assoc, Nat.reduceAdd]
theorem c_iPai (hk : K c = (6, 1)) : ∃ K' R' g', (∀ Q : Option Value → q_E → q_G → Prop, q_X 25 0 [.ref c] [] (c + 1, s, K, R) g Q = Q none (c + 2, s + 144, K', R') g') ∧ q_Bel c K K' R R' g g' ∧ q_PaiB (0, 0, K', R') c ∧ ∀ o, g' (c + 1) o = nI 0 := by
  apply Exists.intro
  apply Exists.intro
  apply Exists.intro
  refine ⟨fun Q => ?_, fun a ha => ⟨?_, fun j => ?_, ?_⟩, ⟨?_, ?_, ?_⟩, fun o => ?_⟩
  · conv => lhs; simp (disch := omega) only [x25_0, x25_1, x25_4, x25_5, x25_8, x25_10, x25_13, nI_add, pk_mul, q_cl31, q_vin, q_le, q_lt, q_eqn, q_b_0, q_b_t, q_b_f, q_nz, q_nz1, q_nz0, q_tl, q_tn, true_and, and_true, not_true_eq_false, not_false_eq_true, ite_true, ite_false, ↓reduceIte, true_or, or_true, and_self, ne_eq, q_or1, q_or2, Nat.add_eq_zero_iff, and_false, false_and, List.length_cons, List.length_nil, reduceCtorEq, q_toI, Nat.zero_add, Nat.le_refl, q_c0, q_c1, q_c2, q_c4, q_c9, q_c12, q_c30, q_c99, q_c100, q_c126, q_c32, q_c359, q_c999, e_new, e_set, e_kd, e_rf, tK_n, tK_e, tZ_n, tR_n, tR_m, tR_e, hk, Nat.reduceLeDiff, Nat.reduceAdd, Nat.reduceEqDiff]
    try exact rfl
  · simp (disch := omega) only [tK_n]
  · simp (disch := omega) only [tZ_n, tR_n]
  · simp (disch := omega) only [q_upf, q_upA_n]
  · simp (disch := omega) only [e_kd, tK_n, hk]
  · simp (disch := omega) only [e_rf, tZ_n, tR_n, tR_m, tR_e]
  · simp (disch := omega) only [e_kd, tK_n, tK_e]
  · simp (disch := omega) only [q_upn, q_upA_n, q_upA_s]
theorem c_iRac (hk : K c = (7, 3)) : ∃ K' R' g', (∀ Q : Option Value → q_E → q_G → Prop, q_X 28 0 [.ref c, .null] [] (c + 1, s, K, R) g Q = Q none (c + 4, s + 30, K', R') g') ∧ q_Bel c K K' R R' g g' ∧ q_RacB (0, 0, K', R') c ∧ (∀ o, o < 10 → g' (c + 1) o = -1) ∧ (∀ o, g' (c + 2) o = nI 0) ∧ ∀ o, g' (c + 3) o = nI 0 := by
  apply Exists.intro
  apply Exists.intro
  apply Exists.intro
  refine ⟨fun Q => ?_, fun a ha => ⟨?_, fun j => ?_, ?_⟩, ⟨?_, ?_, ?_, ?_, ?_, ?_, ?_⟩, fun o ho => ?_, fun o => ?_, fun o => ?_⟩
  · conv => lhs; simp (disch := omega) only [x28_0, x28_1, x28_4, x28_5, x28_7, x28_9, x28_12, x28_13, x28_15, x28_17, x28_20, x28_21, x28_23, x28_25, x28_28, x28_29, x28_30, x28_31, x28_33, x28_36, x28_37, x28_40, x28_41, x28_42, x28_43, x28_46, x28_49, nI_add, pk_mul, q_cl31, q_vin, q_le, q_lt, q_eqn, q_b_0, q_b_t, q_b_f, q_nz, q_nz1, q_nz0, q_tl, q_tn, true_and, and_true, not_true_eq_false, not_false_eq_true, ite_true, ite_false, ↓reduceIte, true_or, or_true, and_self, ne_eq, q_or1, q_or2, Nat.add_eq_zero_iff, and_false, false_and, List.length_cons, List.length_nil, reduceCtorEq, q_toI, Nat.zero_add, Nat.le_refl, q_c0, q_c1, q_c2, q_c4, q_c9, q_c12, q_c30, q_c99, q_c100, q_c126, q_c32, q_c359, q_c999, e_new, e_set, e_kd, e_rf, tK_n, tK_e, tZ_n, tR_n, tR_m, tR_e, hk, Nat.reduceLeDiff, Nat.reduceAdd, Nat.reduceEqDiff]
    try exact rfl
  · simp (disch := omega) only [tK_n]
  · simp (disch := omega) only [tZ_n, tR_n]
  · simp (disch := omega) only [q_upf, q_upA_n]
  · simp (disch := omega) only [e_kd, tK_n, hk]
  · simp (disch := omega) only [e_rf, tZ_n, tR_n, tR_m, tR_e]
  · simp (disch := omega) only [e_rf, tZ_n, tR_n, tR_m, tR_e]
  · simp (disch := omega) only [e_rf, tZ_n, tR_n, tR_m, tR_e]
  · simp (disch := omega) only [e_kd, tK_n, tK_e]
  · simp (disch := omega) only [e_kd, tK_n, tK_e]
  · simp (disch := omega) only [e_kd, tK_n, tK_e]
  · rcases (by omega : o = 0 ∨ o = 1 ∨ o = 2 ∨ o = 3 ∨ o = 4 ∨ o = 5 ∨ o = 6 ∨ o = 7 ∨ o = 8 ∨ o = 9) with rfl | rfl | rfl | rfl | rfl | rfl | rfl | rfl | rfl | rfl <;> simp (disch := omega) only [q_upm, q_upe]
  · simp (disch := omega) only [q_upn, q_upA_n, q_upA_s]
  · simp (disch := omega) only [q_upn, q_upA_n, q_upA_s]
theorem c_iDel (hk : K c = (5, 4)) : ∃ K' R' g', (∀ Q : Option Value → q_E → q_G → Prop, q_X 23 0 [.ref c] [] (c + 1, s, K, R) g Q = Q none (c + 4, s + 24, K', R') g') ∧ q_Bel c K K' R R' g g' ∧ q_DelB (0, 0, K', R') c ∧ g' c 0 = nI 0 := by
  apply Exists.intro
  apply Exists.intro
  apply Exists.intro
  refine ⟨fun Q => ?_, fun a ha => ⟨?_, fun j => ?_, ?_⟩, ⟨?_, ?_, ?_, ?_, ?_, ?_, ?_⟩, ?_⟩
  · conv => lhs; simp (disch := omega) only [x23_0, x23_1, x23_4, x23_5, x23_6, x23_9, x23_10, x23_12, x23_14, x23_17, x23_18, x23_20, x23_22, x23_25, x23_26, x23_28, x23_30, x23_33, nI_add, pk_mul, q_cl31, q_vin, q_le, q_lt, q_eqn, q_b_0, q_b_t, q_b_f, q_nz, q_nz1, q_nz0, q_tl, q_tn, true_and, and_true, not_true_eq_false, not_false_eq_true, ite_true, ite_false, ↓reduceIte, true_or, or_true, and_self, ne_eq, q_or1, q_or2, Nat.add_eq_zero_iff, and_false, false_and, List.length_cons, List.length_nil, reduceCtorEq, q_toI, Nat.zero_add, Nat.le_refl, q_c0, q_c1, q_c2, q_c4, q_c9, q_c12, q_c30, q_c99, q_c100, q_c126, q_c32, q_c359, q_c999, e_new, e_set, e_kd, e_rf, tK_n, tK_e, tZ_n, tR_n, tR_m, tR_e, hk, Nat.reduceLeDiff, Nat.reduceAdd, Nat.reduceEqDiff]
    try exact rfl
  · simp (disch := omega) only [tK_n]
  · simp (disch := omega) only [tZ_n, tR_n]
  · simp (disch := omega) only [q_upf, q_upA_n]
  · simp (disch := omega) only [e_kd, tK_n, hk]
  · simp (disch := omega) only [e_rf, tZ_n, tR_n, tR_m, tR_e]
  · simp (disch := omega) only [e_rf, tZ_n, tR_n, tR_m, tR_e]
  · simp (disch := omega) only [e_rf, tZ_n, tR_n, tR_m, tR_e]
  · simp (disch := omega) only [e_kd, tK_n, tK_e]
  · simp (disch := omega) only [e_kd, tK_n, tK_e]
  · simp (disch := omega) only [e_kd, tK_n, tK_e]
  · simp (disch := omega) only [q_upn, q_upe, q_upA_n]
end
