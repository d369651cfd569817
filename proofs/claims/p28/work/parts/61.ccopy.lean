/-! copies of a State -/
def q_cpr (g : q_G) (a b n : Nat) : q_G := q_upA g b (fun i => if i < n then g a i else g b i)
theorem q_cpr_n {g : q_G} {a b n c : Nat} (h : ¬ c = b) : q_cpr g a b n c = g c := q_upA_n _ _ h
theorem q_cpr_s {g : q_G} {a b n i : Nat} (h : i < n) : q_cpr g a b n b i = g a i := by
  unfold q_cpr
  rw [q_upA_s, if_pos h]
section
variable {E : q_E}
theorem c_copyRow {g : q_G} {Q : Option Value → q_E → q_G → Prop} {a b n : Nat} (ha : q_kd E a = (2, n)) (hb : q_kd E b = (2, n)) (hn : n < 1000) : q_X 37 0 [.ref a, .ref b] [] E g Q = Q none E (q_cpr g a b n) := by
  have z : (nI 0 < (0 : Int32)) = False := by decide
  have zn : (nI n < (0 : Int32)) = False := eq_false (nI_pos (by omega))
  simp (disch := omega) only [x37_0, x37_1, x37_2, x37_3, x37_4, x37_5, x37_6, x37_7, x37_8, x37_11, x37_14, nI_add, pk_mul, q_cl31, q_vin, q_le, q_lt, q_eqn, q_b_0, q_b_t, q_b_f, q_nz, q_nz1, q_nz0, q_tl, q_tn, true_and, and_true, not_true_eq_false, not_false_eq_true, ite_true, ite_false, ↓reduceIte, true_or, or_true, and_self, ne_eq, q_or1, q_or2, Nat.add_eq_zero_iff, and_false, false_and, List.length_cons, List.length_nil, reduceCtorEq, q_toI, Nat.zero_add, Nat.le_refl, q_c0, q_c1, q_c2, q_c4, q_c9, q_c12, q_c30, q_c99, q_c100, q_c126, q_c32, q_c359, q_c999, ha, hb, s_min, Nat.lt_irrefl, z, zn]
  have e : va_cpy (g a) (g b) 0 0 n = fun i => if i < n then g a i else g b i := by
    funext i
    unfold va_cpy
    by_cases h : i < n
    · rw [if_pos ⟨Nat.zero_le _, by omega⟩, if_pos h]; congr 1; omega
    · rw [if_neg (fun q => h (by omega)), if_neg h]
  unfold q_cpr
  rw [e]
theorem c_cpCal {g : q_G} {t c : Nat} (hT : q_CalB E t) (hC : q_CalB E c) (hd : c + 3 ≤ t ∨ t + 3 ≤ c) : ∃ g' : q_G, (∀ Q : Option Value → q_E → q_G → Prop, q_X 43 0 [.ref t, .ref c] [] E g Q = Q none E g') ∧ (∀ b, b < t ∨ t + 3 ≤ b → g' b = g b) ∧ ∀ o j, (o = 0 ∧ j = 0) ∨ (o = 1 ∧ j < 5) ∨ (o = 2 ∧ j < 5) → g' (t + o) j = g (c + o) j := by
  obtain ⟨t0, t1, t2, t3, t4⟩ := id hT
  obtain ⟨c0, c1, c2, c3, c4⟩ := id hC
  apply Exists.intro
  refine ⟨fun Q => ?_, fun b hb => ?_, fun o j h => ?_⟩
  · conv => lhs; simp (disch := omega) only [x43_0, x43_1, x43_2, x43_5, x43_8, x43_9, x43_12, x43_13, x43_16, x43_19, x43_20, x43_23, x43_24, x43_27, x43_30, nI_add, pk_mul, q_cl31, q_vin, q_le, q_lt, q_eqn, q_b_0, q_b_t, q_b_f, q_nz, q_nz1, q_nz0, q_tl, q_tn, true_and, and_true, not_true_eq_false, not_false_eq_true, ite_true, ite_false, ↓reduceIte, true_or, or_true, and_self, ne_eq, q_or1, q_or2, Nat.add_eq_zero_iff, and_false, false_and, List.length_cons, List.length_nil, reduceCtorEq, q_toI, Nat.zero_add, Nat.le_refl, q_c0, q_c1, q_c2, q_c4, q_c9, q_c12, q_c30, q_c99, q_c100, q_c126, q_c32, q_c359, q_c999, t0, c0, t1, t2, c1, c2, c_copyRow c3 t3 (by omega), c_copyRow c4 t4 (by omega)]
    try exact rfl
  · simp (disch := omega) only [q_cpr_n, q_upf]
  · rcases h with ⟨rfl, rfl⟩ | ⟨rfl, h⟩ | ⟨rfl, h⟩
    all_goals simp (disch := omega) only [q_cpr_n, q_cpr_s, q_upn, q_upe, q_upf, Nat.add_zero]
theorem c_cpVer {g : q_G} {t c : Nat} (hT : q_VerB E t) (hC : q_VerB E c) (hd : c + 9 ≤ t ∨ t + 9 ≤ c) : ∃ g' : q_G, (∀ Q : Option Value → q_E → q_G → Prop, q_X 59 0 [.ref t, .ref c] [] E g Q = Q none E g') ∧ (∀ b, b < t ∨ t + 9 ≤ b → g' b = g b) ∧ ∀ o j, (o = 0 ∧ j = 0) ∨ (o = 1 ∧ j < 12) ∨ (o = 2 ∧ j < 12) ∨ (o = 3 ∧ j < 12) ∨ (o = 4 ∧ j < 12) ∨ (o = 5 ∧ j < 12) ∨ (o = 6 ∧ j < 12) ∨ (o = 7 ∧ j < 12) ∨ (o = 8 ∧ j < 12) → g' (t + o) j = g (c + o) j := by
  obtain ⟨t0, ⟨t1, t2, t3, t4, t5, t6, t7, t8⟩, s1, s2, s3, s4, s5, s6, s7, s8⟩ := id hT
  obtain ⟨c0, ⟨c1, c2, c3, c4, c5, c6, c7, c8⟩, e1, e2, e3, e4, e5, e6, e7, e8⟩ := id hC
  apply Exists.intro
  refine ⟨fun Q => ?_, fun b hb => ?_, fun o j h => ?_⟩
  · conv => lhs; simp (disch := omega) only [x59_0, x59_1, x59_2, x59_5, x59_8, x59_9, x59_12, x59_13, x59_16, x59_19, x59_20, x59_23, x59_24, x59_27, x59_30, x59_31, x59_34, x59_35, x59_38, x59_41, x59_42, x59_45, x59_46, x59_49, x59_52, x59_53, x59_56, x59_57, x59_60, x59_63, x59_64, x59_67, x59_68, x59_71, x59_74, x59_75, x59_78, x59_79, x59_82, x59_85, x59_86, x59_89, x59_90, x59_93, x59_96, nI_add, pk_mul, q_cl31, q_vin, q_le, q_lt, q_eqn, q_b_0, q_b_t, q_b_f, q_nz, q_nz1, q_nz0, q_tl, q_tn, true_and, and_true, not_true_eq_false, not_false_eq_true, ite_true, ite_false, ↓reduceIte, true_or, or_true, and_self, ne_eq, q_or1, q_or2, Nat.add_eq_zero_iff, and_false, false_and, List.length_cons, List.length_nil, reduceCtorEq, q_toI, Nat.zero_add, Nat.le_refl, q_c0, q_c1, q_c2, q_c4, q_c9, q_c12, q_c30, q_c99, q_c100, q_c126, q_c32, q_c359, q_c999, t0, c0, t1, t2, t3, t4, t5, t6, t7, t8, c1, c2, c3, c4, c5, c6, c7, c8, c_copyRow e1 s1 (by omega), c_copyRow e2 s2 (by omega), c_copyRow e3 s3 (by omega), c_copyRow e4 s4 (by omega), c_copyRow e5 s5 (by omega), c_copyRow e6 s6 (by omega), c_copyRow e7 s7 (by omega), c_copyRow e8 s8 (by omega)]
    try exact rfl
  · simp (disch := omega) only [q_cpr_n, q_upf]
  · rcases h with ⟨rfl, rfl⟩ | ⟨rfl, h⟩ | ⟨rfl, h⟩ | ⟨rfl, h⟩ | ⟨rfl, h⟩ | ⟨rfl, h⟩ | ⟨rfl, h⟩ | ⟨rfl, h⟩ | ⟨rfl, h⟩
    all_goals simp (disch := omega) only [q_cpr_n, q_cpr_s, q_upn, q_upe, q_upf, Nat.add_zero]
theorem c_cpPai {g : q_G} {t c : Nat} (hT : q_PaiB E t) (hC : q_PaiB E c) (hd : c + 2 ≤ t ∨ t + 2 ≤ c) : ∃ g' : q_G, (∀ Q : Option Value → q_E → q_G → Prop, q_X 47 0 [.ref t, .ref c] [] E g Q = Q none E g') ∧ (∀ b, b < t ∨ t + 2 ≤ b → g' b = g b) ∧ ∀ o j, (o = 1 ∧ j < 144) → g' (t + o) j = g (c + o) j := by
  obtain ⟨t0, t1, t2⟩ := id hT
  obtain ⟨c0, c1, c2⟩ := id hC
  apply Exists.intro
  refine ⟨fun Q => ?_, fun b hb => ?_, fun o j h => ?_⟩
  · conv => lhs; simp (disch := omega) only [x47_0, x47_1, x47_4, x47_5, x47_8, x47_11, nI_add, pk_mul, q_cl31, q_vin, q_le, q_lt, q_eqn, q_b_0, q_b_t, q_b_f, q_nz, q_nz1, q_nz0, q_tl, q_tn, true_and, and_true, not_true_eq_false, not_false_eq_true, ite_true, ite_false, ↓reduceIte, true_or, or_true, and_self, ne_eq, q_or1, q_or2, Nat.add_eq_zero_iff, and_false, false_and, List.length_cons, List.length_nil, reduceCtorEq, q_toI, Nat.zero_add, Nat.le_refl, q_c0, q_c1, q_c2, q_c4, q_c9, q_c12, q_c30, q_c99, q_c100, q_c126, q_c32, q_c359, q_c999, t0, c0, t1, c1, c_copyRow c2 t2 (by omega)]
    try exact rfl
  · simp (disch := omega) only [q_cpr_n, q_upf]
  · rcases h with ⟨rfl, h⟩
    all_goals simp (disch := omega) only [q_cpr_n, q_cpr_s, q_upn, q_upe, q_upf, Nat.add_zero]
theorem c_cpRac {g : q_G} {t c : Nat} (hT : q_RacB E t) (hC : q_RacB E c) (hd : c + 4 ≤ t ∨ t + 4 ≤ c) : ∃ g' : q_G, (∀ Q : Option Value → q_E → q_G → Prop, q_X 48 0 [.ref t, .ref c] [] E g Q = Q none E g') ∧ (∀ b, b < t ∨ t + 4 ≤ b → g' b = g b) ∧ ∀ o j, (o = 1 ∧ j < 10) ∨ (o = 2 ∧ j < 10) ∨ (o = 3 ∧ j < 10) → g' (t + o) j = g (c + o) j := by
  obtain ⟨t0, t1, t2, t3, t4, t5, t6⟩ := id hT
  obtain ⟨c0, c1, c2, c3, c4, c5, c6⟩ := id hC
  apply Exists.intro
  refine ⟨fun Q => ?_, fun b hb => ?_, fun o j h => ?_⟩
  · conv => lhs; simp (disch := omega) only [x48_0, x48_1, x48_4, x48_5, x48_8, x48_11, x48_12, x48_15, x48_16, x48_19, x48_22, x48_23, x48_26, x48_27, x48_30, x48_33, nI_add, pk_mul, q_cl31, q_vin, q_le, q_lt, q_eqn, q_b_0, q_b_t, q_b_f, q_nz, q_nz1, q_nz0, q_tl, q_tn, true_and, and_true, not_true_eq_false, not_false_eq_true, ite_true, ite_false, ↓reduceIte, true_or, or_true, and_self, ne_eq, q_or1, q_or2, Nat.add_eq_zero_iff, and_false, false_and, List.length_cons, List.length_nil, reduceCtorEq, q_toI, Nat.zero_add, Nat.le_refl, q_c0, q_c1, q_c2, q_c4, q_c9, q_c12, q_c30, q_c99, q_c100, q_c126, q_c32, q_c359, q_c999, t0, c0, t1, t2, t3, c1, c2, c3, c_copyRow c4 t4 (by omega), c_copyRow c5 t5 (by omega), c_copyRow c6 t6 (by omega)]
    try exact rfl
  · simp (disch := omega) only [q_cpr_n, q_upf]
  · rcases h with ⟨rfl, h⟩ | ⟨rfl, h⟩ | ⟨rfl, h⟩
    all_goals simp (disch := omega) only [q_cpr_n, q_cpr_s, q_upn, q_upe, q_upf, Nat.add_zero]
theorem c_cpDel {g : q_G} {t c : Nat} (hT : q_DelB E t) (hC : q_DelB E c) (hd : c + 4 ≤ t ∨ t + 4 ≤ c) : ∃ g' : q_G, (∀ Q : Option Value → q_E → q_G → Prop, q_X 46 0 [.ref t, .ref c] [] E g Q = Q none E g') ∧ (∀ b, b < t ∨ t + 4 ≤ b → g' b = g b) ∧ ∀ o j, (o = 0 ∧ j = 0) ∨ (o = 1 ∧ j < 8) ∨ (o = 2 ∧ j < 8) ∨ (o = 3 ∧ j < 8) → g' (t + o) j = g (c + o) j := by
  obtain ⟨t0, t1, t2, t3, t4, t5, t6⟩ := id hT
  obtain ⟨c0, c1, c2, c3, c4, c5, c6⟩ := id hC
  apply Exists.intro
  refine ⟨fun Q => ?_, fun b hb => ?_, fun o j h => ?_⟩
  · conv => lhs; simp (disch := omega) only [x46_0, x46_1, x46_2, x46_5, x46_8, x46_9, x46_12, x46_13, x46_16, x46_19, x46_20, x46_23, x46_24, x46_27, x46_30, x46_31, x46_34, x46_35, x46_38, x46_41, nI_add, pk_mul, q_cl31, q_vin, q_le, q_lt, q_eqn, q_b_0, q_b_t, q_b_f, q_nz, q_nz1, q_nz0, q_tl, q_tn, true_and, and_true, not_true_eq_false, not_false_eq_true, ite_true, ite_false, ↓reduceIte, true_or, or_true, and_self, ne_eq, q_or1, q_or2, Nat.add_eq_zero_iff, and_false, false_and, List.length_cons, List.length_nil, reduceCtorEq, q_toI, Nat.zero_add, Nat.le_refl, q_c0, q_c1, q_c2, q_c4, q_c9, q_c12, q_c30, q_c99, q_c100, q_c126, q_c32, q_c359, q_c999, t0, c0, t1, t2, t3, c1, c2, c3, c_copyRow c4 t4 (by omega), c_copyRow c5 t5 (by omega), c_copyRow c6 t6 (by omega)]
    try exact rfl
  · simp (disch := omega) only [q_cpr_n, q_upf]
  · rcases h with ⟨rfl, rfl⟩ | ⟨rfl, h⟩ | ⟨rfl, h⟩ | ⟨rfl, h⟩
    all_goals simp (disch := omega) only [q_cpr_n, q_cpr_s, q_upn, q_upe, q_upf, Nat.add_zero]
theorem k_copy {g : q_G} {T N : Nat} (hT : q_StaB E T) (hN : q_StaB E N) (hd : N + 23 ≤ T ∨ T + 23 ≤ N) : ∃ g' : q_G, (∀ Q : Option Value → q_E → q_G → Prop, q_X 65 0 [.ref T, .ref N] [] E g Q = Q none E g') ∧ q_Out T g g' ∧ ∀ f, q_no f ≤ 8 → q_Vsta g N f → q_Vsta g' T f := by
  obtain ⟨t0, ⟨t1, t2, t3, t4, t5⟩, tC, tV, tP, tR, tD⟩ := id hT
  obtain ⟨n0, ⟨n1, n2, n3, n4, n5⟩, nC, nV, nP, nR, nD⟩ := id hN
  obtain ⟨g1, a1, a2, a3⟩ := c_cpCal (g := g) tC nC (by omega)
  obtain ⟨g2, b1, b2, b3⟩ := c_cpVer (g := g1) tV nV (by omega)
  obtain ⟨g3, c1, c2, c3⟩ := c_cpPai (g := g2) tP nP (by omega)
  obtain ⟨g4, d1, d2, d3⟩ := c_cpRac (g := g3) tR nR (by omega)
  obtain ⟨g5, e1, e2, e3⟩ := c_cpDel (g := g4) tD nD (by omega)
  have gN : ∀ j, g5 N j = g N j := fun j => by rw [e2 _ (by omega), d2 _ (by omega), c2 _ (by omega), b2 _ (by omega), a2 _ (by omega)]
  refine ⟨q_up (q_up (q_up (q_up g5 T 5 (g N 5)) T 6 (g N 6)) T 7 (g N 7)) T 8 (g N 8), fun Q => ?_, fun b hb => ?_, fun f h8 hV => q_V_mk (fun o j i hl => ?_) (fun i j hi hj => ?_) ⟨?_, ?_⟩⟩
  · conv => lhs; simp (disch := omega) only [x65_0, x65_1, x65_4, x65_5, x65_8, x65_11, x65_12, x65_15, x65_16, x65_19, x65_22, x65_23, x65_26, x65_27, x65_30, x65_33, x65_34, x65_37, x65_38, x65_41, x65_44, x65_45, x65_48, x65_49, x65_52, x65_55, x65_56, x65_57, x65_60, x65_63, x65_64, x65_65, x65_68, x65_71, x65_72, x65_73, x65_76, x65_79, x65_80, x65_81, x65_84, x65_87, nI_add, pk_mul, q_cl31, q_vin, q_le, q_lt, q_eqn, q_b_0, q_b_t, q_b_f, q_nz, q_nz1, q_nz0, q_tl, q_tn, true_and, and_true, not_true_eq_false, not_false_eq_true, ite_true, ite_false, ↓reduceIte, true_or, or_true, and_self, ne_eq, q_or1, q_or2, Nat.add_eq_zero_iff, and_false, false_and, List.length_cons, List.length_nil, reduceCtorEq, q_toI, Nat.zero_add, Nat.le_refl, q_c0, q_c1, q_c2, q_c4, q_c9, q_c12, q_c30, q_c99, q_c100, q_c126, q_c32, q_c359, q_c999, t0, t1, t2, t3, t4, t5, n0, n1, n2, n3, n4, n5, tC.1, tV.1, tP.1, tR.1, tD.1, a1, b1, c1, d1, e1, gN, q_upn]
  · rw [q_upf (by omega), q_upf (by omega), q_upf (by omega), q_upf (by omega), e2 _ (by omega), d2 _ (by omega), c2 _ (by omega), b2 _ (by omega), a2 _ (by omega)]
  · rw [← q_V_get hV hl]
    unfold q_lc at hl
    by_cases h0 : o = 0
    · subst h0
      rcases (by omega : j = 5 ∨ j = 6 ∨ j = 7 ∨ j = 8) with rfl | rfl | rfl | rfl
      · rw [q_upm (by omega), q_upm (by omega), q_upm (by omega)]; exact q_upe rfl rfl
      · rw [q_upm (by omega), q_upm (by omega)]; exact q_upe rfl rfl
      · rw [q_upm (by omega)]; exact q_upe rfl rfl
      · exact q_upe rfl rfl
    · rw [q_upn (by omega), q_upn (by omega), q_upn (by omega), q_upn (by omega), e2 _ (by omega)]
      by_cases h1 : o < 4
      · obtain ⟨p, rfl⟩ : ∃ p, o = 1 + p := ⟨o - 1, by omega⟩
        rw [d2 _ (by omega), c2 _ (by omega), b2 _ (by omega), ← Nat.add_assoc, ← Nat.add_assoc]
        exact a3 p j (by omega)
      · by_cases h2 : o < 13
        · obtain ⟨p, rfl⟩ : ∃ p, o = 4 + p := ⟨o - 4, by omega⟩
          rw [d2 _ (by omega), c2 _ (by omega), ← Nat.add_assoc, ← Nat.add_assoc, b3 p j (by omega), a2 _ (by omega)]
        · obtain ⟨p, rfl⟩ : ∃ p, o = 15 + p := ⟨o - 15, by omega⟩
          rw [← Nat.add_assoc, ← Nat.add_assoc, d3 p j (by omega), c2 _ (by omega), b2 _ (by omega), a2 _ (by omega)]
  · rw [q_upn (by omega), q_upn (by omega), q_upn (by omega), q_upn (by omega), e2 _ (by omega), d2 _ (by omega), c3 1 _ (by omega), b2 _ (by omega), a2 _ (by omega)]
    exact hV.2.2.2.1 i j hi hj
  · rw [q_upn (by omega), q_upn (by omega), q_upn (by omega), q_upn (by omega)]
    refine (e3 0 0 (by omega)).trans ?_
    rw [d2 _ (by omega), c2 _ (by omega), b2 _ (by omega), a2 _ (by omega)]
    exact hV.2.2.2.2.2.1
  · rw [← hV.2.2.2.2.2.2]
    unfold q_ol
    apply List.map_congr_left
    intro i hi
    have hi := List.mem_range.mp hi
    rw [q_upn (by omega), q_upn (by omega), q_upn (by omega), q_upn (by omega), q_upn (by omega), q_upn (by omega), q_upn (by omega), q_upn (by omega), q_upn (by omega), q_upn (by omega), q_upn (by omega), q_upn (by omega), e3 1 i (by omega), e3 2 i (by omega), e3 3 i (by omega), d2 _ (by omega), d2 _ (by omega), d2 _ (by omega), c2 _ (by omega), c2 _ (by omega), c2 _ (by omega), b2 _ (by omega), b2 _ (by omega), b2 _ (by omega), a2 _ (by omega), a2 _ (by omega), a2 _ (by omega)]
end
