/-! copies of a State -/
def q_cpr (g : q_G) (a b n : Nat) : q_G := q_upA g b (fun i => if i < n then g a i else g b i)
theorem q_cpr_n {g : q_G} {a b n c : Nat} (h : ¬ c = b) : q_cpr g a b n c = g c := q_upA_n _ _ h
theorem q_cpr_s {g : q_G} {a b n i : Nat} (h : i < n) : q_cpr g a b n b i = g a i := by
  unfold q_cpr
  rw [q_upA_s, if_pos h]
section
variable {E : q_E}
theorem c_copyRow {g : q_G} {Q : Option Value → q_E → q_G → Prop} {a b n : Nat} (ha : q_kd E a = (2, n)) (hb : q_kd E b = (2, n)) (hn : n < 1000) : q_X 61 0 [.ref a, .ref b] [] E g Q = Q none E (q_cpr g a b n) := by
  have z : (nI 0 < (0 : Int32)) = False := by decide
  have zn : (nI n < (0 : Int32)) = False := eq_false (nI_pos (by omega))
  simp (disch := omega) only [x61_0, x61_1, x61_2, x61_3, x61_4, x61_5, x61_6, x61_7, x61_8, x61_11, x61_14, nI_add, pk_mul, q_cl31, q_vin, q_le, q_lt, q_eqn, q_b_0, q_b_t, q_b_f, q_nz, q_nz1, q_nz0, q_tl, q_tn, true_and, and_true, not_true_eq_false, not_false_eq_true, ite_true, ite_false, ↓reduceIte, true_or, or_true, and_self, ne_eq, q_or1, q_or2, Nat.add_eq_zero_iff, and_false, false_and, List.length_cons, List.length_nil, reduceCtorEq, q_toI, Nat.zero_add, Nat.le_refl, q_c0, q_c1, q_c2, q_c4, q_c9, q_c12, q_c30, q_c99, q_c100, q_c126, q_c32, q_c359, q_c999, ha, hb, s_min, Nat.lt_irrefl, z, zn]
  have e : va_cpy (g a) (g b) 0 0 n = fun i => if i < n then g a i else g b i := by
    funext i
    unfold va_cpy
    by_cases h : i < n
    · rw [if_pos ⟨Nat.zero_le _, by omega⟩, if_pos h]; congr 1; omega
    · rw [if_neg (fun q => h (by omega)), if_neg h]
  unfold q_cpr
  rw [e]
theorem c_cpCal {g : q_G} {t c : Nat} (hT : q_CalB E t) (hC : q_CalB E c) (hd : c + 3 ≤ t ∨ t + 3 ≤ c) : ∃ g' : q_G, (∀ Q : Option Value → q_E → q_G → Prop, q_X 83 0 [.ref t, .ref c] [] E g Q = Q none E g') ∧ (∀ b, b < t ∨ t + 3 ≤ b → g' b = g b) ∧ ∀ o j, (o = 0 ∧ j = 0) ∨ (o = 1 ∧ j < 5) ∨ (o = 2 ∧ j < 5) → g' (t + o) j = g (c + o) j := by
  obtain ⟨t0, t1, t2, t3, t4⟩ := id hT
  obtain ⟨c0, c1, c2, c3, c4⟩ := id hC
  apply Exists.intro
  refine ⟨fun Q => ?_, fun b hb => ?_, fun o j h => ?_⟩
  · conv => lhs; simp (disch := omega) only [x83_0, x83_1, x83_2, x83_5, x83_8, x83_9, x83_12, x83_13, x83_16, x83_19, x83_20, x83_23, x83_24, x83_27, x83_30, nI_add, pk_mul, q_cl31, q_vin, q_le, q_lt, q_eqn, q_b_0, q_b_t, q_b_f, q_nz, q_nz1, q_nz0, q_tl, q_tn, true_and, and_true, not_true_eq_false, not_false_eq_true, ite_true, ite_false, ↓reduceIte, true_or, or_true, and_self, ne_eq, q_or1, q_or2, Nat.add_eq_zero_iff, and_false, false_and, List.length_cons, List.length_nil, reduceCtorEq, q_toI, Nat.zero_add, Nat.le_refl, q_c0, q_c1, q_c2, q_c4, q_c9, q_c12, q_c30, q_c99, q_c100, q_c126, q_c32, q_c359, q_c999, t0, c0, t1, t2, c1, c2, c_copyRow c3 t3 (by omega), c_copyRow c4 t4 (by omega)]
    try exact rfl
  · simp (disch := omega) only [q_cpr_n, q_upf]
  · rcases h with ⟨rfl, rfl⟩ | ⟨rfl, h⟩ | ⟨rfl, h⟩
    all_goals simp (disch := omega) only [q_cpr_n, q_cpr_s, q_upn, q_upe, q_upf, Nat.add_zero]
theorem c_cpVer {g : q_G} {t c : Nat} (hT : q_VerB E t) (hC : q_VerB E c) (hd : c + 9 ≤ t ∨ t + 9 ≤ c) : ∃ g' : q_G, (∀ Q : Option Value → q_E → q_G → Prop, q_X 101 0 [.ref t, .ref c] [] E g Q = Q none E g') ∧ (∀ b, b < t ∨ t + 9 ≤ b → g' b = g b) ∧ ∀ o j, (o = 0 ∧ j = 0) ∨ (o = 1 ∧ j < 12) ∨ (o = 2 ∧ j < 12) ∨ (o = 3 ∧ j < 12) ∨ (o = 4 ∧ j < 12) ∨ (o = 5 ∧ j < 12) ∨ (o = 6 ∧ j < 12) ∨ (o = 7 ∧ j < 12) ∨ (o = 8 ∧ j < 12) → g' (t + o) j = g (c + o) j := by
  obtain ⟨t0, ⟨t1, t2, t3, t4, t5, t6, t7, t8⟩, s1, s2, s3, s4, s5, s6, s7, s8⟩ := id hT
  obtain ⟨c0, ⟨c1, c2, c3, c4, c5, c6, c7, c8⟩, e1, e2, e3, e4, e5, e6, e7, e8⟩ := id hC
  apply Exists.intro
  refine ⟨fun Q => ?_, fun b hb => ?_, fun o j h => ?_⟩
  · conv => lhs; simp (disch := omega) only [x101_0, x101_1, x101_2, x101_5, x101_8, x101_9, x101_12, x101_13, x101_16, x101_19, x101_20, x101_23, x101_24, x101_27, x101_30, x101_31, x101_34, x101_35, x101_38, x101_41, x101_42, x101_45, x101_46, x101_49, x101_52, x101_53, x101_56, x101_57, x101_60, x101_63, x101_64, x101_67, x101_68, x101_71, x101_74, x101_75, x101_78, x101_79, x101_82, x101_85, x101_86, x101_89, x101_90, x101_93, x101_96, nI_add, pk_mul, q_cl31, q_vin, q_le, q_lt, q_eqn, q_b_0, q_b_t, q_b_f, q_nz, q_nz1, q_nz0, q_tl, q_tn, true_and, and_true, not_true_eq_false, not_false_eq_true, ite_true, ite_false, ↓reduceIte, true_or, or_true, and_self, ne_eq, q_or1, q_or2, Nat.add_eq_zero_iff, and_false, false_and, List.length_cons, List.length_nil, reduceCtorEq, q_toI, Nat.zero_add, Nat.le_refl, q_c0, q_c1, q_c2, q_c4, q_c9, q_c12, q_c30, q_c99, q_c100, q_c126, q_c32, q_c359, q_c999, t0, c0, t1, t2, t3, t4, t5, t6, t7, t8, c1, c2, c3, c4, c5, c6, c7, c8, c_copyRow e1 s1 (by omega), c_copyRow e2 s2 (by omega), c_copyRow e3 s3 (by omega), c_copyRow e4 s4 (by omega), c_copyRow e5 s5 (by omega), c_copyRow e6 s6 (by omega), c_copyRow e7 s7 (by omega), c_copyRow e8 s8 (by omega)]
    try exact rfl
  · simp (disch := omega) only [q_cpr_n, q_upf]
  · rcases h with ⟨rfl, rfl⟩ | ⟨rfl, h⟩ | ⟨rfl, h⟩ | ⟨rfl, h⟩ | ⟨rfl, h⟩ | ⟨rfl, h⟩ | ⟨rfl, h⟩ | ⟨rfl, h⟩ | ⟨rfl, h⟩
    all_goals simp (disch := omega) only [q_cpr_n, q_cpr_s, q_upn, q_upe, q_upf, Nat.add_zero]
theorem c_cpPai {g : q_G} {t c : Nat} (hT : q_PaiB E t) (hC : q_PaiB E c) (hd : c + 2 ≤ t ∨ t + 2 ≤ c) : ∃ g' : q_G, (∀ Q : Option Value → q_E → q_G → Prop, q_X 87 0 [.ref t, .ref c] [] E g Q = Q none E g') ∧ (∀ b, b < t ∨ t + 2 ≤ b → g' b = g b) ∧ ∀ o j, (o = 1 ∧ j < 144) → g' (t + o) j = g (c + o) j := by
  obtain ⟨t0, t1, t2⟩ := id hT
  obtain ⟨c0, c1, c2⟩ := id hC
  apply Exists.intro
  refine ⟨fun Q => ?_, fun b hb => ?_, fun o j h => ?_⟩
  · conv => lhs; simp (disch := omega) only [x87_0, x87_1, x87_4, x87_5, x87_8, x87_11, nI_add, pk_mul, q_cl31, q_vin, q_le, q_lt, q_eqn, q_b_0, q_b_t, q_b_f, q_nz, q_nz1, q_nz0, q_tl, q_tn, true_and, and_true, not_true_eq_false, not_false_eq_true, ite_true, ite_false, ↓reduceIte, true_or, or_true, and_self, ne_eq, q_or1, q_or2, Nat.add_eq_zero_iff, and_false, false_and, List.length_cons, List.length_nil, reduceCtorEq, q_toI, Nat.zero_add, Nat.le_refl, q_c0, q_c1, q_c2, q_c4, q_c9, q_c12, q_c30, q_c99, q_c100, q_c126, q_c32, q_c359, q_c999, t0, c0, t1, c1, c_copyRow c2 t2 (by omega)]
    try exact rfl
  · simp (disch := omega) only [q_cpr_n, q_upf]
  · rcases h with ⟨rfl, h⟩
    all_goals simp (disch := omega) only [q_cpr_n, q_cpr_s, q_upn, q_upe, q_upf, Nat.add_zero]
theorem c_cpRac {g : q_G} {t c : Nat} (hT : q_RacB E t) (hC : q_RacB E c) (hd : c + 4 ≤ t ∨ t + 4 ≤ c) : ∃ g' : q_G, (∀ Q : Option Value → q_E → q_G → Prop, q_X 88 0 [.ref t, .ref c] [] E g Q = Q none E g') ∧ (∀ b, b < t ∨ t + 4 ≤ b → g' b = g b) ∧ ∀ o j, (o = 1 ∧ j < 10) ∨ (o = 2 ∧ j < 10) ∨ (o = 3 ∧ j < 10) → g' (t + o) j = g (c + o) j := by
  obtain ⟨t0, t1, t2, t3, t4, t5, t6⟩ := id hT
  obtain ⟨c0, c1, c2, c3, c4, c5, c6⟩ := id hC
  apply Exists.intro
  refine ⟨fun Q => ?_, fun b hb => ?_, fun o j h => ?_⟩
  · conv => lhs; simp (disch := omega) only [x88_0, x88_1, x88_4, x88_5, x88_8, x88_11, x88_12, x88_15, x88_16, x88_19, x88_22, x88_23, x88_26, x88_27, x88_30, x88_33, nI_add, pk_mul, q_cl31, q_vin, q_le, q_lt, q_eqn, q_b_0, q_b_t, q_b_f, q_nz, q_nz1, q_nz0, q_tl, q_tn, true_and, and_true, not_true_eq_false, not_false_eq_true, ite_true, ite_false, ↓reduceIte, true_or, or_true, and_self, ne_eq, q_or1, q_or2, Nat.add_eq_zero_iff, and_false, false_and, List.length_cons, List.length_nil, reduceCtorEq, q_toI, Nat.zero_add, Nat.le_refl, q_c0, q_c1, q_c2, q_c4, q_c9, q_c12, q_c30, q_c99, q_c100, q_c126, q_c32, q_c359, q_c999, t0, c0, t1, t2, t3, c1, c2, c3, c_copyRow c4 t4 (by omega), c_copyRow c5 t5 (by omega), c_copyRow c6 t6 (by omega)]
    try exact rfl
  · simp (disch := omega) only [q_cpr_n, q_upf]
  · rcases h with ⟨rfl, h⟩ | ⟨rfl, h⟩ | ⟨rfl, h⟩
    all_goals simp (disch := omega) only [q_cpr_n, q_cpr_s, q_upn, q_upe, q_upf, Nat.add_zero]
theorem c_cpDel {g : q_G} {t c : Nat} (hT : q_DelB E t) (hC : q_DelB E c) (hd : c + 4 ≤ t ∨ t + 4 ≤ c) : ∃ g' : q_G, (∀ Q : Option Value → q_E → q_G → Prop, q_X 86 0 [.ref t, .ref c] [] E g Q = Q none E g') ∧ (∀ b, b < t ∨ t + 4 ≤ b → g' b = g b) ∧ ∀ o j, (o = 0 ∧ j = 0) ∨ (o = 1 ∧ j < 8) ∨ (o = 2 ∧ j < 8) ∨ (o = 3 ∧ j < 8) → g' (t + o) j = g (c + o) j := by
  obtain ⟨t0, t1, t2, t3, t4, t5, t6⟩ := id hT
  obtain ⟨c0, c1, c2, c3, c4, c5, c6⟩ := id hC
  apply Exists.intro
  refine ⟨fun Q => ?_, fun b hb => ?_, fun o j h => ?_⟩
  · conv => lhs; simp (disch := omega) only [x86_0, x86_1, x86_2, x86_5, x86_8, x86_9, x86_12, x86_13, x86_16, x86_19, x86_20, x86_23, x86_24, x86_27, x86_30, x86_31, x86_34, x86_35, x86_38, x86_41, nI_add, pk_mul, q_cl31, q_vin, q_le, q_lt, q_eqn, q_b_0, q_b_t, q_b_f, q_nz, q_nz1, q_nz0, q_tl, q_tn, true_and, and_true, not_true_eq_false, not_false_eq_true, ite_true, ite_false, ↓reduceIte, true_or, or_true, and_self, ne_eq, q_or1, q_or2, Nat.add_eq_zero_iff, and_false, false_and, List.length_cons, List.length_nil, reduceCtorEq, q_toI, Nat.zero_add, Nat.le_refl, q_c0, q_c1, q_c2, q_c4, q_c9, q_c12, q_c30, q_c99, q_c100, q_c126, q_c32, q_c359, q_c999, t0, c0, t1, t2, t3, c1, c2, c3, c_copyRow c4 t4 (by omega), c_copyRow c5 t5 (by omega), c_copyRow c6 t6 (by omega)]
    try exact rfl
  · simp (disch := omega) only [q_cpr_n, q_upf]
  · rcases h with ⟨rfl, rfl⟩ | ⟨rfl, h⟩ | ⟨rfl, h⟩ | ⟨rfl, h⟩
    all_goals simp (disch := omega) only [q_cpr_n, q_cpr_s, q_upn, q_upe, q_upf, Nat.add_zero]
theorem k_copy {g : q_G} {T N : Nat} (hT : q_StaB E T) (hN : q_StaB E N) (hd : N + 23 ≤ T ∨ T + 23 ≤ N) : ∃ g' : q_G, (∀ Q : Option Value → q_E → q_G → Prop, q_X 126 0 [.ref T, .ref N] [] E g Q = Q none E g') ∧ q_Out T g g' ∧ ∀ f, q_no f ≤ 8 → q_Vsta g N f → q_Vsta g' T f := by
  obtain ⟨t0, ⟨t1, t2, t3, t4, t5⟩, tC, tV, tP, tR, tD⟩ := id hT
  obtain ⟨n0, ⟨n1, n2, n3, n4, n5⟩, nC, nV, nP, nR, nD⟩ := id hN
  obtain ⟨g1, a1, a2, a3⟩ := c_cpCal (g := g) tC nC (by omega)
  obtain ⟨g2, b1, b2, b3⟩ := c_cpVer (g := g1) tV nV (by omega)
  obtain ⟨g3, c1, c2, c3⟩ := c_cpPai (g := g2) tP nP (by omega)
  obtain ⟨g4, d1, d2, d3⟩ := c_cpRac (g := g3) tR nR (by omega)
  obtain ⟨g5, e1, e2, e3⟩ := c_cpDel (g := g4) tD nD (by omega)
  have gN : ∀ j, g5 N j = g N j := fun j => by rw [e2 _ (by omega), d2 _ (by omega), c2 _ (by omega), b2 _ (by omega), a2 _ (by omega)]
  refine ⟨q_up (q_up (q_up (q_up g5 T 5 (g N 5)) T 6 (g N 6)) T 7 (g N 7)) T 8 (g N 8), fun Q => ?_, fun b hb => ?_, fun f h8 hV => q_V_mk (fun o j i hl => ?_) (fun i j hi hj => ?_) ⟨?_, ?_⟩⟩
  · conv => lhs; simp (disch := omega) only [x126_0, x126_1, x126_4, x126_5, x126_8, x126_11, x126_12, x126_15, x126_16, x126_19, x126_22, x126_23, x126_26, x126_27, x126_30, x126_33, x126_34, x126_37, x126_38, x126_41, x126_44, x126_45, x126_48, x126_49, x126_52, x126_55, x126_56, x126_57, x126_60, x126_63, x126_64, x126_65, x126_68, x126_71, x126_72, x126_73, x126_76, x126_79, x126_80, x126_81, x126_84, x126_87, nI_add, pk_mul, q_cl31, q_vin, q_le, q_lt, q_eqn, q_b_0, q_b_t, q_b_f, q_nz, q_nz1, q_nz0, q_tl, q_tn, true_and, and_true, not_true_eq_false, not_false_eq_true, ite_true, ite_false, ↓reduceIte, true_or, or_true, and_self, ne_eq, q_or1, q_or2, Nat.add_eq_zero_iff, and_false, false_and, List.length_cons, List.length_nil, reduceCtorEq, q_toI, Nat.zero_add, Nat.le_refl, q_c0, q_c1, q_c2, q_c4, q_c9, q_c12, q_c30, q_c99, q_c100, q_c126, q_c32, q_c359, q_c999, t0, t1, t2, t3, t4, t5, n0, n1, n2, n3, n4, n5, tC.1, tV.1, tP.1, tR.1, tD.1, a1, b1, c1, d1, e1, gN, q_upn]
  · rw [q_upf (by omega), q_upf (by omega), q_upf (by omega), q_upf (by omega), e2 _ (by omega), d2 _ (by omega), c2 _ (by omega), b2 _ (by omega), a2 _ (by omega)]
  · rw [← q_V_get hV hl]
    unfold q_lc at hl
    by_cases h0 : o = 0
    · subst h0
      rcases (by omega : j = 5 ∨ j = 6 ∨ j = 7 ∨ j = 8) with rfl | rfl | rfl | rfl
      · rw [q_upm (by omega), q_upm (by omega), q_upm (by omega)]; exact q_upe rfl rfl
      · rw [q_upm (by omega), q_upm (by omega)]; exact q_upe rfl rfl
      · rw [q_upm (by omega)]; exact q_upe rfl rfl
      · exact q_upe rfl rfl
    · rw [q_upn (by omega), q_upn (by omega), q_upn (by omega), q_upn (by omega), e2 _ (by omega)]
      by_cases h1 : o < 4
      · obtain ⟨p, rfl⟩ : ∃ p, o = 1 + p := ⟨o - 1, by omega⟩
        rw [d2 _ (by omega), c2 _ (by omega), b2 _ (by omega), ← Nat.add_assoc, ← Nat.add_assoc]
        exact a3 p j (by omega)
      · by_cases h2 : o < 13
        · obtain ⟨p, rfl⟩ : ∃ p, o = 4 + p := ⟨o - 4, by omega⟩
          rw [d2 _ (by omega), c2 _ (by omega), ← Nat.add_assoc, ← Nat.add_assoc, b3 p j (by omega), a2 _ (by omega)]
        · obtain ⟨p, rfl⟩ : ∃ p, o = 15 + p := ⟨o - 15, by omega⟩
          rw [← Nat.add_assoc, ← Nat.add_assoc, d3 p j (by omega), c2 _ (by omega), b2 _ (by omega), a2 _ (by omega)]
  · rw [q_upn (by omega), q_upn (by omega), q_upn (by omega), q_upn (by omega), e2 _ (by omega), d2 _ (by omega), c3 1 _ (by omega), b2 _ (by omega), a2 _ (by omega)]
    exact hV.2.2.2.1 i j hi hj
  · rw [q_upn (by omega), q_upn (by omega), q_upn (by omega), q_upn (by omega)]
    refine (e3 0 0 (by omega)).trans ?_
    rw [d2 _ (by omega), c2 _ (by omega), b2 _ (by omega), a2 _ (by omega)]
    exact hV.2.2.2.2.2.1
  · rw [← hV.2.2.2.2.2.2]
    unfold q_ol
    apply List.map_congr_left
    intro i hi
    have hi := List.mem_range.mp hi
    rw [q_upn (by omega), q_upn (by omega), q_upn (by omega), q_upn (by omega), q_upn (by omega), q_upn (by omega), q_upn (by omega), q_upn (by omega), q_upn (by omega), q_upn (by omega), q_upn (by omega), q_upn (by omega), e3 1 i (by omega), e3 2 i (by omega), e3 3 i (by omega), d2 _ (by omega), d2 _ (by omega), d2 _ (by omega), c2 _ (by omega), c2 _ (by omega), c2 _ (by omega), b2 _ (by omega), b2 _ (by omega), b2 _ (by omega), a2 _ (by omega), a2 _ (by omega), a2 _ (by omega)]
end
