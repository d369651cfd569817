/-- after a number that ends at r, with d more to come -/
def q_aft (t : Nat → Int32) (n d r : Nat) : Bool × Nat := if q_sg t n r = (if d = 0 then nI 59 else nI 44) then (if d = 0 then (true, r + 1) else q_rmo t n d (r + 1)) else (false, r)
theorem q_rmo_s (t : Nat → Int32) (n m p : Nat) : q_rmo t n (m + 1) p = if q_nl t n p = 0 then (false, p) else q_aft t n m (p + q_nl t n p) := rfl
theorem q_told (g : q_G) (v v2 : Int32) (k : Nat) (w : Int32) (T : q_St) : q_up (q_upA (q_up (q_up g 146 6 v) 149 k w) 149 T) 146 6 v2 = q_up (q_upA g 149 T) 146 6 v2 := by
  funext b i
  by_cases h : b = 149
  · subst h
    rw [q_upn (by decide), q_upn (by decide), q_upA_s, q_upA_s]
  · by_cases h2 : b = 146
    · subst h2
      by_cases h3 : i = 6
      · subst h3; rw [q_upe rfl rfl, q_upe rfl rfl]
      · rw [q_upm h3, q_upm h3, q_upA_n _ _ (by decide), q_upA_n _ _ (by decide), q_upn (by decide), q_upm h3]
    · rw [q_upn h2, q_upn h2, q_upA_n _ _ h, q_upA_n _ _ h, q_upn h, q_upn h2]
theorem q_told2 (g : q_G) (v : Int32) (k : Nat) (w : Int32) : q_up (q_up g 146 6 v) 149 k w = q_up (q_upA g 149 (upd (g 149) k w)) 146 6 v := by
  rw [q_upD _ 149 k w, q_upf (show ¬ 149 = 146 by decide), q_upAu (by decide)]
section
variable {E : q_E}
theorem s_out {g : q_G} {Q : Option Value → q_E → q_G → Prop} {m k : Nat} (hm : m ≤ 3) (hk : k ≤ 10) (s : Int32) : q_X 113 65 [.ref 146, .int s, .int (nI m), .int (nI 0), .int (nI k)] [] E g Q = Q (some (.int (nI 0))) E g := by
  by_cases c : m ≤ k
  · simp (disch := omega) only [x113_0, x113_1, x113_3, x113_6, x113_7, x113_9, x113_12, x113_13, x113_16, x113_17, x113_19, x113_22, x113_23, x113_26, x113_27, x113_29, x113_32, x113_33, x113_35, x113_38, x113_39, x113_42, x113_43, x113_44, x113_45, x113_48, x113_49, x113_50, x113_51, x113_52, x113_55, x113_56, x113_57, x113_60, x113_61, x113_62, x113_63, x113_65, x113_67, x113_68, x113_71, x113_72, x113_75, x113_77, x113_80, x113_81, x113_83, x113_86, x113_89, x113_90, x113_92, x113_95, x113_98, x113_99, x113_102, x113_103, x113_104, x113_110, x113_111, x113_114, x113_115, x113_117, x113_120, x113_123, x113_124, x113_127, x113_128, nI_add, pk_mul, q_cl31, q_vin, q_le, q_lt, q_eqn, q_b_0, q_b_t, q_b_f, q_nz, q_nz1, q_nz0, q_tl, q_tn, true_and, and_true, not_true_eq_false, not_false_eq_true, ite_true, ite_false, ↓reduceIte, true_or, or_true, and_self, ne_eq, q_or1, q_or2, Nat.add_eq_zero_iff, and_false, false_and, List.length_cons, List.length_nil, reduceCtorEq, q_toI, Nat.zero_add, Nat.le_refl, q_c0, q_c1, q_c2, q_c4, q_c9, q_c12, q_c30, q_c99, q_c100, q_c126, q_c32, q_c359, q_c999, c]
  · simp (disch := omega) only [x113_0, x113_1, x113_3, x113_6, x113_7, x113_9, x113_12, x113_13, x113_16, x113_17, x113_19, x113_22, x113_23, x113_26, x113_27, x113_29, x113_32, x113_33, x113_35, x113_38, x113_39, x113_42, x113_43, x113_44, x113_45, x113_48, x113_49, x113_50, x113_51, x113_52, x113_55, x113_56, x113_57, x113_60, x113_61, x113_62, x113_63, x113_65, x113_67, x113_68, x113_71, x113_72, x113_75, x113_77, x113_80, x113_81, x113_83, x113_86, x113_89, x113_90, x113_92, x113_95, x113_98, x113_99, x113_102, x113_103, x113_104, x113_110, x113_111, x113_114, x113_115, x113_117, x113_120, x113_123, x113_124, x113_127, x113_128, nI_add, pk_mul, q_cl31, q_vin, q_le, q_lt, q_eqn, q_b_0, q_b_t, q_b_f, q_nz, q_nz1, q_nz0, q_tl, q_tn, true_and, and_true, not_true_eq_false, not_false_eq_true, ite_true, ite_false, ↓reduceIte, true_or, or_true, and_self, ne_eq, q_or1, q_or2, Nat.add_eq_zero_iff, and_false, false_and, List.length_cons, List.length_nil, reduceCtorEq, q_toI, Nat.zero_add, Nat.le_refl, q_c0, q_c1, q_c2, q_c4, q_c9, q_c12, q_c30, q_c99, q_c100, q_c126, q_c32, q_c359, q_c999, c]
theorem s_rest (hM : q_ModB E) {n m : Nat} (hn : n ≤ 60) (hm : m ≤ 3) (s : Int32) : ∀ d k r (g : q_G), 1 ≤ k → k + d = m → r ≤ 100 - 4 * d → g 146 3 = nI n → g 146 6 = nI r → ∃ T : q_St, (∀ Q : Option Value → q_E → q_G → Prop, q_X 113 65 [.ref 146, .int s, .int (nI m), .int (nI 1), .int (nI k)] [] E g Q = Q (some (.int (q_b (q_aft (g 148) n d r).1))) E (q_up (q_upA g 149 T) 146 6 (nI (q_aft (g 148) n d r).2))) ∧ (∀ i, i < k → T i = g 149 i) ∧ ((q_aft (g 148) n d r).1 = true → (1 ≤ d → T k = q_nmb (g 148) n (r + 1)) ∧ (2 ≤ d → T (k + 1) = q_nmb (g 148) n (q_nx (g 148) n (r + 1)))) := by
  intro d
  induction d with
  | zero =>
    intro k r g hk hkm hr h3 h6
    refine ⟨g 149, fun Q => ?_, fun i hi => rfl, fun _ => ⟨fun h => by omega, fun h => by omega⟩⟩
    rw [q_upAid]
    unfold q_aft
    by_cases c : q_sg (g 148) n r = nI 59
    · simp (disch := omega) only [x113_0, x113_1, x113_3, x113_6, x113_7, x113_9, x113_12, x113_13, x113_16, x113_17, x113_19, x113_22, x113_23, x113_26, x113_27, x113_29, x113_32, x113_33, x113_35, x113_38, x113_39, x113_42, x113_43, x113_44, x113_45, x113_48, x113_49, x113_50, x113_51, x113_52, x113_55, x113_56, x113_57, x113_60, x113_61, x113_62, x113_63, x113_65, x113_67, x113_68, x113_71, x113_72, x113_75, x113_77, x113_80, x113_81, x113_83, x113_86, x113_89, x113_90, x113_92, x113_95, x113_98, x113_99, x113_102, x113_103, x113_104, x113_110, x113_111, x113_114, x113_115, x113_117, x113_120, x113_123, x113_124, x113_127, x113_128, nI_add, pk_mul, q_cl31, q_vin, q_le, q_lt, q_eqn, q_b_0, q_b_t, q_b_f, q_nz, q_nz1, q_nz0, q_tl, q_tn, true_and, and_true, not_true_eq_false, not_false_eq_true, ite_true, ite_false, ↓reduceIte, true_or, or_true, and_self, ne_eq, q_or1, q_or2, Nat.add_eq_zero_iff, and_false, false_and, List.length_cons, List.length_nil, reduceCtorEq, q_toI, Nat.zero_add, Nat.le_refl, q_c0, q_c1, q_c2, q_c4, q_c9, q_c12, q_c30, q_c99, q_c100, q_c126, q_c32, q_c359, q_c999, hM.1, hM.2.1, hM.2.2.1, hM.2.2.2.1, hM.2.2.2.2.1, hM.2.2.2.2.2.1, hM.2.2.2.2.2.2, s_takes hM hn (show r ≤ 200 by omega) h3 h6, c, show (m ≤ k) = True from eq_true (by omega)]
    · simp (disch := omega) only [x113_0, x113_1, x113_3, x113_6, x113_7, x113_9, x113_12, x113_13, x113_16, x113_17, x113_19, x113_22, x113_23, x113_26, x113_27, x113_29, x113_32, x113_33, x113_35, x113_38, x113_39, x113_42, x113_43, x113_44, x113_45, x113_48, x113_49, x113_50, x113_51, x113_52, x113_55, x113_56, x113_57, x113_60, x113_61, x113_62, x113_63, x113_65, x113_67, x113_68, x113_71, x113_72, x113_75, x113_77, x113_80, x113_81, x113_83, x113_86, x113_89, x113_90, x113_92, x113_95, x113_98, x113_99, x113_102, x113_103, x113_104, x113_110, x113_111, x113_114, x113_115, x113_117, x113_120, x113_123, x113_124, x113_127, x113_128, nI_add, pk_mul, q_cl31, q_vin, q_le, q_lt, q_eqn, q_b_0, q_b_t, q_b_f, q_nz, q_nz1, q_nz0, q_tl, q_tn, true_and, and_true, not_true_eq_false, not_false_eq_true, ite_true, ite_false, ↓reduceIte, true_or, or_true, and_self, ne_eq, q_or1, q_or2, Nat.add_eq_zero_iff, and_false, false_and, List.length_cons, List.length_nil, reduceCtorEq, q_toI, Nat.zero_add, Nat.le_refl, q_c0, q_c1, q_c2, q_c4, q_c9, q_c12, q_c30, q_c99, q_c100, q_c126, q_c32, q_c359, q_c999, hM.1, hM.2.1, hM.2.2.1, hM.2.2.2.1, hM.2.2.2.2.1, hM.2.2.2.2.2.1, hM.2.2.2.2.2.2, s_takes hM hn (show r ≤ 200 by omega) h3 h6, c, show (m ≤ k) = True from eq_true (by omega)]
      rw [q_up_id h6]
  | succ d ih =>
    intro k r g hk hkm hr h3 h6
    by_cases c : q_sg (g 148) n r = nI 44
    · have ea : q_aft (g 148) n (d + 1) r = q_rmo (g 148) n (d + 1) (r + 1) := by
        unfold q_aft
        rw [if_neg (show ¬ d + 1 = 0 by omega), if_pos c, if_neg (by omega)]
      rw [ea, q_rmo_s]
      have n3 : (q_up g 146 6 (nI (r + 1))) 146 3 = nI n := by rw [q_upm (by decide)]; exact h3
      have n6 : (q_up g 146 6 (nI (r + 1))) 146 6 = nI (r + 1) := q_upe rfl rfl
      have n8 : (q_up g 146 6 (nI (r + 1))) 148 = g 148 := q_upf (by decide)
      have num := fun Q => s_number (Q := Q) hM hn (p := r + 1) (k := k) (by omega) (by omega) n3 n6
      rw [n8, q_upu] at num
      by_cases z : q_nl (g 148) n (r + 1) = 0
      · refine ⟨upd (g 149) k (q_nmb (g 148) n (r + 1)), fun Q => ?_, fun i hi => q_updn (by omega), fun h => ?_⟩
        · rw [if_pos z]
          have z2 : decide (0 < q_nl (g 148) n (r + 1)) = false := decide_eq_false (by omega)
          conv => lhs; simp (disch := omega) only [x113_0, x113_1, x113_3, x113_6, x113_7, x113_9, x113_12, x113_13, x113_16, x113_17, x113_19, x113_22, x113_23, x113_26, x113_27, x113_29, x113_32, x113_33, x113_35, x113_38, x113_39, x113_42, x113_43, x113_44, x113_45, x113_48, x113_49, x113_50, x113_51, x113_52, x113_55, x113_56, x113_57, x113_60, x113_61, x113_62, x113_63, x113_65, x113_67, x113_68, x113_71, x113_72, x113_75, x113_77, x113_80, x113_81, x113_83, x113_86, x113_89, x113_90, x113_92, x113_95, x113_98, x113_99, x113_102, x113_103, x113_104, x113_110, x113_111, x113_114, x113_115, x113_117, x113_120, x113_123, x113_124, x113_127, x113_128, nI_add, pk_mul, q_cl31, q_vin, q_le, q_lt, q_eqn, q_b_0, q_b_t, q_b_f, q_nz, q_nz1, q_nz0, q_tl, q_tn, true_and, and_true, not_true_eq_false, not_false_eq_true, ite_true, ite_false, ↓reduceIte, true_or, or_true, and_self, ne_eq, q_or1, q_or2, Nat.add_eq_zero_iff, and_false, false_and, List.length_cons, List.length_nil, reduceCtorEq, q_toI, Nat.zero_add, Nat.le_refl, q_c0, q_c1, q_c2, q_c4, q_c9, q_c12, q_c30, q_c99, q_c100, q_c126, q_c32, q_c359, q_c999, hM.1, hM.2.1, hM.2.2.1, hM.2.2.2.1, hM.2.2.2.2.1, hM.2.2.2.2.2.1, hM.2.2.2.2.2.2, s_takes hM hn (show r ≤ 200 by omega) h3 h6, c, num, z2, show (m ≤ k) = False from eq_false (by omega), show (k = 0) = False from eq_false (by omega)]
          simp only [x113_107, s_out hm (show k + 1 ≤ 10 by omega)]
          rw [z, Nat.add_zero, q_told2]
          rfl
        · rw [if_pos z] at h
          cases h
      · rw [if_neg z]
        have z2 : decide (0 < q_nl (g 148) n (r + 1)) = true := decide_eq_true (by omega)
        have l3 := q_nl_le (g 148) n (r + 1)
        obtain ⟨T, t1, t2, t3⟩ := ih (k + 1) (r + 1 + q_nl (g 148) n (r + 1)) (q_up (q_up g 146 6 (nI (r + 1 + q_nl (g 148) n (r + 1)))) 149 k (q_nmb (g 148) n (r + 1))) (by omega) (by omega) (by omega) (by rw [q_upn (by decide), q_upm (by decide)]; exact h3) (by rw [q_upn (by decide)]; exact q_upe rfl rfl)
        rw [q_upf (show ¬ 148 = 149 by decide), q_upf (show ¬ 148 = 146 by decide)] at t1 t3
        refine ⟨T, fun Q => ?_, fun i hi => ?_, fun h => ⟨fun _ => ?_, fun h2 => ?_⟩⟩
        · conv => lhs; simp (disch := omega) only [x113_0, x113_1, x113_3, x113_6, x113_7, x113_9, x113_12, x113_13, x113_16, x113_17, x113_19, x113_22, x113_23, x113_26, x113_27, x113_29, x113_32, x113_33, x113_35, x113_38, x113_39, x113_42, x113_43, x113_44, x113_45, x113_48, x113_49, x113_50, x113_51, x113_52, x113_55, x113_56, x113_57, x113_60, x113_61, x113_62, x113_63, x113_65, x113_67, x113_68, x113_71, x113_72, x113_75, x113_77, x113_80, x113_81, x113_83, x113_86, x113_89, x113_90, x113_92, x113_95, x113_98, x113_99, x113_102, x113_103, x113_104, x113_110, x113_111, x113_114, x113_115, x113_117, x113_120, x113_123, x113_124, x113_127, x113_128, nI_add, pk_mul, q_cl31, q_vin, q_le, q_lt, q_eqn, q_b_0, q_b_t, q_b_f, q_nz, q_nz1, q_nz0, q_tl, q_tn, true_and, and_true, not_true_eq_false, not_false_eq_true, ite_true, ite_false, ↓reduceIte, true_or, or_true, and_self, ne_eq, q_or1, q_or2, Nat.add_eq_zero_iff, and_false, false_and, List.length_cons, List.length_nil, reduceCtorEq, q_toI, Nat.zero_add, Nat.le_refl, q_c0, q_c1, q_c2, q_c4, q_c9, q_c12, q_c30, q_c99, q_c100, q_c126, q_c32, q_c359, q_c999, hM.1, hM.2.1, hM.2.2.1, hM.2.2.2.1, hM.2.2.2.2.1, hM.2.2.2.2.2.1, hM.2.2.2.2.2.2, s_takes hM hn (show r ≤ 200 by omega) h3 h6, c, num, z2, show (m ≤ k) = False from eq_false (by omega), show (k = 0) = False from eq_false (by omega)]
          simp only [x113_107]
          rw [t1, q_told]
        · rw [t2 i (by omega), q_upm (by omega), q_upn (by decide)]
        · rw [t2 k (by omega), q_upe rfl rfl]
        · exact (t3 h).1 (by omega)
    · have ea : q_aft (g 148) n (d + 1) r = (false, r) := by
        unfold q_aft
        rw [if_neg (show ¬ d + 1 = 0 by omega), if_neg c]
      rw [ea]
      refine ⟨g 149, fun Q => ?_, fun i hi => rfl, fun h => (by cases h)⟩
      rw [q_upAid, q_up_id h6]
      conv => lhs; simp (disch := omega) only [x113_0, x113_1, x113_3, x113_6, x113_7, x113_9, x113_12, x113_13, x113_16, x113_17, x113_19, x113_22, x113_23, x113_26, x113_27, x113_29, x113_32, x113_33, x113_35, x113_38, x113_39, x113_42, x113_43, x113_44, x113_45, x113_48, x113_49, x113_50, x113_51, x113_52, x113_55, x113_56, x113_57, x113_60, x113_61, x113_62, x113_63, x113_65, x113_67, x113_68, x113_71, x113_72, x113_75, x113_77, x113_80, x113_81, x113_83, x113_86, x113_89, x113_90, x113_92, x113_95, x113_98, x113_99, x113_102, x113_103, x113_104, x113_110, x113_111, x113_114, x113_115, x113_117, x113_120, x113_123, x113_124, x113_127, x113_128, nI_add, pk_mul, q_cl31, q_vin, q_le, q_lt, q_eqn, q_b_0, q_b_t, q_b_f, q_nz, q_nz1, q_nz0, q_tl, q_tn, true_and, and_true, not_true_eq_false, not_false_eq_true, ite_true, ite_false, ↓reduceIte, true_or, or_true, and_self, ne_eq, q_or1, q_or2, Nat.add_eq_zero_iff, and_false, false_and, List.length_cons, List.length_nil, reduceCtorEq, q_toI, Nat.zero_add, Nat.le_refl, q_c0, q_c1, q_c2, q_c4, q_c9, q_c12, q_c30, q_c99, q_c100, q_c126, q_c32, q_c359, q_c999, hM.1, hM.2.1, hM.2.2.1, hM.2.2.2.1, hM.2.2.2.2.1, hM.2.2.2.2.2.1, hM.2.2.2.2.2.2, s_takes hM hn (show r ≤ 200 by omega) h3 h6, c, show (m ≤ k) = False from eq_false (by omega), show (k = 0) = False from eq_false (by omega)]
      simp only [x113_107, s_out hm (show k + 1 ≤ 10 by omega)]
      rfl
/-- an order that has more than no numbers -/
theorem s_order1 (hM : q_ModB E) {n p m : Nat} (hn : n ≤ 60) (hp : p < 60) (hm : m < 3) {g : q_G} (h3 : g 146 3 = nI n) (h6 : g 146 6 = nI (p + 1)) (s : Int32) : ∃ T : q_St, (∀ Q : Option Value → q_E → q_G → Prop, q_X 113 65 [.ref 146, .int s, .int (nI (m + 1)), .int (nI 1), .int (nI 0)] [] E g Q = Q (some (.int (q_b (q_rmo (g 148) n (m + 1) (p + 1)).1))) E (q_up (q_upA g 149 T) 146 6 (nI (q_rmo (g 148) n (m + 1) (p + 1)).2))) ∧ ((q_rmo (g 148) n (m + 1) (p + 1)).1 = true → T 0 = q_nmb (g 148) n (p + 1) ∧ (1 ≤ m → T 1 = q_nmb (g 148) n (q_nx (g 148) n (p + 1))) ∧ (2 ≤ m → T 2 = q_nmb (g 148) n (q_nx (g 148) n (q_nx (g 148) n (p + 1))))) := by
  have num := fun Q => s_number (Q := Q) (k := 0) hM hn (p := p + 1) (by omega) (by omega) h3 h6
  rw [q_rmo_s]
  by_cases z : q_nl (g 148) n (p + 1) = 0
  · have z2 : decide (0 < q_nl (g 148) n (p + 1)) = false := decide_eq_false (by omega)
    rw [if_pos z]
    refine ⟨upd (g 149) 0 (q_nmb (g 148) n (p + 1)), fun Q => ?_, fun h => (by cases h)⟩
    conv => lhs; simp (disch := omega) only [x113_0, x113_1, x113_3, x113_6, x113_7, x113_9, x113_12, x113_13, x113_16, x113_17, x113_19, x113_22, x113_23, x113_26, x113_27, x113_29, x113_32, x113_33, x113_35, x113_38, x113_39, x113_42, x113_43, x113_44, x113_45, x113_48, x113_49, x113_50, x113_51, x113_52, x113_55, x113_56, x113_57, x113_60, x113_61, x113_62, x113_63, x113_65, x113_67, x113_68, x113_71, x113_72, x113_75, x113_77, x113_80, x113_81, x113_83, x113_86, x113_89, x113_90, x113_92, x113_95, x113_98, x113_99, x113_102, x113_103, x113_104, x113_110, x113_111, x113_114, x113_115, x113_117, x113_120, x113_123, x113_124, x113_127, x113_128, nI_add, pk_mul, q_cl31, q_vin, q_le, q_lt, q_eqn, q_b_0, q_b_t, q_b_f, q_nz, q_nz1, q_nz0, q_tl, q_tn, true_and, and_true, not_true_eq_false, not_false_eq_true, ite_true, ite_false, ↓reduceIte, true_or, or_true, and_self, ne_eq, q_or1, q_or2, Nat.add_eq_zero_iff, and_false, false_and, List.length_cons, List.length_nil, reduceCtorEq, q_toI, Nat.zero_add, Nat.le_refl, q_c0, q_c1, q_c2, q_c4, q_c9, q_c12, q_c30, q_c99, q_c100, q_c126, q_c32, q_c359, q_c999, hM.1, hM.2.1, hM.2.2.1, hM.2.2.2.1, hM.2.2.2.2.1, hM.2.2.2.2.2.1, hM.2.2.2.2.2.2, num, z2, show (m + 1 ≤ 0) = False from eq_false (by omega)]
    simp only [x113_107, s_out (show m + 1 ≤ 3 by omega) (show 1 ≤ 10 by omega)]
    rw [z, Nat.add_zero, q_told2]
    rfl
  · have z2 : decide (0 < q_nl (g 148) n (p + 1)) = true := decide_eq_true (by omega)
    have l3 := q_nl_le (g 148) n (p + 1)
    rw [if_neg z]
    obtain ⟨T, t1, t2, t3⟩ := s_rest hM hn (show m + 1 ≤ 3 by omega) s m 1 (p + 1 + q_nl (g 148) n (p + 1)) (q_up (q_up g 146 6 (nI (p + 1 + q_nl (g 148) n (p + 1)))) 149 0 (q_nmb (g 148) n (p + 1))) (by omega) (by omega) (by omega) (by rw [q_upn (by decide), q_upm (by decide)]; exact h3) (by rw [q_upn (by decide)]; exact q_upe rfl rfl)
    rw [q_upf (show ¬ 148 = 149 by decide), q_upf (show ¬ 148 = 146 by decide)] at t1 t3
    refine ⟨T, fun Q => ?_, fun h => ⟨?_, fun h1 => ?_, fun h2 => ?_⟩⟩
    · conv => lhs; simp (disch := omega) only [x113_0, x113_1, x113_3, x113_6, x113_7, x113_9, x113_12, x113_13, x113_16, x113_17, x113_19, x113_22, x113_23, x113_26, x113_27, x113_29, x113_32, x113_33, x113_35, x113_38, x113_39, x113_42, x113_43, x113_44, x113_45, x113_48, x113_49, x113_50, x113_51, x113_52, x113_55, x113_56, x113_57, x113_60, x113_61, x113_62, x113_63, x113_65, x113_67, x113_68, x113_71, x113_72, x113_75, x113_77, x113_80, x113_81, x113_83, x113_86, x113_89, x113_90, x113_92, x113_95, x113_98, x113_99, x113_102, x113_103, x113_104, x113_110, x113_111, x113_114, x113_115, x113_117, x113_120, x113_123, x113_124, x113_127, x113_128, nI_add, pk_mul, q_cl31, q_vin, q_le, q_lt, q_eqn, q_b_0, q_b_t, q_b_f, q_nz, q_nz1, q_nz0, q_tl, q_tn, true_and, and_true, not_true_eq_false, not_false_eq_true, ite_true, ite_false, ↓reduceIte, true_or, or_true, and_self, ne_eq, q_or1, q_or2, Nat.add_eq_zero_iff, and_false, false_and, List.length_cons, List.length_nil, reduceCtorEq, q_toI, Nat.zero_add, Nat.le_refl, q_c0, q_c1, q_c2, q_c4, q_c9, q_c12, q_c30, q_c99, q_c100, q_c126, q_c32, q_c359, q_c999, hM.1, hM.2.1, hM.2.2.1, hM.2.2.2.1, hM.2.2.2.2.1, hM.2.2.2.2.2.1, hM.2.2.2.2.2.2, num, z2, show (m + 1 ≤ 0) = False from eq_false (by omega)]
      simp only [x113_107]
      rw [t1, q_told]
    · rw [t2 0 (by omega), q_upe rfl rfl]
    · exact (t3 h).1 (by omega)
    · exact (t3 h).2 (by omega)
theorem s_isOrder (hM : q_ModB E) {n p : Nat} (hn : n ≤ 60) (hp : p < 60) {g : q_G} (h3 : g 146 3 = nI n) (h6 : g 146 6 = nI p) : ∃ T : q_St, (∀ Q : Option Value → q_E → q_G → Prop, q_X 113 0 [.ref 146, .int (q_sg (g 148) n p), .null, .null, .null] [] E g Q = Q (some (.int (q_b (q_ro (g 148) n p).1))) E (q_up (q_upA g 149 T) 146 6 (nI (q_ro (g 148) n p).2))) ∧ ((q_ro (g 148) n p).1 = true → T 0 = q_nmb (g 148) n (p + 1) ∧ (2 ≤ q_pt (q_sg (g 148) n p) → T 1 = q_nmb (g 148) n (q_nx (g 148) n (p + 1))) ∧ (3 ≤ q_pt (q_sg (g 148) n p) → T 2 = q_nmb (g 148) n (q_nx (g 148) n (q_nx (g 148) n (p + 1))))) := by
  generalize hs : q_sg (g 148) n p = s
  have beg : ∀ Q : Option Value → q_E → q_G → Prop, q_X 113 0 [.ref 146, .int s, .null, .null, .null] [] E g Q = if q_pt s = 0 then Q (some (.int (nI 0))) E g else q_X 113 65 [.ref 146, .int s, .int (nI (q_pt s)), .int (nI 1), .int (nI 0)] [] E (q_up g 146 6 (nI (p + 1))) Q := by
    intro Q
    unfold q_pt
    by_cases c1 : s = nI 118 <;> by_cases c2 : s = nI 108 <;> by_cases c3 : s = nI 111 <;> by_cases c4 : s = nI 115 <;> by_cases c5 : s = nI 100
    all_goals
      simp (disch := omega) only [x113_0, x113_1, x113_3, x113_6, x113_7, x113_9, x113_12, x113_13, x113_16, x113_17, x113_19, x113_22, x113_23, x113_26, x113_27, x113_29, x113_32, x113_33, x113_35, x113_38, x113_39, x113_42, x113_43, x113_44, x113_45, x113_48, x113_49, x113_50, x113_51, x113_52, x113_55, x113_56, x113_57, x113_60, x113_61, x113_62, x113_63, nI_add, pk_mul, q_cl31, q_vin, q_le, q_lt, q_eqn, q_b_0, q_b_t, q_b_f, q_nz, q_nz1, q_nz0, q_tl, q_tn, true_and, and_true, not_true_eq_false, not_false_eq_true, ite_true, ite_false, ↓reduceIte, true_or, or_true, and_self, ne_eq, q_or1, q_or2, Nat.add_eq_zero_iff, and_false, false_and, List.length_cons, List.length_nil, reduceCtorEq, q_toI, Nat.zero_add, Nat.le_refl, q_c0, q_c1, q_c2, q_c4, q_c9, q_c12, q_c30, q_c99, q_c100, q_c126, q_c32, q_c359, q_c999, hM.1, hM.2.1, hM.2.2.1, hM.2.2.2.1, hM.2.2.2.2.1, hM.2.2.2.2.2.1, hM.2.2.2.2.2.2, h6, c1, c2, c3, c4, c5, true_or, or_true, or_self, or_false, false_or]
      try simp
  unfold q_ro
  rw [hs]
  by_cases z : q_pt s = 0
  · rw [if_pos z]
    refine ⟨g 149, fun Q => ?_, fun h => (by cases h)⟩
    rw [beg Q, if_pos z, q_upAid, q_up_id h6]
    rfl
  · rw [if_neg z]
    have hp3 : q_pt s ≤ 3 := by unfold q_pt; split <;> (try split) <;> (try split) <;> omega
    obtain ⟨m, hm⟩ : ∃ m, q_pt s = m + 1 := ⟨q_pt s - 1, by omega⟩
    rw [hm]
    obtain ⟨T, t1, t2⟩ := s_order1 (g := q_up g 146 6 (nI (p + 1))) hM hn hp (show m < 3 by omega) (by rw [q_upm (by decide)]; exact h3) (q_upe rfl rfl) s
    rw [q_upf (show ¬ 148 = 146 by decide)] at t1 t2
    refine ⟨T, fun Q => ?_, fun h => ⟨(t2 h).1, fun h2 => (t2 h).2.1 (by omega), fun h2 => (t2 h).2.2 (by omega)⟩⟩
    rw [beg Q, if_neg z, hm, t1, q_upAu (by decide), q_upu]
end
