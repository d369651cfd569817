/-! Deliveries -/
def q_t3 (g : q_G) (d i : Nat) : q_T := (g (d + 1) i, g (d + 2) i, g (d + 3) i)
theorem q_ol_len (g : q_G) (d n : Nat) : (q_ol g d n).length = n := by unfold q_ol; simp
theorem q_ext {l m : List q_T} (h : l.length = m.length) (h2 : ∀ i, i < l.length → l.getD i (0, 0, 0) = m.getD i (0, 0, 0)) : l = m := by
  apply List.ext_getElem h
  intro i h3 h4
  have := h2 i h3
  rw [List.getD_eq_getElem?_getD, List.getD_eq_getElem?_getD, List.getElem?_eq_getElem h3, List.getElem?_eq_getElem h4] at this
  exact this
theorem q_ol_e {g : q_G} {d n : Nat} {l : List q_T} (h : l.length = n) (h2 : ∀ i, i < n → q_t3 g d i = l.getD i (0, 0, 0)) : q_ol g d n = l :=
  q_ext (by rw [q_ol_len, h]) fun i hi => by
    rw [q_ol_len] at hi
    rw [q_ol_get hi]
    exact h2 i hi
/-- ids that Deliveries at d doesn't have -/
def q_Dut (d : Nat) (g g' : q_G) : Prop := ∀ c, ¬ c = d → ¬ c = d + 1 → ¬ c = d + 2 → ¬ c = d + 3 → g' c = g c
theorem q_Dut_t {d : Nat} {g g' g'' : q_G} (h : q_Dut d g g') (h2 : q_Dut d g' g'') : q_Dut d g g'' := fun c c1 c2 c3 c4 => (h2 c c1 c2 c3 c4).trans (h c c1 c2 c3 c4)
def q_mv (g : q_G) (d a b : Nat) : q_G := q_up (q_up (q_up g (d + 1) b (g (d + 1) a)) (d + 2) b (g (d + 2) a)) (d + 3) b (g (d + 3) a)
theorem q_mv_t (g : q_G) (d a b i : Nat) : q_t3 (q_mv g d a b) d i = if i = b then q_t3 g d a else q_t3 g d i := by
  unfold q_t3 q_mv
  rw [q_upn (show ¬ d + 1 = d + 3 by omega), q_upn (show ¬ d + 1 = d + 2 by omega), q_ups, q_upn (show ¬ d + 2 = d + 3 by omega), q_ups, q_upn (show ¬ d + 2 = d + 1 by omega), q_ups, q_upn (show ¬ d + 3 = d + 2 by omega), q_upn (show ¬ d + 3 = d + 1 by omega)]
  by_cases h : i = b <;> simp [h]
theorem q_mv_d (g : q_G) (d a b : Nat) : q_Dut d g (q_mv g d a b) ∧ q_mv g d a b d = g d := by
  refine ⟨fun c c1 c2 c3 c4 => ?_, ?_⟩
  · unfold q_mv; rw [q_upf c4, q_upf c3, q_upf c2]
  · unfold q_mv; rw [q_upf (by omega), q_upf (by omega), q_upf (by omega)]
section
variable {E : q_E} {d : Nat}
theorem c_move {g : q_G} (hD : q_DelB E d) {a b : Nat} (ha : a < 8) (hb : b < 8) {Q : Option Value → q_E → q_G → Prop} : q_X 8 0 [.ref d, .int (nI a), .int (nI b)] [] E g Q = Q none E (q_mv g d a b) := by
  obtain ⟨d1, d2, d3, d4, d5, d6, d7⟩ := hD
  simp (disch := omega) only [x8_0, x8_1, x8_4, x8_5, x8_6, x8_9, x8_10, x8_11, x8_12, x8_13, x8_16, x8_17, x8_18, x8_21, x8_22, x8_23, x8_24, x8_25, x8_28, x8_29, x8_30, x8_33, x8_34, x8_35, x8_36, nI_add, pk_mul, q_cl31, q_vin, q_le, q_lt, q_eqn, q_b_0, q_b_t, q_b_f, q_nz, q_nz1, q_nz0, q_tl, q_tn, true_and, and_true, not_true_eq_false, not_false_eq_true, ite_true, ite_false, ↓reduceIte, true_or, or_true, and_self, ne_eq, q_or1, q_or2, Nat.add_eq_zero_iff, and_false, false_and, List.length_cons, List.length_nil, reduceCtorEq, q_toI, Nat.zero_add, Nat.le_refl, q_c0, q_c1, q_c2, q_c4, q_c9, q_c12, q_c30, q_c99, q_c100, q_c126, q_c32, q_c359, q_c999, d1, d2, d3, d4, d5, d6, d7, q_upn]
  rfl
theorem c_full {g : q_G} (hD : q_DelB E d) {q : Nat} (hq : q ≤ 8) (h0 : g d 0 = nI q) {Q : Option Value → q_E → q_G → Prop} : q_X 7 0 [.ref d] [] E g Q = Q (some (.int (q_b (decide (q = 8))))) E g := by
  by_cases c : q = 8
  · subst c
    simp (disch := omega) only [x7_0, x7_1, x7_4, x7_6, x7_9, x7_10, x7_13, x7_14, nI_add, pk_mul, q_cl31, q_vin, q_le, q_lt, q_eqn, q_b_0, q_b_t, q_b_f, q_nz, q_nz1, q_nz0, q_tl, q_tn, true_and, and_true, not_true_eq_false, not_false_eq_true, ite_true, ite_false, ↓reduceIte, true_or, or_true, and_self, ne_eq, q_or1, q_or2, Nat.add_eq_zero_iff, and_false, false_and, List.length_cons, List.length_nil, reduceCtorEq, q_toI, Nat.zero_add, Nat.le_refl, q_c0, q_c1, q_c2, q_c4, q_c9, q_c12, q_c30, q_c99, q_c100, q_c126, q_c32, q_c359, q_c999, hD.1, h0]
    rfl
  · simp (disch := omega) only [x7_0, x7_1, x7_4, x7_6, x7_9, x7_10, x7_13, x7_14, nI_add, pk_mul, q_cl31, q_vin, q_le, q_lt, q_eqn, q_b_0, q_b_t, q_b_f, q_nz, q_nz1, q_nz0, q_tl, q_tn, true_and, and_true, not_true_eq_false, not_false_eq_true, ite_true, ite_false, ↓reduceIte, true_or, or_true, and_self, ne_eq, q_or1, q_or2, Nat.add_eq_zero_iff, and_false, false_and, List.length_cons, List.length_nil, reduceCtorEq, q_toI, Nat.zero_add, Nat.le_refl, q_c0, q_c1, q_c2, q_c4, q_c9, q_c12, q_c30, q_c99, q_c100, q_c126, q_c32, q_c359, q_c999, hD.1, h0, show (q < 8) = True from eq_true (by omega)]
    rw [decide_eq_false c]
    rfl
theorem c_addl (hD : q_DelB E d) {q : Nat} (hq : q < 8) (v a y : Int32) {g : q_G} : ∀ p (g1 : q_G), p ≤ q → q_Dut d g g1 → g1 d 0 = nI q → (∀ i, i < p → q_t3 g1 d i = q_t3 g d i) → (∀ i, p < i → i ≤ q → q_t3 g1 d i = q_t3 g d (i - 1)) → (∀ i, p ≤ i → i < q → y < (q_t3 g d i).2.2) →
    ∃ g' : q_G, (∀ Q : Option Value → q_E → q_G → Prop, q_X 22 14 [.ref d, .int v, .int a, .int y, .int (nI p)] [] E g1 Q = Q none E g') ∧ q_Dut d g g' ∧ g' d 0 = nI (q + 1) ∧ ∃ c, c ≤ q ∧ (∀ i, i ≤ q → q_t3 g' d i = if i < c then q_t3 g d i else if i = c then (v, a, y) else q_t3 g d (i - 1)) ∧ (c = 0 ∨ (q_t3 g d (c - 1)).2.2 ≤ y) ∧ (∀ i, c ≤ i → i < q → y < (q_t3 g d i).2.2) := by
  obtain ⟨d1, d2, d3, d4, d5, d6, d7⟩ := id hD
  have fin : ∀ p (g1 : q_G), p ≤ q → q_Dut d g g1 → g1 d 0 = nI q → (∀ i, i < p → q_t3 g1 d i = q_t3 g d i) → (∀ i, p < i → i ≤ q → q_t3 g1 d i = q_t3 g d (i - 1)) → (∀ i, p ≤ i → i < q → y < (q_t3 g d i).2.2) → (p = 0 ∨ (q_t3 g d (p - 1)).2.2 ≤ y) →
      ∃ g' : q_G, (∀ Q : Option Value → q_E → q_G → Prop, q_X 22 48 [.ref d, .int v, .int a, .int y, .int (nI p)] [] E g1 Q = Q none E g') ∧ q_Dut d g g' ∧ g' d 0 = nI (q + 1) ∧ ∃ c, c ≤ q ∧ (∀ i, i ≤ q → q_t3 g' d i = if i < c then q_t3 g d i else if i = c then (v, a, y) else q_t3 g d (i - 1)) ∧ (c = 0 ∨ (q_t3 g d (c - 1)).2.2 ≤ y) ∧ (∀ i, c ≤ i → i < q → y < (q_t3 g d i).2.2) := by
    intro p g1 hp hO h0 ha hb hc hz
    refine ⟨q_up (q_up (q_up (q_up g1 (d + 1) p v) (d + 2) p a) (d + 3) p y) d 0 (nI (q + 1)), fun Q => ?_, fun c c1 c2 c3 c4 => ?_, q_upe rfl rfl, p, hp, fun i hi => ?_, hz, hc⟩
    · simp (disch := omega) only [x22_0, x22_1, x22_4, x22_7, x22_8, x22_9, x22_12, x22_14, x22_16, x22_19, x22_20, x22_23, x22_25, x22_26, x22_27, x22_28, x22_29, x22_32, x22_33, x22_35, x22_36, x22_37, x22_39, x22_42, x22_48, x22_49, x22_52, x22_54, x22_55, x22_56, x22_57, x22_60, x22_62, x22_63, x22_64, x22_65, x22_68, x22_70, x22_71, x22_72, x22_73, x22_74, x22_77, x22_78, x22_79, x22_82, nI_add, pk_mul, q_cl31, q_vin, q_le, q_lt, q_eqn, q_b_0, q_b_t, q_b_f, q_nz, q_nz1, q_nz0, q_tl, q_tn, true_and, and_true, not_true_eq_false, not_false_eq_true, ite_true, ite_false, ↓reduceIte, true_or, or_true, and_self, ne_eq, q_or1, q_or2, Nat.add_eq_zero_iff, and_false, false_and, List.length_cons, List.length_nil, reduceCtorEq, q_toI, Nat.zero_add, Nat.le_refl, q_c0, q_c1, q_c2, q_c4, q_c9, q_c12, q_c30, q_c99, q_c100, q_c126, q_c32, q_c359, q_c999, d1, d2, d3, d4, d5, d6, d7, q_upn, h0]
    · rw [q_upf c1, q_upf c4, q_upf c3, q_upf c2]; exact hO c c1 c2 c3 c4
    · have : q_t3 (q_up (q_up (q_up (q_up g1 (d + 1) p v) (d + 2) p a) (d + 3) p y) d 0 (nI (q + 1))) d i = if i = p then (v, a, y) else q_t3 g1 d i := by
        unfold q_t3
        rw [q_upf (show ¬ d + 1 = d by omega), q_upf (show ¬ d + 2 = d by omega), q_upf (show ¬ d + 3 = d by omega), q_upf (show ¬ d + 1 = d + 3 by omega), q_upf (show ¬ d + 1 = d + 2 by omega), q_upf (show ¬ d + 2 = d + 3 by omega), q_ups, q_ups, q_ups, q_upf (show ¬ d + 2 = d + 1 by omega), q_upf (show ¬ d + 3 = d + 2 by omega), q_upf (show ¬ d + 3 = d + 1 by omega)]
        by_cases h : i = p <;> simp [h]
      rw [this]
      by_cases h1 : i < p
      · rw [if_neg (by omega), if_pos h1, ha i h1]
      · by_cases h2 : i = p
        · rw [if_pos h2, if_neg h1, if_pos h2]
        · rw [if_neg h2, if_neg h1, if_neg h2, hb i (by omega) hi]
  intro p
  induction p with
  | zero =>
    intro g1 hp hO h0 ha hb hc
    obtain ⟨g', i1, i2⟩ := fin 0 g1 hp hO h0 ha hb hc (Or.inl rfl)
    refine ⟨g', fun Q => ?_, i2⟩
    rw [← i1 Q]
    conv => lhs; simp (disch := omega) only [x22_14, x22_16, nI_add, pk_mul, q_cl31, q_vin, q_le, q_lt, q_eqn, q_b_0, q_b_t, q_b_f, q_nz, q_nz1, q_nz0, q_tl, q_tn, true_and, and_true, not_true_eq_false, not_false_eq_true, ite_true, ite_false, ↓reduceIte, true_or, or_true, and_self, ne_eq, q_or1, q_or2, Nat.add_eq_zero_iff, and_false, false_and, List.length_cons, List.length_nil, reduceCtorEq, q_toI, Nat.zero_add, Nat.le_refl, q_c0, q_c1, q_c2, q_c4, q_c9, q_c12, q_c30, q_c99, q_c100, q_c126, q_c32, q_c359, q_c999]
  | succ p ih =>
    intro g1 hp hO h0 ha hb hc
    have e3 : g1 (d + 3) p = (q_t3 g d p).2.2 := congrArg (fun t => t.2.2) (ha p (by omega))
    by_cases c : (q_t3 g d p).2.2 ≤ y
    · obtain ⟨g', i1, i2⟩ := fin (p + 1) g1 hp hO h0 ha hb hc (Or.inr c)
      refine ⟨g', fun Q => ?_, i2⟩
      rw [← i1 Q]
      conv => lhs; simp (disch := omega) only [x22_14, x22_16, x22_19, x22_20, x22_23, x22_25, x22_26, x22_27, x22_28, x22_29, nI_add, pk_mul, q_cl31, q_vin, q_le, q_lt, q_eqn, q_b_0, q_b_t, q_b_f, q_nz, q_nz1, q_nz0, q_tl, q_tn, true_and, and_true, not_true_eq_false, not_false_eq_true, ite_true, ite_false, ↓reduceIte, true_or, or_true, and_self, ne_eq, q_or1, q_or2, Nat.add_eq_zero_iff, and_false, false_and, List.length_cons, List.length_nil, reduceCtorEq, q_toI, Nat.zero_add, Nat.le_refl, q_c0, q_c1, q_c2, q_c4, q_c9, q_c12, q_c30, q_c99, q_c100, q_c126, q_c32, q_c359, q_c999, d1, d4, d7, e3, c, pk_sub, Nat.add_sub_cancel, show (p + 1 ≤ 0) = False from eq_false (by omega)]
    · obtain ⟨m1, m2⟩ := q_mv_d g1 d p (p + 1)
      obtain ⟨g', i1, i2⟩ := ih (q_mv g1 d p (p + 1)) (by omega) (q_Dut_t hO m1) (by rw [m2]; exact h0) (fun i hi => by rw [q_mv_t, if_neg (by omega)]; exact ha i (by omega)) (fun i h1 h2 => by
        rw [q_mv_t]
        by_cases h3 : i = p + 1
        · rw [if_pos h3, ha p (by omega), h3]; rfl
        · rw [if_neg h3]; exact hb i (by omega) h2) (fun i h1 h2 => by
        by_cases h3 : i = p
        · subst h3; exact Int32.not_le.mp c
        · exact hc i (by omega) h2)
      refine ⟨g', fun Q => ?_, i2⟩
      rw [← i1 Q]
      conv => lhs; simp (disch := omega) only [x22_14, x22_16, x22_19, x22_20, x22_23, x22_25, x22_26, x22_27, x22_28, x22_29, x22_32, x22_33, x22_35, x22_36, x22_37, x22_39, x22_42, nI_add, pk_mul, q_cl31, q_vin, q_le, q_lt, q_eqn, q_b_0, q_b_t, q_b_f, q_nz, q_nz1, q_nz0, q_tl, q_tn, true_and, and_true, not_true_eq_false, not_false_eq_true, ite_true, ite_false, ↓reduceIte, true_or, or_true, and_self, ne_eq, q_or1, q_or2, Nat.add_eq_zero_iff, and_false, false_and, List.length_cons, List.length_nil, reduceCtorEq, q_toI, Nat.zero_add, Nat.le_refl, q_c0, q_c1, q_c2, q_c4, q_c9, q_c12, q_c30, q_c99, q_c100, q_c126, q_c32, q_c359, q_c999, d1, d4, d7, e3, c, pk_sub, pk_m1, Nat.add_sub_cancel, c_move hD, show (p + 1 ≤ 0) = False from eq_false (by omega)]
      simp only [x22_45]
theorem c_add {g : q_G} (hD : q_DelB E d) {q : Nat} (hq : q < 8) (h0 : g d 0 = nI q) (hs : q_sd (q_ol g d q)) (v a y : Int32) : ∃ g' : q_G, (∀ Q : Option Value → q_E → q_G → Prop, q_X 22 0 [.ref d, .int v, .int a, .int y, .null] [] E g Q = Q none E g') ∧ q_Dut d g g' ∧ g' d 0 = nI (q + 1) ∧ q_ol g' d (q + 1) = q_ins (v, a, y) (q_ol g d q) := by
  obtain ⟨d1, d2, d3, d4, d5, d6, d7⟩ := id hD
  obtain ⟨g', i1, i2, i3, c, c1, c2, c3, c4⟩ := c_addl hD hq v a y q g (Nat.le_refl _) (fun _ _ _ _ _ => rfl) h0 (fun _ _ => rfl) (fun i h1 h2 => by omega) (fun i h1 h2 => by omega)
  refine ⟨g', fun Q => ?_, i2, i3, q_ol_e (by rw [q_ins_len, q_ol_len]) fun i hi => ?_⟩
  · rw [← i1 Q]
    have e8 : q_b (decide (q = 8)) = nI 0 := by rw [decide_eq_false (by omega)]; rfl
    have cf := fun Q => c_full (Q := Q) (E := E) (g := g) hD (show q ≤ 8 by omega) h0
    rw [e8] at cf
    simp (disch := omega) only [x22_0, x22_1, x22_4, x22_7, x22_8, x22_9, x22_12, nI_add, pk_mul, q_cl31, q_vin, q_le, q_lt, q_eqn, q_b_0, q_b_t, q_b_f, q_nz, q_nz1, q_nz0, q_tl, q_tn, true_and, and_true, not_true_eq_false, not_false_eq_true, ite_true, ite_false, ↓reduceIte, true_or, or_true, and_self, ne_eq, q_or1, q_or2, Nat.add_eq_zero_iff, and_false, false_and, List.length_cons, List.length_nil, reduceCtorEq, q_toI, Nat.zero_add, Nat.le_refl, q_c0, q_c1, q_c2, q_c4, q_c9, q_c12, q_c30, q_c99, q_c100, q_c126, q_c32, q_c359, q_c999, d1, h0, cf]
  · have cle : ∀ i, i < q → ((q_t3 g d i).2.2 ≤ y ↔ i < q_cle y (q_ol g d q)) := by
      intro i hi
      have := q_cle_i (d := y) hs i (by rw [q_ol_len]; exact hi)
      rw [q_ol_get hi] at this
      exact this
    have hle : q_cle y (q_ol g d q) ≤ q := by
      have := List.length_filter_le (fun u : q_T => decide (u.2.2 ≤ y)) (q_ol g d q)
      rw [q_ol_len] at this
      exact this
    have hc : q_cle y (q_ol g d q) = c := by
      have a1 : c ≤ q_cle y (q_ol g d q) := by
        rcases c3 with h | h
        · omega
        · rcases Nat.eq_zero_or_pos c with h0 | h0
          · omega
          · have := (cle (c - 1) (by omega)).mp h
            omega
      have a2 : ¬ c < q_cle y (q_ol g d q) := by
        intro h
        have h2 := (cle c (by omega)).mpr h
        exact Int32.not_le.mpr (c4 c (Nat.le_refl _) (by omega)) h2
      omega
    rw [c2 i (by omega), q_ins_get hs]
    show _ = if i < q_cle y (q_ol g d q) then _ else if i = q_cle y (q_ol g d q) then _ else _
    rw [hc]
    by_cases h1 : i < c
    · rw [if_pos h1, if_pos h1, q_ol_get (by omega)]; rfl
    · rw [if_neg h1, if_neg h1]
      by_cases h2 : i = c
      · rw [if_pos h2, if_pos h2]
      · rw [if_neg h2, if_neg h2, q_ol_get (by omega)]; rfl
theorem c_remove {g : q_G} (hD : q_DelB E d) {n : Nat} (hn : n < 8) (h0 : g d 0 = nI (n + 1)) : ∃ g' : q_G, (∀ Q : Option Value → q_E → q_G → Prop, q_X 24 0 [.ref d, .null] [] E g Q = Q none E g') ∧ q_Dut d g g' ∧ g' d 0 = nI n ∧ ∀ i, i < n → q_t3 g' d i = q_t3 g d (i + 1) := by
  obtain ⟨d1, d2, d3, d4, d5, d6, d7⟩ := id hD
  have main : ∀ r j (g1 : q_G), j + r = n → q_Dut d g g1 → g1 d 0 = nI (n + 1) → (∀ i, i < j → q_t3 g1 d i = q_t3 g d (i + 1)) → (∀ i, j ≤ i → q_t3 g1 d i = q_t3 g d i) → ∃ g' : q_G, (∀ Q : Option Value → q_E → q_G → Prop, q_X 24 2 [.ref d, .int (nI (j + 1))] [] E g1 Q = Q none E g') ∧ q_Dut d g g' ∧ g' d 0 = nI n ∧ ∀ i, i < n → q_t3 g' d i = q_t3 g d (i + 1) := by
    intro r
    induction r with
    | zero =>
      intro j g1 hj hO h1 ha hb
      refine ⟨q_up g1 d 0 (nI n), fun Q => ?_, fun c c1 c2 c3 c4 => by rw [q_upf c1]; exact hO c c1 c2 c3 c4, q_upe rfl rfl, fun i hi => ?_⟩
      · have mx : (if 0 < n then nI n else nI 0) = nI n := by
          by_cases c : 0 < n
          · rw [if_pos c]
          · rw [if_neg c, show n = 0 by omega]
        have e : n = j := by omega
        subst e
        simp (disch := omega) only [x24_0, x24_1, x24_2, x24_3, x24_4, x24_7, x24_10, x24_11, x24_12, x24_13, x24_14, x24_15, x24_18, x24_24, x24_25, x24_26, x24_27, x24_30, x24_31, x24_32, x24_35, x24_38, nI_add, pk_mul, q_cl31, q_vin, q_le, q_lt, q_eqn, q_b_0, q_b_t, q_b_f, q_nz, q_nz1, q_nz0, q_tl, q_tn, true_and, and_true, not_true_eq_false, not_false_eq_true, ite_true, ite_false, ↓reduceIte, true_or, or_true, and_self, ne_eq, q_or1, q_or2, Nat.add_eq_zero_iff, and_false, false_and, List.length_cons, List.length_nil, reduceCtorEq, q_toI, Nat.zero_add, Nat.le_refl, q_c0, q_c1, q_c2, q_c4, q_c9, q_c12, q_c30, q_c99, q_c100, q_c126, q_c32, q_c359, q_c999, d1, h1, s_max, pk_sub, Nat.add_sub_cancel]
        rw [mx]
      · have : q_t3 (q_up g1 d 0 (nI n)) d i = q_t3 g1 d i := by
          unfold q_t3
          rw [q_upf (by omega), q_upf (by omega), q_upf (by omega)]
        rw [this]; exact ha i (by omega)
    | succ r ih =>
      intro j g1 hj hO h1 ha hb
      obtain ⟨m1, m2⟩ := q_mv_d g1 d (j + 1) j
      obtain ⟨g', i1, i2⟩ := ih (j + 1) (q_mv g1 d (j + 1) j) (by omega) (q_Dut_t hO m1) (by rw [m2]; exact h1) (fun i hi => by
        rw [q_mv_t]
        by_cases c : i = j
        · rw [if_pos c, hb _ (by omega), c]
        · rw [if_neg c]; exact ha i (by omega)) (fun i hi => by rw [q_mv_t, if_neg (by omega)]; exact hb i (by omega))
      refine ⟨g', fun Q => ?_, i2⟩
      rw [← i1 Q]
      conv => lhs; simp (disch := omega) only [x24_0, x24_1, x24_2, x24_3, x24_4, x24_7, x24_10, x24_11, x24_12, x24_13, x24_14, x24_15, x24_18, x24_24, x24_25, x24_26, x24_27, x24_30, x24_31, x24_32, x24_35, x24_38, nI_add, pk_mul, q_cl31, q_vin, q_le, q_lt, q_eqn, q_b_0, q_b_t, q_b_f, q_nz, q_nz1, q_nz0, q_tl, q_tn, true_and, and_true, not_true_eq_false, not_false_eq_true, ite_true, ite_false, ↓reduceIte, true_or, or_true, and_self, ne_eq, q_or1, q_or2, Nat.add_eq_zero_iff, and_false, false_and, List.length_cons, List.length_nil, reduceCtorEq, q_toI, Nat.zero_add, Nat.le_refl, q_c0, q_c1, q_c2, q_c4, q_c9, q_c12, q_c30, q_c99, q_c100, q_c126, q_c32, q_c359, q_c999, d1, h1, show (n + 1 ≤ j + 1) = False from eq_false (by omega), pk_sub, Nat.add_sub_cancel, c_move hD]
      simp only [x24_21]
  obtain ⟨g', i1, i2⟩ := main n 0 g (by omega) (fun _ _ _ _ _ => rfl) h0 (fun i hi => by omega) (fun _ _ => rfl)
  refine ⟨g', fun Q => ?_, i2⟩
  rw [← i1 Q]
  simp (disch := omega) only [x24_0, x24_1, nI_add, pk_mul, q_cl31, q_vin, q_le, q_lt, q_eqn, q_b_0, q_b_t, q_b_f, q_nz, q_nz1, q_nz0, q_tl, q_tn, true_and, and_true, not_true_eq_false, not_false_eq_true, ite_true, ite_false, ↓reduceIte, true_or, or_true, and_self, ne_eq, q_or1, q_or2, Nat.add_eq_zero_iff, and_false, false_and, List.length_cons, List.length_nil, reduceCtorEq, q_toI, Nat.zero_add, Nat.le_refl, q_c0, q_c1, q_c2, q_c4, q_c9, q_c12, q_c30, q_c99, q_c100, q_c126, q_c32, q_c359, q_c999]
end
