/-! the text: what its orders are -/
def q_sg (t : Nat → Int32) (n i : Nat) : Int32 := if i < n then t i else nI 0
def q_dg (t : Nat → Int32) (n i : Nat) : Bool := q_ir 48 57 (q_sg t n i)
/-- how many digits the number at p has, up to three -/
def q_nl (t : Nat → Int32) (n p : Nat) : Nat := if q_dg t n p = true then (if q_dg t n (p + 1) = true then (if q_dg t n (p + 2) = true then 3 else 2) else 1) else 0
def q_nv (t : Nat → Int32) (n p : Nat) : Nat → Int32
  | 0 => nI 0
  | k + 1 => q_nv t n p k * nI 10 + (q_sg t n (p + k) - nI 48)
def q_nmb (t : Nat → Int32) (n p : Nat) : Int32 := q_nv t n p (q_nl t n p)
theorem q_nl_le (t : Nat → Int32) (n p : Nat) : q_nl t n p ≤ 3 := by unfold q_nl; split <;> (try split) <;> (try split) <;> omega
theorem q_up_id {g : q_G} {a i : Nat} {v : Int32} (h : g a i = v) : q_up g a i v = g := by
  funext b j
  by_cases h1 : b = a
  · by_cases h2 : j = i
    · rw [q_upe h1 h2, h1, h2, h]
    · rw [q_upm h2]
  · rw [q_upn h1]
theorem q_t10 (v s : Int32) : nI 10 * v + s - nI 48 = v * nI 10 + (s - nI 48) := by grind
theorem q_c48 : ((48 : Nat) : Int) = 48 := rfl
theorem q_c57 : ((57 : Nat) : Int) = 57 := rfl
/-- how many numbers an order has -/
def q_pt (x : Int32) : Nat := if x = nI 118 ∨ x = nI 108 then 3 else if x = nI 111 then 2 else if x = nI 115 ∨ x = nI 100 then 1 else 0
/-- after the numbers before: whether the rest of an order with m more numbers is well formed, and where it ends or breaks off -/
def q_rmo (t : Nat → Int32) (n : Nat) : Nat → Nat → Bool × Nat
  | 0, p => (false, p)
  | m + 1, p => if q_nl t n p = 0 then (false, p) else if q_sg t n (p + q_nl t n p) = (if m = 0 then nI 59 else nI 44) then (if m = 0 then (true, p + q_nl t n p + 1) else q_rmo t n m (p + q_nl t n p + 1)) else (false, p + q_nl t n p)
def q_ro (t : Nat → Int32) (n p : Nat) : Bool × Nat := if q_pt (q_sg t n p) = 0 then (false, p) else q_rmo t n (q_pt (q_sg t n p)) (p + 1)
/-- where the numbers of the order at p stand -/
def q_nx (t : Nat → Int32) (n p : Nat) : Nat := p + q_nl t n p + 1
section
variable {E : q_E} {g : q_G} {Q : Option Value → q_E → q_G → Prop}
theorem s_sign (hM : q_ModB E) {n p : Nat} (hn : n ≤ 60) (hp : p ≤ 200) (h3 : g 146 3 = nI n) (h6 : g 146 6 = nI p) : q_X 38 0 [.ref 146] [] E g Q = Q (some (.int (q_sg (g 148) n p))) E g := by
  unfold q_sg
  by_cases c : p < n
  · simp (disch := omega) only [x38_0, x38_1, x38_4, x38_5, x38_8, x38_11, x38_12, x38_15, x38_16, x38_19, x38_20, x38_23, x38_24, nI_add, pk_mul, q_cl31, q_vin, q_le, q_lt, q_eqn, q_b_0, q_b_t, q_b_f, q_nz, q_nz1, q_nz0, q_tl, q_tn, true_and, and_true, not_true_eq_false, not_false_eq_true, ite_true, ite_false, ↓reduceIte, true_or, or_true, and_self, ne_eq, q_or1, q_or2, Nat.add_eq_zero_iff, and_false, false_and, List.length_cons, List.length_nil, reduceCtorEq, q_toI, Nat.zero_add, Nat.le_refl, q_c0, q_c1, q_c2, q_c4, q_c9, q_c12, q_c30, q_c99, q_c100, q_c126, q_c32, q_c359, q_c999, hM.1, hM.2.1, hM.2.2.1, hM.2.2.2.1, hM.2.2.2.2.1, hM.2.2.2.2.2.1, hM.2.2.2.2.2.2, h3, h6, c, show (n ≤ p) = False from eq_false (by omega)]
  · simp (disch := omega) only [x38_0, x38_1, x38_4, x38_5, x38_8, x38_11, x38_12, x38_15, x38_16, x38_19, x38_20, x38_23, x38_24, nI_add, pk_mul, q_cl31, q_vin, q_le, q_lt, q_eqn, q_b_0, q_b_t, q_b_f, q_nz, q_nz1, q_nz0, q_tl, q_tn, true_and, and_true, not_true_eq_false, not_false_eq_true, ite_true, ite_false, ↓reduceIte, true_or, or_true, and_self, ne_eq, q_or1, q_or2, Nat.add_eq_zero_iff, and_false, false_and, List.length_cons, List.length_nil, reduceCtorEq, q_toI, Nat.zero_add, Nat.le_refl, q_c0, q_c1, q_c2, q_c4, q_c9, q_c12, q_c30, q_c99, q_c100, q_c126, q_c32, q_c359, q_c999, hM.1, hM.2.1, hM.2.2.1, hM.2.2.2.1, hM.2.2.2.2.1, hM.2.2.2.2.2.1, hM.2.2.2.2.2.2, h3, h6, c, show (n ≤ p) = True from eq_true (by omega)]
theorem s_takes (hM : q_ModB E) {n p : Nat} (hn : n ≤ 60) (hp : p ≤ 200) (h3 : g 146 3 = nI n) (h6 : g 146 6 = nI p) (x : Int32) : q_X 80 0 [.ref 146, .int x] [] E g Q = if q_sg (g 148) n p = x then Q (some (.int (nI 1))) E (q_up g 146 6 (nI (p + 1))) else Q (some (.int (nI 0))) E g := by
  by_cases c : q_sg (g 148) n p = x
  · simp (disch := omega) only [x80_0, x80_1, x80_4, x80_5, x80_8, x80_9, x80_10, x80_11, x80_12, x80_15, x80_16, x80_17, x80_20, x80_21, nI_add, pk_mul, q_cl31, q_vin, q_le, q_lt, q_eqn, q_b_0, q_b_t, q_b_f, q_nz, q_nz1, q_nz0, q_tl, q_tn, true_and, and_true, not_true_eq_false, not_false_eq_true, ite_true, ite_false, ↓reduceIte, true_or, or_true, and_self, ne_eq, q_or1, q_or2, Nat.add_eq_zero_iff, and_false, false_and, List.length_cons, List.length_nil, reduceCtorEq, q_toI, Nat.zero_add, Nat.le_refl, q_c0, q_c1, q_c2, q_c4, q_c9, q_c12, q_c30, q_c99, q_c100, q_c126, q_c32, q_c359, q_c999, hM.1, hM.2.1, hM.2.2.1, hM.2.2.2.1, hM.2.2.2.2.1, hM.2.2.2.2.2.1, hM.2.2.2.2.2.2, s_sign hM hn hp h3 h6, c, h6]
  · simp (disch := omega) only [x80_0, x80_1, x80_4, x80_5, x80_8, x80_9, x80_10, x80_11, x80_12, x80_15, x80_16, x80_17, x80_20, x80_21, nI_add, pk_mul, q_cl31, q_vin, q_le, q_lt, q_eqn, q_b_0, q_b_t, q_b_f, q_nz, q_nz1, q_nz0, q_tl, q_tn, true_and, and_true, not_true_eq_false, not_false_eq_true, ite_true, ite_false, ↓reduceIte, true_or, or_true, and_self, ne_eq, q_or1, q_or2, Nat.add_eq_zero_iff, and_false, false_and, List.length_cons, List.length_nil, reduceCtorEq, q_toI, Nat.zero_add, Nat.le_refl, q_c0, q_c1, q_c2, q_c4, q_c9, q_c12, q_c30, q_c99, q_c100, q_c126, q_c32, q_c359, q_c999, hM.1, hM.2.1, hM.2.2.1, hM.2.2.2.1, hM.2.2.2.2.1, hM.2.2.2.2.2.1, hM.2.2.2.2.2.2, s_sign hM hn hp h3 h6, c]
theorem s_number (hM : q_ModB E) {n p k : Nat} (hn : n ≤ 60) (hp : p ≤ 100) (hk : k < 3) (h3 : g 146 3 = nI n) (h6 : g 146 6 = nI p) : q_X 77 0 [.ref 146, .int (nI k), .null, .null] [] E g Q = Q (some (.int (q_b (decide (0 < q_nl (g 148) n p))))) E (q_up (q_up g 146 6 (nI (p + q_nl (g 148) n p))) 149 k (q_nmb (g 148) n p)) := by
  have e3 : ∀ i, (q_up g 146 6 (nI (p + i))) 146 3 = nI n := fun i => by rw [q_upm (by decide)]; exact h3
  have e6 : ∀ i, (q_up g 146 6 (nI (p + i))) 146 6 = nI (p + i) := fun i => q_upe rfl rfl
  have e8 : ∀ i, (q_up g 146 6 (nI (p + i))) 148 = g 148 := fun i => q_upf (by decide)
  have step : ∀ i, i < 3 → q_dg (g 148) n (p + i) = true → q_X 77 7 [.ref 146, .int (nI k), .int (nI p), .int (q_nv (g 148) n p i)] [] E (q_up g 146 6 (nI (p + i))) Q = q_X 77 7 [.ref 146, .int (nI k), .int (nI p), .int (q_nv (g 148) n p (i + 1))] [] E (q_up g 146 6 (nI (p + (i + 1)))) Q := by
    intro i hi hd
    unfold q_dg at hd
    conv => lhs; simp (disch := omega) only [x77_0, x77_1, x77_4, x77_5, x77_6, x77_7, x77_8, x77_11, x77_12, x77_13, x77_14, x77_17, x77_18, x77_21, x77_23, x77_25, x77_28, x77_31, x77_33, x77_34, x77_35, x77_36, x77_39, x77_40, x77_42, x77_43, x77_44, x77_45, x77_46, x77_49, x77_50, x77_51, x77_57, x77_58, x77_61, x77_62, x77_63, x77_64, x77_65, x77_68, x77_69, x77_72, x77_73, x77_76, x77_77, nI_add, pk_mul, q_cl31, q_vin, q_le, q_lt, q_eqn, q_b_0, q_b_t, q_b_f, q_nz, q_nz1, q_nz0, q_tl, q_tn, true_and, and_true, not_true_eq_false, not_false_eq_true, ite_true, ite_false, ↓reduceIte, true_or, or_true, and_self, ne_eq, q_or1, q_or2, Nat.add_eq_zero_iff, and_false, false_and, List.length_cons, List.length_nil, reduceCtorEq, q_toI, Nat.zero_add, Nat.le_refl, q_c0, q_c1, q_c2, q_c4, q_c9, q_c12, q_c30, q_c99, q_c100, q_c126, q_c32, q_c359, q_c999, hM.1, hM.2.1, hM.2.2.1, hM.2.2.2.1, hM.2.2.2.2.1, hM.2.2.2.2.2.1, hM.2.2.2.2.2.2, s_in, q_c48, q_c57, s_sign hM hn (show p + i ≤ 200 by omega) (e3 i) (e6 i), e6, e8, hd, q_upu, q_t10, show (p + 3 ≤ p + i) = False from eq_false (by omega)]
    simp only [x77_54]
    rfl
  have stop : ∀ i, i ≤ 3 → (i = 3 ∨ q_dg (g 148) n (p + i) = false) → q_X 77 7 [.ref 146, .int (nI k), .int (nI p), .int (q_nv (g 148) n p i)] [] E (q_up g 146 6 (nI (p + i))) Q = Q (some (.int (q_b (decide (0 < i))))) E (q_up (q_up g 146 6 (nI (p + i))) 149 k (q_nv (g 148) n p i)) := by
    intro i hi hd
    have a6 : (q_up (q_up g 146 6 (nI (p + i))) 149 k (q_nv (g 148) n p i)) 146 6 = nI (p + i) := by rw [q_upn (by decide)]; exact e6 i
    have fin : q_X 77 57 [.ref 146, .int (nI k), .int (nI p), .int (q_nv (g 148) n p i)] [] E (q_up g 146 6 (nI (p + i))) Q = Q (some (.int (q_b (decide (0 < i))))) E (q_up (q_up g 146 6 (nI (p + i))) 149 k (q_nv (g 148) n p i)) := by
      by_cases z : i = 0
      · subst z
        simp (disch := omega) only [x77_0, x77_1, x77_4, x77_5, x77_6, x77_7, x77_8, x77_11, x77_12, x77_13, x77_14, x77_17, x77_18, x77_21, x77_23, x77_25, x77_28, x77_31, x77_33, x77_34, x77_35, x77_36, x77_39, x77_40, x77_42, x77_43, x77_44, x77_45, x77_46, x77_49, x77_50, x77_51, x77_57, x77_58, x77_61, x77_62, x77_63, x77_64, x77_65, x77_68, x77_69, x77_72, x77_73, x77_76, x77_77, nI_add, pk_mul, q_cl31, q_vin, q_le, q_lt, q_eqn, q_b_0, q_b_t, q_b_f, q_nz, q_nz1, q_nz0, q_tl, q_tn, true_and, and_true, not_true_eq_false, not_false_eq_true, ite_true, ite_false, ↓reduceIte, true_or, or_true, and_self, ne_eq, q_or1, q_or2, Nat.add_eq_zero_iff, and_false, false_and, List.length_cons, List.length_nil, reduceCtorEq, q_toI, Nat.zero_add, Nat.le_refl, q_c0, q_c1, q_c2, q_c4, q_c9, q_c12, q_c30, q_c99, q_c100, q_c126, q_c32, q_c359, q_c999, hM.1, hM.2.1, hM.2.2.1, hM.2.2.2.1, hM.2.2.2.2.1, hM.2.2.2.2.2.1, hM.2.2.2.2.2.2, a6, show (p + 0 ≤ p) = True from eq_true (by omega)]
        simp [q_b]
      · simp (disch := omega) only [x77_0, x77_1, x77_4, x77_5, x77_6, x77_7, x77_8, x77_11, x77_12, x77_13, x77_14, x77_17, x77_18, x77_21, x77_23, x77_25, x77_28, x77_31, x77_33, x77_34, x77_35, x77_36, x77_39, x77_40, x77_42, x77_43, x77_44, x77_45, x77_46, x77_49, x77_50, x77_51, x77_57, x77_58, x77_61, x77_62, x77_63, x77_64, x77_65, x77_68, x77_69, x77_72, x77_73, x77_76, x77_77, nI_add, pk_mul, q_cl31, q_vin, q_le, q_lt, q_eqn, q_b_0, q_b_t, q_b_f, q_nz, q_nz1, q_nz0, q_tl, q_tn, true_and, and_true, not_true_eq_false, not_false_eq_true, ite_true, ite_false, ↓reduceIte, true_or, or_true, and_self, ne_eq, q_or1, q_or2, Nat.add_eq_zero_iff, and_false, false_and, List.length_cons, List.length_nil, reduceCtorEq, q_toI, Nat.zero_add, Nat.le_refl, q_c0, q_c1, q_c2, q_c4, q_c9, q_c12, q_c30, q_c99, q_c100, q_c126, q_c32, q_c359, q_c999, hM.1, hM.2.1, hM.2.2.1, hM.2.2.2.1, hM.2.2.2.2.1, hM.2.2.2.2.2.1, hM.2.2.2.2.2.2, a6, show (p + i ≤ p) = False from eq_false (by omega)]
        simp [q_b, show 0 < i by omega]
    rw [← fin]
    rcases hd with rfl | hd
    · simp (disch := omega) only [x77_7, x77_8, x77_11, x77_12, x77_13, x77_14, nI_add, pk_mul, q_cl31, q_vin, q_le, q_lt, q_eqn, q_b_0, q_b_t, q_b_f, q_nz, q_nz1, q_nz0, q_tl, q_tn, true_and, and_true, not_true_eq_false, not_false_eq_true, ite_true, ite_false, ↓reduceIte, true_or, or_true, and_self, ne_eq, q_or1, q_or2, Nat.add_eq_zero_iff, and_false, false_and, List.length_cons, List.length_nil, reduceCtorEq, q_toI, Nat.zero_add, Nat.le_refl, q_c0, q_c1, q_c2, q_c4, q_c9, q_c12, q_c30, q_c99, q_c100, q_c126, q_c32, q_c359, q_c999, hM.1, hM.2.1, hM.2.2.1, hM.2.2.2.1, hM.2.2.2.2.1, hM.2.2.2.2.2.1, hM.2.2.2.2.2.2, e6, Nat.le_refl]
    · by_cases z : i = 3
      · subst z
        simp (disch := omega) only [x77_7, x77_8, x77_11, x77_12, x77_13, x77_14, nI_add, pk_mul, q_cl31, q_vin, q_le, q_lt, q_eqn, q_b_0, q_b_t, q_b_f, q_nz, q_nz1, q_nz0, q_tl, q_tn, true_and, and_true, not_true_eq_false, not_false_eq_true, ite_true, ite_false, ↓reduceIte, true_or, or_true, and_self, ne_eq, q_or1, q_or2, Nat.add_eq_zero_iff, and_false, false_and, List.length_cons, List.length_nil, reduceCtorEq, q_toI, Nat.zero_add, Nat.le_refl, q_c0, q_c1, q_c2, q_c4, q_c9, q_c12, q_c30, q_c99, q_c100, q_c126, q_c32, q_c359, q_c999, hM.1, hM.2.1, hM.2.2.1, hM.2.2.2.1, hM.2.2.2.2.1, hM.2.2.2.2.2.1, hM.2.2.2.2.2.2, e6, Nat.le_refl]
      · unfold q_dg at hd
        simp (disch := omega) only [x77_7, x77_8, x77_11, x77_12, x77_13, x77_14, x77_17, x77_18, x77_21, x77_23, x77_25, x77_28, nI_add, pk_mul, q_cl31, q_vin, q_le, q_lt, q_eqn, q_b_0, q_b_t, q_b_f, q_nz, q_nz1, q_nz0, q_tl, q_tn, true_and, and_true, not_true_eq_false, not_false_eq_true, ite_true, ite_false, ↓reduceIte, true_or, or_true, and_self, ne_eq, q_or1, q_or2, Nat.add_eq_zero_iff, and_false, false_and, List.length_cons, List.length_nil, reduceCtorEq, q_toI, Nat.zero_add, Nat.le_refl, q_c0, q_c1, q_c2, q_c4, q_c9, q_c12, q_c30, q_c99, q_c100, q_c126, q_c32, q_c359, q_c999, hM.1, hM.2.1, hM.2.2.1, hM.2.2.2.1, hM.2.2.2.2.1, hM.2.2.2.2.2.1, hM.2.2.2.2.2.2, s_in, q_c48, q_c57, s_sign hM hn (show p + i ≤ 200 by omega) (e3 i) (e6 i), e6, e8, hd, show (p + 3 ≤ p + i) = False from eq_false (by omega)]
  have beg : q_X 77 0 [.ref 146, .int (nI k), .null, .null] [] E g Q = q_X 77 7 [.ref 146, .int (nI k), .int (nI p), .int (q_nv (g 148) n p 0)] [] E (q_up g 146 6 (nI (p + 0))) Q := by
    rw [q_up_id (show g 146 6 = nI (p + 0) from h6)]
    simp (disch := omega) only [x77_0, x77_1, x77_4, x77_5, x77_6, nI_add, pk_mul, q_cl31, q_vin, q_le, q_lt, q_eqn, q_b_0, q_b_t, q_b_f, q_nz, q_nz1, q_nz0, q_tl, q_tn, true_and, and_true, not_true_eq_false, not_false_eq_true, ite_true, ite_false, ↓reduceIte, true_or, or_true, and_self, ne_eq, q_or1, q_or2, Nat.add_eq_zero_iff, and_false, false_and, List.length_cons, List.length_nil, reduceCtorEq, q_toI, Nat.zero_add, Nat.le_refl, q_c0, q_c1, q_c2, q_c4, q_c9, q_c12, q_c30, q_c99, q_c100, q_c126, q_c32, q_c359, q_c999, hM.1, hM.2.1, hM.2.2.1, hM.2.2.2.1, hM.2.2.2.2.1, hM.2.2.2.2.2.1, hM.2.2.2.2.2.2, h6, q_nv]
  rw [beg]
  unfold q_nmb
  cases d0 : q_dg (g 148) n p
  · have l : q_nl (g 148) n p = 0 := by unfold q_nl; rw [d0]; rfl
    rw [l]
    exact stop 0 (by omega) (Or.inr d0)
  · rw [step 0 (by omega) d0]
    cases d1 : q_dg (g 148) n (p + 1)
    · have l : q_nl (g 148) n p = 1 := by unfold q_nl; rw [d0, d1]; rfl
      rw [l]
      exact stop 1 (by omega) (Or.inr d1)
    · rw [step 1 (by omega) d1]
      cases d2 : q_dg (g 148) n (p + 2)
      · have l : q_nl (g 148) n p = 2 := by unfold q_nl; rw [d0, d1, d2]; rfl
        rw [l]
        exact stop 2 (by omega) (Or.inr d2)
      · have l : q_nl (g 148) n p = 3 := by unfold q_nl; rw [d0, d1, d2]; rfl
        rw [step 2 (by omega) d2, l]
        exact stop 3 (by omega) (Or.inl rfl)
end
