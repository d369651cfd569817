def q_onf (f : q_St) (o : Nat) : Bool := q_on (q_dy f % 360) (f (2 * o)).toNatClampNeg (f (2 * o + 1)).toNatClampNeg
def q_occ (f : q_St) (v : Nat) : Nat := (f (11 + 8 * v)).toNatClampNeg
def q_hd (f : q_St) (k : Nat) : Nat := (f (107 + 3 * k)).toNatClampNeg
def q_ph (f : q_St) (v k : Nat) : Bool := decide (f (107 + 3 * k) = nI v) && decide (nI 0 < f (107 + 3 * k + 1))
def q_po (f : q_St) (v k : Nat) : Bool := decide (nI 0 < f (107 + 3 * k + 1)) && decide (f (11 + 8 * q_hd f k) = f (11 + 8 * v))
/-- the slot out of which somebody who wants v takes a card; -1: none -/
def q_sp (f : q_St) (v : Nat) : Int32 := if q_onf f (q_occ f v) = true then
    (if nI 0 ≤ q_fi (q_ph f v) 10 0 then q_fi (q_ph f v) 10 0 else (q_mx (q_po f v) (fun k => q_be f k (nI v)) (-1) (-1) 10).1)
  else -1
/-- how many cards of v the first n orders are -/
def q_owN (f : q_St) (v : Nat) : Nat → Nat
  | 0 => 0
  | n + 1 => q_owN f v n + if f (138 + 3 * n) = nI v then (f (138 + 3 * n + 1)).toNatClampNeg else 0
/-- what is always so of the model's row (its first block) -/
def q_In (f : q_St) : Prop :=
  (q_sz f ≤ 12 ∧ f 10 = nI (q_sz f)) ∧ (q_no f ≤ 8 ∧ f 137 = nI (q_no f)) ∧ (q_dl f ≤ 30 ∧ f 306 = nI (q_dl f)) ∧ (q_dy f ≤ 1999 ∧ f 308 = nI (q_dy f)) ∧
  (∀ o, o < 5 → ∃ a b : Nat, a < 360 ∧ b < 360 ∧ f (2 * o) = nI a ∧ f (2 * o + 1) = nI b) ∧
  (∀ v, v < q_sz f → q_occ f v < 5 ∧ f (11 + 8 * v) = nI (q_occ f v)) ∧
  (∀ v, q_sz f ≤ v → v < 12 → ∀ w, w < 8 → f (11 + 8 * v + w) = nI 0) ∧
  (∀ k, k < 10 → (f (107 + 3 * k) = -1 ∧ f (107 + 3 * k + 1) = nI 0) ∨ (q_hd f k < q_sz f ∧ f (107 + 3 * k) = nI (q_hd f k))) ∧
  (∀ k, k < 10 → ∃ c : Nat, c ≤ 12 ∧ f (107 + 3 * k + 1) = nI c) ∧
  (∀ k, k < q_no f → ∃ v : Nat, v < q_sz f ∧ f (138 + 3 * k) = nI v) ∧
  (∀ k, k < q_no f → ∃ d : Nat, q_dy f < d ∧ d ≤ 2029 ∧ f (138 + 3 * k + 2) = nI d) ∧
  (∀ i j, i < 12 → j < 12 → (j < i ∨ q_sz f ≤ i ∨ q_sz f ≤ j) → f (162 + 12 * i + j) = nI 0) ∧
  (∀ k, k < q_no f → ∃ a : Nat, 1 ≤ a ∧ a ≤ 999 ∧ f (138 + 3 * k + 1) = nI a) ∧
  (∀ v, v < 12 → ∃ s : Nat, f (11 + 8 * v + 3) = nI s ∧ s + q_owN f v (q_no f) ≤ 9999) ∧
  (∃ p : Nat, p ≤ 100 ∧ f 307 = nI p)
theorem q_fi_c (p : Nat → Bool) : ∀ d j, j + d < 2147483648 → q_fi p d j = -1 ∨ ∃ k, j ≤ k ∧ k < j + d ∧ p k = true ∧ q_fi p d j = nI k := by
  intro d
  induction d with
  | zero => intro j _; exact Or.inl rfl
  | succ n ih =>
    intro j hj
    unfold q_fi
    by_cases h : p j = true
    · rw [if_pos h]
      exact Or.inr ⟨j, by omega, by omega, h, rfl⟩
    · rw [if_neg h]
      rcases ih (j + 1) (by omega) with h2 | ⟨k, h3, h4, h5, h6⟩
      · exact Or.inl h2
      · exact Or.inr ⟨k, by omega, by omega, h5, h6⟩
theorem q_mx_ge (p : Nat → Bool) (w : Nat → Int32) (b m : Int32) : ∀ n, m ≤ (q_mx p w b m n).2 := by
  intro n
  induction n with
  | zero => exact Int32.le_refl _
  | succ n ih =>
    unfold q_mx
    by_cases h : p n = true ∧ (q_mx p w b m n).2 < w n
    · rw [if_pos h]
      exact Int32.le_trans ih (Int32.le_of_lt h.2)
    · rw [if_neg h]
      exact ih
theorem q_loop2 {N : Nat} {P : Nat → Value → Value → Prop} (h : ∀ j, j < N → ∀ a b, ∃ a' b', P j a b = P (j + 1) a' b') : ∀ {a b}, ∃ a' b', P 0 a b = P N a' b' := by
  intro a b
  induction N generalizing a b with
  | zero => exact ⟨a, b, rfl⟩
  | succ n ih =>
    obtain ⟨a1, b1, h1⟩ := ih (fun j hj => h j (by omega)) (a := a) (b := b)
    obtain ⟨a2, b2, h2⟩ := h n (by omega) a1 b1
    exact ⟨a2, b2, h1.trans h2⟩
section
variable {E : q_E} {g : q_G} {Q : Option Value → q_E → q_G → Prop}
theorem s_isOnf (hM : q_ModB E) (hI : q_In (g 147)) {o : Nat} (ho : o < 5) : q_X 74 0 [.ref 146, .int (nI o), .null, .null, .null] [] E g Q = Q (some (.int (q_b (q_onf (g 147) o)))) E g := by
  obtain ⟨a, b, ha, hb, h1, h2⟩ := hI.2.2.2.2.1 o ho
  have hd := hI.2.2.2.1
  rw [s_isOn hM.1 hM.2.1 hM.2.2.2.2.1 (d := q_dy (g 147)) (by omega) ha hb ho hd.2 h1 h2]
  unfold q_onf
  rw [h1, h2, nI_clamp (by omega), nI_clamp (by omega)]
theorem s_slotFor (hM : q_ModB E) (hI : q_In (g 147)) {v : Nat} (hv : v < q_sz (g 147)) : q_X 119 0 [.ref 146, .int (nI v), .null, .null, .null, .null, .null] [] E g Q = Q (some (.int (q_sp (g 147) v))) E g := by
  have h12 := hI.1.1
  obtain ⟨o1, o2⟩ := hI.2.2.2.2.2.1 v hv
  have l1 : ∀ L5 L6 L7 : Value, q_X 119 20 [.ref 146, .int (nI v), .int (-1), .int (nI 9), L5, L6, L7] [] E g Q = q_X 119 53 [.ref 146, .int (nI v), .int (q_fi (q_ph (g 147) v) 10 0), .int (-1), L5, L6, L7] [] E g Q := by
    intro L5 L6 L7
    refine (q_loop (N := 10) (P := fun t => q_X 119 20 [.ref 146, .int (nI v), .int (q_fi (q_ph (g 147) v) t (10 - t)), .int (if t < 10 then nI (9 - t) else -1), L5, L6, L7] [] E g Q) (fun t ht => ?_)).trans ?_
    · try dsimp only
      rw [if_pos ht]
      have e1 : (if t + 1 < 10 then nI (9 - (t + 1)) else -1) = nI (9 - t) + (-1) := by
        by_cases h : t + 1 < 10
        · rw [if_pos h, show 9 - t = (9 - (t + 1)) + 1 by omega, pk_m1]
        · rw [if_neg h, show 9 - t = 0 by omega]; decide
      have e2 : q_fi (q_ph (g 147) v) (t + 1) (10 - (t + 1)) = if q_ph (g 147) v (9 - t) = true then nI (9 - t) else q_fi (q_ph (g 147) v) t (10 - t) := by
        show (if q_ph (g 147) v (10 - (t + 1)) = true then _ else q_fi (q_ph (g 147) v) t (10 - (t + 1) + 1)) = _
        rw [show 10 - (t + 1) = 9 - t by omega, show 9 - t + 1 = 10 - t by omega]
      rw [e1, e2]
      have hk : 9 - t < 10 := by omega
      generalize 9 - t = k at *
      conv => lhs; simp (disch := omega) only [x119_0, x119_1, x119_2, x119_3, x119_4, x119_7, x119_10, x119_13, x119_14, x119_15, x119_16, x119_17, x119_19, x119_20, x119_21, x119_24, x119_25, x119_26, x119_29, x119_30, x119_33, x119_34, x119_35, x119_38, x119_41, x119_42, x119_45, x119_46, x119_47, x119_53, x119_54, x119_57, x119_58, x119_59, x119_60, x119_61, x119_62, x119_64, x119_66, x119_68, x119_71, x119_72, x119_74, x119_77, x119_80, x119_81, x119_82, x119_84, x119_87, x119_88, x119_91, x119_92, x119_93, x119_94, x119_97, x119_100, x119_101, x119_104, x119_105, x119_107, x119_109, x119_112, x119_113, x119_115, x119_116, x119_119, x119_122, x119_123, x119_125, x119_127, x119_128, x119_131, x119_133, x119_134, x119_136, x119_137, x119_143, x119_144, nI_add, pk_mul, q_cl31, q_vin, q_le, q_lt, q_eqn, q_b_0, q_b_t, q_b_f, q_nz, q_nz1, q_nz0, q_tl, q_tn, true_and, and_true, not_true_eq_false, not_false_eq_true, ite_true, ite_false, ↓reduceIte, true_or, or_true, and_self, ne_eq, q_or1, q_or2, Nat.add_eq_zero_iff, and_false, false_and, List.length_cons, List.length_nil, reduceCtorEq, q_toI, Nat.zero_add, Nat.le_refl, q_c0, q_c1, q_c2, q_c4, q_c9, q_c12, q_c30, q_c99, q_c100, q_c126, q_c32, q_c359, q_c999, hM.1, hM.2.1, hM.2.2.1, hM.2.2.2.1, hM.2.2.2.2.1, hM.2.2.2.2.2.1, hM.2.2.2.2.2.2, s_held hM, s_cards hM, Nat.not_lt_zero]
      simp only [x119_50, x119_140]
      unfold q_ph
      by_cases x1 : g 147 (107 + 3 * k) = nI v <;> by_cases x2 : nI 0 < g 147 (107 + 3 * k + 1) <;> simp [x1, x2, ← Int32.not_lt]
    · try dsimp only
      rw [if_neg (show ¬ 10 < 10 by decide)]
      conv => lhs; simp (disch := omega) only [x119_20, x119_21, nI_add, pk_mul, q_cl31, q_vin, q_le, q_lt, q_eqn, q_b_0, q_b_t, q_b_f, q_nz, q_nz1, q_nz0, q_tl, q_tn, true_and, and_true, not_true_eq_false, not_false_eq_true, ite_true, ite_false, ↓reduceIte, true_or, or_true, and_self, ne_eq, q_or1, q_or2, Nat.add_eq_zero_iff, and_false, false_and, List.length_cons, List.length_nil, reduceCtorEq, q_toI, Nat.zero_add, Nat.le_refl, q_c0, q_c1, q_c2, q_c4, q_c9, q_c12, q_c30, q_c99, q_c100, q_c126, q_c32, q_c359, q_c999, show ((-1 : Int32) < nI 0) = True from by decide]
  have l2 : ∀ L5 L6 : Value, q_X 119 64 [.ref 146, .int (nI v), .int (-1), .int (-1), .int (nI 0), L5, L6] [] E g Q = Q (some (.int (q_mx (q_po (g 147) v) (fun k => q_be (g 147) k (nI v)) (-1) (-1) 10).1)) E g := by
    intro L5 L6
    have key : ∃ L5' L6', q_X 119 64 [.ref 146, .int (nI v), .int (-1), .int (-1), .int (nI 0), L5, L6] [] E g Q = q_X 119 64 [.ref 146, .int (nI v), .int (q_mx (q_po (g 147) v) (fun k => q_be (g 147) k (nI v)) (-1) (-1) 10).1, .int (q_mx (q_po (g 147) v) (fun k => q_be (g 147) k (nI v)) (-1) (-1) 10).2, .int (nI 10), L5', L6'] [] E g Q := by
      refine q_loop2 (P := fun j L5 L6 => q_X 119 64 [.ref 146, .int (nI v), .int (q_mx (q_po (g 147) v) (fun k => q_be (g 147) k (nI v)) (-1) (-1) j).1, .int (q_mx (q_po (g 147) v) (fun k => q_be (g 147) k (nI v)) (-1) (-1) j).2, .int (nI j), L5, L6] [] E g Q) (fun j hj L5 L6 => ?_)
      try dsimp only
      have hm := q_mx_ge (q_po (g 147) v) (fun k => q_be (g 147) k (nI v)) (-1) (-1) j
      have hmx : q_mx (q_po (g 147) v) (fun k => q_be (g 147) k (nI v)) (-1) (-1) (j + 1) = if q_po (g 147) v j = true ∧ (q_mx (q_po (g 147) v) (fun k => q_be (g 147) k (nI v)) (-1) (-1) j).2 < q_be (g 147) j (nI v) then (nI j, q_be (g 147) j (nI v)) else q_mx (q_po (g 147) v) (fun k => q_be (g 147) k (nI v)) (-1) (-1) j := rfl
      rw [hmx]
      clear hmx
      generalize q_mx (q_po (g 147) v) (fun k => q_be (g 147) k (nI v)) (-1) (-1) j = bm at *
      obtain ⟨b, m⟩ := bm
      dsimp only at hm ⊢
      have hm2 : ¬ m < -1 := by rw [Int32.not_lt]; exact hm
      rcases hI.2.2.2.2.2.2.2.1 j hj with ⟨h1, h2⟩ | ⟨h1, h2⟩
      · have hc : ¬ (q_po (g 147) v j = true ∧ m < q_be (g 147) j (nI v)) := by unfold q_po; simp [h2]
        rw [if_neg hc]
        apply Exists.intro
        apply Exists.intro
        conv => lhs; simp (disch := omega) only [x119_0, x119_1, x119_2, x119_3, x119_4, x119_7, x119_10, x119_13, x119_14, x119_15, x119_16, x119_17, x119_19, x119_20, x119_21, x119_24, x119_25, x119_26, x119_29, x119_30, x119_33, x119_34, x119_35, x119_38, x119_41, x119_42, x119_45, x119_46, x119_47, x119_53, x119_54, x119_57, x119_58, x119_59, x119_60, x119_61, x119_62, x119_64, x119_66, x119_68, x119_71, x119_72, x119_74, x119_77, x119_80, x119_81, x119_82, x119_84, x119_87, x119_88, x119_91, x119_92, x119_93, x119_94, x119_97, x119_100, x119_101, x119_104, x119_105, x119_107, x119_109, x119_112, x119_113, x119_115, x119_116, x119_119, x119_122, x119_123, x119_125, x119_127, x119_128, x119_131, x119_133, x119_134, x119_136, x119_137, x119_143, x119_144, nI_add, pk_mul, q_cl31, q_vin, q_le, q_lt, q_eqn, q_b_0, q_b_t, q_b_f, q_nz, q_nz1, q_nz0, q_tl, q_tn, true_and, and_true, not_true_eq_false, not_false_eq_true, ite_true, ite_false, ↓reduceIte, true_or, or_true, and_self, ne_eq, q_or1, q_or2, Nat.add_eq_zero_iff, and_false, false_and, List.length_cons, List.length_nil, reduceCtorEq, q_toI, Nat.zero_add, Nat.le_refl, q_c0, q_c1, q_c2, q_c4, q_c9, q_c12, q_c30, q_c99, q_c100, q_c126, q_c32, q_c359, q_c999, hM.1, hM.2.1, hM.2.2.1, hM.2.2.2.1, hM.2.2.2.2.1, hM.2.2.2.2.2.1, hM.2.2.2.2.2.2, s_held hM, s_cards hM, h2, hm, hm2, Int32.lt_irrefl, Nat.lt_irrefl, show (10 ≤ j) = False from eq_false (by omega)]
        simp only [x119_50, x119_140]
        exact rfl
      · by_cases x1 : nI 0 < g 147 (107 + 3 * j + 1) <;> by_cases x2 : g 147 (11 + 8 * q_hd (g 147) j) = g 147 (11 + 8 * v) <;> by_cases x3 : m < q_be (g 147) j (nI v)
        all_goals
          simp only [q_po, x1, x2, x3, decide_true, decide_false, Bool.and_true, Bool.and_false, Bool.true_and, Bool.false_and, false_and, true_and, reduceCtorEq, and_true, and_false, and_self, ite_true, ite_false, ↓reduceIte]
          apply Exists.intro
          apply Exists.intro
          conv => lhs; simp (disch := omega) only [x119_0, x119_1, x119_2, x119_3, x119_4, x119_7, x119_10, x119_13, x119_14, x119_15, x119_16, x119_17, x119_19, x119_20, x119_21, x119_24, x119_25, x119_26, x119_29, x119_30, x119_33, x119_34, x119_35, x119_38, x119_41, x119_42, x119_45, x119_46, x119_47, x119_53, x119_54, x119_57, x119_58, x119_59, x119_60, x119_61, x119_62, x119_64, x119_66, x119_68, x119_71, x119_72, x119_74, x119_77, x119_80, x119_81, x119_82, x119_84, x119_87, x119_88, x119_91, x119_92, x119_93, x119_94, x119_97, x119_100, x119_101, x119_104, x119_105, x119_107, x119_109, x119_112, x119_113, x119_115, x119_116, x119_119, x119_122, x119_123, x119_125, x119_127, x119_128, x119_131, x119_133, x119_134, x119_136, x119_137, x119_143, x119_144, nI_add, pk_mul, q_cl31, q_vin, q_le, q_lt, q_eqn, q_b_0, q_b_t, q_b_f, q_nz, q_nz1, q_nz0, q_tl, q_tn, true_and, and_true, not_true_eq_false, not_false_eq_true, ite_true, ite_false, ↓reduceIte, true_or, or_true, and_self, ne_eq, q_or1, q_or2, Nat.add_eq_zero_iff, and_false, false_and, List.length_cons, List.length_nil, reduceCtorEq, q_toI, Nat.zero_add, Nat.le_refl, q_c0, q_c1, q_c2, q_c4, q_c9, q_c12, q_c30, q_c99, q_c100, q_c126, q_c32, q_c359, q_c999, hM.1, hM.2.1, hM.2.2.1, hM.2.2.2.1, hM.2.2.2.2.1, hM.2.2.2.2.2.1, hM.2.2.2.2.2.2, s_held hM, s_cards hM, s_of hM, s_besides hM, Nat.add_zero, h2, hm2, x1, x2, x3, Int32.lt_irrefl, ← Int32.not_lt, hj, show (10 ≤ j) = False from eq_false (by omega)]
          simp only [x119_50, x119_140]
          exact rfl
    obtain ⟨L5', L6', key⟩ := key
    rw [key]
    simp (disch := omega) only [x119_0, x119_1, x119_2, x119_3, x119_4, x119_7, x119_10, x119_13, x119_14, x119_15, x119_16, x119_17, x119_19, x119_20, x119_21, x119_24, x119_25, x119_26, x119_29, x119_30, x119_33, x119_34, x119_35, x119_38, x119_41, x119_42, x119_45, x119_46, x119_47, x119_50, x119_53, x119_54, x119_57, x119_58, x119_59, x119_60, x119_61, x119_62, x119_64, x119_66, x119_68, x119_71, x119_72, x119_74, x119_77, x119_80, x119_81, x119_82, x119_84, x119_87, x119_88, x119_91, x119_92, x119_93, x119_94, x119_97, x119_100, x119_101, x119_104, x119_105, x119_107, x119_109, x119_112, x119_113, x119_115, x119_116, x119_119, x119_122, x119_123, x119_125, x119_127, x119_128, x119_131, x119_133, x119_134, x119_136, x119_137, x119_140, x119_143, x119_144, nI_add, pk_mul, q_cl31, q_vin, q_le, q_lt, q_eqn, q_b_0, q_b_t, q_b_f, q_nz, q_nz1, q_nz0, q_tl, q_tn, true_and, and_true, not_true_eq_false, not_false_eq_true, ite_true, ite_false, ↓reduceIte, true_or, or_true, and_self, ne_eq, q_or1, q_or2, Nat.add_eq_zero_iff, and_false, false_and, List.length_cons, List.length_nil, reduceCtorEq, q_toI, Nat.zero_add, Nat.le_refl, q_c0, q_c1, q_c2, q_c4, q_c9, q_c12, q_c30, q_c99, q_c100, q_c126, q_c32, q_c359, q_c999]
  simp (disch := omega) only [x119_0, x119_1, x119_2, x119_3, x119_4, x119_7, x119_10, x119_13, x119_14, x119_15, x119_16, x119_17, x119_19, x119_20, x119_21, x119_24, x119_25, x119_26, x119_29, x119_30, x119_33, x119_34, x119_35, x119_38, x119_41, x119_42, x119_45, x119_46, x119_47, x119_53, x119_54, x119_57, x119_58, x119_59, x119_60, x119_61, x119_62, x119_66, x119_68, x119_71, x119_72, x119_74, x119_77, x119_80, x119_81, x119_82, x119_84, x119_87, x119_88, x119_91, x119_92, x119_93, x119_94, x119_97, x119_100, x119_101, x119_104, x119_105, x119_107, x119_109, x119_112, x119_113, x119_115, x119_116, x119_119, x119_122, x119_123, x119_125, x119_127, x119_128, x119_131, x119_133, x119_134, x119_136, x119_137, x119_143, x119_144, nI_add, pk_mul, q_cl31, q_vin, q_le, q_lt, q_eqn, q_b_0, q_b_t, q_b_f, q_nz, q_nz1, q_nz0, q_tl, q_tn, true_and, and_true, not_true_eq_false, not_false_eq_true, ite_true, ite_false, ↓reduceIte, true_or, or_true, and_self, ne_eq, q_or1, q_or2, Nat.add_eq_zero_iff, and_false, false_and, List.length_cons, List.length_nil, reduceCtorEq, q_toI, Nat.zero_add, Nat.le_refl, q_c0, q_c1, q_c2, q_c4, q_c9, q_c12, q_c30, q_c99, q_c100, q_c126, q_c32, q_c359, q_c999, hM.1, hM.2.1, hM.2.2.1, hM.2.2.2.1, hM.2.2.2.2.1, hM.2.2.2.2.2.1, hM.2.2.2.2.2.2, s_of hM, o2, s_isOnf hM hI o1, l1, Nat.add_zero]
  unfold q_sp
  cases h1 : q_onf (g 147) (q_occ (g 147) v)
  · simp
  · rcases q_fi_c (q_ph (g 147) v) 10 0 (by omega) with h2 | ⟨k, -, hk, -, h2⟩
    · rw [h2]
      simp (disch := omega) only [nI_add, pk_mul, q_cl31, q_vin, q_le, q_lt, q_eqn, q_b_0, q_b_t, q_b_f, q_nz, q_nz1, q_nz0, q_tl, q_tn, true_and, and_true, not_true_eq_false, not_false_eq_true, ite_true, ite_false, ↓reduceIte, true_or, or_true, and_self, ne_eq, q_or1, q_or2, Nat.add_eq_zero_iff, and_false, false_and, List.length_cons, List.length_nil, reduceCtorEq, q_toI, Nat.zero_add, Nat.le_refl, q_c0, q_c1, q_c2, q_c4, q_c9, q_c12, q_c30, q_c99, q_c100, q_c126, q_c32, q_c359, q_c999, show ((-1 : Int32) < nI 0) = True from by decide, show (nI 0 ≤ (-1 : Int32)) = False from by decide, l2]
    · rw [h2]
      simp (disch := omega) only [nI_add, pk_mul, q_cl31, q_vin, q_le, q_lt, q_eqn, q_b_0, q_b_t, q_b_f, q_nz, q_nz1, q_nz0, q_tl, q_tn, true_and, and_true, not_true_eq_false, not_false_eq_true, ite_true, ite_false, ↓reduceIte, true_or, or_true, and_self, ne_eq, q_or1, q_or2, Nat.add_eq_zero_iff, and_false, false_and, List.length_cons, List.length_nil, reduceCtorEq, q_toI, Nat.zero_add, Nat.le_refl, q_c0, q_c1, q_c2, q_c4, q_c9, q_c12, q_c30, q_c99, q_c100, q_c126, q_c32, q_c359, q_c999, Nat.not_lt_zero, Nat.zero_le]
end
