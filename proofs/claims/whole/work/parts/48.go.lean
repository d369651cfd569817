/-- the order at p of a text, done on f -/
def p_at (t : Nat → Int32) (n p : Nat) (f : q_St) : Int32 × q_St := p_does f (q_sg t n p) (q_nmb t n (p + 1)) (q_nmb t n (q_nx t n (p + 1))) (q_nmb t n (q_nx t n (q_nx t n (p + 1))))
/-- the orders from p on: the fault if there is one (its place, reason, cause), how many were done, and the row -/
def p_go (t : Nat → Int32) (n : Nat) : Nat → Nat → Nat → q_St → Option (Nat × Nat × Int32) × Nat × q_St
  | 0, _, c, f => (none, c, f)
  | k + 1, p, c, f => if p < n then (if (q_ro t n p).1 = true then (if (p_at t n p f).1 < nI 0 then (some (p, 2, (p_at t n p f).1), c, (p_at t n p f).2) else p_go t n k (q_ro t n p).2 (c + 1) (p_at t n p f).2) else (some (p, 1, nI ((q_ro t n p).2 - p)), c, f)) else (none, c, f)
theorem q_aft_cs (t : Nat → Int32) (n d r : Nat) : q_aft t n d r = (false, r) ∨ q_aft t n d r = (true, r + 1) ∨ q_aft t n d r = q_rmo t n d (r + 1) := by
  unfold q_aft
  by_cases d0 : d = 0
  · rw [if_pos d0, if_pos d0]
    split
    · exact Or.inr (Or.inl rfl)
    · exact Or.inl rfl
  · rw [if_neg d0, if_neg d0]
    split
    · exact Or.inr (Or.inr rfl)
    · exact Or.inl rfl
theorem q_aft_ge (t : Nat → Int32) (n : Nat) : ∀ m p, (p ≤ (q_rmo t n m p).2) ∧ ((q_rmo t n m p).1 = true → p < (q_rmo t n m p).2) ∧ (q_rmo t n m p).2 ≤ p + 4 * m := by
  intro m
  induction m with
  | zero => intro p; exact ⟨Nat.le_refl _, fun h => (by cases h), by show p ≤ _; omega⟩
  | succ m ih =>
    intro p
    have l3 := q_nl_le t n p
    rw [q_rmo_s]
    split
    · exact ⟨Nat.le_refl _, fun h => (by cases h), by dsimp only; omega⟩
    · rcases q_aft_cs t n m (p + q_nl t n p) with h | h | h
      · rw [h]; exact ⟨by dsimp only; omega, fun h => (by cases h), by dsimp only; omega⟩
      · rw [h]; exact ⟨by dsimp only; omega, fun _ => by dsimp only; omega, by dsimp only; omega⟩
      · rw [h]
        obtain ⟨a, b, c⟩ := ih (p + q_nl t n p + 1)
        exact ⟨by omega, fun h => by have := b h; omega, by omega⟩
theorem q_pt3 (x : Int32) : q_pt x ≤ 3 := by unfold q_pt; split <;> (try split) <;> (try split) <;> omega
theorem q_ro_ge (t : Nat → Int32) (n p : Nat) : p ≤ (q_ro t n p).2 ∧ ((q_ro t n p).1 = true → p < (q_ro t n p).2) ∧ (q_ro t n p).2 ≤ p + 13 := by
  have h3 := q_pt3 (q_sg t n p)
  unfold q_ro
  split
  · exact ⟨Nat.le_refl _, fun h => (by cases h), by dsimp only; omega⟩
  · obtain ⟨a, b, c⟩ := q_aft_ge t n (q_pt (q_sg t n p)) (p + 1)
    exact ⟨by omega, fun _ => by omega, by omega⟩
/-- what goesOn answers -/
def q_gr (r : Option (Nat × Nat × Int32) × Nat × q_St) : Int32 := match r.1 with
  | none => nI r.2.1
  | some (p, _, _) => -(nI p) - nI 1
theorem q_er_lt {x : Int32} (h : q_Er x) : x < nI 0 := by rcases h with rfl | rfl | rfl <;> decide
theorem q_er_le {x : Int32} (h : q_Er x) : (-1000001 < x) = False := by rcases h with rfl | rfl | rfl <;> decide
theorem q_nI_gt {n : Nat} (h : n < 2147483648) : (-1000001 < nI n) = True := by
  apply eq_true
  rw [Int32.lt_iff_toInt_lt, nI_toInt h]
  show (-1000001 : Int) < n
  omega
theorem q_nI_nlt {n : Nat} (h : n < 2147483648) : ¬ nI n < nI 0 := by rw [q_lt (by omega) (by omega)]; omega
theorem q_pt_ok {t : Nat → Int32} {n p : Nat} {f : q_St} (hI : q_In f) : q_Ok f (p_at t n p f) := p_does_ok hI _ _ _ _
section
variable {E : q_E}
theorem s_goes (hM : q_ModB E) {n : Nat} (hn : n ≤ 60) : ∀ k p c (g : q_G) (L2 L3 L4 : Value), q_In (g 147) → n ≤ p + k → p ≤ 60 + 13 → c ≤ p → g 146 3 = nI n → g 146 6 = nI p → ∃ g' : q_G, (∀ Q : Option Value → q_E → q_G → Prop, q_X 159 7 [.ref 146, .int (nI c), L2, L3, L4] [] E g Q = Q (some (.int (q_gr (p_go (g 148) n k p c (g 147))))) E g') ∧ g' 147 = (p_go (g 148) n k p c (g 147)).2.2 ∧ (∀ b, b ≠ 146 → b ≠ 147 → b ≠ 149 → g' b = g b) ∧ (∀ i, i ≠ 4 → i ≠ 5 → i ≠ 6 → g' 146 i = g 146 i) ∧ (∀ q w x, (p_go (g 148) n k p c (g 147)).1 = some (q, w, x) → g' 146 4 = nI w ∧ g' 146 5 = x) := by
  intro k
  induction k with
  | zero =>
    intro p c g L2 L3 L4 hI hk hp hc h3 h6
    refine ⟨g, fun Q => ?_, rfl, fun _ _ _ _ => rfl, fun _ _ _ _ => rfl, fun q w x h => (by cases h)⟩
    simp (disch := omega) only [x159_0, x159_1, x159_2, x159_5, x159_6, x159_7, x159_8, x159_11, x159_12, x159_15, x159_18, x159_19, x159_22, x159_23, x159_24, x159_27, x159_28, x159_29, x159_30, x159_33, x159_36, x159_37, x159_38, x159_41, x159_42, x159_43, x159_46, x159_47, x159_48, x159_51, x159_52, x159_53, x159_54, x159_55, x159_56, x159_57, x159_58, x159_61, x159_63, x159_65, x159_67, x159_70, x159_71, x159_72, x159_75, x159_76, x159_78, x159_81, x159_82, x159_83, x159_84, x159_85, x159_86, x159_92, x159_93, nI_add, pk_mul, q_cl31, q_vin, q_le, q_lt, q_eqn, q_b_0, q_b_t, q_b_f, q_nz, q_nz1, q_nz0, q_tl, q_tn, true_and, and_true, not_true_eq_false, not_false_eq_true, ite_true, ite_false, ↓reduceIte, true_or, or_true, and_self, ne_eq, q_or1, q_or2, Nat.add_eq_zero_iff, and_false, false_and, List.length_cons, List.length_nil, reduceCtorEq, q_toI, Nat.zero_add, Nat.le_refl, q_c0, q_c1, q_c2, q_c4, q_c9, q_c12, q_c30, q_c99, q_c100, q_c126, q_c32, q_c359, q_c999, hM.1, hM.2.1, hM.2.2.1, hM.2.2.2.1, hM.2.2.2.2.1, hM.2.2.2.2.2.1, hM.2.2.2.2.2.2, h3, h6, show (n ≤ p) = True from eq_true (by omega)]
    rfl
  | succ k ih =>
    intro p c g L2 L3 L4 hI hk hp hc h3 h6
    by_cases hpn : p < n
    · obtain ⟨T, t1, t2⟩ := s_isOrder hM hn (p := p) (by omega) h3 h6
      obtain ⟨e1, e2, e3⟩ := q_ro_ge (g 148) n p
      have go : p_go (g 148) n (k + 1) p c (g 147) = if (q_ro (g 148) n p).1 = true then (if (p_at (g 148) n p (g 147)).1 < nI 0 then (some (p, 2, (p_at (g 148) n p (g 147)).1), c, (p_at (g 148) n p (g 147)).2) else p_go (g 148) n k (q_ro (g 148) n p).2 (c + 1) (p_at (g 148) n p (g 147)).2) else (some (p, 1, nI ((q_ro (g 148) n p).2 - p)), c, g 147) := if_pos hpn
      rw [go]
      have sgQ := fun Q => s_sign (Q := Q) hM hn (show p ≤ 200 by omega) h3 h6
      cases hr : (q_ro (g 148) n p).1
      · simp only [Bool.false_eq_true, ↓reduceIte]
        refine ⟨q_up (q_up (q_up (q_upA g 149 T) 146 6 (nI (q_ro (g 148) n p).2)) 146 4 (nI 1)) 146 5 (nI ((q_ro (g 148) n p).2 - p)), fun Q => ?_, ?_, ?_, ?_, ?_⟩
        · simp (disch := omega) only [x159_0, x159_1, x159_2, x159_5, x159_6, x159_7, x159_8, x159_11, x159_12, x159_15, x159_18, x159_19, x159_22, x159_23, x159_24, x159_27, x159_28, x159_29, x159_30, x159_33, x159_36, x159_37, x159_38, x159_41, x159_42, x159_43, x159_46, x159_47, x159_48, x159_51, x159_52, x159_53, x159_54, x159_55, x159_56, x159_57, x159_58, x159_61, x159_63, x159_65, x159_67, x159_70, x159_71, x159_72, x159_75, x159_76, x159_78, x159_81, x159_82, x159_83, x159_84, x159_85, x159_86, x159_92, x159_93, nI_add, pk_mul, q_cl31, q_vin, q_le, q_lt, q_eqn, q_b_0, q_b_t, q_b_f, q_nz, q_nz1, q_nz0, q_tl, q_tn, true_and, and_true, not_true_eq_false, not_false_eq_true, ite_true, ite_false, ↓reduceIte, true_or, or_true, and_self, ne_eq, q_or1, q_or2, Nat.add_eq_zero_iff, and_false, false_and, List.length_cons, List.length_nil, reduceCtorEq, q_toI, Nat.zero_add, Nat.le_refl, q_c0, q_c1, q_c2, q_c4, q_c9, q_c12, q_c30, q_c99, q_c100, q_c126, q_c32, q_c359, q_c999, hM.1, hM.2.1, hM.2.2.1, hM.2.2.2.1, hM.2.2.2.2.1, hM.2.2.2.2.2.1, hM.2.2.2.2.2.2, h3, h6, sgQ, t1, hr, show (n ≤ p) = False from eq_false (by omega), q_ups, q_upn, q_upm, pk_sub]
          rw [if_neg (by decide), pk_sub e1]
          rfl
        · rw [q_upf (by decide), q_upf (by decide), q_upf (by decide), q_upA_n _ _ (by decide)]
        · intro b b1 b2 b3
          rw [q_upf b1, q_upf b1, q_upf b1, q_upA_n _ _ b3]
        · intro i i1 i2 i3
          rw [q_upm i2, q_upm i1, q_upm i3, q_upA_n _ _ (by decide)]
        · intro q w x hq
          cases hq
          exact ⟨by rw [q_upm (by decide)]; exact q_upe rfl rfl, q_upe rfl rfl⟩
      · simp only [↓reduceIte]
        obtain ⟨t3, t4, t5⟩ := t2 hr
        have h1 : (q_up (q_upA g 149 T) 146 6 (nI (q_ro (g 148) n p).2)) 147 = g 147 := by rw [q_upf (by decide), q_upA_n _ _ (by decide)]
        have h9 : (q_up (q_upA g 149 T) 146 6 (nI (q_ro (g 148) n p).2)) 149 = T := by rw [q_upf (by decide), q_upA_s]
        have dQ := fun Q => s_does (Q := Q) (g := q_up (q_upA g 149 T) 146 6 (nI (q_ro (g 148) n p).2)) hM (by rw [h1]; exact hI) (q_sg (g 148) n p)
        have pa : p_does (g 147) (q_sg (g 148) n p) (T 0) (T 1) (T 2) = p_at (g 148) n p (g 147) := p_does_c t3 t4 t5
        rw [h1, h9, pa] at dQ
        have ok := q_pt_ok (t := g 148) (n := n) (p := p) hI
        have hhi := p_does_hi hI (q_sg (g 148) n p) (q_nmb (g 148) n (p + 1)) (q_nmb (g 148) n (q_nx (g 148) n (p + 1))) (q_nmb (g 148) n (q_nx (g 148) n (q_nx (g 148) n (p + 1))))
        generalize p_at (g 148) n p (g 147) = r at *
        obtain ⟨r1, r2⟩ := r
        dsimp only at dQ ok ⊢
        rcases ok with ⟨ok1, ok2⟩ | ⟨v, v1, ok1, ok2⟩
        · dsimp only at ok1 ok2
          rw [if_pos (q_er_lt ok1)]
          refine ⟨q_up (q_up (q_upA (q_up (q_upA g 149 T) 146 6 (nI (q_ro (g 148) n p).2)) 147 r2) 146 4 (nI 2)) 146 5 r1, fun Q => ?_, ?_, ?_, ?_, ?_⟩
          · simp (disch := omega) only [x159_0, x159_1, x159_2, x159_5, x159_6, x159_7, x159_8, x159_11, x159_12, x159_15, x159_18, x159_19, x159_22, x159_23, x159_24, x159_27, x159_28, x159_29, x159_30, x159_33, x159_36, x159_37, x159_38, x159_41, x159_42, x159_43, x159_46, x159_47, x159_48, x159_51, x159_52, x159_53, x159_54, x159_55, x159_56, x159_57, x159_58, x159_61, x159_63, x159_65, x159_67, x159_70, x159_71, x159_72, x159_75, x159_76, x159_78, x159_81, x159_82, x159_83, x159_84, x159_85, x159_86, x159_92, x159_93, nI_add, pk_mul, q_cl31, q_vin, q_le, q_lt, q_eqn, q_b_0, q_b_t, q_b_f, q_nz, q_nz1, q_nz0, q_tl, q_tn, true_and, and_true, not_true_eq_false, not_false_eq_true, ite_true, ite_false, ↓reduceIte, true_or, or_true, and_self, ne_eq, q_or1, q_or2, Nat.add_eq_zero_iff, and_false, false_and, List.length_cons, List.length_nil, reduceCtorEq, q_toI, Nat.zero_add, Nat.le_refl, q_c0, q_c1, q_c2, q_c4, q_c9, q_c12, q_c30, q_c99, q_c100, q_c126, q_c32, q_c359, q_c999, hM.1, hM.2.1, hM.2.2.1, hM.2.2.2.1, hM.2.2.2.2.1, hM.2.2.2.2.2.1, hM.2.2.2.2.2.2, h3, h6, sgQ, t1, hr, show (n ≤ p) = False from eq_false (by omega), dQ, q_er_le ok1]
            rfl
          · rw [q_upf (by decide), q_upf (by decide), q_upA_s]
          · intro b b1 b2 b3
            rw [q_upf b1, q_upf b1, q_upA_n _ _ b2, q_upf b1, q_upA_n _ _ b3]
          · intro i i1 i2 i3
            rw [q_upm i2, q_upm i1, q_upA_n _ _ (by decide), q_upm i3, q_upA_n _ _ (by decide)]
          · intro q w x hq
            cases hq
            exact ⟨by rw [q_upm (by decide)]; exact q_upe rfl rfl, q_upe rfl rfl⟩
        · dsimp only at ok1 ok2
          subst ok1
          rw [if_neg (q_nI_nlt (by omega))]
          obtain ⟨g', i1, i2, i3, i4, i5⟩ := ih (q_ro (g 148) n p).2 (c + 1) (q_upA (q_up (q_upA g 149 T) 146 6 (nI (q_ro (g 148) n p).2)) 147 r2) (.int (nI p)) (.int (q_sg (g 148) n p)) (.int (nI v)) (by rw [q_upA_s]; exact ok2) (by have := e2 hr; omega) (by omega) (by have := e2 hr; omega) (by rw [q_upA_n _ _ (by decide), q_upm (by decide), q_upA_n _ _ (by decide)]; exact h3) (by rw [q_upA_n _ _ (by decide)]; exact q_upe rfl rfl)
          rw [q_upA_s, q_upA_n _ _ (show ¬ 148 = 147 by decide), q_upf (show ¬ 148 = 146 by decide), q_upA_n _ _ (show ¬ 148 = 149 by decide)] at i1 i2 i5
          refine ⟨g', fun Q => ?_, i2, ?_, ?_, i5⟩
          · rw [← i1 Q]
            conv => lhs; simp (disch := omega) only [x159_0, x159_1, x159_2, x159_5, x159_6, x159_7, x159_8, x159_11, x159_12, x159_15, x159_18, x159_19, x159_22, x159_23, x159_24, x159_27, x159_28, x159_29, x159_30, x159_33, x159_36, x159_37, x159_38, x159_41, x159_42, x159_43, x159_46, x159_47, x159_48, x159_51, x159_52, x159_53, x159_54, x159_55, x159_56, x159_57, x159_58, x159_61, x159_63, x159_65, x159_67, x159_70, x159_71, x159_72, x159_75, x159_76, x159_78, x159_81, x159_82, x159_83, x159_84, x159_85, x159_86, x159_92, x159_93, nI_add, pk_mul, q_cl31, q_vin, q_le, q_lt, q_eqn, q_b_0, q_b_t, q_b_f, q_nz, q_nz1, q_nz0, q_tl, q_tn, true_and, and_true, not_true_eq_false, not_false_eq_true, ite_true, ite_false, ↓reduceIte, true_or, or_true, and_self, ne_eq, q_or1, q_or2, Nat.add_eq_zero_iff, and_false, false_and, List.length_cons, List.length_nil, reduceCtorEq, q_toI, Nat.zero_add, Nat.le_refl, q_c0, q_c1, q_c2, q_c4, q_c9, q_c12, q_c30, q_c99, q_c100, q_c126, q_c32, q_c359, q_c999, hM.1, hM.2.1, hM.2.2.1, hM.2.2.2.1, hM.2.2.2.2.1, hM.2.2.2.2.2.1, hM.2.2.2.2.2.2, h3, h6, sgQ, t1, hr, show (n ≤ p) = False from eq_false (by omega), dQ, q_nI_gt]
            simp only [x159_89]
          · intro b b1 b2 b3
            rw [i3 b b1 b2 b3, q_upA_n _ _ b2, q_upf b1, q_upA_n _ _ b3]
          · intro i j1 j2 j3
            rw [i4 i j1 j2 j3, q_upA_n _ _ (by decide), q_upm j3, q_upA_n _ _ (by decide)]
    · have go : p_go (g 148) n (k + 1) p c (g 147) = (none, c, g 147) := if_neg hpn
      rw [go]
      refine ⟨g, fun Q => ?_, rfl, fun _ _ _ _ => rfl, fun _ _ _ _ => rfl, fun q w x h => (by cases h)⟩
      simp (disch := omega) only [x159_0, x159_1, x159_2, x159_5, x159_6, x159_7, x159_8, x159_11, x159_12, x159_15, x159_18, x159_19, x159_22, x159_23, x159_24, x159_27, x159_28, x159_29, x159_30, x159_33, x159_36, x159_37, x159_38, x159_41, x159_42, x159_43, x159_46, x159_47, x159_48, x159_51, x159_52, x159_53, x159_54, x159_55, x159_56, x159_57, x159_58, x159_61, x159_63, x159_65, x159_67, x159_70, x159_71, x159_72, x159_75, x159_76, x159_78, x159_81, x159_82, x159_83, x159_84, x159_85, x159_86, x159_92, x159_93, nI_add, pk_mul, q_cl31, q_vin, q_le, q_lt, q_eqn, q_b_0, q_b_t, q_b_f, q_nz, q_nz1, q_nz0, q_tl, q_tn, true_and, and_true, not_true_eq_false, not_false_eq_true, ite_true, ite_false, ↓reduceIte, true_or, or_true, and_self, ne_eq, q_or1, q_or2, Nat.add_eq_zero_iff, and_false, false_and, List.length_cons, List.length_nil, reduceCtorEq, q_toI, Nat.zero_add, Nat.le_refl, q_c0, q_c1, q_c2, q_c4, q_c9, q_c12, q_c30, q_c99, q_c100, q_c126, q_c32, q_c359, q_c999, hM.1, hM.2.1, hM.2.2.1, hM.2.2.2.1, hM.2.2.2.2.1, hM.2.2.2.2.2.1, hM.2.2.2.2.2.2, h3, h6, show (n ≤ p) = True from eq_true (by omega)]
      rfl
end
