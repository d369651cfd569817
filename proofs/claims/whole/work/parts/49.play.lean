/-- how a change of the model ends, the text's own fields apart -/
def q_Mop2 (E : q_E) (g : q_G) (st k : Nat) (A : List Value) (p : Int32 × q_St) : Prop :=
  ∃ g' : q_G, (∀ Q : Option Value → q_E → q_G → Prop, q_X k 0 A [] E g Q = Q (some (.int p.1)) E g') ∧ (∀ b, b ≠ 146 → b ≠ 147 → b ≠ 149 → g' b = g b) ∧ g' 146 3 = g 146 3 ∧
    ((q_Er p.1 ∧ (∀ i, i < 1560 → g' 147 i = g 147 i) ∧ g' 146 1 = g 146 1) ∨ ((∃ r : Nat, r < 1000000 ∧ p.1 = nI r) ∧ g' 147 = q_ac p.2 st ∧ g' 146 1 = nI (min (st + 1) 4)))
theorem q_Mop_2 {E : q_E} {g : q_G} {st k : Nat} {A : List Value} {f : q_St} {p : Int32 × q_St} (ho : q_Ok f p) (h : q_Mop E g st k A p) : q_Mop2 E g st k A p := by
  rcases ho with ⟨h1, -⟩ | ⟨r, r1, r2, -⟩
  · obtain ⟨F', f1, f2⟩ := h.1 h1
    refine ⟨_, f2, fun b _ b2 _ => q_upA_n _ _ b2, by rw [q_upA_n _ _ (by decide)], Or.inl ⟨h1, fun i hi => ?_, by rw [q_upA_n _ _ (by decide)]⟩⟩
    rw [q_upA_s]
    exact f1 i hi
  · have k := h.2 r r1 r2
    rw [← r2] at k
    refine ⟨_, k, fun b b1 b2 _ => ?_, ?_, Or.inr ⟨⟨r, r1, r2⟩, ?_, q_upe rfl rfl⟩⟩
    · rw [q_upf b1, q_upA_n _ _ b2]
    · rw [q_upm (by decide), q_upA_n _ _ (by decide)]
    · rw [q_upf (by decide), q_upA_s]
def p_play (t : Nat → Int32) (n : Nat) (f : q_St) : Int32 × q_St := match (p_go t n 60 0 0 f).1 with
  | none => (nI (p_go t n 60 0 0 f).2.1, (p_go t n 60 0 0 f).2.2)
  | some _ => (-1000002, f)
theorem p_go_ok {t : Nat → Int32} {n : Nat} (hn : n ≤ 60) : ∀ k p c f, q_In f → c ≤ p → q_In (p_go t n k p c f).2.2 ∧ q_Hi f (p_go t n k p c f).2.2 ∧ (p_go t n k p c f).2.1 ≤ max c n ∧ (∀ q w x, (p_go t n k p c f).1 = some (q, w, x) → q < n) := by
  intro k
  induction k with
  | zero => intro p c f hI hc; exact ⟨hI, q_Hi_r f, by show c ≤ _; omega, fun q w x h => (by cases h)⟩
  | succ k ih =>
    intro p c f hI hc
    unfold p_go
    split
    · rename_i hp
      split
      · rename_i hr
        have ok := q_pt_ok (t := t) (n := n) (p := p) hI
        have hh : q_Hi f (p_at t n p f).2 := p_does_hi hI _ _ _ _
        split
        · rename_i he
          rcases ok with ⟨-, ok2⟩ | ⟨v, v1, ok1, -⟩
          · rw [ok2]
            exact ⟨hI, q_Hi_r f, by show c ≤ _; omega, fun q w x h => by cases h; exact hp⟩
          · rw [ok1] at he
            exact absurd he (q_nI_nlt (by omega))
        · rename_i he
          rcases ok with ⟨ok1, -⟩ | ⟨v, v1, -, ok2⟩
          · exact absurd (q_er_lt ok1) he
          · have e2 := (q_ro_ge t n p).2.1 hr
            obtain ⟨a1, a2, a3, a4⟩ := ih (q_ro t n p).2 (c + 1) (p_at t n p f).2 ok2 (by omega)
            exact ⟨a1, q_Hi_t hh a2, by omega, a4⟩
      · exact ⟨hI, q_Hi_r f, by show c ≤ _; omega, fun q w x h => by cases h; exact hp⟩
    · exact ⟨hI, q_Hi_r f, by show c ≤ _; omega, fun q w x h => (by cases h)⟩
theorem p_play_ok {t : Nat → Int32} {n : Nat} {f : q_St} (hn : n ≤ 60) (hI : q_In f) : q_Ok f (p_play t n f) := by
  obtain ⟨a1, a2, a3, a4⟩ := p_go_ok (t := t) hn 60 0 0 f hI (Nat.le_refl _)
  unfold p_play
  split
  · exact Or.inr ⟨_, by omega, rfl, a1⟩
  · exact Or.inl ⟨Or.inr (Or.inl rfl), rfl⟩
theorem p_play_hi {t : Nat → Int32} {n : Nat} {f : q_St} (hn : n ≤ 60) (hI : q_In f) : q_Hi f (p_play t n f).2 := by
  obtain ⟨a1, a2, a3, a4⟩ := p_go_ok (t := t) hn 60 0 0 f hI (Nat.le_refl _)
  unfold p_play
  split
  · exact a2
  · exact q_Hi_r f
theorem q_k1_b {F : q_St} {i : Nat} (h : i < 312) : q_k1 F (i + 1560) = F i := by
  unfold q_k1 q_cp
  rw [if_pos (by omega)]
  exact congrArg F (by omega)
/-- what fault tells -/
def a_fault (t : Nat → Int32) (n : Nat) (f : q_St) (j : Nat) : Int32 := match (p_go t n 60 0 0 f).1 with
  | none => -1000004
  | some (p, w, x) => if j = 0 then nI p else if j = 1 then nI w else x
theorem q_neg1 {p : Nat} (h : p < 60) : (-(nI p) - nI 1 < nI 0) = True ∧ (nI 0 ≤ -(nI p) - nI 1) = False ∧ -(-(nI p) - nI 1) - nI 1 = nI p := by
  have k : ∀ p, p < 60 → decide ((-(nI p) - nI 1 < nI 0) ∧ ¬ (nI 0 ≤ -(nI p) - nI 1) ∧ -(-(nI p) - nI 1) - nI 1 = nI p) = true := by decide +kernel
  obtain ⟨a, b, c⟩ := of_decide_eq_true (k p h)
  exact ⟨eq_true a, eq_false b, c⟩
section
variable {E : q_E} {g : q_G} {st : Nat}
theorem s_go (hM : q_ModB E) {n : Nat} (hn : n ≤ 60) (hI : q_In (g 147)) (h3 : g 146 3 = nI n) : ∃ g' : q_G, (∀ Q : Option Value → q_E → q_G → Prop, q_X 159 0 [.ref 146, .null, .null, .null, .null] [] E g Q = Q (some (.int (q_gr (p_go (g 148) n 60 0 0 (g 147))))) E g') ∧ g' 147 = (p_go (g 148) n 60 0 0 (g 147)).2.2 ∧ (∀ b, b ≠ 146 → b ≠ 147 → b ≠ 149 → g' b = g b) ∧ (∀ i, i ≠ 4 → i ≠ 5 → i ≠ 6 → g' 146 i = g 146 i) ∧ (∀ q w x, (p_go (g 148) n 60 0 0 (g 147)).1 = some (q, w, x) → g' 146 4 = nI w ∧ g' 146 5 = x) := by
  obtain ⟨g', i1, i2, i3, i4, i5⟩ := s_goes hM hn 60 0 0 (q_up g 146 6 (nI 0)) .null .null .null (by rw [q_upf (by decide)]; exact hI) (by omega) (by omega) (by omega) (by rw [q_upm (by decide)]; exact h3) (q_upe rfl rfl)
  rw [q_upf (show ¬ 148 = 146 by decide), q_upf (show ¬ 147 = 146 by decide)] at i1 i2 i5
  refine ⟨g', fun Q => ?_, i2, fun b b1 b2 b3 => ?_, fun i j1 j2 j3 => ?_, i5⟩
  · rw [← i1 Q]
    simp (disch := omega) only [x159_0, x159_1, x159_2, x159_5, x159_6, nI_add, pk_mul, q_cl31, q_vin, q_le, q_lt, q_eqn, q_b_0, q_b_t, q_b_f, q_nz, q_nz1, q_nz0, q_tl, q_tn, true_and, and_true, not_true_eq_false, not_false_eq_true, ite_true, ite_false, ↓reduceIte, true_or, or_true, and_self, ne_eq, q_or1, q_or2, Nat.add_eq_zero_iff, and_false, false_and, List.length_cons, List.length_nil, reduceCtorEq, q_toI, Nat.zero_add, Nat.le_refl, q_c0, q_c1, q_c2, q_c4, q_c9, q_c12, q_c30, q_c99, q_c100, q_c126, q_c32, q_c359, q_c999, hM.1, hM.2.1, hM.2.2.1, hM.2.2.2.1, hM.2.2.2.2.1, hM.2.2.2.2.2.1, hM.2.2.2.2.2.2]
  · rw [i3 b b1 b2 b3, q_upf b1]
  · rw [i4 i j1 j2 j3, q_upm j3]
theorem m_play (hM : q_ModB E) (hI : q_In (g 147)) (hs : st ≤ 4) (h : g 146 1 = nI st) {n : Nat} (hn : n ≤ 60) (h3 : g 146 3 = nI n) : q_Mop2 E g st 163 [.ref 146, .null] (p_play (g 148) n (q_k1 (g 147))) := by
  have hI1 := q_In_k1 hI
  obtain ⟨g', i1, i2, i3, i4, i5⟩ := s_go (g := q_upA g 147 (q_k1 (g 147))) hM hn (by rw [q_upA_s]; exact hI1) (by rw [q_upA_n _ _ (by decide)]; exact h3)
  rw [q_upA_s, q_upA_n _ _ (show ¬ 148 = 147 by decide)] at i1 i2 i5
  obtain ⟨a1, a2, a3, a4⟩ := p_go_ok (t := g 148) hn 60 0 0 _ hI1 (Nat.le_refl _)
  unfold p_play
  generalize p_go (g 148) n 60 0 0 (q_k1 (g 147)) = r at *
  obtain ⟨r1, c, f'⟩ := r
  dsimp only at i2 a1 a2 a3 a4 i5 ⊢
  rcases r1 with _ | ⟨p, w, x⟩
  · dsimp only
    have g1 : g' 146 1 = nI st := by rw [i4 1 (by decide) (by decide) (by decide), q_upA_n _ _ (by decide)]; exact h
    refine ⟨q_up (q_upA g' 147 (q_ac f' st)) 146 1 (nI (min (st + 1) 4)), fun Q => ?_, fun b b1 b2 b3 => ?_, ?_, Or.inr ⟨⟨c, by omega, rfl⟩, ?_, q_upe rfl rfl⟩⟩
    · have ac := fun Q => s_acted (Q := Q) hM hs g1 (r := c) (by omega)
      rw [i2] at ac
      simp (disch := omega) only [x163_0, x163_1, x163_4, x163_5, x163_8, x163_9, x163_10, x163_13, x163_14, x163_15, x163_16, x163_19, x163_21, x163_22, x163_23, x163_24, x163_27, nI_add, pk_mul, q_cl31, q_vin, q_le, q_lt, q_eqn, q_b_0, q_b_t, q_b_f, q_nz, q_nz1, q_nz0, q_tl, q_tn, true_and, and_true, not_true_eq_false, not_false_eq_true, ite_true, ite_false, ↓reduceIte, true_or, or_true, and_self, ne_eq, q_or1, q_or2, Nat.add_eq_zero_iff, and_false, false_and, List.length_cons, List.length_nil, reduceCtorEq, q_toI, Nat.zero_add, Nat.le_refl, q_c0, q_c1, q_c2, q_c4, q_c9, q_c12, q_c30, q_c99, q_c100, q_c126, q_c32, q_c359, q_c999, hM.1, hM.2.1, hM.2.2.1, hM.2.2.2.1, hM.2.2.2.2.1, hM.2.2.2.2.2.1, hM.2.2.2.2.2.2, s_keeps hM, ← q_k1.eq_1, i1, q_gr, ac, Nat.zero_le, Nat.not_lt_zero]
    · rw [q_upf b1, q_upA_n _ _ b2, i3 b b1 b2 b3, q_upA_n _ _ b2]
    · rw [q_upm (by decide), q_upA_n _ _ (by decide), i4 3 (by decide) (by decide) (by decide), q_upA_n _ _ (by decide)]
    · rw [q_upf (by decide), q_upA_s]
  · dsimp only
    have hp := a4 p w x rfl
    obtain ⟨n1, n2, n3⟩ := q_neg1 (p := p) (by omega)
    refine ⟨q_upA g' 147 (q_cp f' 5 0), fun Q => ?_, fun b b1 b2 b3 => ?_, ?_, Or.inl ⟨Or.inr (Or.inl rfl), fun i hi => ?_, ?_⟩⟩
    · have cp := fun Q => s_copies (Q := Q) (g := g') hM (a := 5) (b := 0) (by decide) (by decide) (by decide)
      rw [i2] at cp
      simp (disch := omega) only [x163_0, x163_1, x163_4, x163_5, x163_8, x163_9, x163_10, x163_13, x163_14, x163_15, x163_16, x163_19, x163_21, x163_22, x163_23, x163_24, x163_27, nI_add, pk_mul, q_cl31, q_vin, q_le, q_lt, q_eqn, q_b_0, q_b_t, q_b_f, q_nz, q_nz1, q_nz0, q_tl, q_tn, true_and, and_true, not_true_eq_false, not_false_eq_true, ite_true, ite_false, ↓reduceIte, true_or, or_true, and_self, ne_eq, q_or1, q_or2, Nat.add_eq_zero_iff, and_false, false_and, List.length_cons, List.length_nil, reduceCtorEq, q_toI, Nat.zero_add, Nat.le_refl, q_c0, q_c1, q_c2, q_c4, q_c9, q_c12, q_c30, q_c99, q_c100, q_c126, q_c32, q_c359, q_c999, hM.1, hM.2.1, hM.2.2.1, hM.2.2.2.1, hM.2.2.2.2.1, hM.2.2.2.2.2.1, hM.2.2.2.2.2.2, s_keeps hM, ← q_k1.eq_1, i1, q_gr, cp, n1, n2]
    · rw [q_upA_n _ _ b2, i3 b b1 b2 b3, q_upA_n _ _ b2]
    · rw [q_upA_n _ _ (by decide), i4 3 (by decide) (by decide) (by decide), q_upA_n _ _ (by decide)]
    · rw [q_upA_s]
      show (if _ then f' (i - 312 * 0 + 312 * 5) else f' i) = _
      split
      · rename_i hc
        rw [a2 _ (by omega), show i - 312 * 0 + 312 * 5 = i + 1560 by omega, q_k1_b (by omega)]
      · rw [a2 _ (by omega), q_k1_n (by omega)]
    · rw [q_upA_n _ _ (by decide), i4 1 (by decide) (by decide) (by decide), q_upA_n _ _ (by decide)]
theorem m_fault (hM : q_ModB E) (hI : q_In (g 147)) {n : Nat} (hn : n ≤ 60) (h3 : g 146 3 = nI n) (x : Int32) : ∃ g' : q_G, (∀ Q : Option Value → q_E → q_G → Prop, q_X 162 0 [.ref 146, .int x, .null] [] E g Q = Q (some (.int (if q_ir 0 2 x = true then a_fault (g 148) n (q_k1 (g 147)) x.toNatClampNeg else -1000001))) E g') ∧ (∀ b, b ≠ 146 → b ≠ 147 → b ≠ 149 → g' b = g b) ∧ g' 146 3 = g 146 3 ∧ (∀ i, i < 1560 → g' 147 i = g 147 i) ∧ g' 146 1 = g 146 1 := by
  cases e : q_ir 0 2 x
  · refine ⟨g, fun Q => ?_, fun _ _ _ _ => rfl, rfl, fun _ _ => rfl, rfl⟩
    simp (disch := omega) only [x162_0, x162_1, x162_2, x162_3, x162_6, x162_9, x162_11, x162_12, x162_13, x162_16, x162_17, x162_20, x162_21, x162_22, x162_23, x162_24, x162_27, x162_28, x162_31, x162_33, x162_36, x162_37, x162_40, x162_41, x162_42, x162_43, x162_44, x162_47, x162_48, x162_49, x162_52, x162_53, x162_56, x162_59, x162_60, x162_63, nI_add, pk_mul, q_cl31, q_vin, q_le, q_lt, q_eqn, q_b_0, q_b_t, q_b_f, q_nz, q_nz1, q_nz0, q_tl, q_tn, true_and, and_true, not_true_eq_false, not_false_eq_true, ite_true, ite_false, ↓reduceIte, true_or, or_true, and_self, ne_eq, q_or1, q_or2, Nat.add_eq_zero_iff, and_false, false_and, List.length_cons, List.length_nil, reduceCtorEq, q_toI, Nat.zero_add, Nat.le_refl, q_c0, q_c1, q_c2, q_c4, q_c9, q_c12, q_c30, q_c99, q_c100, q_c126, q_c32, q_c359, q_c999, hM.1, hM.2.1, hM.2.2.1, hM.2.2.2.1, hM.2.2.2.2.1, hM.2.2.2.2.2.1, hM.2.2.2.2.2.2, s_in, e, Bool.false_eq_true]
  obtain ⟨j, -, j1, rfl, j4⟩ := q_lo (lo := 0) (n := 2) e (by omega)
  rw [j4]
  have hI1 := q_In_k1 hI
  obtain ⟨g', i1, i2, i3, i4, i5⟩ := s_go (g := q_upA g 147 (q_k1 (g 147))) hM hn (by rw [q_upA_s]; exact hI1) (by rw [q_upA_n _ _ (by decide)]; exact h3)
  rw [q_upA_s, q_upA_n _ _ (show ¬ 148 = 147 by decide)] at i1 i2 i5
  obtain ⟨a1, a2, a3, a4⟩ := p_go_ok (t := g 148) hn 60 0 0 _ hI1 (Nat.le_refl _)
  have cp := fun Q => s_copies (Q := Q) (g := g') hM (a := 5) (b := 0) (by decide) (by decide) (by decide)
  rw [i2] at cp
  unfold a_fault
  generalize p_go (g 148) n 60 0 0 (q_k1 (g 147)) = r at *
  obtain ⟨r1, c, f'⟩ := r
  dsimp only at i2 a1 a2 a3 a4 i5 cp ⊢
  refine ⟨q_upA g' 147 (q_cp f' 5 0), fun Q => ?_, fun b b1 b2 b3 => ?_, ?_, fun i hi => ?_, ?_⟩
  · rcases r1 with _ | ⟨p, w, y⟩
    · simp (disch := omega) only [x162_0, x162_1, x162_2, x162_3, x162_6, x162_9, x162_11, x162_12, x162_13, x162_16, x162_17, x162_20, x162_21, x162_22, x162_23, x162_24, x162_27, x162_28, x162_31, x162_33, x162_36, x162_37, x162_40, x162_41, x162_42, x162_43, x162_44, x162_47, x162_48, x162_49, x162_52, x162_53, x162_56, x162_59, x162_60, x162_63, nI_add, pk_mul, q_cl31, q_vin, q_le, q_lt, q_eqn, q_b_0, q_b_t, q_b_f, q_nz, q_nz1, q_nz0, q_tl, q_tn, true_and, and_true, not_true_eq_false, not_false_eq_true, ite_true, ite_false, ↓reduceIte, true_or, or_true, and_self, ne_eq, q_or1, q_or2, Nat.add_eq_zero_iff, and_false, false_and, List.length_cons, List.length_nil, reduceCtorEq, q_toI, Nat.zero_add, Nat.le_refl, q_c0, q_c1, q_c2, q_c4, q_c9, q_c12, q_c30, q_c99, q_c100, q_c126, q_c32, q_c359, q_c999, hM.1, hM.2.1, hM.2.2.1, hM.2.2.2.1, hM.2.2.2.2.1, hM.2.2.2.2.2.1, hM.2.2.2.2.2.2, s_in, e, s_keeps hM, ← q_k1.eq_1, i1, q_gr, cp, Nat.zero_le, Nat.not_lt_zero]
    · have hp := a4 p w y rfl
      obtain ⟨n1, n2, n3⟩ := q_neg1 (p := p) (by omega)
      obtain ⟨m4, m5⟩ := i5 p w y rfl
      rcases (by omega : j = 0 ∨ j = 1 ∨ j = 2) with rfl | rfl | rfl
      all_goals
        simp (disch := omega) only [x162_0, x162_1, x162_2, x162_3, x162_6, x162_9, x162_11, x162_12, x162_13, x162_16, x162_17, x162_20, x162_21, x162_22, x162_23, x162_24, x162_27, x162_28, x162_31, x162_33, x162_36, x162_37, x162_40, x162_41, x162_42, x162_43, x162_44, x162_47, x162_48, x162_49, x162_52, x162_53, x162_56, x162_59, x162_60, x162_63, nI_add, pk_mul, q_cl31, q_vin, q_le, q_lt, q_eqn, q_b_0, q_b_t, q_b_f, q_nz, q_nz1, q_nz0, q_tl, q_tn, true_and, and_true, not_true_eq_false, not_false_eq_true, ite_true, ite_false, ↓reduceIte, true_or, or_true, and_self, ne_eq, q_or1, q_or2, Nat.add_eq_zero_iff, and_false, false_and, List.length_cons, List.length_nil, reduceCtorEq, q_toI, Nat.zero_add, Nat.le_refl, q_c0, q_c1, q_c2, q_c4, q_c9, q_c12, q_c30, q_c99, q_c100, q_c126, q_c32, q_c359, q_c999, hM.1, hM.2.1, hM.2.2.1, hM.2.2.2.1, hM.2.2.2.2.1, hM.2.2.2.2.2.1, hM.2.2.2.2.2.2, s_in, e, s_keeps hM, ← q_k1.eq_1, i1, q_gr, cp, n1, n2, n3, q_upA_n, m4, m5]
        try simp
  · rw [q_upA_n _ _ b2, i3 b b1 b2 b3, q_upA_n _ _ b2]
  · rw [q_upA_n _ _ (by decide), i4 3 (by decide) (by decide) (by decide), q_upA_n _ _ (by decide)]
  · rw [q_upA_s]
    show (if _ then f' (i - 312 * 0 + 312 * 5) else f' i) = _
    split
    · rename_i hc
      rw [a2 _ (by omega), show i - 312 * 0 + 312 * 5 = i + 1560 by omega, q_k1_b (by omega)]
    · rw [a2 _ (by omega), q_k1_n (by omega)]
  · rw [q_upA_n _ _ (by decide), i4 1 (by decide) (by decide) (by decide), q_upA_n _ _ (by decide)]
end
