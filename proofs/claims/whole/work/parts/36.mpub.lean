/-- the row with its first block kept as the sixth -/
def q_k1 (F : q_St) : q_St := q_cp F 0 5
theorem q_k1_n {F : q_St} {i : Nat} (h : i < 1560) : q_k1 F i = F i := if_neg (by omega)
theorem q_In_k {f f' : q_St} (hI : q_In f) (h : ∀ i, i < 312 → f' i = f i) : q_In f' := q_In_c hI fun i hi => Or.inl (h i hi)
theorem q_In_k1 {F : q_St} (hI : q_In F) : q_In (q_k1 F) := q_In_k hI fun i hi => q_k1_n (by omega)
theorem q_sz_k1 (F : q_St) : q_sz (q_k1 F) = q_sz F := by unfold q_sz; rw [q_k1_n (by omega)]
/-- how a change of the model ends -/
def q_Mop (E : q_E) (g : q_G) (st k : Nat) (A : List Value) (p : Int32 × q_St) : Prop :=
  (q_Er p.1 → ∃ F' : q_St, (∀ i, i < 1560 → F' i = g 147 i) ∧ ∀ Q : Option Value → q_E → q_G → Prop, q_X k 0 A [] E g Q = Q (some (.int p.1)) E (q_upA g 147 F')) ∧
  (∀ r : Nat, r < 1000000 → p.1 = nI r → ∀ Q : Option Value → q_E → q_G → Prop, q_X k 0 A [] E g Q = Q (some (.int (nI r))) E (q_up (q_upA g 147 (q_ac p.2 st)) 146 1 (nI (min (st + 1) 4))))
/-- a change that keeps, does and acts -/
theorem q_Mop_of {E : q_E} {g : q_G} (hM : q_ModB E) {st : Nat} (hs : st ≤ 4) (h : g 146 1 = nI st) {k : Nat} {A : List Value} {p : Int32 × q_St} (ho : q_Ok (q_k1 (g 147)) p) (hx : ∀ Q : Option Value → q_E → q_G → Prop, ∃ K : Option Value → q_E → q_G → Prop, q_X k 0 A [] E g Q = q_X 68 0 [.ref 146, .int p.1, .null] [] E (q_upA g 147 p.2) K ∧ ∀ r E g, K (some (.int r)) E g = Q (some (.int r)) E g) : q_Mop E g st k A p := by
  have h' : (q_upA g 147 p.2) 146 1 = nI st := by rw [q_upA_n _ _ (by decide)]; exact h
  refine ⟨fun he => ?_, fun r hr he Q => ?_⟩
  · rcases ho with ⟨-, h2⟩ | ⟨r, hr, h1, -⟩
    · refine ⟨p.2, fun i hi => by rw [h2, q_k1_n hi], fun Q => ?_⟩
      obtain ⟨K, k1, k2⟩ := hx Q
      rw [k1, s_actede hM he, k2]
    · have z : ∀ n : Nat, n < 1000000 → ¬ q_Er (nI n) := by
        intro n hn q
        have : ∀ x : Int32, q_Er x → x.toInt < 0 := by intro x hx; rcases hx with rfl | rfl | rfl <;> decide
        have := this _ q
        rw [nI_toInt (by omega)] at this
        omega
      rw [h1] at he
      exact absurd he (z r hr)
  · obtain ⟨K, k1, k2⟩ := hx Q
    rw [k1, he, s_acted hM hs h' (by omega), q_upA_s, q_upAA, k2]
section
variable {E : q_E} {g : q_G} {st : Nat}
theorem m_verse (hM : q_ModB E) (hI : q_In (g 147)) (hs : st ≤ 4) (h : g 146 1 = nI st) (x y z : Int32) : q_Mop E g st 122 [.ref 146, .int x, .int y, .int z] (p_verse (q_k1 (g 147)) x y z) := by
  have hI1 := q_In_k1 hI
  have hz : ∀ w, w < 8 → q_sz (q_k1 (g 147)) < 12 → q_k1 (g 147) (11 + 8 * q_sz (q_k1 (g 147)) + w) = nI 0 := fun w hw hm => hI1.2.2.2.2.2.2.1 _ (Nat.le_refl _) hm w hw
  refine q_Mop_of hM hs h (p_verse_ok hI1 x y z) fun Q => ?_
  have hd := fun Q => s_doVerse (Q := Q) (g := q_upA g 147 (q_k1 (g 147))) (o := x) (p := y) (c := z) hM (by rw [q_upA_s]; exact hI1.1.1) (by rw [q_upA_s]; exact hI1.1.2) (by rw [q_upA_s]; exact hz)
  apply Exists.intro
  constructor
  · simp (disch := omega) only [x122_0, x122_1, x122_4, x122_5, x122_6, x122_7, x122_8, x122_9, x122_12, x122_15, nI_add, pk_mul, q_cl31, q_vin, q_le, q_lt, q_eqn, q_b_0, q_b_t, q_b_f, q_nz, q_nz1, q_nz0, q_tl, q_tn, true_and, and_true, not_true_eq_false, not_false_eq_true, ite_true, ite_false, ↓reduceIte, true_or, or_true, and_self, ne_eq, q_or1, q_or2, Nat.add_eq_zero_iff, and_false, false_and, List.length_cons, List.length_nil, reduceCtorEq, q_toI, Nat.zero_add, Nat.le_refl, q_c0, q_c1, q_c2, q_c4, q_c9, q_c12, q_c30, q_c99, q_c100, q_c126, q_c32, q_c359, q_c999, hM.1, hM.2.1, hM.2.2.1, hM.2.2.2.1, hM.2.2.2.2.1, hM.2.2.2.2.2.1, hM.2.2.2.2.2.2, s_keeps hM, ← q_k1.eq_1, hd, q_upD, q_upAA, q_upA_s, q_updn, q_upds, Nat.add_zero]
    exact rfl
  · intro r E' g'
    simp only [x122_0, x122_1, x122_4, x122_5, x122_6, x122_7, x122_8, x122_9, x122_12, x122_15, nI_add, pk_mul, q_cl31, q_vin, q_le, q_lt, q_eqn, q_b_0, q_b_t, q_b_f, q_nz, q_nz1, q_nz0, q_tl, q_tn, true_and, and_true, not_true_eq_false, not_false_eq_true, ite_true, ite_false, ↓reduceIte, true_or, or_true, and_self, ne_eq, q_or1, q_or2, Nat.add_eq_zero_iff, and_false, false_and, List.length_cons, List.length_nil, reduceCtorEq, q_toI, Nat.zero_add, Nat.le_refl, q_c0, q_c1, q_c2, q_c4, q_c9, q_c12, q_c30, q_c99, q_c100, q_c126, q_c32, q_c359, q_c999]
theorem m_order (hM : q_ModB E) (hI : q_In (g 147)) (hs : st ≤ 4) (h : g 146 1 = nI st) (x y : Int32) : q_Mop E g st 133 [.ref 146, .int x, .int y] (p_order (q_k1 (g 147)) x y) := by
  have hI1 := q_In_k1 hI
  refine q_Mop_of hM hs h (p_order_ok hI1 x y) fun Q => ?_
  have hd := fun Q => s_doOrder (Q := Q) (g := q_upA g 147 (q_k1 (g 147))) (x := x) (y := y) hM (by rw [q_upA_s]; exact hI1.1.1) (by rw [q_upA_s]; exact hI1.1.2) (by rw [q_upA_s]; exact hI1.2.1.1) (by rw [q_upA_s]; exact hI1.2.1.2) (by rw [q_upA_s]; exact hI1.2.2.1.1) (by rw [q_upA_s]; exact hI1.2.2.1.2) (by rw [q_upA_s]; exact hI1.2.2.2.1.1) (by rw [q_upA_s]; exact hI1.2.2.2.1.2)
  apply Exists.intro
  constructor
  · simp (disch := omega) only [x133_0, x133_1, x133_4, x133_5, x133_6, x133_7, x133_8, x133_11, x133_14, nI_add, pk_mul, q_cl31, q_vin, q_le, q_lt, q_eqn, q_b_0, q_b_t, q_b_f, q_nz, q_nz1, q_nz0, q_tl, q_tn, true_and, and_true, not_true_eq_false, not_false_eq_true, ite_true, ite_false, ↓reduceIte, true_or, or_true, and_self, ne_eq, q_or1, q_or2, Nat.add_eq_zero_iff, and_false, false_and, List.length_cons, List.length_nil, reduceCtorEq, q_toI, Nat.zero_add, Nat.le_refl, q_c0, q_c1, q_c2, q_c4, q_c9, q_c12, q_c30, q_c99, q_c100, q_c126, q_c32, q_c359, q_c999, hM.1, hM.2.1, hM.2.2.1, hM.2.2.2.1, hM.2.2.2.2.1, hM.2.2.2.2.2.1, hM.2.2.2.2.2.2, s_keeps hM, ← q_k1.eq_1, hd, q_upD, q_upAA, q_upA_s, q_updn, q_upds, Nat.add_zero]
    exact rfl
  · intro r E' g'
    simp only [x133_0, x133_1, x133_4, x133_5, x133_6, x133_7, x133_8, x133_11, x133_14, nI_add, pk_mul, q_cl31, q_vin, q_le, q_lt, q_eqn, q_b_0, q_b_t, q_b_f, q_nz, q_nz1, q_nz0, q_tl, q_tn, true_and, and_true, not_true_eq_false, not_false_eq_true, ite_true, ite_false, ↓reduceIte, true_or, or_true, and_self, ne_eq, q_or1, q_or2, Nat.add_eq_zero_iff, and_false, false_and, List.length_cons, List.length_nil, reduceCtorEq, q_toI, Nat.zero_add, Nat.le_refl, q_c0, q_c1, q_c2, q_c4, q_c9, q_c12, q_c30, q_c99, q_c100, q_c126, q_c32, q_c359, q_c999]
theorem m_lay (hM : q_ModB E) (hI : q_In (g 147)) (hs : st ≤ 4) (h : g 146 1 = nI st) (x y z : Int32) : q_Mop E g st 132 [.ref 146, .int x, .int y, .int z] (p_lay (q_k1 (g 147)) x y z) := by
  have hI1 := q_In_k1 hI
  refine q_Mop_of hM hs h (p_lay_ok hI1 x y z) fun Q => ?_
  have hd := fun Q => s_doLay (Q := Q) (g := q_upA g 147 (q_k1 (g 147))) (s := x) (x := y) (y := z) hM (by rw [q_upA_s]; exact hI1.1.1) (by rw [q_upA_s]; exact hI1.1.2)
  apply Exists.intro
  constructor
  · simp (disch := omega) only [x132_0, x132_1, x132_4, x132_5, x132_6, x132_7, x132_8, x132_9, x132_12, x132_15, nI_add, pk_mul, q_cl31, q_vin, q_le, q_lt, q_eqn, q_b_0, q_b_t, q_b_f, q_nz, q_nz1, q_nz0, q_tl, q_tn, true_and, and_true, not_true_eq_false, not_false_eq_true, ite_true, ite_false, ↓reduceIte, true_or, or_true, and_self, ne_eq, q_or1, q_or2, Nat.add_eq_zero_iff, and_false, false_and, List.length_cons, List.length_nil, reduceCtorEq, q_toI, Nat.zero_add, Nat.le_refl, q_c0, q_c1, q_c2, q_c4, q_c9, q_c12, q_c30, q_c99, q_c100, q_c126, q_c32, q_c359, q_c999, hM.1, hM.2.1, hM.2.2.1, hM.2.2.2.1, hM.2.2.2.2.1, hM.2.2.2.2.2.1, hM.2.2.2.2.2.2, s_keeps hM, ← q_k1.eq_1, hd, q_upD, q_upAA, q_upA_s, q_updn, q_upds, Nat.add_zero]
    exact rfl
  · intro r E' g'
    simp only [x132_0, x132_1, x132_4, x132_5, x132_6, x132_7, x132_8, x132_9, x132_12, x132_15, nI_add, pk_mul, q_cl31, q_vin, q_le, q_lt, q_eqn, q_b_0, q_b_t, q_b_f, q_nz, q_nz1, q_nz0, q_tl, q_tn, true_and, and_true, not_true_eq_false, not_false_eq_true, ite_true, ite_false, ↓reduceIte, true_or, or_true, and_self, ne_eq, q_or1, q_or2, Nat.add_eq_zero_iff, and_false, false_and, List.length_cons, List.length_nil, reduceCtorEq, q_toI, Nat.zero_add, Nat.le_refl, q_c0, q_c1, q_c2, q_c4, q_c9, q_c12, q_c30, q_c99, q_c100, q_c126, q_c32, q_c359, q_c999]
theorem m_sell (hM : q_ModB E) (hI : q_In (g 147)) (hs : st ≤ 4) (h : g 146 1 = nI st) (x : Int32) : q_Mop E g st 156 [.ref 146, .int x] (p_sell (q_k1 (g 147)) x) := by
  have hI1 := q_In_k1 hI
  refine q_Mop_of hM hs h (p_sell_ok hI1 x) fun Q => ?_
  have hd := fun Q => s_doSell (Q := Q) (g := q_upA g 147 (q_k1 (g 147))) hM (by rw [q_upA_s]; exact hI1) x
  apply Exists.intro
  constructor
  · simp (disch := omega) only [x156_0, x156_1, x156_4, x156_5, x156_6, x156_7, x156_10, x156_13, nI_add, pk_mul, q_cl31, q_vin, q_le, q_lt, q_eqn, q_b_0, q_b_t, q_b_f, q_nz, q_nz1, q_nz0, q_tl, q_tn, true_and, and_true, not_true_eq_false, not_false_eq_true, ite_true, ite_false, ↓reduceIte, true_or, or_true, and_self, ne_eq, q_or1, q_or2, Nat.add_eq_zero_iff, and_false, false_and, List.length_cons, List.length_nil, reduceCtorEq, q_toI, Nat.zero_add, Nat.le_refl, q_c0, q_c1, q_c2, q_c4, q_c9, q_c12, q_c30, q_c99, q_c100, q_c126, q_c32, q_c359, q_c999, hM.1, hM.2.1, hM.2.2.1, hM.2.2.2.1, hM.2.2.2.2.1, hM.2.2.2.2.2.1, hM.2.2.2.2.2.2, s_keeps hM, ← q_k1.eq_1, hd, q_upD, q_upAA, q_upA_s, q_updn, q_upds, Nat.add_zero]
    exact rfl
  · intro r E' g'
    simp only [x156_0, x156_1, x156_4, x156_5, x156_6, x156_7, x156_10, x156_13, nI_add, pk_mul, q_cl31, q_vin, q_le, q_lt, q_eqn, q_b_0, q_b_t, q_b_f, q_nz, q_nz1, q_nz0, q_tl, q_tn, true_and, and_true, not_true_eq_false, not_false_eq_true, ite_true, ite_false, ↓reduceIte, true_or, or_true, and_self, ne_eq, q_or1, q_or2, Nat.add_eq_zero_iff, and_false, false_and, List.length_cons, List.length_nil, reduceCtorEq, q_toI, Nat.zero_add, Nat.le_refl, q_c0, q_c1, q_c2, q_c4, q_c9, q_c12, q_c30, q_c99, q_c100, q_c126, q_c32, q_c359, q_c999]
theorem m_pass (hM : q_ModB E) (hI : q_In (g 147)) (hs : st ≤ 4) (h : g 146 1 = nI st) (x : Int32) : q_Mop E g st 134 [.ref 146, .int x] (p_pass (q_k1 (g 147)) x) := by
  have hI1 := q_In_k1 hI
  refine q_Mop_of hM hs h (p_pass_ok hI1 x) fun Q => ?_
  have hd := fun Q => s_doPass (Q := Q) (g := q_upA g 147 (q_k1 (g 147))) hM (by rw [q_upA_s]; exact q_In_Io hI1) (d := q_dy (q_k1 (g 147))) hI1.2.2.2.1.1 (by rw [q_upA_s]; exact hI1.2.2.2.1.2) x
  apply Exists.intro
  constructor
  · simp (disch := omega) only [x134_0, x134_1, x134_4, x134_5, x134_6, x134_7, x134_10, x134_13, nI_add, pk_mul, q_cl31, q_vin, q_le, q_lt, q_eqn, q_b_0, q_b_t, q_b_f, q_nz, q_nz1, q_nz0, q_tl, q_tn, true_and, and_true, not_true_eq_false, not_false_eq_true, ite_true, ite_false, ↓reduceIte, true_or, or_true, and_self, ne_eq, q_or1, q_or2, Nat.add_eq_zero_iff, and_false, false_and, List.length_cons, List.length_nil, reduceCtorEq, q_toI, Nat.zero_add, Nat.le_refl, q_c0, q_c1, q_c2, q_c4, q_c9, q_c12, q_c30, q_c99, q_c100, q_c126, q_c32, q_c359, q_c999, hM.1, hM.2.1, hM.2.2.1, hM.2.2.2.1, hM.2.2.2.2.1, hM.2.2.2.2.2.1, hM.2.2.2.2.2.2, s_keeps hM, ← q_k1.eq_1, hd, q_upD, q_upAA, q_upA_s, q_updn, q_upds, Nat.add_zero]
    exact rfl
  · intro r E' g'
    simp only [x134_0, x134_1, x134_4, x134_5, x134_6, x134_7, x134_10, x134_13, nI_add, pk_mul, q_cl31, q_vin, q_le, q_lt, q_eqn, q_b_0, q_b_t, q_b_f, q_nz, q_nz1, q_nz0, q_tl, q_tn, true_and, and_true, not_true_eq_false, not_false_eq_true, ite_true, ite_false, ↓reduceIte, true_or, or_true, and_self, ne_eq, q_or1, q_or2, Nat.add_eq_zero_iff, and_false, false_and, List.length_cons, List.length_nil, reduceCtorEq, q_toI, Nat.zero_add, Nat.le_refl, q_c0, q_c1, q_c2, q_c4, q_c9, q_c12, q_c30, q_c99, q_c100, q_c126, q_c32, q_c359, q_c999]
end
