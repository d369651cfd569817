/-! the class's public answers -/
theorem q_ad4 (a b c d : Int32) : a + b + (c + d) = a + c + (b + d) := by grind
theorem q_z0 (x : Int32) : nI 0 + x = x := by rw [nI_0, Int32.zero_add]
theorem q_sum_z0 {F : Nat → Int32} : ∀ n, (∀ k, k < n → F k = nI 0) → q_sum F n = nI 0 := by
  intro n
  induction n with
  | zero => intro _; rfl
  | succ n ih =>
    intro h
    show q_sum F n + F n = _
    rw [ih (fun k hk => h k (by omega)), h n (by omega), q_a0]
theorem q_sum_hd (F : Nat → Int32) (i : Nat) : ∀ d, q_sum F (i + d) = q_sum F i + q_sum (fun k => F (i + k)) d := by
  intro d
  induction d with
  | zero => exact (q_a0 _).symm
  | succ d ih =>
    show q_sum F (i + d) + F (i + d) = q_sum F i + (q_sum (fun k => F (i + k)) d + F (i + d))
    rw [ih, Int32.add_assoc]
theorem q_sum_ad (F G : Nat → Int32) : ∀ n, q_sum (fun k => F k + G k) n = q_sum F n + q_sum G n := by
  intro n
  induction n with
  | zero => rfl
  | succ n ih =>
    show q_sum (fun k => F k + G k) n + (F n + G n) = (q_sum F n + F n) + (q_sum G n + G n)
    rw [ih, q_ad4]
theorem q_sum_sw (G : Nat → Nat → Int32) (n : Nat) : ∀ m, q_sum (fun v => q_sum (G v) n) m = q_sum (fun k => q_sum (fun v => G v k) m) n := by
  intro m
  induction m with
  | zero => exact (q_sum_z0 n fun k hk => rfl).symm
  | succ m ih =>
    show q_sum (fun v => q_sum (G v) n) m + q_sum (G m) n = q_sum (fun k => q_sum (fun v => G v k) m + G m k) n
    rw [ih, q_sum_ad]
theorem q_sum_1 {F : Nat → Int32} {u m : Nat} (hu : u < m) (h : ∀ v, v < m → v ≠ u → F v = nI 0) : q_sum F m = F u := by
  have e : m = u + (1 + (m - u - 1)) := by omega
  rw [e, q_sum_hd, q_sum_z0 u (fun k hk => h k (by omega) (by omega)), q_z0, q_sum_hd, q_sum_z0 (m - u - 1) (fun k hk => h (u + (1 + k)) (by omega) (by omega)), q_a0]
  show nI 0 + F u = F u
  exact q_z0 _
theorem q_sum_bl (F : Nat → Int32) : ∀ m, q_sum F (12 * m) = q_sum (fun i => q_sum (fun k => F (12 * i + k)) 12) m := by
  intro m
  induction m with
  | zero => rfl
  | succ m ih =>
    rw [show 12 * (m + 1) = 12 * m + 12 by omega, q_sum_hd, ih]
    rfl
theorem a_rack_c {f : q_St} (hI : q_In f) : q_sum (fun k => f (107 + 3 * k + 1)) 10 = a_rack f := by
  have h12 := hI.1.1
  unfold a_rack q_ik
  rw [q_sum_sw]
  refine q_sum_c fun k hk => ?_
  rcases hI.2.2.2.2.2.2.2.1 k hk with ⟨-, h⟩ | ⟨h, h'⟩
  · rw [h]
    exact (q_sum_z0 _ fun v _ => by split <;> rfl).symm
  · rw [q_sum_1 h (fun v hv hne => by rw [h', if_neg]; rw [q_eqn (by omega) (by omega)]; exact fun q => hne q.symm), if_pos h']
theorem a_sum_c {f : q_St} (hI : q_In f) {w : Nat} (hw : w < 8) : q_sum (fun v => f (11 + 8 * v + w)) 12 = a_sum f w := by
  have h12 := hI.1.1
  unfold a_sum
  rw [show 12 = q_sz f + (12 - q_sz f) by omega, q_sum_hd, q_sum_z0 (12 - q_sz f) (fun k hk => hI.2.2.2.2.2.2.1 (q_sz f + k) (by omega) (by omega) w hw), q_a0]
theorem a_pairs_c {f : q_St} (hI : q_In f) : q_un f = a_pairs f := by
  unfold a_pairs
  rw [show 144 = 12 * 12 from rfl, q_sum_bl]
  unfold q_un
  refine q_sum_c fun i hi => ?_
  have sp : q_sum (fun k => if nI 0 < f (162 + (12 * i + k)) then nI 1 else nI 0) (i + (12 - i)) = q_sum (fun k => if nI 0 < f (162 + (12 * i + (i + k))) then nI 1 else nI 0) (12 - i) := by
    rw [q_sum_hd, q_sum_z0 i (fun k hk => by
      have := hI.2.2.2.2.2.2.2.2.2.2.2.1 i k hi (by omega) (Or.inl hk)
      rw [show 162 + (12 * i + k) = 162 + 12 * i + k by omega, this]
      rfl), q_z0]
  rw [show i + (12 - i) = 12 by omega] at sp
  refine Eq.trans ?_ sp.symm
  refine q_sum_c fun k hk => ?_
  have e : q_pr i (i + k) = 162 + (12 * i + (i + k)) := by unfold q_pr; split <;> omega
  rw [e]
section
variable {E : q_E} {g : q_G} {L st : Nat} {f : q_St} {Q : Option Value → q_E → q_G → Prop}
theorem c_sumOf {a n : Nat} (ha : q_kd E a = (2, n)) (hn : n < 1000) : q_X 18 0 [.ref a, .null, .null, .null, .null, .null] [] E g Q = Q (some (.int (q_sum (g a) n))) E g := by
  simp (disch := omega) only [x18_0, x18_1, x18_2, x18_3, x18_4, x18_5, x18_6, x18_7, x18_8, nI_add, pk_mul, q_cl31, q_vin, q_le, q_lt, q_eqn, q_b_0, q_b_t, q_b_f, q_nz, q_nz1, q_nz0, q_tl, q_tn, true_and, and_true, not_true_eq_false, not_false_eq_true, ite_true, ite_false, ↓reduceIte, true_or, or_true, and_self, ne_eq, q_or1, q_or2, Nat.add_eq_zero_iff, and_false, false_and, List.length_cons, List.length_nil, reduceCtorEq, q_toI, Nat.zero_add, Nat.le_refl, q_c0, q_c1, q_c2, q_c4, q_c9, q_c12, q_c30, q_c99, q_c100, q_c126, q_c32, q_c359, q_c999, ha]
  have key : ∃ L5, q_X 18 10 [.ref a, .int (nI 0), .ref a, .int (nI n), .int (nI 0), .null] [] E g Q = q_X 18 10 [.ref a, .int (q_sum (g a) n), .ref a, .int (nI n), .int (nI n), L5] [] E g Q := by
    refine q_loop1 (P := fun j L5 => q_X 18 10 [.ref a, .int (q_sum (g a) j), .ref a, .int (nI n), .int (nI j), L5] [] E g Q) (fun j hj L5 => ⟨.int (g a j), ?_⟩)
    dsimp only [q_sum]
    conv => lhs; simp (disch := omega) only [x18_0, x18_1, x18_2, x18_3, x18_4, x18_5, x18_6, x18_7, x18_8, x18_10, x18_12, x18_13, x18_16, x18_17, x18_19, x18_20, x18_22, x18_23, x18_25, x18_26, x18_27, x18_33, x18_34, nI_add, pk_mul, q_cl31, q_vin, q_le, q_lt, q_eqn, q_b_0, q_b_t, q_b_f, q_nz, q_nz1, q_nz0, q_tl, q_tn, true_and, and_true, not_true_eq_false, not_false_eq_true, ite_true, ite_false, ↓reduceIte, true_or, or_true, and_self, ne_eq, q_or1, q_or2, Nat.add_eq_zero_iff, and_false, false_and, List.length_cons, List.length_nil, reduceCtorEq, q_toI, Nat.zero_add, Nat.le_refl, q_c0, q_c1, q_c2, q_c4, q_c9, q_c12, q_c30, q_c99, q_c100, q_c126, q_c32, q_c359, q_c999, ha, show (n ≤ j) = False from eq_false (by omega)]
    simp only [x18_30]
  obtain ⟨L5, key⟩ := key
  rw [key]
  simp (disch := omega) only [x18_0, x18_1, x18_2, x18_3, x18_4, x18_5, x18_6, x18_7, x18_8, x18_10, x18_12, x18_13, x18_16, x18_17, x18_19, x18_20, x18_22, x18_23, x18_25, x18_26, x18_27, x18_30, x18_33, x18_34, nI_add, pk_mul, q_cl31, q_vin, q_le, q_lt, q_eqn, q_b_0, q_b_t, q_b_f, q_nz, q_nz1, q_nz0, q_tl, q_tn, true_and, and_true, not_true_eq_false, not_false_eq_true, ite_true, ite_false, ↓reduceIte, true_or, or_true, and_self, ne_eq, q_or1, q_or2, Nat.add_eq_zero_iff, and_false, false_and, List.length_cons, List.length_nil, reduceCtorEq, q_toI, Nat.zero_add, Nat.le_refl, q_c0, q_c1, q_c2, q_c4, q_c9, q_c12, q_c30, q_c99, q_c100, q_c126, q_c32, q_c359, q_c999]
theorem j_verseOf (hE : q_EB L E) (hO : q_Slo E) (hI : q_In f) (hV : q_Vsta g (q_rf E 3 0) f) (x y : Int32) : q_X 62 0 [.ref 3, .int x, .int y] [] E g Q = Q (some (.int (if (q_isv f x && q_ir 0 9 y) = true then a_verse f x.toNatClampNeg y.toNatClampNeg else -1000001))) E g := by
  obtain ⟨z0, -⟩ := q_Slo_z hO
  have k3 := hE.2.1.1
  have hS := hE.2.2.2.2 _ (q_Slo_g hO).1.1
  have h12 := hI.1.1
  obtain ⟨B, hb⟩ : ∃ B, q_rf E 3 0 = B := ⟨_, rfl⟩
  rw [hb] at z0 hS hV
  obtain ⟨ks0, -, hC, hN, hP, hR, hD⟩ := id hS
  obtain ⟨kn0, -, km1, km2, km3, km4, km5, km6, km7, km8⟩ := id hN
  obtain ⟨kr0, -, -, -, kr5, kr6, kr7⟩ := id hR
  obtain ⟨kd0, -, -, -, kd5, kd6, kd7⟩ := id hD
  obtain ⟨⟨kw5, kw6, kw7, kw8⟩, vC, vN, vP, vR, vD⟩ := id hV
  obtain ⟨ko0, ko1, ko2, ko3, ko4, ko5, ko6, ko7, ko8⟩ := id vN
  obtain ⟨kx1, kx2, kx3⟩ := id vR
  cases e1 : q_isv f x
  · simp (disch := omega) only [x62_0, x62_1, x62_4, x62_7, x62_8, x62_11, x62_14, x62_15, x62_16, x62_18, x62_21, x62_24, x62_26, x62_27, x62_28, x62_31, x62_32, x62_33, x62_36, nI_add, pk_mul, q_cl31, q_vin, q_le, q_lt, q_eqn, q_b_0, q_b_t, q_b_f, q_nz, q_nz1, q_nz0, q_tl, q_tn, true_and, and_true, not_true_eq_false, not_false_eq_true, ite_true, ite_false, ↓reduceIte, true_or, or_true, and_self, ne_eq, q_or1, q_or2, Nat.add_eq_zero_iff, and_false, false_and, List.length_cons, List.length_nil, reduceCtorEq, q_toI, Nat.zero_add, Nat.le_refl, q_c0, q_c1, q_c2, q_c4, q_c9, q_c12, q_c30, q_c99, q_c100, q_c126, q_c32, q_c359, q_c999, k3, hb, z0, ks0, kd0, hD.2.1, hD.2.2.1, hD.2.2.2.1, kd5, kd6, kd7, hC.1, hP.1, hS.2.1.1, hS.2.1.2.1, hS.2.1.2.2.1, hS.2.1.2.2.2.1, hS.2.1.2.2.2.2, kn0, hN.2.1.1, hN.2.1.2.1, hN.2.1.2.2.1, hN.2.1.2.2.2.1, hN.2.1.2.2.2.2.1, hN.2.1.2.2.2.2.2.1, hN.2.1.2.2.2.2.2.2.1, hN.2.1.2.2.2.2.2.2.2, km1, km2, km3, km4, km5, km6, km7, km8, kr0, hR.2.1, hR.2.2.1, hR.2.2.2.1, kr5, kr6, kr7, kw5, kw6, kw7, kw8, ko0, ko1, ko2, ko3, ko4, ko5, ko6, ko7, ko8, kx1, kx2, kx3, c_hasv hN vN hI, e1, Bool.false_and, Bool.false_eq_true]
  obtain ⟨v, v1, rfl, v3⟩ := q_isv_lo hI e1
  cases e2 : q_ir 0 9 y
  · simp (disch := omega) only [x62_0, x62_1, x62_4, x62_7, x62_8, x62_11, x62_14, x62_15, x62_16, x62_18, x62_21, x62_24, x62_26, x62_27, x62_28, x62_31, x62_32, x62_33, x62_36, nI_add, pk_mul, q_cl31, q_vin, q_le, q_lt, q_eqn, q_b_0, q_b_t, q_b_f, q_nz, q_nz1, q_nz0, q_tl, q_tn, true_and, and_true, not_true_eq_false, not_false_eq_true, ite_true, ite_false, ↓reduceIte, true_or, or_true, and_self, ne_eq, q_or1, q_or2, Nat.add_eq_zero_iff, and_false, false_and, List.length_cons, List.length_nil, reduceCtorEq, q_toI, Nat.zero_add, Nat.le_refl, q_c0, q_c1, q_c2, q_c4, q_c9, q_c12, q_c30, q_c99, q_c100, q_c126, q_c32, q_c359, q_c999, k3, hb, z0, ks0, kd0, hD.2.1, hD.2.2.1, hD.2.2.2.1, kd5, kd6, kd7, hC.1, hP.1, hS.2.1.1, hS.2.1.2.1, hS.2.1.2.2.1, hS.2.1.2.2.2.1, hS.2.1.2.2.2.2, kn0, hN.2.1.1, hN.2.1.2.1, hN.2.1.2.2.1, hN.2.1.2.2.2.1, hN.2.1.2.2.2.2.1, hN.2.1.2.2.2.2.2.1, hN.2.1.2.2.2.2.2.2.1, hN.2.1.2.2.2.2.2.2.2, km1, km2, km3, km4, km5, km6, km7, km8, kr0, hR.2.1, hR.2.2.1, hR.2.2.2.1, kr5, kr6, kr7, kw5, kw6, kw7, kw8, ko0, ko1, ko2, ko3, ko4, ko5, ko6, ko7, ko8, kx1, kx2, kx3, c_hasv hN vN hI, e1, s_isWithin, e2, Bool.and_false, Bool.false_eq_true, Bool.true_eq_false]
  obtain ⟨j, -, j1, rfl, j4⟩ := q_lo (lo := 0) (n := 9) e2 (by omega)
  simp (disch := omega) only [x62_0, x62_1, x62_4, x62_7, x62_8, x62_11, x62_14, x62_15, x62_16, x62_18, x62_21, x62_24, x62_26, x62_27, x62_28, x62_31, x62_32, x62_33, x62_36, nI_add, pk_mul, q_cl31, q_vin, q_le, q_lt, q_eqn, q_b_0, q_b_t, q_b_f, q_nz, q_nz1, q_nz0, q_tl, q_tn, true_and, and_true, not_true_eq_false, not_false_eq_true, ite_true, ite_false, ↓reduceIte, true_or, or_true, and_self, ne_eq, q_or1, q_or2, Nat.add_eq_zero_iff, and_false, false_and, List.length_cons, List.length_nil, reduceCtorEq, q_toI, Nat.zero_add, Nat.le_refl, q_c0, q_c1, q_c2, q_c4, q_c9, q_c12, q_c30, q_c99, q_c100, q_c126, q_c32, q_c359, q_c999, k3, hb, z0, ks0, kd0, hD.2.1, hD.2.2.1, hD.2.2.2.1, kd5, kd6, kd7, hC.1, hP.1, hS.2.1.1, hS.2.1.2.1, hS.2.1.2.2.1, hS.2.1.2.2.2.1, hS.2.1.2.2.2.2, kn0, hN.2.1.1, hN.2.1.2.1, hN.2.1.2.2.1, hN.2.1.2.2.2.1, hN.2.1.2.2.2.2.1, hN.2.1.2.2.2.2.2.1, hN.2.1.2.2.2.2.2.2.1, hN.2.1.2.2.2.2.2.2.2, km1, km2, km3, km4, km5, km6, km7, km8, kr0, hR.2.1, hR.2.2.1, hR.2.2.2.1, kr5, kr6, kr7, kw5, kw6, kw7, kw8, ko0, ko1, ko2, ko3, ko4, ko5, ko6, ko7, ko8, kx1, kx2, kx3, c_hasv hN vN hI, e1, s_isWithin, e2, c_aboutV hS hV hI, Bool.and_self, v3, j4, Bool.true_eq_false]
theorem j_slotOf (hE : q_EB L E) (hO : q_Slo E) (hB : q_BesB E g) (hI : q_In f) (hV : q_Vsta g (q_rf E 3 0) f) (x y : Int32) : q_X 72 0 [.ref 3, .int x, .int y] [] E g Q = Q (some (.int (if (q_ir 0 9 x && q_ir 0 4 y) = true then a_slot f x.toNatClampNeg y.toNatClampNeg else -1000001))) E g := by
  obtain ⟨z0, -⟩ := q_Slo_z hO
  have k3 := hE.2.1.1
  have hS := hE.2.2.2.2 _ (q_Slo_g hO).1.1
  obtain ⟨B, hb⟩ : ∃ B, q_rf E 3 0 = B := ⟨_, rfl⟩
  rw [hb] at z0 hS hV
  have ks0 := hS.1
  cases e1 : q_ir 0 9 x
  · simp (disch := omega) only [x72_0, x72_1, x72_4, x72_7, x72_8, x72_9, x72_10, x72_13, x72_16, x72_18, x72_19, x72_20, x72_23, x72_24, x72_25, x72_28, nI_add, pk_mul, q_cl31, q_vin, q_le, q_lt, q_eqn, q_b_0, q_b_t, q_b_f, q_nz, q_nz1, q_nz0, q_tl, q_tn, true_and, and_true, not_true_eq_false, not_false_eq_true, ite_true, ite_false, ↓reduceIte, true_or, or_true, and_self, ne_eq, q_or1, q_or2, Nat.add_eq_zero_iff, and_false, false_and, List.length_cons, List.length_nil, reduceCtorEq, q_toI, Nat.zero_add, Nat.le_refl, q_c0, q_c1, q_c2, q_c4, q_c9, q_c12, q_c30, q_c99, q_c100, q_c126, q_c32, q_c359, q_c999, s_isSlot, e1, Bool.false_and, Bool.false_eq_true]
  obtain ⟨s, -, s1, rfl, s4⟩ := q_lo (lo := 0) (n := 9) e1 (by omega)
  cases e2 : q_ir 0 4 y
  · simp (disch := omega) only [x72_0, x72_1, x72_4, x72_7, x72_8, x72_9, x72_10, x72_13, x72_16, x72_18, x72_19, x72_20, x72_23, x72_24, x72_25, x72_28, nI_add, pk_mul, q_cl31, q_vin, q_le, q_lt, q_eqn, q_b_0, q_b_t, q_b_f, q_nz, q_nz1, q_nz0, q_tl, q_tn, true_and, and_true, not_true_eq_false, not_false_eq_true, ite_true, ite_false, ↓reduceIte, true_or, or_true, and_self, ne_eq, q_or1, q_or2, Nat.add_eq_zero_iff, and_false, false_and, List.length_cons, List.length_nil, reduceCtorEq, q_toI, Nat.zero_add, Nat.le_refl, q_c0, q_c1, q_c2, q_c4, q_c9, q_c12, q_c30, q_c99, q_c100, q_c126, q_c32, q_c359, q_c999, s_isSlot, e1, s_isWithin, e2, Bool.and_false, Bool.false_eq_true, Bool.true_eq_false]
  obtain ⟨j, -, j1, rfl, j4⟩ := q_lo (lo := 0) (n := 4) e2 (by omega)
  simp (disch := omega) only [x72_0, x72_1, x72_4, x72_7, x72_8, x72_9, x72_10, x72_13, x72_16, x72_18, x72_19, x72_20, x72_23, x72_24, x72_25, x72_28, nI_add, pk_mul, q_cl31, q_vin, q_le, q_lt, q_eqn, q_b_0, q_b_t, q_b_f, q_nz, q_nz1, q_nz0, q_tl, q_tn, true_and, and_true, not_true_eq_false, not_false_eq_true, ite_true, ite_false, ↓reduceIte, true_or, or_true, and_self, ne_eq, q_or1, q_or2, Nat.add_eq_zero_iff, and_false, false_and, List.length_cons, List.length_nil, reduceCtorEq, q_toI, Nat.zero_add, Nat.le_refl, q_c0, q_c1, q_c2, q_c4, q_c9, q_c12, q_c30, q_c99, q_c100, q_c126, q_c32, q_c359, q_c999, k3, hb, z0, ks0, s_isSlot, e1, s_isWithin, e2, c_aboutS hB hS hV hI, Bool.and_self, s4, j4, Bool.true_eq_false]
theorem j_orderOf (hE : q_EB L E) (hO : q_Slo E) (hI : q_In f) (hV : q_Vsta g (q_rf E 3 0) f) (x y : Int32) : q_X 41 0 [.ref 3, .int x, .int y] [] E g Q = Q (some (.int (if x < nI 0 ∨ q_ir 0 2 y = false then -1000001 else a_order f x y.toNatClampNeg))) E g := by
  obtain ⟨z0, -⟩ := q_Slo_z hO
  have k3 := hE.2.1.1
  have hS := hE.2.2.2.2 _ (q_Slo_g hO).1.1
  obtain ⟨B, hb⟩ : ∃ B, q_rf E 3 0 = B := ⟨_, rfl⟩
  rw [hb] at z0 hS hV
  have ks0 := hS.1
  by_cases e1 : x < nI 0
  · simp (disch := omega) only [x41_0, x41_1, x41_4, x41_5, x41_6, x41_7, x41_10, x41_13, x41_15, x41_16, x41_17, x41_20, x41_21, x41_22, x41_25, nI_add, pk_mul, q_cl31, q_vin, q_le, q_lt, q_eqn, q_b_0, q_b_t, q_b_f, q_nz, q_nz1, q_nz0, q_tl, q_tn, true_and, and_true, not_true_eq_false, not_false_eq_true, ite_true, ite_false, ↓reduceIte, true_or, or_true, and_self, ne_eq, q_or1, q_or2, Nat.add_eq_zero_iff, and_false, false_and, List.length_cons, List.length_nil, reduceCtorEq, q_toI, Nat.zero_add, Nat.le_refl, q_c0, q_c1, q_c2, q_c4, q_c9, q_c12, q_c30, q_c99, q_c100, q_c126, q_c32, q_c359, q_c999, e1]
  cases e2 : q_ir 0 2 y
  · simp (disch := omega) only [x41_0, x41_1, x41_4, x41_5, x41_6, x41_7, x41_10, x41_13, x41_15, x41_16, x41_17, x41_20, x41_21, x41_22, x41_25, nI_add, pk_mul, q_cl31, q_vin, q_le, q_lt, q_eqn, q_b_0, q_b_t, q_b_f, q_nz, q_nz1, q_nz0, q_tl, q_tn, true_and, and_true, not_true_eq_false, not_false_eq_true, ite_true, ite_false, ↓reduceIte, true_or, or_true, and_self, ne_eq, q_or1, q_or2, Nat.add_eq_zero_iff, and_false, false_and, List.length_cons, List.length_nil, reduceCtorEq, q_toI, Nat.zero_add, Nat.le_refl, q_c0, q_c1, q_c2, q_c4, q_c9, q_c12, q_c30, q_c99, q_c100, q_c126, q_c32, q_c359, q_c999, e1, s_isWithin, e2]
  obtain ⟨j, -, j1, rfl, j4⟩ := q_lo (lo := 0) (n := 2) e2 (by omega)
  simp (disch := omega) only [x41_0, x41_1, x41_4, x41_5, x41_6, x41_7, x41_10, x41_13, x41_15, x41_16, x41_17, x41_20, x41_21, x41_22, x41_25, nI_add, pk_mul, q_cl31, q_vin, q_le, q_lt, q_eqn, q_b_0, q_b_t, q_b_f, q_nz, q_nz1, q_nz0, q_tl, q_tn, true_and, and_true, not_true_eq_false, not_false_eq_true, ite_true, ite_false, ↓reduceIte, true_or, or_true, and_self, ne_eq, q_or1, q_or2, Nat.add_eq_zero_iff, and_false, false_and, List.length_cons, List.length_nil, reduceCtorEq, q_toI, Nat.zero_add, Nat.le_refl, q_c0, q_c1, q_c2, q_c4, q_c9, q_c12, q_c30, q_c99, q_c100, q_c126, q_c32, q_c359, q_c999, k3, hb, z0, ks0, e1, s_isWithin, e2, c_order hS hV hI (Int32.not_lt.mp e1), j4, Bool.true_eq_false, or_self]
theorem j_occasionOf (hE : q_EB L E) (hO : q_Slo E) (hI : q_In f) (hV : q_Vsta g (q_rf E 3 0) f) (x y : Int32) : q_X 71 0 [.ref 3, .int x, .int y] [] E g Q = Q (some (.int (if (q_ir 0 4 x && q_ir 0 4 y) = true then a_occ f x.toNatClampNeg y.toNatClampNeg else -1000001))) E g := by
  obtain ⟨z0, -⟩ := q_Slo_z hO
  have k3 := hE.2.1.1
  have hS := hE.2.2.2.2 _ (q_Slo_g hO).1.1
  obtain ⟨B, hb⟩ : ∃ B, q_rf E 3 0 = B := ⟨_, rfl⟩
  rw [hb] at z0 hS hV
  obtain ⟨ks0, -, hC, hN, hP, hR, hD⟩ := id hS
  obtain ⟨kn0, -, km1, km2, km3, km4, km5, km6, km7, km8⟩ := id hN
  obtain ⟨kr0, -, -, -, kr5, kr6, kr7⟩ := id hR
  obtain ⟨kd0, -, -, -, kd5, kd6, kd7⟩ := id hD
  obtain ⟨⟨kw5, kw6, kw7, kw8⟩, vC, vN, vP, vR, vD⟩ := id hV
  obtain ⟨ko0, ko1, ko2, ko3, ko4, ko5, ko6, ko7, ko8⟩ := id vN
  obtain ⟨kx1, kx2, kx3⟩ := id vR
  cases e1 : q_ir 0 4 x
  · simp (disch := omega) only [x71_0, x71_1, x71_4, x71_7, x71_8, x71_9, x71_10, x71_13, x71_16, x71_18, x71_19, x71_20, x71_23, x71_26, x71_27, x71_28, x71_31, nI_add, pk_mul, q_cl31, q_vin, q_le, q_lt, q_eqn, q_b_0, q_b_t, q_b_f, q_nz, q_nz1, q_nz0, q_tl, q_tn, true_and, and_true, not_true_eq_false, not_false_eq_true, ite_true, ite_false, ↓reduceIte, true_or, or_true, and_self, ne_eq, q_or1, q_or2, Nat.add_eq_zero_iff, and_false, false_and, List.length_cons, List.length_nil, reduceCtorEq, q_toI, Nat.zero_add, Nat.le_refl, q_c0, q_c1, q_c2, q_c4, q_c9, q_c12, q_c30, q_c99, q_c100, q_c126, q_c32, q_c359, q_c999, s_isOccasion, e1, Bool.false_and, Bool.false_eq_true]
  obtain ⟨s, -, s1, rfl, s4⟩ := q_lo (lo := 0) (n := 4) e1 (by omega)
  cases e2 : q_ir 0 4 y
  · simp (disch := omega) only [x71_0, x71_1, x71_4, x71_7, x71_8, x71_9, x71_10, x71_13, x71_16, x71_18, x71_19, x71_20, x71_23, x71_26, x71_27, x71_28, x71_31, nI_add, pk_mul, q_cl31, q_vin, q_le, q_lt, q_eqn, q_b_0, q_b_t, q_b_f, q_nz, q_nz1, q_nz0, q_tl, q_tn, true_and, and_true, not_true_eq_false, not_false_eq_true, ite_true, ite_false, ↓reduceIte, true_or, or_true, and_self, ne_eq, q_or1, q_or2, Nat.add_eq_zero_iff, and_false, false_and, List.length_cons, List.length_nil, reduceCtorEq, q_toI, Nat.zero_add, Nat.le_refl, q_c0, q_c1, q_c2, q_c4, q_c9, q_c12, q_c30, q_c99, q_c100, q_c126, q_c32, q_c359, q_c999, s_isOccasion, e1, s_isWithin, e2, Bool.and_false, Bool.false_eq_true, Bool.true_eq_false]
  obtain ⟨j, -, j1, rfl, j4⟩ := q_lo (lo := 0) (n := 4) e2 (by omega)
  simp (disch := omega) only [x71_0, x71_1, x71_4, x71_7, x71_8, x71_9, x71_10, x71_13, x71_16, x71_18, x71_19, x71_20, x71_23, x71_26, x71_27, x71_28, x71_31, nI_add, pk_mul, q_cl31, q_vin, q_le, q_lt, q_eqn, q_b_0, q_b_t, q_b_f, q_nz, q_nz1, q_nz0, q_tl, q_tn, true_and, and_true, not_true_eq_false, not_false_eq_true, ite_true, ite_false, ↓reduceIte, true_or, or_true, and_self, ne_eq, q_or1, q_or2, Nat.add_eq_zero_iff, and_false, false_and, List.length_cons, List.length_nil, reduceCtorEq, q_toI, Nat.zero_add, Nat.le_refl, q_c0, q_c1, q_c2, q_c4, q_c9, q_c12, q_c30, q_c99, q_c100, q_c126, q_c32, q_c359, q_c999, k3, hb, z0, ks0, kd0, hD.2.1, hD.2.2.1, hD.2.2.2.1, kd5, kd6, kd7, hC.1, hP.1, hS.2.1.1, hS.2.1.2.1, hS.2.1.2.2.1, hS.2.1.2.2.2.1, hS.2.1.2.2.2.2, kn0, hN.2.1.1, hN.2.1.2.1, hN.2.1.2.2.1, hN.2.1.2.2.2.1, hN.2.1.2.2.2.2.1, hN.2.1.2.2.2.2.2.1, hN.2.1.2.2.2.2.2.2.1, hN.2.1.2.2.2.2.2.2.2, km1, km2, km3, km4, km5, km6, km7, km8, kr0, hR.2.1, hR.2.2.1, hR.2.2.2.1, kr5, kr6, kr7, kw5, kw6, kw7, kw8, ko0, ko1, ko2, ko3, ko4, ko5, ko6, ko7, ko8, kx1, kx2, kx3, s_isOccasion, e1, s_isWithin, e2, c_about hC vC hI, Bool.and_self, s4, j4, Bool.true_eq_false]
theorem j_together (hE : q_EB L E) (hO : q_Slo E) (hI : q_In f) (hV : q_Vsta g (q_rf E 3 0) f) (x y : Int32) : q_X 42 0 [.ref 3, .int x, .int y] [] E g Q = Q (some (.int (if (q_isv f x && q_isv f y) = true then f (q_pr x.toNatClampNeg y.toNatClampNeg) else -1000001))) E g := by
  obtain ⟨z0, -⟩ := q_Slo_z hO
  have k3 := hE.2.1.1
  have hS := hE.2.2.2.2 _ (q_Slo_g hO).1.1
  have h12 := hI.1.1
  obtain ⟨B, hb⟩ : ∃ B, q_rf E 3 0 = B := ⟨_, rfl⟩
  rw [hb] at z0 hS hV
  obtain ⟨ks0, -, hC, hN, hP, hR, hD⟩ := id hS
  obtain ⟨kn0, -, km1, km2, km3, km4, km5, km6, km7, km8⟩ := id hN
  obtain ⟨kr0, -, -, -, kr5, kr6, kr7⟩ := id hR
  obtain ⟨kd0, -, -, -, kd5, kd6, kd7⟩ := id hD
  obtain ⟨⟨kw5, kw6, kw7, kw8⟩, vC, vN, vP, vR, vD⟩ := id hV
  obtain ⟨ko0, ko1, ko2, ko3, ko4, ko5, ko6, ko7, ko8⟩ := id vN
  obtain ⟨kx1, kx2, kx3⟩ := id vR
  cases e1 : q_isv f x
  · simp (disch := omega) only [x42_0, x42_1, x42_4, x42_7, x42_8, x42_11, x42_14, x42_15, x42_18, x42_21, x42_22, x42_25, x42_28, x42_30, x42_31, x42_32, x42_35, x42_38, x42_39, x42_40, x42_43, nI_add, pk_mul, q_cl31, q_vin, q_le, q_lt, q_eqn, q_b_0, q_b_t, q_b_f, q_nz, q_nz1, q_nz0, q_tl, q_tn, true_and, and_true, not_true_eq_false, not_false_eq_true, ite_true, ite_false, ↓reduceIte, true_or, or_true, and_self, ne_eq, q_or1, q_or2, Nat.add_eq_zero_iff, and_false, false_and, List.length_cons, List.length_nil, reduceCtorEq, q_toI, Nat.zero_add, Nat.le_refl, q_c0, q_c1, q_c2, q_c4, q_c9, q_c12, q_c30, q_c99, q_c100, q_c126, q_c32, q_c359, q_c999, k3, hb, z0, ks0, kd0, hD.2.1, hD.2.2.1, hD.2.2.2.1, kd5, kd6, kd7, hC.1, hP.1, hS.2.1.1, hS.2.1.2.1, hS.2.1.2.2.1, hS.2.1.2.2.2.1, hS.2.1.2.2.2.2, kn0, hN.2.1.1, hN.2.1.2.1, hN.2.1.2.2.1, hN.2.1.2.2.2.1, hN.2.1.2.2.2.2.1, hN.2.1.2.2.2.2.2.1, hN.2.1.2.2.2.2.2.2.1, hN.2.1.2.2.2.2.2.2.2, km1, km2, km3, km4, km5, km6, km7, km8, kr0, hR.2.1, hR.2.2.1, hR.2.2.2.1, kr5, kr6, kr7, kw5, kw6, kw7, kw8, ko0, ko1, ko2, ko3, ko4, ko5, ko6, ko7, ko8, kx1, kx2, kx3, c_hasv hN vN hI, e1, Bool.false_and, Bool.false_eq_true]
  obtain ⟨v, v1, rfl, v3⟩ := q_isv_lo hI e1
  cases e2 : q_isv f y
  · simp (disch := omega) only [x42_0, x42_1, x42_4, x42_7, x42_8, x42_11, x42_14, x42_15, x42_18, x42_21, x42_22, x42_25, x42_28, x42_30, x42_31, x42_32, x42_35, x42_38, x42_39, x42_40, x42_43, nI_add, pk_mul, q_cl31, q_vin, q_le, q_lt, q_eqn, q_b_0, q_b_t, q_b_f, q_nz, q_nz1, q_nz0, q_tl, q_tn, true_and, and_true, not_true_eq_false, not_false_eq_true, ite_true, ite_false, ↓reduceIte, true_or, or_true, and_self, ne_eq, q_or1, q_or2, Nat.add_eq_zero_iff, and_false, false_and, List.length_cons, List.length_nil, reduceCtorEq, q_toI, Nat.zero_add, Nat.le_refl, q_c0, q_c1, q_c2, q_c4, q_c9, q_c12, q_c30, q_c99, q_c100, q_c126, q_c32, q_c359, q_c999, k3, hb, z0, ks0, kd0, hD.2.1, hD.2.2.1, hD.2.2.2.1, kd5, kd6, kd7, hC.1, hP.1, hS.2.1.1, hS.2.1.2.1, hS.2.1.2.2.1, hS.2.1.2.2.2.1, hS.2.1.2.2.2.2, kn0, hN.2.1.1, hN.2.1.2.1, hN.2.1.2.2.1, hN.2.1.2.2.2.1, hN.2.1.2.2.2.2.1, hN.2.1.2.2.2.2.2.1, hN.2.1.2.2.2.2.2.2.1, hN.2.1.2.2.2.2.2.2.2, km1, km2, km3, km4, km5, km6, km7, km8, kr0, hR.2.1, hR.2.2.1, hR.2.2.2.1, kr5, kr6, kr7, kw5, kw6, kw7, kw8, ko0, ko1, ko2, ko3, ko4, ko5, ko6, ko7, ko8, kx1, kx2, kx3, c_hasv hN vN hI, e1, e2, Bool.and_false, Bool.false_eq_true, Bool.true_eq_false]
  obtain ⟨w, w1, rfl, w3⟩ := q_isv_lo hI e2
  simp (disch := omega) only [x42_0, x42_1, x42_4, x42_7, x42_8, x42_11, x42_14, x42_15, x42_18, x42_21, x42_22, x42_25, x42_28, x42_30, x42_31, x42_32, x42_35, x42_38, x42_39, x42_40, x42_43, nI_add, pk_mul, q_cl31, q_vin, q_le, q_lt, q_eqn, q_b_0, q_b_t, q_b_f, q_nz, q_nz1, q_nz0, q_tl, q_tn, true_and, and_true, not_true_eq_false, not_false_eq_true, ite_true, ite_false, ↓reduceIte, true_or, or_true, and_self, ne_eq, q_or1, q_or2, Nat.add_eq_zero_iff, and_false, false_and, List.length_cons, List.length_nil, reduceCtorEq, q_toI, Nat.zero_add, Nat.le_refl, q_c0, q_c1, q_c2, q_c4, q_c9, q_c12, q_c30, q_c99, q_c100, q_c126, q_c32, q_c359, q_c999, k3, hb, z0, ks0, kd0, hD.2.1, hD.2.2.1, hD.2.2.2.1, kd5, kd6, kd7, hC.1, hP.1, hS.2.1.1, hS.2.1.2.1, hS.2.1.2.2.1, hS.2.1.2.2.2.1, hS.2.1.2.2.2.2, kn0, hN.2.1.1, hN.2.1.2.1, hN.2.1.2.2.1, hN.2.1.2.2.2.1, hN.2.1.2.2.2.2.1, hN.2.1.2.2.2.2.2.1, hN.2.1.2.2.2.2.2.2.1, hN.2.1.2.2.2.2.2.2.2, km1, km2, km3, km4, km5, km6, km7, km8, kr0, hR.2.1, hR.2.2.1, hR.2.2.2.1, kr5, kr6, kr7, kw5, kw6, kw7, kw8, ko0, ko1, ko2, ko3, ko4, ko5, ko6, ko7, ko8, kx1, kx2, kx3, c_hasv hN vN hI, e1, e2, c_times hP vP, Bool.and_self, v3, w3, Bool.true_eq_false]
theorem j_would (hE : q_EB L E) (hO : q_Slo E) (hB : q_BesB E g) (hI : q_In f) (hV : q_Vsta g (q_rf E 3 0) f) (x y : Int32) : q_X 73 0 [.ref 3, .int x, .int y, .null] [] E g Q = Q (some (.int (if (q_isv f x && q_ir 0 1 y) = true then (if q_sp f x.toNatClampNeg < nI 0 then -1000004 else if y = nI 0 then f (107 + 3 * (q_sp f x.toNatClampNeg).toNatClampNeg) else q_sp f x.toNatClampNeg) else -1000001))) E g := by
  obtain ⟨z0, -⟩ := q_Slo_z hO
  have k3 := hE.2.1.1
  have hS := hE.2.2.2.2 _ (q_Slo_g hO).1.1
  have h12 := hI.1.1
  obtain ⟨B, hb⟩ : ∃ B, q_rf E 3 0 = B := ⟨_, rfl⟩
  rw [hb] at z0 hS hV
  obtain ⟨ks0, -, hC, hN, hP, hR, hD⟩ := id hS
  obtain ⟨kn0, -, km1, km2, km3, km4, km5, km6, km7, km8⟩ := id hN
  obtain ⟨kr0, -, -, -, kr5, kr6, kr7⟩ := id hR
  obtain ⟨kd0, -, -, -, kd5, kd6, kd7⟩ := id hD
  obtain ⟨⟨kw5, kw6, kw7, kw8⟩, vC, vN, vP, vR, vD⟩ := id hV
  obtain ⟨ko0, ko1, ko2, ko3, ko4, ko5, ko6, ko7, ko8⟩ := id vN
  obtain ⟨kx1, kx2, kx3⟩ := id vR
  cases e1 : q_isv f x
  · simp (disch := omega) only [x73_0, x73_1, x73_4, x73_7, x73_8, x73_11, x73_14, x73_15, x73_16, x73_17, x73_20, x73_23, x73_25, x73_26, x73_27, x73_30, x73_31, x73_34, x73_35, x73_36, x73_39, x73_42, x73_44, x73_45, x73_46, x73_49, x73_50, x73_53, x73_56, x73_59, x73_60, x73_61, x73_64, x73_65, nI_add, pk_mul, q_cl31, q_vin, q_le, q_lt, q_eqn, q_b_0, q_b_t, q_b_f, q_nz, q_nz1, q_nz0, q_tl, q_tn, true_and, and_true, not_true_eq_false, not_false_eq_true, ite_true, ite_false, ↓reduceIte, true_or, or_true, and_self, ne_eq, q_or1, q_or2, Nat.add_eq_zero_iff, and_false, false_and, List.length_cons, List.length_nil, reduceCtorEq, q_toI, Nat.zero_add, Nat.le_refl, q_c0, q_c1, q_c2, q_c4, q_c9, q_c12, q_c30, q_c99, q_c100, q_c126, q_c32, q_c359, q_c999, k3, hb, z0, ks0, kd0, hD.2.1, hD.2.2.1, hD.2.2.2.1, kd5, kd6, kd7, hC.1, hP.1, hS.2.1.1, hS.2.1.2.1, hS.2.1.2.2.1, hS.2.1.2.2.2.1, hS.2.1.2.2.2.2, kn0, hN.2.1.1, hN.2.1.2.1, hN.2.1.2.2.1, hN.2.1.2.2.2.1, hN.2.1.2.2.2.2.1, hN.2.1.2.2.2.2.2.1, hN.2.1.2.2.2.2.2.2.1, hN.2.1.2.2.2.2.2.2.2, km1, km2, km3, km4, km5, km6, km7, km8, kr0, hR.2.1, hR.2.2.1, hR.2.2.2.1, kr5, kr6, kr7, kw5, kw6, kw7, kw8, ko0, ko1, ko2, ko3, ko4, ko5, ko6, ko7, ko8, kx1, kx2, kx3, c_hasv hN vN hI, e1, Bool.false_and, Bool.false_eq_true]
  obtain ⟨v, v1, rfl, v3⟩ := q_isv_lo hI e1
  cases e2 : q_ir 0 1 y
  · simp (disch := omega) only [x73_0, x73_1, x73_4, x73_7, x73_8, x73_11, x73_14, x73_15, x73_16, x73_17, x73_20, x73_23, x73_25, x73_26, x73_27, x73_30, x73_31, x73_34, x73_35, x73_36, x73_39, x73_42, x73_44, x73_45, x73_46, x73_49, x73_50, x73_53, x73_56, x73_59, x73_60, x73_61, x73_64, x73_65, nI_add, pk_mul, q_cl31, q_vin, q_le, q_lt, q_eqn, q_b_0, q_b_t, q_b_f, q_nz, q_nz1, q_nz0, q_tl, q_tn, true_and, and_true, not_true_eq_false, not_false_eq_true, ite_true, ite_false, ↓reduceIte, true_or, or_true, and_self, ne_eq, q_or1, q_or2, Nat.add_eq_zero_iff, and_false, false_and, List.length_cons, List.length_nil, reduceCtorEq, q_toI, Nat.zero_add, Nat.le_refl, q_c0, q_c1, q_c2, q_c4, q_c9, q_c12, q_c30, q_c99, q_c100, q_c126, q_c32, q_c359, q_c999, k3, hb, z0, ks0, kd0, hD.2.1, hD.2.2.1, hD.2.2.2.1, kd5, kd6, kd7, hC.1, hP.1, hS.2.1.1, hS.2.1.2.1, hS.2.1.2.2.1, hS.2.1.2.2.2.1, hS.2.1.2.2.2.2, kn0, hN.2.1.1, hN.2.1.2.1, hN.2.1.2.2.1, hN.2.1.2.2.2.1, hN.2.1.2.2.2.2.1, hN.2.1.2.2.2.2.2.1, hN.2.1.2.2.2.2.2.2.1, hN.2.1.2.2.2.2.2.2.2, km1, km2, km3, km4, km5, km6, km7, km8, kr0, hR.2.1, hR.2.2.1, hR.2.2.2.1, kr5, kr6, kr7, kw5, kw6, kw7, kw8, ko0, ko1, ko2, ko3, ko4, ko5, ko6, ko7, ko8, kx1, kx2, kx3, c_hasv hN vN hI, e1, s_isWithin, e2, Bool.and_false, Bool.false_eq_true, Bool.true_eq_false]
  rcases q_sp_c f v with h | ⟨k, hk, h, hc⟩
  · have m1 : ((-1 : Int32) < nI 0) = True := by decide
    have m9 : q_ir 0 9 (-1) = false := by decide
    simp (disch := omega) only [x73_0, x73_1, x73_4, x73_7, x73_8, x73_11, x73_14, x73_15, x73_16, x73_17, x73_20, x73_23, x73_25, x73_26, x73_27, x73_30, x73_31, x73_34, x73_35, x73_36, x73_39, x73_42, x73_44, x73_45, x73_46, x73_49, x73_50, x73_53, x73_56, x73_59, x73_60, x73_61, x73_64, x73_65, nI_add, pk_mul, q_cl31, q_vin, q_le, q_lt, q_eqn, q_b_0, q_b_t, q_b_f, q_nz, q_nz1, q_nz0, q_tl, q_tn, true_and, and_true, not_true_eq_false, not_false_eq_true, ite_true, ite_false, ↓reduceIte, true_or, or_true, and_self, ne_eq, q_or1, q_or2, Nat.add_eq_zero_iff, and_false, false_and, List.length_cons, List.length_nil, reduceCtorEq, q_toI, Nat.zero_add, Nat.le_refl, q_c0, q_c1, q_c2, q_c4, q_c9, q_c12, q_c30, q_c99, q_c100, q_c126, q_c32, q_c359, q_c999, k3, hb, z0, ks0, kd0, hD.2.1, hD.2.2.1, hD.2.2.2.1, kd5, kd6, kd7, hC.1, hP.1, hS.2.1.1, hS.2.1.2.1, hS.2.1.2.2.1, hS.2.1.2.2.2.1, hS.2.1.2.2.2.2, kn0, hN.2.1.1, hN.2.1.2.1, hN.2.1.2.2.1, hN.2.1.2.2.2.1, hN.2.1.2.2.2.2.1, hN.2.1.2.2.2.2.2.1, hN.2.1.2.2.2.2.2.2.1, hN.2.1.2.2.2.2.2.2.2, km1, km2, km3, km4, km5, km6, km7, km8, kr0, hR.2.1, hR.2.2.1, hR.2.2.2.1, kr5, kr6, kr7, kw5, kw6, kw7, kw8, ko0, ko1, ko2, ko3, ko4, ko5, ko6, ko7, ko8, kx1, kx2, kx3, c_hasv hN vN hI, e1, s_isWithin, e2, c_slot hB hS hV hI v1, h, s_isSlot, m1, m9, v3, Bool.and_self, Bool.true_eq_false]
  · have e9 : q_ir 0 9 (nI k) = true := by rw [q_ir_nI (by omega), decide_eq_true (show (0 : Int) ≤ k by omega), decide_eq_true (show (k : Int) ≤ 9 by omega)]; rfl
    by_cases y0 : y = nI 0
    · simp (disch := omega) only [x73_0, x73_1, x73_4, x73_7, x73_8, x73_11, x73_14, x73_15, x73_16, x73_17, x73_20, x73_23, x73_25, x73_26, x73_27, x73_30, x73_31, x73_34, x73_35, x73_36, x73_39, x73_42, x73_44, x73_45, x73_46, x73_49, x73_50, x73_53, x73_56, x73_59, x73_60, x73_61, x73_64, x73_65, nI_add, pk_mul, q_cl31, q_vin, q_le, q_lt, q_eqn, q_b_0, q_b_t, q_b_f, q_nz, q_nz1, q_nz0, q_tl, q_tn, true_and, and_true, not_true_eq_false, not_false_eq_true, ite_true, ite_false, ↓reduceIte, true_or, or_true, and_self, ne_eq, q_or1, q_or2, Nat.add_eq_zero_iff, and_false, false_and, List.length_cons, List.length_nil, reduceCtorEq, q_toI, Nat.zero_add, Nat.le_refl, q_c0, q_c1, q_c2, q_c4, q_c9, q_c12, q_c30, q_c99, q_c100, q_c126, q_c32, q_c359, q_c999, k3, hb, z0, ks0, kd0, hD.2.1, hD.2.2.1, hD.2.2.2.1, kd5, kd6, kd7, hC.1, hP.1, hS.2.1.1, hS.2.1.2.1, hS.2.1.2.2.1, hS.2.1.2.2.2.1, hS.2.1.2.2.2.2, kn0, hN.2.1.1, hN.2.1.2.1, hN.2.1.2.2.1, hN.2.1.2.2.2.1, hN.2.1.2.2.2.2.1, hN.2.1.2.2.2.2.2.1, hN.2.1.2.2.2.2.2.2.1, hN.2.1.2.2.2.2.2.2.2, km1, km2, km3, km4, km5, km6, km7, km8, kr0, hR.2.1, hR.2.2.1, hR.2.2.2.1, kr5, kr6, kr7, kw5, kw6, kw7, kw8, ko0, ko1, ko2, ko3, ko4, ko5, ko6, ko7, ko8, kx1, kx2, kx3, c_hasv hN vN hI, e1, s_isWithin, e2, c_slot hB hS hV hI v1, h, s_isSlot, e9, v3, Bool.and_self, Bool.true_eq_false, y0, Nat.not_lt_zero]
      subst y0
      simp (disch := omega) only [nI_add, pk_mul, q_cl31, q_vin, q_le, q_lt, q_eqn, q_b_0, q_b_t, q_b_f, q_nz, q_nz1, q_nz0, q_tl, q_tn, true_and, and_true, not_true_eq_false, not_false_eq_true, ite_true, ite_false, ↓reduceIte, true_or, or_true, and_self, ne_eq, q_or1, q_or2, Nat.add_eq_zero_iff, and_false, false_and, List.length_cons, List.length_nil, reduceCtorEq, q_toI, Nat.zero_add, Nat.le_refl, q_c0, q_c1, q_c2, q_c4, q_c9, q_c12, q_c30, q_c99, q_c100, q_c126, q_c32, q_c359, q_c999, e2, Bool.and_self]
    · simp (disch := omega) only [x73_0, x73_1, x73_4, x73_7, x73_8, x73_11, x73_14, x73_15, x73_16, x73_17, x73_20, x73_23, x73_25, x73_26, x73_27, x73_30, x73_31, x73_34, x73_35, x73_36, x73_39, x73_42, x73_44, x73_45, x73_46, x73_49, x73_50, x73_53, x73_56, x73_59, x73_60, x73_61, x73_64, x73_65, nI_add, pk_mul, q_cl31, q_vin, q_le, q_lt, q_eqn, q_b_0, q_b_t, q_b_f, q_nz, q_nz1, q_nz0, q_tl, q_tn, true_and, and_true, not_true_eq_false, not_false_eq_true, ite_true, ite_false, ↓reduceIte, true_or, or_true, and_self, ne_eq, q_or1, q_or2, Nat.add_eq_zero_iff, and_false, false_and, List.length_cons, List.length_nil, reduceCtorEq, q_toI, Nat.zero_add, Nat.le_refl, q_c0, q_c1, q_c2, q_c4, q_c9, q_c12, q_c30, q_c99, q_c100, q_c126, q_c32, q_c359, q_c999, k3, hb, z0, ks0, kd0, hD.2.1, hD.2.2.1, hD.2.2.2.1, kd5, kd6, kd7, hC.1, hP.1, hS.2.1.1, hS.2.1.2.1, hS.2.1.2.2.1, hS.2.1.2.2.2.1, hS.2.1.2.2.2.2, kn0, hN.2.1.1, hN.2.1.2.1, hN.2.1.2.2.1, hN.2.1.2.2.2.1, hN.2.1.2.2.2.2.1, hN.2.1.2.2.2.2.2.1, hN.2.1.2.2.2.2.2.2.1, hN.2.1.2.2.2.2.2.2.2, km1, km2, km3, km4, km5, km6, km7, km8, kr0, hR.2.1, hR.2.2.1, hR.2.2.2.1, kr5, kr6, kr7, kw5, kw6, kw7, kw8, ko0, ko1, ko2, ko3, ko4, ko5, ko6, ko7, ko8, kx1, kx2, kx3, c_hasv hN vN hI, e1, s_isWithin, e2, c_slot hB hS hV hI v1, h, s_isSlot, e9, v3, Bool.and_self, Bool.true_eq_false, y0, Nat.not_lt_zero]
theorem j_count (hE : q_EB L E) (hO : q_Slo E) (hI : q_In f) (hV : q_Vsta g (q_rf E 3 0) f) (x : Int32) : q_X 60 0 [.ref 3, .int x] [] E g Q = Q (some (.int (if q_ir 0 21 x = true then (if x = nI 10 then g 3 6 else if x = nI 11 then g 142 1 else a_count f x.toNatClampNeg) else -1000001))) E g := by
  obtain ⟨z0, -⟩ := q_Slo_z hO
  obtain ⟨-, ⟨k3, r7, r8, k145⟩, ⟨tx1, tx2, tx3, tx4, tx5⟩, -⟩ := id hE
  have hS := hE.2.2.2.2 _ (q_Slo_g hO).1.1
  obtain ⟨B, hb⟩ : ∃ B, q_rf E 3 0 = B := ⟨_, rfl⟩
  rw [hb] at z0 hS hV
  obtain ⟨ks0, -, hC, hN, hP, hR, hD⟩ := id hS
  obtain ⟨kn0, -, km1, km2, km3, km4, km5, km6, km7, km8⟩ := id hN
  obtain ⟨kr0, -, -, -, kr5, kr6, kr7⟩ := id hR
  obtain ⟨kd0, -, -, -, kd5, kd6, kd7⟩ := id hD
  obtain ⟨⟨kw5, kw6, kw7, kw8⟩, vC, vN, vP, vR, vD⟩ := id hV
  obtain ⟨ko0, ko1, ko2, ko3, ko4, ko5, ko6, ko7, ko8⟩ := id vN
  obtain ⟨kx1, kx2, kx3⟩ := id vR
  cases e2 : q_ir 0 21 x
  · have n := fun k hk => q_nei (m := 21) (k := k) e2 hk (by omega)
    simp (disch := omega) only [x60_0, x60_1, x60_104, x60_105, x60_108, x60_111, x60_114, x60_115, x60_116, x60_119, x60_122, x60_125, x60_126, x60_127, x60_130, x60_133, x60_136, x60_139, x60_140, x60_141, x60_144, x60_147, x60_150, x60_153, x60_154, x60_155, x60_158, x60_161, x60_164, x60_165, x60_166, x60_169, x60_172, x60_175, x60_178, x60_179, x60_180, x60_183, x60_186, x60_189, x60_192, x60_193, x60_194, x60_197, x60_200, x60_201, x60_202, x60_205, x60_208, x60_210, x60_211, x60_212, x60_213, x60_216, x60_219, x60_222, x60_223, x60_224, x60_227, x60_228, x60_229, x60_232, x60_235, x60_236, x60_237, x60_240, x60_243, x60_244, x60_245, x60_248, x60_251, x60_252, x60_254, nI_add, pk_mul, q_cl31, q_vin, q_le, q_lt, q_eqn, q_b_0, q_b_t, q_b_f, q_nz, q_nz1, q_nz0, q_tl, q_tn, true_and, and_true, not_true_eq_false, not_false_eq_true, ite_true, ite_false, ↓reduceIte, true_or, or_true, and_self, ne_eq, q_or1, q_or2, Nat.add_eq_zero_iff, and_false, false_and, List.length_cons, List.length_nil, reduceCtorEq, q_toI, Nat.zero_add, Nat.le_refl, q_c0, q_c1, q_c2, q_c4, q_c9, q_c12, q_c30, q_c99, q_c100, q_c126, q_c32, q_c359, q_c999, n 0 (by omega), n 1 (by omega), n 2 (by omega), n 3 (by omega), n 4 (by omega), n 5 (by omega), n 6 (by omega), n 7 (by omega), n 8 (by omega), n 9 (by omega), n 10 (by omega), n 11 (by omega), n 12 (by omega), n 13 (by omega), n 14 (by omega), n 15 (by omega), n 16 (by omega), n 17 (by omega), n 18 (by omega), n 19 (by omega), n 20 (by omega), n 21 (by omega), Bool.and_false, Bool.false_eq_true]
  obtain ⟨j, -, j1, rfl, j4⟩ := q_lo (lo := 0) (n := 21) e2 (by omega)
  rw [j4]
  have s2 : q_sum (g (B + 15 + 2)) 10 = a_rack f := (q_sum_c fun k hk => kx2 k hk).trans (a_rack_c hI)
  have s3 : q_sum (g (B + 4 + 4)) 12 = a_sum f 3 := (q_sum_c fun k hk => ko4 k hk).trans (a_sum_c hI (by omega))
  have s5 : q_sum (g (B + 4 + 5)) 12 = a_sum f 4 := (q_sum_c fun k hk => ko5 k hk).trans (a_sum_c hI (by omega))
  have s6 : q_sum (g (B + 4 + 7)) 12 = a_sum f 6 := (q_sum_c fun k hk => ko7 k hk).trans (a_sum_c hI (by omega))
  have q1 := vC.1
  have q4 := vD.1
  rcases (by omega : j = 0 ∨ j = 1 ∨ j = 2 ∨ j = 3 ∨ j = 4 ∨ j = 5 ∨ j = 6 ∨ j = 7 ∨ j = 8 ∨ j = 9 ∨ j = 10 ∨ j = 11 ∨ j = 12 ∨ j = 13 ∨ j = 14 ∨ j = 15 ∨ j = 16 ∨ j = 17 ∨ j = 18 ∨ j = 19 ∨ j = 20 ∨ j = 21) with rfl | rfl | rfl | rfl | rfl | rfl | rfl | rfl | rfl | rfl | rfl | rfl | rfl | rfl | rfl | rfl | rfl | rfl | rfl | rfl | rfl | rfl
  all_goals
    simp (disch := omega) only [x60_0, x60_1, x60_104, x60_105, x60_108, x60_111, x60_114, x60_115, x60_116, x60_119, x60_122, x60_125, x60_126, x60_127, x60_130, x60_133, x60_136, x60_139, x60_140, x60_141, x60_144, x60_147, x60_150, x60_153, x60_154, x60_155, x60_158, x60_161, x60_164, x60_165, x60_166, x60_169, x60_172, x60_175, x60_178, x60_179, x60_180, x60_183, x60_186, x60_189, x60_192, x60_193, x60_194, x60_197, x60_200, x60_201, x60_202, x60_205, x60_208, x60_210, x60_211, x60_212, x60_213, x60_216, x60_219, x60_222, x60_223, x60_224, x60_227, x60_228, x60_229, x60_232, x60_235, x60_236, x60_237, x60_240, x60_243, x60_244, x60_245, x60_248, x60_251, x60_252, x60_254, nI_add, pk_mul, q_cl31, q_vin, q_le, q_lt, q_eqn, q_b_0, q_b_t, q_b_f, q_nz, q_nz1, q_nz0, q_tl, q_tn, true_and, and_true, not_true_eq_false, not_false_eq_true, ite_true, ite_false, ↓reduceIte, true_or, or_true, and_self, ne_eq, q_or1, q_or2, Nat.add_eq_zero_iff, and_false, false_and, List.length_cons, List.length_nil, reduceCtorEq, q_toI, Nat.zero_add, Nat.le_refl, q_c0, q_c1, q_c2, q_c4, q_c9, q_c12, q_c30, q_c99, q_c100, q_c126, q_c32, q_c359, q_c999, k3, r7, tx1, hb, z0, ks0, kd0, hD.2.1, hD.2.2.1, hD.2.2.2.1, kd5, kd6, kd7, hC.1, hP.1, hS.2.1.1, hS.2.1.2.1, hS.2.1.2.2.1, hS.2.1.2.2.2.1, hS.2.1.2.2.2.2, kn0, hN.2.1.1, hN.2.1.2.1, hN.2.1.2.2.1, hN.2.1.2.2.2.1, hN.2.1.2.2.2.2.1, hN.2.1.2.2.2.2.2.1, hN.2.1.2.2.2.2.2.2.1, hN.2.1.2.2.2.2.2.2.2, km1, km2, km3, km4, km5, km6, km7, km8, kr0, hR.2.1, hR.2.2.1, hR.2.2.2.1, kr5, kr6, kr7, kw5, kw6, kw7, kw8, ko0, ko1, ko2, ko3, ko4, ko5, ko6, ko7, ko8, kx1, kx2, kx3, c_sumOf km4, c_sumOf km5, c_sumOf km7, c_sumOf kr6, s2, s3, s5, s6, q1, q4, c_unlike hP vP, a_pairs_c hI, a_count, pk_sub, Nat.reduceEqDiff, Nat.reduceAdd, Nat.reduceSub]
end
