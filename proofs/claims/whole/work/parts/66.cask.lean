/-! the class's public answers -/
theorem q_ad4 (a b c d : Int32) : a + b + (c + d) = a + c + (b + d) := by grind
theorem q_z0 (x : Int32) : nI 0 + x = x := by rw [nI_0, Int32.zero_add]
theorem q_sum_z0 {F : Nat → Int32} : ∀ n, (∀ k, k < n → F k = nI 0) → q_sum F n = nI 0 := by
  intro n
  induction n with
  | zero => intro _; rfl
  | succ n ih =>
    intro h
    show q_sum F n + F n = _
    rw [ih (fun k hk => h k (by omega)), h n (by omega), q_a0]
theorem q_sum_hd (F : Nat → Int32) (i : Nat) : ∀ d, q_sum F (i + d) = q_sum F i + q_sum (fun k => F (i + k)) d := by
  intro d
  induction d with
  | zero => exact (q_a0 _).symm
  | succ d ih =>
    show q_sum F (i + d) + F (i + d) = q_sum F i + (q_sum (fun k => F (i + k)) d + F (i + d))
    rw [ih, Int32.add_assoc]
theorem q_sum_ad (F G : Nat → Int32) : ∀ n, q_sum (fun k => F k + G k) n = q_sum F n + q_sum G n := by
  intro n
  induction n with
  | zero => rfl
  | succ n ih =>
    show q_sum (fun k => F k + G k) n + (F n + G n) = (q_sum F n + F n) + (q_sum G n + G n)
    rw [ih, q_ad4]
theorem q_sum_sw (G : Nat → Nat → Int32) (n : Nat) : ∀ m, q_sum (fun v => q_sum (G v) n) m = q_sum (fun k => q_sum (fun v => G v k) m) n := by
  intro m
  induction m with
  | zero => exact (q_sum_z0 n fun k hk => rfl).symm
  | succ m ih =>
    show q_sum (fun v => q_sum (G v) n) m + q_sum (G m) n = q_sum (fun k => q_sum (fun v => G v k) m + G m k) n
    rw [ih, q_sum_ad]
theorem q_sum_1 {F : Nat → Int32} {u m : Nat} (hu : u < m) (h : ∀ v, v < m → v ≠ u → F v = nI 0) : q_sum F m = F u := by
  have e : m = u + (1 + (m - u - 1)) := by omega
  rw [e, q_sum_hd, q_sum_z0 u (fun k hk => h k (by omega) (by omega)), q_z0, q_sum_hd, q_sum_z0 (m - u - 1) (fun k hk => h (u + (1 + k)) (by omega) (by omega)), q_a0]
  show nI 0 + F u = F u
  exact q_z0 _
theorem q_sum_bl (F : Nat → Int32) : ∀ m, q_sum F (12 * m) = q_sum (fun i => q_sum (fun k => F (12 * i + k)) 12) m := by
  intro m
  induction m with
  | zero => rfl
  | succ m ih =>
    rw [show 12 * (m + 1) = 12 * m + 12 by omega, q_sum_hd, ih]
    rfl
theorem a_rack_c {f : q_St} (hI : q_In f) : q_sum (fun k => f (107 + 3 * k + 1)) 10 = a_rack f := by
  have h12 := hI.1.1
  unfold a_rack q_ik
  rw [q_sum_sw]
  refine q_sum_c fun k hk => ?_
  rcases hI.2.2.2.2.2.2.2.1 k hk with ⟨-, h⟩ | ⟨h, h'⟩
  · rw [h]
    exact (q_sum_z0 _ fun v _ => by split <;> rfl).symm
  · rw [q_sum_1 h (fun v hv hne => by rw [h', if_neg]; rw [q_eqn (by omega) (by omega)]; exact fun q => hne q.symm), if_pos h']
theorem a_sum_c {f : q_St} (hI : q_In f) {w : Nat} (hw : w < 8) : q_sum (fun v => f (11 + 8 * v + w)) 12 = a_sum f w := by
  have h12 := hI.1.1
  unfold a_sum
  rw [show 12 = q_sz f + (12 - q_sz f) by omega, q_sum_hd, q_sum_z0 (12 - q_sz f) (fun k hk => hI.2.2.2.2.2.2.1 (q_sz f + k) (by omega) (by omega) w hw), q_a0]
theorem a_pairs_c {f : q_St} (hI : q_In f) : q_un f = a_pairs f := by
  unfold a_pairs
  rw [show 144 = 12 * 12 from rfl, q_sum_bl]
  unfold q_un
  refine q_sum_c fun i hi => ?_
  have sp : q_sum (fun k => if nI 0 < f (162 + (12 * i + k)) then nI 1 else nI 0) (i + (12 - i)) = q_sum (fun k => if nI 0 < f (162 + (12 * i + (i + k))) then nI 1 else nI 0) (12 - i) := by
    rw [q_sum_hd, q_sum_z0 i (fun k hk => by
      have := hI.2.2.2.2.2.2.2.2.2.2.2.1 i k hi (by omega) (Or.inl hk)
      rw [show 162 + (12 * i + k) = 162 + 12 * i + k by omega, this]
      rfl), q_z0]
  rw [show i + (12 - i) = 12 by omega] at sp
  refine Eq.trans ?_ sp.symm
  refine q_sum_c fun k hk => ?_
  have e : q_pr i (i + k) = 162 + (12 * i + (i + k)) := by unfold q_pr; split <;> omega
  rw [e]
theorem q_mx_t {f : q_St} (hI : q_In f) {v : Nat} (hv : v < 12) : q_mx (fun k => decide (k ≠ v)) (fun k => f (q_pr k v)) (-1) (nI 0) 12 = q_mx (fun k => decide (k ≠ v)) (fun k => f (q_pr k v)) (-1) (nI 0) (q_sz f) := by
  have h12 := hI.1.1
  have k : ∀ d, q_sz f + d ≤ 12 → q_mx (fun k => decide (k ≠ v)) (fun k => f (q_pr k v)) (-1) (nI 0) (q_sz f + d) = q_mx (fun k => decide (k ≠ v)) (fun k => f (q_pr k v)) (-1) (nI 0) (q_sz f) := by
    intro d
    induction d with
    | zero => intro _; rfl
    | succ d ih =>
      intro hd
      rw [← ih (by omega)]
      refine if_neg fun q => ?_
      have z : f (q_pr (q_sz f + d) v) = nI 0 := by
        unfold q_pr
        split
        · rw [← Nat.add_assoc]
          exact hI.2.2.2.2.2.2.2.2.2.2.2.1 _ _ (by omega) hv (Or.inr (Or.inl (by omega)))
        · rw [← Nat.add_assoc]
          exact hI.2.2.2.2.2.2.2.2.2.2.2.1 _ _ hv (by omega) (Or.inr (Or.inr (by omega)))
      have q2 : _ < f (q_pr (q_sz f + d) v) := q.2
      rw [z] at q2
      exact Int32.not_lt.mpr (q_mx_ge _ _ _ _ _) q2
  have := k (12 - q_sz f) (by omega)
  rw [show q_sz f + (12 - q_sz f) = 12 by omega] at this
  exact this
section
variable {E : q_E} {g : q_G} {L st : Nat} {f : q_St} {Q : Option Value → q_E → q_G → Prop}
theorem c_sumOf {a n : Nat} (ha : q_kd E a = (2, n)) (hn : n < 1000) : q_X 25 0 [.ref a, .null, .null, .null, .null, .null] [] E g Q = Q (some (.int (q_sum (g a) n))) E g := by
  simp (disch := omega) only [x25_0, x25_1, x25_2, x25_3, x25_4, x25_5, x25_6, x25_7, x25_8, nI_add, pk_mul, q_cl31, q_vin, q_le, q_lt, q_eqn, q_b_0, q_b_t, q_b_f, q_nz, q_nz1, q_nz0, q_tl, q_tn, true_and, and_true, not_true_eq_false, not_false_eq_true, ite_true, ite_false, ↓reduceIte, true_or, or_true, and_self, ne_eq, q_or1, q_or2, Nat.add_eq_zero_iff, and_false, false_and, List.length_cons, List.length_nil, reduceCtorEq, q_toI, Nat.zero_add, Nat.le_refl, q_c0, q_c1, q_c2, q_c4, q_c9, q_c12, q_c30, q_c99, q_c100, q_c126, q_c32, q_c359, q_c999, ha]
  have key : ∃ L5, q_X 25 10 [.ref a, .int (nI 0), .ref a, .int (nI n), .int (nI 0), .null] [] E g Q = q_X 25 10 [.ref a, .int (q_sum (g a) n), .ref a, .int (nI n), .int (nI n), L5] [] E g Q := by
    refine q_loop1 (P := fun j L5 => q_X 25 10 [.ref a, .int (q_sum (g a) j), .ref a, .int (nI n), .int (nI j), L5] [] E g Q) (fun j hj L5 => ⟨.int (g a j), ?_⟩)
    dsimp only [q_sum]
    conv => lhs; simp (disch := omega) only [x25_0, x25_1, x25_2, x25_3, x25_4, x25_5, x25_6, x25_7, x25_8, x25_10, x25_12, x25_13, x25_16, x25_17, x25_19, x25_20, x25_22, x25_23, x25_25, x25_26, x25_27, x25_33, x25_34, nI_add, pk_mul, q_cl31, q_vin, q_le, q_lt, q_eqn, q_b_0, q_b_t, q_b_f, q_nz, q_nz1, q_nz0, q_tl, q_tn, true_and, and_true, not_true_eq_false, not_false_eq_true, ite_true, ite_false, ↓reduceIte, true_or, or_true, and_self, ne_eq, q_or1, q_or2, Nat.add_eq_zero_iff, and_false, false_and, List.length_cons, List.length_nil, reduceCtorEq, q_toI, Nat.zero_add, Nat.le_refl, q_c0, q_c1, q_c2, q_c4, q_c9, q_c12, q_c30, q_c99, q_c100, q_c126, q_c32, q_c359, q_c999, ha, show (n ≤ j) = False from eq_false (by omega)]
    simp only [x25_30]
  obtain ⟨L5, key⟩ := key
  rw [key]
  simp (disch := omega) only [x25_0, x25_1, x25_2, x25_3, x25_4, x25_5, x25_6, x25_7, x25_8, x25_10, x25_12, x25_13, x25_16, x25_17, x25_19, x25_20, x25_22, x25_23, x25_25, x25_26, x25_27, x25_30, x25_33, x25_34, nI_add, pk_mul, q_cl31, q_vin, q_le, q_lt, q_eqn, q_b_0, q_b_t, q_b_f, q_nz, q_nz1, q_nz0, q_tl, q_tn, true_and, and_true, not_true_eq_false, not_false_eq_true, ite_true, ite_false, ↓reduceIte, true_or, or_true, and_self, ne_eq, q_or1, q_or2, Nat.add_eq_zero_iff, and_false, false_and, List.length_cons, List.length_nil, reduceCtorEq, q_toI, Nat.zero_add, Nat.le_refl, q_c0, q_c1, q_c2, q_c4, q_c9, q_c12, q_c30, q_c99, q_c100, q_c126, q_c32, q_c359, q_c999]
theorem j_verseOf (hE : q_EB L E) (hO : q_Slo E) (hI : q_In f) (hV : q_Vsta g (q_rf E 3 0) f) (x y : Int32) : q_X 106 0 [.ref 3, .int x, .int y] [] E g Q = Q (some (.int (if (q_isv f x && q_ir 0 9 y) = true then a_verse f x.toNatClampNeg y.toNatClampNeg else -1000001))) E g := by
  obtain ⟨z0, -⟩ := q_Slo_z hO
  have k3 := hE.2.1.1
  have hS := hE.2.2.2.2 _ (q_Slo_g hO).1.1
  have h12 := hI.1.1
  obtain ⟨B, hb⟩ : ∃ B, q_rf E 3 0 = B := ⟨_, rfl⟩
  rw [hb] at z0 hS hV
  obtain ⟨ks0, -, hC, hN, hP, hR, hD⟩ := id hS
  obtain ⟨kn0, -, km1, km2, km3, km4, km5, km6, km7, km8⟩ := id hN
  obtain ⟨kr0, -, -, -, kr5, kr6, kr7⟩ := id hR
  obtain ⟨kd0, -, -, -, kd5, kd6, kd7⟩ := id hD
  obtain ⟨⟨kw5, kw6, kw7, kw8⟩, vC, vN, vP, vR, vD⟩ := id hV
  obtain ⟨ko0, ko1, ko2, ko3, ko4, ko5, ko6, ko7, ko8⟩ := id vN
  obtain ⟨kx1, kx2, kx3⟩ := id vR
  cases e1 : q_isv f x
  · simp (disch := omega) only [x106_0, x106_1, x106_4, x106_7, x106_8, x106_11, x106_14, x106_15, x106_16, x106_18, x106_21, x106_24, x106_26, x106_27, x106_28, x106_31, x106_32, x106_33, x106_36, nI_add, pk_mul, q_cl31, q_vin, q_le, q_lt, q_eqn, q_b_0, q_b_t, q_b_f, q_nz, q_nz1, q_nz0, q_tl, q_tn, true_and, and_true, not_true_eq_false, not_false_eq_true, ite_true, ite_false, ↓reduceIte, true_or, or_true, and_self, ne_eq, q_or1, q_or2, Nat.add_eq_zero_iff, and_false, false_and, List.length_cons, List.length_nil, reduceCtorEq, q_toI, Nat.zero_add, Nat.le_refl, q_c0, q_c1, q_c2, q_c4, q_c9, q_c12, q_c30, q_c99, q_c100, q_c126, q_c32, q_c359, q_c999, k3, hb, z0, ks0, kd0, hD.2.1, hD.2.2.1, hD.2.2.2.1, kd5, kd6, kd7, hC.1, hP.1, hS.2.1.1, hS.2.1.2.1, hS.2.1.2.2.1, hS.2.1.2.2.2.1, hS.2.1.2.2.2.2, kn0, hN.2.1.1, hN.2.1.2.1, hN.2.1.2.2.1, hN.2.1.2.2.2.1, hN.2.1.2.2.2.2.1, hN.2.1.2.2.2.2.2.1, hN.2.1.2.2.2.2.2.2.1, hN.2.1.2.2.2.2.2.2.2, km1, km2, km3, km4, km5, km6, km7, km8, kr0, hR.2.1, hR.2.2.1, hR.2.2.2.1, kr5, kr6, kr7, kw5, kw6, kw7, kw8, ko0, ko1, ko2, ko3, ko4, ko5, ko6, ko7, ko8, kx1, kx2, kx3, c_hasv hN vN hI, e1, Bool.false_and, Bool.false_eq_true]
  obtain ⟨v, v1, rfl, v3⟩ := q_isv_lo hI e1
  cases e2 : q_ir 0 9 y
  · simp (disch := omega) only [x106_0, x106_1, x106_4, x106_7, x106_8, x106_11, x106_14, x106_15, x106_16, x106_18, x106_21, x106_24, x106_26, x106_27, x106_28, x106_31, x106_32, x106_33, x106_36, nI_add, pk_mul, q_cl31, q_vin, q_le, q_lt, q_eqn, q_b_0, q_b_t, q_b_f, q_nz, q_nz1, q_nz0, q_tl, q_tn, true_and, and_true, not_true_eq_false, not_false_eq_true, ite_true, ite_false, ↓reduceIte, true_or, or_true, and_self, ne_eq, q_or1, q_or2, Nat.add_eq_zero_iff, and_false, false_and, List.length_cons, List.length_nil, reduceCtorEq, q_toI, Nat.zero_add, Nat.le_refl, q_c0, q_c1, q_c2, q_c4, q_c9, q_c12, q_c30, q_c99, q_c100, q_c126, q_c32, q_c359, q_c999, k3, hb, z0, ks0, kd0, hD.2.1, hD.2.2.1, hD.2.2.2.1, kd5, kd6, kd7, hC.1, hP.1, hS.2.1.1, hS.2.1.2.1, hS.2.1.2.2.1, hS.2.1.2.2.2.1, hS.2.1.2.2.2.2, kn0, hN.2.1.1, hN.2.1.2.1, hN.2.1.2.2.1, hN.2.1.2.2.2.1, hN.2.1.2.2.2.2.1, hN.2.1.2.2.2.2.2.1, hN.2.1.2.2.2.2.2.2.1, hN.2.1.2.2.2.2.2.2.2, km1, km2, km3, km4, km5, km6, km7, km8, kr0, hR.2.1, hR.2.2.1, hR.2.2.2.1, kr5, kr6, kr7, kw5, kw6, kw7, kw8, ko0, ko1, ko2, ko3, ko4, ko5, ko6, ko7, ko8, kx1, kx2, kx3, c_hasv hN vN hI, e1, s_isWithin, e2, Bool.and_false, Bool.false_eq_true, Bool.true_eq_false]
  obtain ⟨j, -, j1, rfl, j4⟩ := q_lo (lo := 0) (n := 9) e2 (by omega)
  simp (disch := omega) only [x106_0, x106_1, x106_4, x106_7, x106_8, x106_11, x106_14, x106_15, x106_16, x106_18, x106_21, x106_24, x106_26, x106_27, x106_28, x106_31, x106_32, x106_33, x106_36, nI_add, pk_mul, q_cl31, q_vin, q_le, q_lt, q_eqn, q_b_0, q_b_t, q_b_f, q_nz, q_nz1, q_nz0, q_tl, q_tn, true_and, and_true, not_true_eq_false, not_false_eq_true, ite_true, ite_false, ↓reduceIte, true_or, or_true, and_self, ne_eq, q_or1, q_or2, Nat.add_eq_zero_iff, and_false, false_and, List.length_cons, List.length_nil, reduceCtorEq, q_toI, Nat.zero_add, Nat.le_refl, q_c0, q_c1, q_c2, q_c4, q_c9, q_c12, q_c30, q_c99, q_c100, q_c126, q_c32, q_c359, q_c999, k3, hb, z0, ks0, kd0, hD.2.1, hD.2.2.1, hD.2.2.2.1, kd5, kd6, kd7, hC.1, hP.1, hS.2.1.1, hS.2.1.2.1, hS.2.1.2.2.1, hS.2.1.2.2.2.1, hS.2.1.2.2.2.2, kn0, hN.2.1.1, hN.2.1.2.1, hN.2.1.2.2.1, hN.2.1.2.2.2.1, hN.2.1.2.2.2.2.1, hN.2.1.2.2.2.2.2.1, hN.2.1.2.2.2.2.2.2.1, hN.2.1.2.2.2.2.2.2.2, km1, km2, km3, km4, km5, km6, km7, km8, kr0, hR.2.1, hR.2.2.1, hR.2.2.2.1, kr5, kr6, kr7, kw5, kw6, kw7, kw8, ko0, ko1, ko2, ko3, ko4, ko5, ko6, ko7, ko8, kx1, kx2, kx3, c_hasv hN vN hI, e1, s_isWithin, e2, c_aboutV hS hV hI, Bool.and_self, v3, j4, Bool.true_eq_false]
theorem j_slotOf (hE : q_EB L E) (hO : q_Slo E) (hB : q_BesB E g) (hI : q_In f) (hV : q_Vsta g (q_rf E 3 0) f) (x y : Int32) : q_X 140 0 [.ref 3, .int x, .int y] [] E g Q = Q (some (.int (if (q_ir 0 9 x && q_ir 0 4 y) = true then a_slot f x.toNatClampNeg y.toNatClampNeg else -1000001))) E g := by
  obtain ⟨z0, -⟩ := q_Slo_z hO
  have k3 := hE.2.1.1
  have hS := hE.2.2.2.2 _ (q_Slo_g hO).1.1
  obtain ⟨B, hb⟩ : ∃ B, q_rf E 3 0 = B := ⟨_, rfl⟩
  rw [hb] at z0 hS hV
  have ks0 := hS.1
  cases e1 : q_ir 0 9 x
  · simp (disch := omega) only [x140_0, x140_1, x140_4, x140_7, x140_8, x140_9, x140_10, x140_13, x140_16, x140_18, x140_19, x140_20, x140_23, x140_24, x140_25, x140_28, nI_add, pk_mul, q_cl31, q_vin, q_le, q_lt, q_eqn, q_b_0, q_b_t, q_b_f, q_nz, q_nz1, q_nz0, q_tl, q_tn, true_and, and_true, not_true_eq_false, not_false_eq_true, ite_true, ite_false, ↓reduceIte, true_or, or_true, and_self, ne_eq, q_or1, q_or2, Nat.add_eq_zero_iff, and_false, false_and, List.length_cons, List.length_nil, reduceCtorEq, q_toI, Nat.zero_add, Nat.le_refl, q_c0, q_c1, q_c2, q_c4, q_c9, q_c12, q_c30, q_c99, q_c100, q_c126, q_c32, q_c359, q_c999, s_isSlot, e1, Bool.false_and, Bool.false_eq_true]
  obtain ⟨s, -, s1, rfl, s4⟩ := q_lo (lo := 0) (n := 9) e1 (by omega)
  cases e2 : q_ir 0 4 y
  · simp (disch := omega) only [x140_0, x140_1, x140_4, x140_7, x140_8, x140_9, x140_10, x140_13, x140_16, x140_18, x140_19, x140_20, x140_23, x140_24, x140_25, x140_28, nI_add, pk_mul, q_cl31, q_vin, q_le, q_lt, q_eqn, q_b_0, q_b_t, q_b_f, q_nz, q_nz1, q_nz0, q_tl, q_tn, true_and, and_true, not_true_eq_false, not_false_eq_true, ite_true, ite_false, ↓reduceIte, true_or, or_true, and_self, ne_eq, q_or1, q_or2, Nat.add_eq_zero_iff, and_false, false_and, List.length_cons, List.length_nil, reduceCtorEq, q_toI, Nat.zero_add, Nat.le_refl, q_c0, q_c1, q_c2, q_c4, q_c9, q_c12, q_c30, q_c99, q_c100, q_c126, q_c32, q_c359, q_c999, s_isSlot, e1, s_isWithin, e2, Bool.and_false, Bool.false_eq_true, Bool.true_eq_false]
  obtain ⟨j, -, j1, rfl, j4⟩ := q_lo (lo := 0) (n := 4) e2 (by omega)
  simp (disch := omega) only [x140_0, x140_1, x140_4, x140_7, x140_8, x140_9, x140_10, x140_13, x140_16, x140_18, x140_19, x140_20, x140_23, x140_24, x140_25, x140_28, nI_add, pk_mul, q_cl31, q_vin, q_le, q_lt, q_eqn, q_b_0, q_b_t, q_b_f, q_nz, q_nz1, q_nz0, q_tl, q_tn, true_and, and_true, not_true_eq_false, not_false_eq_true, ite_true, ite_false, ↓reduceIte, true_or, or_true, and_self, ne_eq, q_or1, q_or2, Nat.add_eq_zero_iff, and_false, false_and, List.length_cons, List.length_nil, reduceCtorEq, q_toI, Nat.zero_add, Nat.le_refl, q_c0, q_c1, q_c2, q_c4, q_c9, q_c12, q_c30, q_c99, q_c100, q_c126, q_c32, q_c359, q_c999, k3, hb, z0, ks0, s_isSlot, e1, s_isWithin, e2, c_aboutS hB hS hV hI, Bool.and_self, s4, j4, Bool.true_eq_false]
theorem j_orderOf (hE : q_EB L E) (hO : q_Slo E) (hI : q_In f) (hV : q_Vsta g (q_rf E 3 0) f) (x y : Int32) : q_X 65 0 [.ref 3, .int x, .int y] [] E g Q = Q (some (.int (if x < nI 0 ∨ q_ir 0 2 y = false then -1000001 else a_order f x y.toNatClampNeg))) E g := by
  obtain ⟨z0, -⟩ := q_Slo_z hO
  have k3 := hE.2.1.1
  have hS := hE.2.2.2.2 _ (q_Slo_g hO).1.1
  obtain ⟨B, hb⟩ : ∃ B, q_rf E 3 0 = B := ⟨_, rfl⟩
  rw [hb] at z0 hS hV
  have ks0 := hS.1
  by_cases e1 : x < nI 0
  · simp (disch := omega) only [x65_0, x65_1, x65_4, x65_5, x65_6, x65_7, x65_10, x65_13, x65_15, x65_16, x65_17, x65_20, x65_21, x65_22, x65_25, nI_add, pk_mul, q_cl31, q_vin, q_le, q_lt, q_eqn, q_b_0, q_b_t, q_b_f, q_nz, q_nz1, q_nz0, q_tl, q_tn, true_and, and_true, not_true_eq_false, not_false_eq_true, ite_true, ite_false, ↓reduceIte, true_or, or_true, and_self, ne_eq, q_or1, q_or2, Nat.add_eq_zero_iff, and_false, false_and, List.length_cons, List.length_nil, reduceCtorEq, q_toI, Nat.zero_add, Nat.le_refl, q_c0, q_c1, q_c2, q_c4, q_c9, q_c12, q_c30, q_c99, q_c100, q_c126, q_c32, q_c359, q_c999, e1]
  cases e2 : q_ir 0 2 y
  · simp (disch := omega) only [x65_0, x65_1, x65_4, x65_5, x65_6, x65_7, x65_10, x65_13, x65_15, x65_16, x65_17, x65_20, x65_21, x65_22, x65_25, nI_add, pk_mul, q_cl31, q_vin, q_le, q_lt, q_eqn, q_b_0, q_b_t, q_b_f, q_nz, q_nz1, q_nz0, q_tl, q_tn, true_and, and_true, not_true_eq_false, not_false_eq_true, ite_true, ite_false, ↓reduceIte, true_or, or_true, and_self, ne_eq, q_or1, q_or2, Nat.add_eq_zero_iff, and_false, false_and, List.length_cons, List.length_nil, reduceCtorEq, q_toI, Nat.zero_add, Nat.le_refl, q_c0, q_c1, q_c2, q_c4, q_c9, q_c12, q_c30, q_c99, q_c100, q_c126, q_c32, q_c359, q_c999, e1, s_isWithin, e2]
  obtain ⟨j, -, j1, rfl, j4⟩ := q_lo (lo := 0) (n := 2) e2 (by omega)
  simp (disch := omega) only [x65_0, x65_1, x65_4, x65_5, x65_6, x65_7, x65_10, x65_13, x65_15, x65_16, x65_17, x65_20, x65_21, x65_22, x65_25, nI_add, pk_mul, q_cl31, q_vin, q_le, q_lt, q_eqn, q_b_0, q_b_t, q_b_f, q_nz, q_nz1, q_nz0, q_tl, q_tn, true_and, and_true, not_true_eq_false, not_false_eq_true, ite_true, ite_false, ↓reduceIte, true_or, or_true, and_self, ne_eq, q_or1, q_or2, Nat.add_eq_zero_iff, and_false, false_and, List.length_cons, List.length_nil, reduceCtorEq, q_toI, Nat.zero_add, Nat.le_refl, q_c0, q_c1, q_c2, q_c4, q_c9, q_c12, q_c30, q_c99, q_c100, q_c126, q_c32, q_c359, q_c999, k3, hb, z0, ks0, e1, s_isWithin, e2, c_order hS hV hI (Int32.not_lt.mp e1), j4, Bool.true_eq_false, or_self]
theorem j_occasionOf (hE : q_EB L E) (hO : q_Slo E) (hI : q_In f) (hV : q_Vsta g (q_rf E 3 0) f) (x y : Int32) : q_X 139 0 [.ref 3, .int x, .int y] [] E g Q = Q (some (.int (if (q_ir 0 4 x && q_ir 0 4 y) = true then a_occ f x.toNatClampNeg y.toNatClampNeg else -1000001))) E g := by
  obtain ⟨z0, -⟩ := q_Slo_z hO
  have k3 := hE.2.1.1
  have hS := hE.2.2.2.2 _ (q_Slo_g hO).1.1
  obtain ⟨B, hb⟩ : ∃ B, q_rf E 3 0 = B := ⟨_, rfl⟩
  rw [hb] at z0 hS hV
  obtain ⟨ks0, -, hC, hN, hP, hR, hD⟩ := id hS
  obtain ⟨kn0, -, km1, km2, km3, km4, km5, km6, km7, km8⟩ := id hN
  obtain ⟨kr0, -, -, -, kr5, kr6, kr7⟩ := id hR
  obtain ⟨kd0, -, -, -, kd5, kd6, kd7⟩ := id hD
  obtain ⟨⟨kw5, kw6, kw7, kw8⟩, vC, vN, vP, vR, vD⟩ := id hV
  obtain ⟨ko0, ko1, ko2, ko3, ko4, ko5, ko6, ko7, ko8⟩ := id vN
  obtain ⟨kx1, kx2, kx3⟩ := id vR
  cases e1 : q_ir 0 4 x
  · simp (disch := omega) only [x139_0, x139_1, x139_4, x139_7, x139_8, x139_9, x139_10, x139_13, x139_16, x139_18, x139_19, x139_20, x139_23, x139_26, x139_27, x139_28, x139_31, nI_add, pk_mul, q_cl31, q_vin, q_le, q_lt, q_eqn, q_b_0, q_b_t, q_b_f, q_nz, q_nz1, q_nz0, q_tl, q_tn, true_and, and_true, not_true_eq_false, not_false_eq_true, ite_true, ite_false, ↓reduceIte, true_or, or_true, and_self, ne_eq, q_or1, q_or2, Nat.add_eq_zero_iff, and_false, false_and, List.length_cons, List.length_nil, reduceCtorEq, q_toI, Nat.zero_add, Nat.le_refl, q_c0, q_c1, q_c2, q_c4, q_c9, q_c12, q_c30, q_c99, q_c100, q_c126, q_c32, q_c359, q_c999, s_isOccasion, e1, Bool.false_and, Bool.false_eq_true]
  obtain ⟨s, -, s1, rfl, s4⟩ := q_lo (lo := 0) (n := 4) e1 (by omega)
  cases e2 : q_ir 0 4 y
  · simp (disch := omega) only [x139_0, x139_1, x139_4, x139_7, x139_8, x139_9, x139_10, x139_13, x139_16, x139_18, x139_19, x139_20, x139_23, x139_26, x139_27, x139_28, x139_31, nI_add, pk_mul, q_cl31, q_vin, q_le, q_lt, q_eqn, q_b_0, q_b_t, q_b_f, q_nz, q_nz1, q_nz0, q_tl, q_tn, true_and, and_true, not_true_eq_false, not_false_eq_true, ite_true, ite_false, ↓reduceIte, true_or, or_true, and_self, ne_eq, q_or1, q_or2, Nat.add_eq_zero_iff, and_false, false_and, List.length_cons, List.length_nil, reduceCtorEq, q_toI, Nat.zero_add, Nat.le_refl, q_c0, q_c1, q_c2, q_c4, q_c9, q_c12, q_c30, q_c99, q_c100, q_c126, q_c32, q_c359, q_c999, s_isOccasion, e1, s_isWithin, e2, Bool.and_false, Bool.false_eq_true, Bool.true_eq_false]
  obtain ⟨j, -, j1, rfl, j4⟩ := q_lo (lo := 0) (n := 4) e2 (by omega)
  simp (disch := omega) only [x139_0, x139_1, x139_4, x139_7, x139_8, x139_9, x139_10, x139_13, x139_16, x139_18, x139_19, x139_20, x139_23, x139_26, x139_27, x139_28, x139_31, nI_add, pk_mul, q_cl31, q_vin, q_le, q_lt, q_eqn, q_b_0, q_b_t, q_b_f, q_nz, q_nz1, q_nz0, q_tl, q_tn, true_and, and_true, not_true_eq_false, not_false_eq_true, ite_true, ite_false, ↓reduceIte, true_or, or_true, and_self, ne_eq, q_or1, q_or2, Nat.add_eq_zero_iff, and_false, false_and, List.length_cons, List.length_nil, reduceCtorEq, q_toI, Nat.zero_add, Nat.le_refl, q_c0, q_c1, q_c2, q_c4, q_c9, q_c12, q_c30, q_c99, q_c100, q_c126, q_c32, q_c359, q_c999, k3, hb, z0, ks0, kd0, hD.2.1, hD.2.2.1, hD.2.2.2.1, kd5, kd6, kd7, hC.1, hP.1, hS.2.1.1, hS.2.1.2.1, hS.2.1.2.2.1, hS.2.1.2.2.2.1, hS.2.1.2.2.2.2, kn0, hN.2.1.1, hN.2.1.2.1, hN.2.1.2.2.1, hN.2.1.2.2.2.1, hN.2.1.2.2.2.2.1, hN.2.1.2.2.2.2.2.1, hN.2.1.2.2.2.2.2.2.1, hN.2.1.2.2.2.2.2.2.2, km1, km2, km3, km4, km5, km6, km7, km8, kr0, hR.2.1, hR.2.2.1, hR.2.2.2.1, kr5, kr6, kr7, kw5, kw6, kw7, kw8, ko0, ko1, ko2, ko3, ko4, ko5, ko6, ko7, ko8, kx1, kx2, kx3, s_isOccasion, e1, s_isWithin, e2, c_about hC vC hI, Bool.and_self, s4, j4, Bool.true_eq_false]
theorem j_together (hE : q_EB L E) (hO : q_Slo E) (hI : q_In f) (hV : q_Vsta g (q_rf E 3 0) f) (x y : Int32) : q_X 66 0 [.ref 3, .int x, .int y] [] E g Q = Q (some (.int (if (q_isv f x && q_isv f y) = true then f (q_pr x.toNatClampNeg y.toNatClampNeg) else -1000001))) E g := by
  obtain ⟨z0, -⟩ := q_Slo_z hO
  have k3 := hE.2.1.1
  have hS := hE.2.2.2.2 _ (q_Slo_g hO).1.1
  have h12 := hI.1.1
  obtain ⟨B, hb⟩ : ∃ B, q_rf E 3 0 = B := ⟨_, rfl⟩
  rw [hb] at z0 hS hV
  obtain ⟨ks0, -, hC, hN, hP, hR, hD⟩ := id hS
  obtain ⟨kn0, -, km1, km2, km3, km4, km5, km6, km7, km8⟩ := id hN
  obtain ⟨kr0, -, -, -, kr5, kr6, kr7⟩ := id hR
  obtain ⟨kd0, -, -, -, kd5, kd6, kd7⟩ := id hD
  obtain ⟨⟨kw5, kw6, kw7, kw8⟩, vC, vN, vP, vR, vD⟩ := id hV
  obtain ⟨ko0, ko1, ko2, ko3, ko4, ko5, ko6, ko7, ko8⟩ := id vN
  obtain ⟨kx1, kx2, kx3⟩ := id vR
  cases e1 : q_isv f x
  · simp (disch := omega) only [x66_0, x66_1, x66_4, x66_7, x66_8, x66_11, x66_14, x66_15, x66_18, x66_21, x66_22, x66_25, x66_28, x66_30, x66_31, x66_32, x66_35, x66_38, x66_39, x66_40, x66_43, nI_add, pk_mul, q_cl31, q_vin, q_le, q_lt, q_eqn, q_b_0, q_b_t, q_b_f, q_nz, q_nz1, q_nz0, q_tl, q_tn, true_and, and_true, not_true_eq_false, not_false_eq_true, ite_true, ite_false, ↓reduceIte, true_or, or_true, and_self, ne_eq, q_or1, q_or2, Nat.add_eq_zero_iff, and_false, false_and, List.length_cons, List.length_nil, reduceCtorEq, q_toI, Nat.zero_add, Nat.le_refl, q_c0, q_c1, q_c2, q_c4, q_c9, q_c12, q_c30, q_c99, q_c100, q_c126, q_c32, q_c359, q_c999, k3, hb, z0, ks0, kd0, hD.2.1, hD.2.2.1, hD.2.2.2.1, kd5, kd6, kd7, hC.1, hP.1, hS.2.1.1, hS.2.1.2.1, hS.2.1.2.2.1, hS.2.1.2.2.2.1, hS.2.1.2.2.2.2, kn0, hN.2.1.1, hN.2.1.2.1, hN.2.1.2.2.1, hN.2.1.2.2.2.1, hN.2.1.2.2.2.2.1, hN.2.1.2.2.2.2.2.1, hN.2.1.2.2.2.2.2.2.1, hN.2.1.2.2.2.2.2.2.2, km1, km2, km3, km4, km5, km6, km7, km8, kr0, hR.2.1, hR.2.2.1, hR.2.2.2.1, kr5, kr6, kr7, kw5, kw6, kw7, kw8, ko0, ko1, ko2, ko3, ko4, ko5, ko6, ko7, ko8, kx1, kx2, kx3, c_hasv hN vN hI, e1, Bool.false_and, Bool.false_eq_true]
  obtain ⟨v, v1, rfl, v3⟩ := q_isv_lo hI e1
  cases e2 : q_isv f y
  · simp (disch := omega) only [x66_0, x66_1, x66_4, x66_7, x66_8, x66_11, x66_14, x66_15, x66_18, x66_21, x66_22, x66_25, x66_28, x66_30, x66_31, x66_32, x66_35, x66_38, x66_39, x66_40, x66_43, nI_add, pk_mul, q_cl31, q_vin, q_le, q_lt, q_eqn, q_b_0, q_b_t, q_b_f, q_nz, q_nz1, q_nz0, q_tl, q_tn, true_and, and_true, not_true_eq_false, not_false_eq_true, ite_true, ite_false, ↓reduceIte, true_or, or_true, and_self, ne_eq, q_or1, q_or2, Nat.add_eq_zero_iff, and_false, false_and, List.length_cons, List.length_nil, reduceCtorEq, q_toI, Nat.zero_add, Nat.le_refl, q_c0, q_c1, q_c2, q_c4, q_c9, q_c12, q_c30, q_c99, q_c100, q_c126, q_c32, q_c359, q_c999, k3, hb, z0, ks0, kd0, hD.2.1, hD.2.2.1, hD.2.2.2.1, kd5, kd6, kd7, hC.1, hP.1, hS.2.1.1, hS.2.1.2.1, hS.2.1.2.2.1, hS.2.1.2.2.2.1, hS.2.1.2.2.2.2, kn0, hN.2.1.1, hN.2.1.2.1, hN.2.1.2.2.1, hN.2.1.2.2.2.1, hN.2.1.2.2.2.2.1, hN.2.1.2.2.2.2.2.1, hN.2.1.2.2.2.2.2.2.1, hN.2.1.2.2.2.2.2.2.2, km1, km2, km3, km4, km5, km6, km7, km8, kr0, hR.2.1, hR.2.2.1, hR.2.2.2.1, kr5, kr6, kr7, kw5, kw6, kw7, kw8, ko0, ko1, ko2, ko3, ko4, ko5, ko6, ko7, ko8, kx1, kx2, kx3, c_hasv hN vN hI, e1, e2, Bool.and_false, Bool.false_eq_true, Bool.true_eq_false]
  obtain ⟨w, w1, rfl, w3⟩ := q_isv_lo hI e2
  simp (disch := omega) only [x66_0, x66_1, x66_4, x66_7, x66_8, x66_11, x66_14, x66_15, x66_18, x66_21, x66_22, x66_25, x66_28, x66_30, x66_31, x66_32, x66_35, x66_38, x66_39, x66_40, x66_43, nI_add, pk_mul, q_cl31, q_vin, q_le, q_lt, q_eqn, q_b_0, q_b_t, q_b_f, q_nz, q_nz1, q_nz0, q_tl, q_tn, true_and, and_true, not_true_eq_false, not_false_eq_true, ite_true, ite_false, ↓reduceIte, true_or, or_true, and_self, ne_eq, q_or1, q_or2, Nat.add_eq_zero_iff, and_false, false_and, List.length_cons, List.length_nil, reduceCtorEq, q_toI, Nat.zero_add, Nat.le_refl, q_c0, q_c1, q_c2, q_c4, q_c9, q_c12, q_c30, q_c99, q_c100, q_c126, q_c32, q_c359, q_c999, k3, hb, z0, ks0, kd0, hD.2.1, hD.2.2.1, hD.2.2.2.1, kd5, kd6, kd7, hC.1, hP.1, hS.2.1.1, hS.2.1.2.1, hS.2.1.2.2.1, hS.2.1.2.2.2.1, hS.2.1.2.2.2.2, kn0, hN.2.1.1, hN.2.1.2.1, hN.2.1.2.2.1, hN.2.1.2.2.2.1, hN.2.1.2.2.2.2.1, hN.2.1.2.2.2.2.2.1, hN.2.1.2.2.2.2.2.2.1, hN.2.1.2.2.2.2.2.2.2, km1, km2, km3, km4, km5, km6, km7, km8, kr0, hR.2.1, hR.2.2.1, hR.2.2.2.1, kr5, kr6, kr7, kw5, kw6, kw7, kw8, ko0, ko1, ko2, ko3, ko4, ko5, ko6, ko7, ko8, kx1, kx2, kx3, c_hasv hN vN hI, e1, e2, c_times hP vP, Bool.and_self, v3, w3, Bool.true_eq_false]
theorem j_would (hE : q_EB L E) (hO : q_Slo E) (hB : q_BesB E g) (hI : q_In f) (hV : q_Vsta g (q_rf E 3 0) f) (x y : Int32) : q_X 141 0 [.ref 3, .int x, .int y, .null] [] E g Q = Q (some (.int (if (q_isv f x && q_ir 0 1 y) = true then (if q_sp f x.toNatClampNeg < nI 0 then -1000004 else if y = nI 0 then f (107 + 3 * (q_sp f x.toNatClampNeg).toNatClampNeg) else q_sp f x.toNatClampNeg) else -1000001))) E g := by
  obtain ⟨z0, -⟩ := q_Slo_z hO
  have k3 := hE.2.1.1
  have hS := hE.2.2.2.2 _ (q_Slo_g hO).1.1
  have h12 := hI.1.1
  obtain ⟨B, hb⟩ : ∃ B, q_rf E 3 0 = B := ⟨_, rfl⟩
  rw [hb] at z0 hS hV
  obtain ⟨ks0, -, hC, hN, hP, hR, hD⟩ := id hS
  obtain ⟨kn0, -, km1, km2, km3, km4, km5, km6, km7, km8⟩ := id hN
  obtain ⟨kr0, -, -, -, kr5, kr6, kr7⟩ := id hR
  obtain ⟨kd0, -, -, -, kd5, kd6, kd7⟩ := id hD
  obtain ⟨⟨kw5, kw6, kw7, kw8⟩, vC, vN, vP, vR, vD⟩ := id hV
  obtain ⟨ko0, ko1, ko2, ko3, ko4, ko5, ko6, ko7, ko8⟩ := id vN
  obtain ⟨kx1, kx2, kx3⟩ := id vR
  cases e1 : q_isv f x
  · simp (disch := omega) only [x141_0, x141_1, x141_4, x141_7, x141_8, x141_11, x141_14, x141_15, x141_16, x141_17, x141_20, x141_23, x141_25, x141_26, x141_27, x141_30, x141_31, x141_34, x141_35, x141_36, x141_39, x141_42, x141_44, x141_45, x141_46, x141_49, x141_50, x141_53, x141_56, x141_59, x141_60, x141_61, x141_64, x141_65, nI_add, pk_mul, q_cl31, q_vin, q_le, q_lt, q_eqn, q_b_0, q_b_t, q_b_f, q_nz, q_nz1, q_nz0, q_tl, q_tn, true_and, and_true, not_true_eq_false, not_false_eq_true, ite_true, ite_false, ↓reduceIte, true_or, or_true, and_self, ne_eq, q_or1, q_or2, Nat.add_eq_zero_iff, and_false, false_and, List.length_cons, List.length_nil, reduceCtorEq, q_toI, Nat.zero_add, Nat.le_refl, q_c0, q_c1, q_c2, q_c4, q_c9, q_c12, q_c30, q_c99, q_c100, q_c126, q_c32, q_c359, q_c999, k3, hb, z0, ks0, kd0, hD.2.1, hD.2.2.1, hD.2.2.2.1, kd5, kd6, kd7, hC.1, hP.1, hS.2.1.1, hS.2.1.2.1, hS.2.1.2.2.1, hS.2.1.2.2.2.1, hS.2.1.2.2.2.2, kn0, hN.2.1.1, hN.2.1.2.1, hN.2.1.2.2.1, hN.2.1.2.2.2.1, hN.2.1.2.2.2.2.1, hN.2.1.2.2.2.2.2.1, hN.2.1.2.2.2.2.2.2.1, hN.2.1.2.2.2.2.2.2.2, km1, km2, km3, km4, km5, km6, km7, km8, kr0, hR.2.1, hR.2.2.1, hR.2.2.2.1, kr5, kr6, kr7, kw5, kw6, kw7, kw8, ko0, ko1, ko2, ko3, ko4, ko5, ko6, ko7, ko8, kx1, kx2, kx3, c_hasv hN vN hI, e1, Bool.false_and, Bool.false_eq_true]
  obtain ⟨v, v1, rfl, v3⟩ := q_isv_lo hI e1
  cases e2 : q_ir 0 1 y
  · simp (disch := omega) only [x141_0, x141_1, x141_4, x141_7, x141_8, x141_11, x141_14, x141_15, x141_16, x141_17, x141_20, x141_23, x141_25, x141_26, x141_27, x141_30, x141_31, x141_34, x141_35, x141_36, x141_39, x141_42, x141_44, x141_45, x141_46, x141_49, x141_50, x141_53, x141_56, x141_59, x141_60, x141_61, x141_64, x141_65, nI_add, pk_mul, q_cl31, q_vin, q_le, q_lt, q_eqn, q_b_0, q_b_t, q_b_f, q_nz, q_nz1, q_nz0, q_tl, q_tn, true_and, and_true, not_true_eq_false, not_false_eq_true, ite_true, ite_false, ↓reduceIte, true_or, or_true, and_self, ne_eq, q_or1, q_or2, Nat.add_eq_zero_iff, and_false, false_and, List.length_cons, List.length_nil, reduceCtorEq, q_toI, Nat.zero_add, Nat.le_refl, q_c0, q_c1, q_c2, q_c4, q_c9, q_c12, q_c30, q_c99, q_c100, q_c126, q_c32, q_c359, q_c999, k3, hb, z0, ks0, kd0, hD.2.1, hD.2.2.1, hD.2.2.2.1, kd5, kd6, kd7, hC.1, hP.1, hS.2.1.1, hS.2.1.2.1, hS.2.1.2.2.1, hS.2.1.2.2.2.1, hS.2.1.2.2.2.2, kn0, hN.2.1.1, hN.2.1.2.1, hN.2.1.2.2.1, hN.2.1.2.2.2.1, hN.2.1.2.2.2.2.1, hN.2.1.2.2.2.2.2.1, hN.2.1.2.2.2.2.2.2.1, hN.2.1.2.2.2.2.2.2.2, km1, km2, km3, km4, km5, km6, km7, km8, kr0, hR.2.1, hR.2.2.1, hR.2.2.2.1, kr5, kr6, kr7, kw5, kw6, kw7, kw8, ko0, ko1, ko2, ko3, ko4, ko5, ko6, ko7, ko8, kx1, kx2, kx3, c_hasv hN vN hI, e1, s_isWithin, e2, Bool.and_false, Bool.false_eq_true, Bool.true_eq_false]
  rcases q_sp_c f v with h | ⟨k, hk, h, hc⟩
  · have m1 : ((-1 : Int32) < nI 0) = True := by decide
    have m9 : q_ir 0 9 (-1) = false := by decide
    simp (disch := omega) only [x141_0, x141_1, x141_4, x141_7, x141_8, x141_11, x141_14, x141_15, x141_16, x141_17, x141_20, x141_23, x141_25, x141_26, x141_27, x141_30, x141_31, x141_34, x141_35, x141_36, x141_39, x141_42, x141_44, x141_45, x141_46, x141_49, x141_50, x141_53, x141_56, x141_59, x141_60, x141_61, x141_64, x141_65, nI_add, pk_mul, q_cl31, q_vin, q_le, q_lt, q_eqn, q_b_0, q_b_t, q_b_f, q_nz, q_nz1, q_nz0, q_tl, q_tn, true_and, and_true, not_true_eq_false, not_false_eq_true, ite_true, ite_false, ↓reduceIte, true_or, or_true, and_self, ne_eq, q_or1, q_or2, Nat.add_eq_zero_iff, and_false, false_and, List.length_cons, List.length_nil, reduceCtorEq, q_toI, Nat.zero_add, Nat.le_refl, q_c0, q_c1, q_c2, q_c4, q_c9, q_c12, q_c30, q_c99, q_c100, q_c126, q_c32, q_c359, q_c999, k3, hb, z0, ks0, kd0, hD.2.1, hD.2.2.1, hD.2.2.2.1, kd5, kd6, kd7, hC.1, hP.1, hS.2.1.1, hS.2.1.2.1, hS.2.1.2.2.1, hS.2.1.2.2.2.1, hS.2.1.2.2.2.2, kn0, hN.2.1.1, hN.2.1.2.1, hN.2.1.2.2.1, hN.2.1.2.2.2.1, hN.2.1.2.2.2.2.1, hN.2.1.2.2.2.2.2.1, hN.2.1.2.2.2.2.2.2.1, hN.2.1.2.2.2.2.2.2.2, km1, km2, km3, km4, km5, km6, km7, km8, kr0, hR.2.1, hR.2.2.1, hR.2.2.2.1, kr5, kr6, kr7, kw5, kw6, kw7, kw8, ko0, ko1, ko2, ko3, ko4, ko5, ko6, ko7, ko8, kx1, kx2, kx3, c_hasv hN vN hI, e1, s_isWithin, e2, c_slot hB hS hV hI v1, h, s_isSlot, m1, m9, v3, Bool.and_self, Bool.true_eq_false]
  · have e9 : q_ir 0 9 (nI k) = true := by rw [q_ir_nI (by omega), decide_eq_true (show (0 : Int) ≤ k by omega), decide_eq_true (show (k : Int) ≤ 9 by omega)]; rfl
    by_cases y0 : y = nI 0
    · simp (disch := omega) only [x141_0, x141_1, x141_4, x141_7, x141_8, x141_11, x141_14, x141_15, x141_16, x141_17, x141_20, x141_23, x141_25, x141_26, x141_27, x141_30, x141_31, x141_34, x141_35, x141_36, x141_39, x141_42, x141_44, x141_45, x141_46, x141_49, x141_50, x141_53, x141_56, x141_59, x141_60, x141_61, x141_64, x141_65, nI_add, pk_mul, q_cl31, q_vin, q_le, q_lt, q_eqn, q_b_0, q_b_t, q_b_f, q_nz, q_nz1, q_nz0, q_tl, q_tn, true_and, and_true, not_true_eq_false, not_false_eq_true, ite_true, ite_false, ↓reduceIte, true_or, or_true, and_self, ne_eq, q_or1, q_or2, Nat.add_eq_zero_iff, and_false, false_and, List.length_cons, List.length_nil, reduceCtorEq, q_toI, Nat.zero_add, Nat.le_refl, q_c0, q_c1, q_c2, q_c4, q_c9, q_c12, q_c30, q_c99, q_c100, q_c126, q_c32, q_c359, q_c999, k3, hb, z0, ks0, kd0, hD.2.1, hD.2.2.1, hD.2.2.2.1, kd5, kd6, kd7, hC.1, hP.1, hS.2.1.1, hS.2.1.2.1, hS.2.1.2.2.1, hS.2.1.2.2.2.1, hS.2.1.2.2.2.2, kn0, hN.2.1.1, hN.2.1.2.1, hN.2.1.2.2.1, hN.2.1.2.2.2.1, hN.2.1.2.2.2.2.1, hN.2.1.2.2.2.2.2.1, hN.2.1.2.2.2.2.2.2.1, hN.2.1.2.2.2.2.2.2.2, km1, km2, km3, km4, km5, km6, km7, km8, kr0, hR.2.1, hR.2.2.1, hR.2.2.2.1, kr5, kr6, kr7, kw5, kw6, kw7, kw8, ko0, ko1, ko2, ko3, ko4, ko5, ko6, ko7, ko8, kx1, kx2, kx3, c_hasv hN vN hI, e1, s_isWithin, e2, c_slot hB hS hV hI v1, h, s_isSlot, e9, v3, Bool.and_self, Bool.true_eq_false, y0, Nat.not_lt_zero]
      subst y0
      simp (disch := omega) only [nI_add, pk_mul, q_cl31, q_vin, q_le, q_lt, q_eqn, q_b_0, q_b_t, q_b_f, q_nz, q_nz1, q_nz0, q_tl, q_tn, true_and, and_true, not_true_eq_false, not_false_eq_true, ite_true, ite_false, ↓reduceIte, true_or, or_true, and_self, ne_eq, q_or1, q_or2, Nat.add_eq_zero_iff, and_false, false_and, List.length_cons, List.length_nil, reduceCtorEq, q_toI, Nat.zero_add, Nat.le_refl, q_c0, q_c1, q_c2, q_c4, q_c9, q_c12, q_c30, q_c99, q_c100, q_c126, q_c32, q_c359, q_c999, e2, Bool.and_self]
    · simp (disch := omega) only [x141_0, x141_1, x141_4, x141_7, x141_8, x141_11, x141_14, x141_15, x141_16, x141_17, x141_20, x141_23, x141_25, x141_26, x141_27, x141_30, x141_31, x141_34, x141_35, x141_36, x141_39, x141_42, x141_44, x141_45, x141_46, x141_49, x141_50, x141_53, x141_56, x141_59, x141_60, x141_61, x141_64, x141_65, nI_add, pk_mul, q_cl31, q_vin, q_le, q_lt, q_eqn, q_b_0, q_b_t, q_b_f, q_nz, q_nz1, q_nz0, q_tl, q_tn, true_and, and_true, not_true_eq_false, not_false_eq_true, ite_true, ite_false, ↓reduceIte, true_or, or_true, and_self, ne_eq, q_or1, q_or2, Nat.add_eq_zero_iff, and_false, false_and, List.length_cons, List.length_nil, reduceCtorEq, q_toI, Nat.zero_add, Nat.le_refl, q_c0, q_c1, q_c2, q_c4, q_c9, q_c12, q_c30, q_c99, q_c100, q_c126, q_c32, q_c359, q_c999, k3, hb, z0, ks0, kd0, hD.2.1, hD.2.2.1, hD.2.2.2.1, kd5, kd6, kd7, hC.1, hP.1, hS.2.1.1, hS.2.1.2.1, hS.2.1.2.2.1, hS.2.1.2.2.2.1, hS.2.1.2.2.2.2, kn0, hN.2.1.1, hN.2.1.2.1, hN.2.1.2.2.1, hN.2.1.2.2.2.1, hN.2.1.2.2.2.2.1, hN.2.1.2.2.2.2.2.1, hN.2.1.2.2.2.2.2.2.1, hN.2.1.2.2.2.2.2.2.2, km1, km2, km3, km4, km5, km6, km7, km8, kr0, hR.2.1, hR.2.2.1, hR.2.2.2.1, kr5, kr6, kr7, kw5, kw6, kw7, kw8, ko0, ko1, ko2, ko3, ko4, ko5, ko6, ko7, ko8, kx1, kx2, kx3, c_hasv hN vN hI, e1, s_isWithin, e2, c_slot hB hS hV hI v1, h, s_isSlot, e9, v3, Bool.and_self, Bool.true_eq_false, y0, Nat.not_lt_zero]
theorem j_bestSlot (hE : q_EB L E) (hO : q_Slo E) (hB : q_BesB E g) (hI : q_In f) (hV : q_Vsta g (q_rf E 3 0) f) (x : Int32) : q_X 129 0 [.ref 3, .int x, .null] [] E g Q = Q (some (.int (if q_isv f x = true then a_best f x.toNatClampNeg else -1000001))) E g := by
  obtain ⟨z0, -⟩ := q_Slo_z hO
  have k3 := hE.2.1.1
  have hS := hE.2.2.2.2 _ (q_Slo_g hO).1.1
  have h12 := hI.1.1
  obtain ⟨B, hb⟩ : ∃ B, q_rf E 3 0 = B := ⟨_, rfl⟩
  rw [hb] at z0 hS hV
  obtain ⟨ks0, -, hC, hN, hP, hR, hD⟩ := id hS
  obtain ⟨kn0, -, km1, km2, km3, km4, km5, km6, km7, km8⟩ := id hN
  obtain ⟨kr0, -, -, -, kr5, kr6, kr7⟩ := id hR
  obtain ⟨kd0, -, -, -, kd5, kd6, kd7⟩ := id hD
  obtain ⟨⟨kw5, kw6, kw7, kw8⟩, vC, vN, vP, vR, vD⟩ := id hV
  obtain ⟨ko0, ko1, ko2, ko3, ko4, ko5, ko6, ko7, ko8⟩ := id vN
  obtain ⟨kx1, kx2, kx3⟩ := id vR
  cases e1 : q_isv f x
  · simp (disch := omega) only [x129_0, x129_1, x129_4, x129_7, x129_8, x129_11, x129_14, x129_16, x129_17, x129_18, x129_21, x129_22, x129_25, x129_26, x129_27, x129_28, x129_31, x129_33, x129_36, x129_37, nI_add, pk_mul, q_cl31, q_vin, q_le, q_lt, q_eqn, q_b_0, q_b_t, q_b_f, q_nz, q_nz1, q_nz0, q_tl, q_tn, true_and, and_true, not_true_eq_false, not_false_eq_true, ite_true, ite_false, ↓reduceIte, true_or, or_true, and_self, ne_eq, q_or1, q_or2, Nat.add_eq_zero_iff, and_false, false_and, List.length_cons, List.length_nil, reduceCtorEq, q_toI, Nat.zero_add, Nat.le_refl, q_c0, q_c1, q_c2, q_c4, q_c9, q_c12, q_c30, q_c99, q_c100, q_c126, q_c32, q_c359, q_c999, k3, hb, z0, ks0, kd0, hD.2.1, hD.2.2.1, hD.2.2.2.1, kd5, kd6, kd7, hC.1, hP.1, hS.2.1.1, hS.2.1.2.1, hS.2.1.2.2.1, hS.2.1.2.2.2.1, hS.2.1.2.2.2.2, kn0, hN.2.1.1, hN.2.1.2.1, hN.2.1.2.2.1, hN.2.1.2.2.2.1, hN.2.1.2.2.2.2.1, hN.2.1.2.2.2.2.2.1, hN.2.1.2.2.2.2.2.2.1, hN.2.1.2.2.2.2.2.2.2, km1, km2, km3, km4, km5, km6, km7, km8, kr0, hR.2.1, hR.2.2.1, hR.2.2.2.1, kr5, kr6, kr7, kw5, kw6, kw7, kw8, ko0, ko1, ko2, ko3, ko4, ko5, ko6, ko7, ko8, kx1, kx2, kx3, c_hasv hN vN hI, e1, Bool.false_eq_true]
  obtain ⟨v, v1, rfl, v3⟩ := q_isv_lo hI e1
  have cl := fun Q => c_lay (Q := Q) hB hS hV hI (v := v) (by omega)
  unfold a_best q_nf
  rw [v3]
  generalize (q_mx _ _ (-1) (-1) 10).1 = m at cl ⊢
  by_cases c : m = -1
  · simp (disch := omega) only [x129_0, x129_1, x129_4, x129_7, x129_8, x129_11, x129_14, x129_16, x129_17, x129_18, x129_21, x129_22, x129_25, x129_26, x129_27, x129_28, x129_31, x129_33, x129_36, x129_37, nI_add, pk_mul, q_cl31, q_vin, q_le, q_lt, q_eqn, q_b_0, q_b_t, q_b_f, q_nz, q_nz1, q_nz0, q_tl, q_tn, true_and, and_true, not_true_eq_false, not_false_eq_true, ite_true, ite_false, ↓reduceIte, true_or, or_true, and_self, ne_eq, q_or1, q_or2, Nat.add_eq_zero_iff, and_false, false_and, List.length_cons, List.length_nil, reduceCtorEq, q_toI, Nat.zero_add, Nat.le_refl, q_c0, q_c1, q_c2, q_c4, q_c9, q_c12, q_c30, q_c99, q_c100, q_c126, q_c32, q_c359, q_c999, k3, hb, z0, ks0, kd0, hD.2.1, hD.2.2.1, hD.2.2.2.1, kd5, kd6, kd7, hC.1, hP.1, hS.2.1.1, hS.2.1.2.1, hS.2.1.2.2.1, hS.2.1.2.2.2.1, hS.2.1.2.2.2.2, kn0, hN.2.1.1, hN.2.1.2.1, hN.2.1.2.2.1, hN.2.1.2.2.2.1, hN.2.1.2.2.2.2.1, hN.2.1.2.2.2.2.2.1, hN.2.1.2.2.2.2.2.2.1, hN.2.1.2.2.2.2.2.2.2, km1, km2, km3, km4, km5, km6, km7, km8, kr0, hR.2.1, hR.2.2.1, hR.2.2.2.1, kr5, kr6, kr7, kw5, kw6, kw7, kw8, ko0, ko1, ko2, ko3, ko4, ko5, ko6, ko7, ko8, kx1, kx2, kx3, c_hasv hN vN hI, e1, cl, c, Bool.true_eq_false]
  · simp (disch := omega) only [x129_0, x129_1, x129_4, x129_7, x129_8, x129_11, x129_14, x129_16, x129_17, x129_18, x129_21, x129_22, x129_25, x129_26, x129_27, x129_28, x129_31, x129_33, x129_36, x129_37, nI_add, pk_mul, q_cl31, q_vin, q_le, q_lt, q_eqn, q_b_0, q_b_t, q_b_f, q_nz, q_nz1, q_nz0, q_tl, q_tn, true_and, and_true, not_true_eq_false, not_false_eq_true, ite_true, ite_false, ↓reduceIte, true_or, or_true, and_self, ne_eq, q_or1, q_or2, Nat.add_eq_zero_iff, and_false, false_and, List.length_cons, List.length_nil, reduceCtorEq, q_toI, Nat.zero_add, Nat.le_refl, q_c0, q_c1, q_c2, q_c4, q_c9, q_c12, q_c30, q_c99, q_c100, q_c126, q_c32, q_c359, q_c999, k3, hb, z0, ks0, kd0, hD.2.1, hD.2.2.1, hD.2.2.2.1, kd5, kd6, kd7, hC.1, hP.1, hS.2.1.1, hS.2.1.2.1, hS.2.1.2.2.1, hS.2.1.2.2.2.1, hS.2.1.2.2.2.2, kn0, hN.2.1.1, hN.2.1.2.1, hN.2.1.2.2.1, hN.2.1.2.2.2.1, hN.2.1.2.2.2.2.1, hN.2.1.2.2.2.2.2.1, hN.2.1.2.2.2.2.2.2.1, hN.2.1.2.2.2.2.2.2.2, km1, km2, km3, km4, km5, km6, km7, km8, kr0, hR.2.1, hR.2.2.1, hR.2.2.2.1, kr5, kr6, kr7, kw5, kw6, kw7, kw8, ko0, ko1, ko2, ko3, ko4, ko5, ko6, ko7, ko8, kx1, kx2, kx3, c_hasv hN vN hI, e1, cl, c, Bool.true_eq_false]
theorem j_partner (hE : q_EB L E) (hO : q_Slo E) (hI : q_In f) (hV : q_Vsta g (q_rf E 3 0) f) (x : Int32) : q_X 104 0 [.ref 3, .int x, .null] [] E g Q = Q (some (.int (if q_isv f x = true then a_partner f x.toNatClampNeg else -1000001))) E g := by
  obtain ⟨z0, -⟩ := q_Slo_z hO
  have k3 := hE.2.1.1
  have hS := hE.2.2.2.2 _ (q_Slo_g hO).1.1
  have h12 := hI.1.1
  obtain ⟨B, hb⟩ : ∃ B, q_rf E 3 0 = B := ⟨_, rfl⟩
  rw [hb] at z0 hS hV
  obtain ⟨ks0, -, hC, hN, hP, hR, hD⟩ := id hS
  obtain ⟨kn0, -, km1, km2, km3, km4, km5, km6, km7, km8⟩ := id hN
  obtain ⟨kr0, -, -, -, kr5, kr6, kr7⟩ := id hR
  obtain ⟨kd0, -, -, -, kd5, kd6, kd7⟩ := id hD
  obtain ⟨⟨kw5, kw6, kw7, kw8⟩, vC, vN, vP, vR, vD⟩ := id hV
  obtain ⟨ko0, ko1, ko2, ko3, ko4, ko5, ko6, ko7, ko8⟩ := id vN
  obtain ⟨kx1, kx2, kx3⟩ := id vR
  cases e1 : q_isv f x
  · simp (disch := omega) only [x104_0, x104_1, x104_4, x104_7, x104_8, x104_11, x104_14, x104_16, x104_17, x104_18, x104_21, x104_24, x104_25, x104_28, x104_29, x104_30, x104_31, x104_34, x104_36, x104_39, x104_40, nI_add, pk_mul, q_cl31, q_vin, q_le, q_lt, q_eqn, q_b_0, q_b_t, q_b_f, q_nz, q_nz1, q_nz0, q_tl, q_tn, true_and, and_true, not_true_eq_false, not_false_eq_true, ite_true, ite_false, ↓reduceIte, true_or, or_true, and_self, ne_eq, q_or1, q_or2, Nat.add_eq_zero_iff, and_false, false_and, List.length_cons, List.length_nil, reduceCtorEq, q_toI, Nat.zero_add, Nat.le_refl, q_c0, q_c1, q_c2, q_c4, q_c9, q_c12, q_c30, q_c99, q_c100, q_c126, q_c32, q_c359, q_c999, k3, hb, z0, ks0, kd0, hD.2.1, hD.2.2.1, hD.2.2.2.1, kd5, kd6, kd7, hC.1, hP.1, hS.2.1.1, hS.2.1.2.1, hS.2.1.2.2.1, hS.2.1.2.2.2.1, hS.2.1.2.2.2.2, kn0, hN.2.1.1, hN.2.1.2.1, hN.2.1.2.2.1, hN.2.1.2.2.2.1, hN.2.1.2.2.2.2.1, hN.2.1.2.2.2.2.2.1, hN.2.1.2.2.2.2.2.2.1, hN.2.1.2.2.2.2.2.2.2, km1, km2, km3, km4, km5, km6, km7, km8, kr0, hR.2.1, hR.2.2.1, hR.2.2.2.1, kr5, kr6, kr7, kw5, kw6, kw7, kw8, ko0, ko1, ko2, ko3, ko4, ko5, ko6, ko7, ko8, kx1, kx2, kx3, c_hasv hN vN hI, e1, Bool.false_eq_true]
  obtain ⟨v, v1, rfl, v3⟩ := q_isv_lo hI e1
  have cl := fun Q => c_most (Q := Q) hP vP (v := v) (by omega)
  rw [q_mx_t hI (by omega)] at cl
  unfold a_partner q_nf
  rw [v3]
  generalize (q_mx _ _ (-1) (nI 0) (q_sz f)).1 = m at cl ⊢
  by_cases c : m = -1
  · simp (disch := omega) only [x104_0, x104_1, x104_4, x104_7, x104_8, x104_11, x104_14, x104_16, x104_17, x104_18, x104_21, x104_24, x104_25, x104_28, x104_29, x104_30, x104_31, x104_34, x104_36, x104_39, x104_40, nI_add, pk_mul, q_cl31, q_vin, q_le, q_lt, q_eqn, q_b_0, q_b_t, q_b_f, q_nz, q_nz1, q_nz0, q_tl, q_tn, true_and, and_true, not_true_eq_false, not_false_eq_true, ite_true, ite_false, ↓reduceIte, true_or, or_true, and_self, ne_eq, q_or1, q_or2, Nat.add_eq_zero_iff, and_false, false_and, List.length_cons, List.length_nil, reduceCtorEq, q_toI, Nat.zero_add, Nat.le_refl, q_c0, q_c1, q_c2, q_c4, q_c9, q_c12, q_c30, q_c99, q_c100, q_c126, q_c32, q_c359, q_c999, k3, hb, z0, ks0, kd0, hD.2.1, hD.2.2.1, hD.2.2.2.1, kd5, kd6, kd7, hC.1, hP.1, hS.2.1.1, hS.2.1.2.1, hS.2.1.2.2.1, hS.2.1.2.2.2.1, hS.2.1.2.2.2.2, kn0, hN.2.1.1, hN.2.1.2.1, hN.2.1.2.2.1, hN.2.1.2.2.2.1, hN.2.1.2.2.2.2.1, hN.2.1.2.2.2.2.2.1, hN.2.1.2.2.2.2.2.2.1, hN.2.1.2.2.2.2.2.2.2, km1, km2, km3, km4, km5, km6, km7, km8, kr0, hR.2.1, hR.2.2.1, hR.2.2.2.1, kr5, kr6, kr7, kw5, kw6, kw7, kw8, ko0, ko1, ko2, ko3, ko4, ko5, ko6, ko7, ko8, kx1, kx2, kx3, c_hasv hN vN hI, e1, cl, c, Bool.true_eq_false]
  · simp (disch := omega) only [x104_0, x104_1, x104_4, x104_7, x104_8, x104_11, x104_14, x104_16, x104_17, x104_18, x104_21, x104_24, x104_25, x104_28, x104_29, x104_30, x104_31, x104_34, x104_36, x104_39, x104_40, nI_add, pk_mul, q_cl31, q_vin, q_le, q_lt, q_eqn, q_b_0, q_b_t, q_b_f, q_nz, q_nz1, q_nz0, q_tl, q_tn, true_and, and_true, not_true_eq_false, not_false_eq_true, ite_true, ite_false, ↓reduceIte, true_or, or_true, and_self, ne_eq, q_or1, q_or2, Nat.add_eq_zero_iff, and_false, false_and, List.length_cons, List.length_nil, reduceCtorEq, q_toI, Nat.zero_add, Nat.le_refl, q_c0, q_c1, q_c2, q_c4, q_c9, q_c12, q_c30, q_c99, q_c100, q_c126, q_c32, q_c359, q_c999, k3, hb, z0, ks0, kd0, hD.2.1, hD.2.2.1, hD.2.2.2.1, kd5, kd6, kd7, hC.1, hP.1, hS.2.1.1, hS.2.1.2.1, hS.2.1.2.2.1, hS.2.1.2.2.2.1, hS.2.1.2.2.2.2, kn0, hN.2.1.1, hN.2.1.2.1, hN.2.1.2.2.1, hN.2.1.2.2.2.1, hN.2.1.2.2.2.2.1, hN.2.1.2.2.2.2.2.1, hN.2.1.2.2.2.2.2.2.1, hN.2.1.2.2.2.2.2.2.2, km1, km2, km3, km4, km5, km6, km7, km8, kr0, hR.2.1, hR.2.2.1, hR.2.2.2.1, kr5, kr6, kr7, kw5, kw6, kw7, kw8, ko0, ko1, ko2, ko3, ko4, ko5, ko6, ko7, ko8, kx1, kx2, kx3, c_hasv hN vN hI, e1, cl, c, Bool.true_eq_false]
theorem j_lasts (hE : q_EB L E) (hO : q_Slo E) (hI : q_In f) (hV : q_Vsta g (q_rf E 3 0) f) (hW : ∀ v, v < 12 → ∃ w : Nat, w < 2147483648 ∧ f (11 + 8 * v + 7) = nI w) (x : Int32) : q_X 103 0 [.ref 3, .int x, .null, .null, .null] [] E g Q = Q (some (.int (if q_isv f x = true then a_lasts f x.toNatClampNeg else -1000001))) E g := by
  obtain ⟨z0, -⟩ := q_Slo_z hO
  have k3 := hE.2.1.1
  have hS := hE.2.2.2.2 _ (q_Slo_g hO).1.1
  have h12 := hI.1.1
  have hd := hI.2.2.2.1
  obtain ⟨B, hb⟩ : ∃ B, q_rf E 3 0 = B := ⟨_, rfl⟩
  rw [hb] at z0 hS hV
  obtain ⟨ks0, -, hC, hN, hP, hR, hD⟩ := id hS
  obtain ⟨kn0, -, km1, km2, km3, km4, km5, km6, km7, km8⟩ := id hN
  obtain ⟨kr0, -, -, -, kr5, kr6, kr7⟩ := id hR
  obtain ⟨kd0, -, -, -, kd5, kd6, kd7⟩ := id hD
  obtain ⟨⟨kw5, kw6, kw7, kw8⟩, vC, vN, vP, vR, vD⟩ := id hV
  obtain ⟨ko0, ko1, ko2, ko3, ko4, ko5, ko6, ko7, ko8⟩ := id vN
  obtain ⟨kx1, kx2, kx3⟩ := id vR
  have hd0 := vC.1.trans hd.2
  cases e1 : q_isv f x
  · simp (disch := omega) only [x103_0, x103_1, x103_4, x103_7, x103_8, x103_11, x103_14, x103_16, x103_17, x103_18, x103_21, x103_24, x103_27, x103_28, x103_29, x103_30, x103_31, x103_34, x103_36, x103_37, x103_38, x103_41, x103_42, x103_45, x103_46, x103_47, x103_48, x103_49, x103_52, x103_55, x103_58, x103_61, x103_62, x103_64, x103_65, x103_67, x103_68, x103_69, x103_70, x103_71, x103_74, nI_add, pk_mul, q_cl31, q_vin, q_le, q_lt, q_eqn, q_b_0, q_b_t, q_b_f, q_nz, q_nz1, q_nz0, q_tl, q_tn, true_and, and_true, not_true_eq_false, not_false_eq_true, ite_true, ite_false, ↓reduceIte, true_or, or_true, and_self, ne_eq, q_or1, q_or2, Nat.add_eq_zero_iff, and_false, false_and, List.length_cons, List.length_nil, reduceCtorEq, q_toI, Nat.zero_add, Nat.le_refl, q_c0, q_c1, q_c2, q_c4, q_c9, q_c12, q_c30, q_c99, q_c100, q_c126, q_c32, q_c359, q_c999, k3, hb, z0, ks0, kd0, hD.2.1, hD.2.2.1, hD.2.2.2.1, kd5, kd6, kd7, hC.1, hP.1, hS.2.1.1, hS.2.1.2.1, hS.2.1.2.2.1, hS.2.1.2.2.2.1, hS.2.1.2.2.2.2, kn0, hN.2.1.1, hN.2.1.2.1, hN.2.1.2.2.1, hN.2.1.2.2.2.1, hN.2.1.2.2.2.2.1, hN.2.1.2.2.2.2.2.1, hN.2.1.2.2.2.2.2.2.1, hN.2.1.2.2.2.2.2.2.2, km1, km2, km3, km4, km5, km6, km7, km8, kr0, hR.2.1, hR.2.2.1, hR.2.2.2.1, kr5, kr6, kr7, kw5, kw6, kw7, kw8, ko0, ko1, ko2, ko3, ko4, ko5, ko6, ko7, ko8, kx1, kx2, kx3, c_hasv hN vN hI, e1, Bool.false_eq_true]
  obtain ⟨v, v1, rfl, v3⟩ := q_isv_lo hI e1
  obtain ⟨n, n1, n2⟩ := q_all_N hI v1
  obtain ⟨w, w1, w2⟩ := hW v (by omega)
  rw [v3]
  unfold a_lasts
  rw [w2]
  by_cases w0 : w = 0
  · subst w0
    simp (disch := omega) only [x103_0, x103_1, x103_4, x103_7, x103_8, x103_11, x103_14, x103_16, x103_17, x103_18, x103_21, x103_24, x103_27, x103_28, x103_29, x103_30, x103_31, x103_34, x103_36, x103_37, x103_38, x103_41, x103_42, x103_45, x103_46, x103_47, x103_48, x103_49, x103_52, x103_55, x103_58, x103_61, x103_62, x103_64, x103_65, x103_67, x103_68, x103_69, x103_70, x103_71, x103_74, nI_add, pk_mul, q_cl31, q_vin, q_le, q_lt, q_eqn, q_b_0, q_b_t, q_b_f, q_nz, q_nz1, q_nz0, q_tl, q_tn, true_and, and_true, not_true_eq_false, not_false_eq_true, ite_true, ite_false, ↓reduceIte, true_or, or_true, and_self, ne_eq, q_or1, q_or2, Nat.add_eq_zero_iff, and_false, false_and, List.length_cons, List.length_nil, reduceCtorEq, q_toI, Nat.zero_add, Nat.le_refl, q_c0, q_c1, q_c2, q_c4, q_c9, q_c12, q_c30, q_c99, q_c100, q_c126, q_c32, q_c359, q_c999, k3, hb, z0, ks0, kd0, hD.2.1, hD.2.2.1, hD.2.2.2.1, kd5, kd6, kd7, hC.1, hP.1, hS.2.1.1, hS.2.1.2.1, hS.2.1.2.2.1, hS.2.1.2.2.2.1, hS.2.1.2.2.2.2, kn0, hN.2.1.1, hN.2.1.2.1, hN.2.1.2.2.1, hN.2.1.2.2.2.1, hN.2.1.2.2.2.2.1, hN.2.1.2.2.2.2.2.1, hN.2.1.2.2.2.2.2.2.1, hN.2.1.2.2.2.2.2.2.2, km1, km2, km3, km4, km5, km6, km7, km8, kr0, hR.2.1, hR.2.2.1, hR.2.2.2.1, kr5, kr6, kr7, kw5, kw6, kw7, kw8, ko0, ko1, ko2, ko3, ko4, ko5, ko6, ko7, ko8, kx1, kx2, kx3, c_hasv hN vN hI, e1, w2, Bool.true_eq_false, Nat.lt_irrefl]
  · have hd1 : 1 ≤ q_dd f ∧ q_dd f < 2147483648 := by unfold q_dd; split <;> omega
    have mx : (if 1 < q_dy f then nI (q_dy f) else nI 1) = nI (q_dd f) := by
      unfold q_dd
      by_cases c : 1 < q_dy f
      · rw [if_pos c, if_neg (by omega)]
      · rw [if_neg c]
        split
        · rfl
        · rw [show q_dy f = 1 by omega]
    obtain ⟨⟨f1, f2⟩, f3⟩ := q_fvp (n := n) (d := q_dd f) (w := w) (by omega) hd1 (by omega)
    rw [if_pos (rfl : true = true), n2, nI_clamp (by omega), nI_clamp (by omega), if_neg (by rw [q_eqn (by omega) (by omega)]; exact w0)]
    have bt : ∀ Q, q_X 22 0 [.float (q_ldv n (q_dd f) w), .null, .null, .null] [] E g Q = Q (some (.int (q_ldv n (q_dd f) w).toInt32)) E g := by
      intro Q
      rcases f3 with ⟨-, h⟩ | ⟨c, e, h1, h2⟩
      · rw [h]; exact s_bits0
      · rw [h2]; exact s_bits h1
    unfold q_ldv at f2 bt ⊢
    simp (disch := omega) only [x103_0, x103_1, x103_4, x103_7, x103_8, x103_11, x103_14, x103_16, x103_17, x103_18, x103_21, x103_24, x103_27, x103_28, x103_29, x103_30, x103_31, x103_34, x103_36, x103_37, x103_38, x103_41, x103_42, x103_45, x103_46, x103_47, x103_48, x103_49, x103_52, x103_55, x103_58, x103_61, x103_62, x103_64, x103_65, x103_67, x103_68, x103_69, x103_70, x103_71, x103_74, nI_add, pk_mul, q_cl31, q_vin, q_le, q_lt, q_eqn, q_b_0, q_b_t, q_b_f, q_nz, q_nz1, q_nz0, q_tl, q_tn, true_and, and_true, not_true_eq_false, not_false_eq_true, ite_true, ite_false, ↓reduceIte, true_or, or_true, and_self, ne_eq, q_or1, q_or2, Nat.add_eq_zero_iff, and_false, false_and, List.length_cons, List.length_nil, reduceCtorEq, q_toI, Nat.zero_add, Nat.le_refl, q_c0, q_c1, q_c2, q_c4, q_c9, q_c12, q_c30, q_c99, q_c100, q_c126, q_c32, q_c359, q_c999, k3, hb, z0, ks0, kd0, hD.2.1, hD.2.2.1, hD.2.2.2.1, kd5, kd6, kd7, hC.1, hP.1, hS.2.1.1, hS.2.1.2.1, hS.2.1.2.2.1, hS.2.1.2.2.2.1, hS.2.1.2.2.2.2, kn0, hN.2.1.1, hN.2.1.2.1, hN.2.1.2.2.1, hN.2.1.2.2.2.1, hN.2.1.2.2.2.2.1, hN.2.1.2.2.2.2.2.1, hN.2.1.2.2.2.2.2.2.1, hN.2.1.2.2.2.2.2.2.2, km1, km2, km3, km4, km5, km6, km7, km8, kr0, hR.2.1, hR.2.2.1, hR.2.2.2.1, kr5, kr6, kr7, kw5, kw6, kw7, kw8, ko0, ko1, ko2, ko3, ko4, ko5, ko6, ko7, ko8, kx1, kx2, kx3, c_hasv hN vN hI, e1, w2, Bool.true_eq_false, show (w ≤ 0) = False from eq_false (by omega), show (0 < w) = True from eq_true (by omega), c_all hS hV hI, n2, hd0, s_max, mx, f1, f2, bt]
theorem j_count (hE : q_EB L E) (hO : q_Slo E) (hI : q_In f) (hV : q_Vsta g (q_rf E 3 0) f) (x : Int32) : q_X 102 0 [.ref 3, .int x] [] E g Q = Q (some (.int (if q_ir 0 21 x = true then (if x = nI 10 then g 3 6 else if x = nI 11 then g 142 1 else a_count f x.toNatClampNeg) else -1000001))) E g := by
  obtain ⟨z0, -⟩ := q_Slo_z hO
  obtain ⟨-, ⟨k3, r7, r8, k145⟩, ⟨tx1, tx2, tx3, tx4, tx5⟩, -⟩ := id hE
  have hS := hE.2.2.2.2 _ (q_Slo_g hO).1.1
  obtain ⟨B, hb⟩ : ∃ B, q_rf E 3 0 = B := ⟨_, rfl⟩
  rw [hb] at z0 hS hV
  obtain ⟨ks0, -, hC, hN, hP, hR, hD⟩ := id hS
  obtain ⟨kn0, -, km1, km2, km3, km4, km5, km6, km7, km8⟩ := id hN
  obtain ⟨kr0, -, -, -, kr5, kr6, kr7⟩ := id hR
  obtain ⟨kd0, -, -, -, kd5, kd6, kd7⟩ := id hD
  obtain ⟨⟨kw5, kw6, kw7, kw8⟩, vC, vN, vP, vR, vD⟩ := id hV
  obtain ⟨ko0, ko1, ko2, ko3, ko4, ko5, ko6, ko7, ko8⟩ := id vN
  obtain ⟨kx1, kx2, kx3⟩ := id vR
  cases e2 : q_ir 0 21 x
  · have n := fun k hk => q_nei (m := 21) (k := k) e2 hk (by omega)
    simp (disch := omega) only [x102_0, x102_1, x102_104, x102_105, x102_108, x102_111, x102_114, x102_115, x102_116, x102_119, x102_122, x102_125, x102_126, x102_127, x102_130, x102_133, x102_136, x102_139, x102_140, x102_141, x102_144, x102_147, x102_150, x102_153, x102_154, x102_155, x102_158, x102_161, x102_164, x102_165, x102_166, x102_169, x102_172, x102_175, x102_178, x102_179, x102_180, x102_183, x102_186, x102_189, x102_192, x102_193, x102_194, x102_197, x102_200, x102_201, x102_202, x102_205, x102_208, x102_210, x102_211, x102_212, x102_213, x102_216, x102_219, x102_222, x102_223, x102_224, x102_227, x102_228, x102_229, x102_232, x102_235, x102_236, x102_237, x102_240, x102_243, x102_244, x102_245, x102_248, x102_251, x102_252, x102_254, nI_add, pk_mul, q_cl31, q_vin, q_le, q_lt, q_eqn, q_b_0, q_b_t, q_b_f, q_nz, q_nz1, q_nz0, q_tl, q_tn, true_and, and_true, not_true_eq_false, not_false_eq_true, ite_true, ite_false, ↓reduceIte, true_or, or_true, and_self, ne_eq, q_or1, q_or2, Nat.add_eq_zero_iff, and_false, false_and, List.length_cons, List.length_nil, reduceCtorEq, q_toI, Nat.zero_add, Nat.le_refl, q_c0, q_c1, q_c2, q_c4, q_c9, q_c12, q_c30, q_c99, q_c100, q_c126, q_c32, q_c359, q_c999, n 0 (by omega), n 1 (by omega), n 2 (by omega), n 3 (by omega), n 4 (by omega), n 5 (by omega), n 6 (by omega), n 7 (by omega), n 8 (by omega), n 9 (by omega), n 10 (by omega), n 11 (by omega), n 12 (by omega), n 13 (by omega), n 14 (by omega), n 15 (by omega), n 16 (by omega), n 17 (by omega), n 18 (by omega), n 19 (by omega), n 20 (by omega), n 21 (by omega), Bool.and_false, Bool.false_eq_true]
  obtain ⟨j, -, j1, rfl, j4⟩ := q_lo (lo := 0) (n := 21) e2 (by omega)
  rw [j4]
  have s2 : q_sum (g (B + 15 + 2)) 10 = a_rack f := (q_sum_c fun k hk => kx2 k hk).trans (a_rack_c hI)
  have s3 : q_sum (g (B + 4 + 4)) 12 = a_sum f 3 := (q_sum_c fun k hk => ko4 k hk).trans (a_sum_c hI (by omega))
  have s5 : q_sum (g (B + 4 + 5)) 12 = a_sum f 4 := (q_sum_c fun k hk => ko5 k hk).trans (a_sum_c hI (by omega))
  have s6 : q_sum (g (B + 4 + 7)) 12 = a_sum f 6 := (q_sum_c fun k hk => ko7 k hk).trans (a_sum_c hI (by omega))
  have q1 := vC.1
  have q4 := vD.1
  rcases (by omega : j = 0 ∨ j = 1 ∨ j = 2 ∨ j = 3 ∨ j = 4 ∨ j = 5 ∨ j = 6 ∨ j = 7 ∨ j = 8 ∨ j = 9 ∨ j = 10 ∨ j = 11 ∨ j = 12 ∨ j = 13 ∨ j = 14 ∨ j = 15 ∨ j = 16 ∨ j = 17 ∨ j = 18 ∨ j = 19 ∨ j = 20 ∨ j = 21) with rfl | rfl | rfl | rfl | rfl | rfl | rfl | rfl | rfl | rfl | rfl | rfl | rfl | rfl | rfl | rfl | rfl | rfl | rfl | rfl | rfl | rfl
  all_goals
    simp (disch := omega) only [x102_0, x102_1, x102_104, x102_105, x102_108, x102_111, x102_114, x102_115, x102_116, x102_119, x102_122, x102_125, x102_126, x102_127, x102_130, x102_133, x102_136, x102_139, x102_140, x102_141, x102_144, x102_147, x102_150, x102_153, x102_154, x102_155, x102_158, x102_161, x102_164, x102_165, x102_166, x102_169, x102_172, x102_175, x102_178, x102_179, x102_180, x102_183, x102_186, x102_189, x102_192, x102_193, x102_194, x102_197, x102_200, x102_201, x102_202, x102_205, x102_208, x102_210, x102_211, x102_212, x102_213, x102_216, x102_219, x102_222, x102_223, x102_224, x102_227, x102_228, x102_229, x102_232, x102_235, x102_236, x102_237, x102_240, x102_243, x102_244, x102_245, x102_248, x102_251, x102_252, x102_254, nI_add, pk_mul, q_cl31, q_vin, q_le, q_lt, q_eqn, q_b_0, q_b_t, q_b_f, q_nz, q_nz1, q_nz0, q_tl, q_tn, true_and, and_true, not_true_eq_false, not_false_eq_true, ite_true, ite_false, ↓reduceIte, true_or, or_true, and_self, ne_eq, q_or1, q_or2, Nat.add_eq_zero_iff, and_false, false_and, List.length_cons, List.length_nil, reduceCtorEq, q_toI, Nat.zero_add, Nat.le_refl, q_c0, q_c1, q_c2, q_c4, q_c9, q_c12, q_c30, q_c99, q_c100, q_c126, q_c32, q_c359, q_c999, k3, r7, tx1, hb, z0, ks0, kd0, hD.2.1, hD.2.2.1, hD.2.2.2.1, kd5, kd6, kd7, hC.1, hP.1, hS.2.1.1, hS.2.1.2.1, hS.2.1.2.2.1, hS.2.1.2.2.2.1, hS.2.1.2.2.2.2, kn0, hN.2.1.1, hN.2.1.2.1, hN.2.1.2.2.1, hN.2.1.2.2.2.1, hN.2.1.2.2.2.2.1, hN.2.1.2.2.2.2.2.1, hN.2.1.2.2.2.2.2.2.1, hN.2.1.2.2.2.2.2.2.2, km1, km2, km3, km4, km5, km6, km7, km8, kr0, hR.2.1, hR.2.2.1, hR.2.2.2.1, kr5, kr6, kr7, kw5, kw6, kw7, kw8, ko0, ko1, ko2, ko3, ko4, ko5, ko6, ko7, ko8, kx1, kx2, kx3, c_sumOf km4, c_sumOf km5, c_sumOf km7, c_sumOf kr6, s2, s3, s5, s6, q1, q4, c_unlike hP vP, a_pairs_c hI, a_count, pk_sub, Nat.reduceEqDiff, Nat.reduceAdd, Nat.reduceSub]
end
