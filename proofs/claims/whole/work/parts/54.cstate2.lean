theorem q_set_bs : ∀ s, s < 10 → q_set (fun k => q_bs s k) 10 = q_bes s := by
  have h : ∀ s, s < 10 → decide (q_set (fun k => q_bs s k) 10 = q_bes s) = true := by decide +kernel
  exact fun s hs => of_decide_eq_true (h s hs)
theorem q_ol_get {g : q_G} {d n i : Nat} (hi : i < n) : (q_ol g d n).getD i (0, 0, 0) = (g (d + 1) i, g (d + 2) i, g (d + 3) i) := by
  unfold q_ol
  rw [List.getD_eq_getElem?_getD, List.getElem?_map, List.getElem?_range hi]
  rfl
section
variable {E : q_E} {g : q_G} {Q : Option Value → q_E → q_G → Prop} {f : q_St} {B : Nat}
theorem c_order (hS : q_StaB E B) (hV : q_Vsta g B f) (hI : q_In f) {x : Int32} (hx : nI 0 ≤ x) {w : Nat} (hw : w ≤ 2) : q_X 16 0 [.ref B, .int x, .int (nI w)] [] E g Q = Q (some (.int (a_order f x w))) E g := by
  obtain ⟨ks0, ⟨ks1, ks2, ks3, ks4, ks5⟩, hC, hN, hP, hR, hD⟩ := id hS
  obtain ⟨kn0, ⟨kn1, kn2, kn3, kn4, kn5, kn6, kn7, kn8⟩, km1, km2, km3, km4, km5, km6, km7, km8⟩ := id hN
  obtain ⟨kr0, kr1, kr2, kr3, kr5, kr6, kr7⟩ := id hR
  obtain ⟨kd0, kd1, kd2, kd3, kd5, kd6, kd7⟩ := id hD
  obtain ⟨⟨kw5, kw6, kw7, kw8⟩, vC, vN, vP, vR, vD⟩ := id hV
  obtain ⟨ko0, ko1, ko2, ko3, ko4, ko5, ko6, ko7, ko8⟩ := id vN
  obtain ⟨kx1, kx2, kx3⟩ := id vR
  have h8 := hI.2.1
  have dq := vD.1.trans h8.2
  have cq := vC.1
  by_cases c : nI (q_no f) ≤ x
  · rw [a_order_no h8.1 hx c]
    simp (disch := omega) only [x16_0, x16_1, x16_4, x16_5, x16_6, x16_9, x16_12, x16_15, x16_17, x16_18, x16_19, x16_44, x16_45, x16_48, x16_51, x16_52, x16_53, x16_54, x16_55, x16_58, x16_61, x16_62, x16_63, x16_64, x16_65, x16_68, x16_71, x16_72, x16_73, x16_74, x16_77, x16_80, x16_81, nI_add, pk_mul, q_cl31, q_vin, q_le, q_lt, q_eqn, q_b_0, q_b_t, q_b_f, q_nz, q_nz1, q_nz0, q_tl, q_tn, true_and, and_true, not_true_eq_false, not_false_eq_true, ite_true, ite_false, ↓reduceIte, true_or, or_true, and_self, ne_eq, q_or1, q_or2, Nat.add_eq_zero_iff, and_false, false_and, List.length_cons, List.length_nil, reduceCtorEq, q_toI, Nat.zero_add, Nat.le_refl, q_c0, q_c1, q_c2, q_c4, q_c9, q_c12, q_c30, q_c99, q_c100, q_c126, q_c32, q_c359, q_c999, ks0, kd0, kd1, kd2, kd3, kd5, kd6, kd7, hC.1, hP.1, ks1, ks2, ks3, ks4, ks5, kn0, kn1, kn2, kn3, kn4, kn5, kn6, kn7, kn8, km1, km2, km3, km4, km5, km6, km7, km8, kr0, kr1, kr2, kr3, kr5, kr6, kr7, kw5, kw6, kw7, kw8, ko0, ko1, ko2, ko3, ko4, ko5, ko6, ko7, ko8, kx1, kx2, kx3, dq, ← Int32.not_le, hx, c, not_true_eq_false]
  · have hx2 : ∃ i : Nat, i < q_no f ∧ x = nI i := by
      have a := Int32.le_iff_toInt_le.mp hx
      have b := Int32.lt_iff_toInt_lt.mp (Int32.not_le.mp c)
      rw [nI_toInt (by omega)] at a b
      refine ⟨x.toInt.toNat, by omega, ?_⟩
      apply Int32.toInt_inj.mp
      rw [nI_toInt (by omega)]
      omega
    obtain ⟨i, hi, rfl⟩ := hx2
    obtain ⟨k, hk, hg, ha⟩ := a_order_get (w := w) h8.1 hi
    rw [ha]
    rw [← vD.2, q_ol_get hi] at hg
    have e1 : g (B + 19 + 1) i = f (138 + 3 * k) := congrArg Prod.fst hg
    have e2 : g (B + 19 + 2) i = f (138 + 3 * k + 1) := congrArg (fun t => t.2.1) hg
    have e3 : g (B + 19 + 3) i = f (138 + 3 * k + 2) := congrArg (fun t => t.2.2) hg
    rcases (by omega : w = 0 ∨ w = 1 ∨ w = 2) with rfl | rfl | rfl
    all_goals
      simp (disch := omega) only [x16_0, x16_1, x16_4, x16_5, x16_6, x16_9, x16_12, x16_15, x16_17, x16_18, x16_19, x16_44, x16_45, x16_48, x16_51, x16_52, x16_53, x16_54, x16_55, x16_58, x16_61, x16_62, x16_63, x16_64, x16_65, x16_68, x16_71, x16_72, x16_73, x16_74, x16_77, x16_80, x16_81, nI_add, pk_mul, q_cl31, q_vin, q_le, q_lt, q_eqn, q_b_0, q_b_t, q_b_f, q_nz, q_nz1, q_nz0, q_tl, q_tn, true_and, and_true, not_true_eq_false, not_false_eq_true, ite_true, ite_false, ↓reduceIte, true_or, or_true, and_self, ne_eq, q_or1, q_or2, Nat.add_eq_zero_iff, and_false, false_and, List.length_cons, List.length_nil, reduceCtorEq, q_toI, Nat.zero_add, Nat.le_refl, q_c0, q_c1, q_c2, q_c4, q_c9, q_c12, q_c30, q_c99, q_c100, q_c126, q_c32, q_c359, q_c999, ks0, kd0, kd1, kd2, kd3, kd5, kd6, kd7, hC.1, hP.1, ks1, ks2, ks3, ks4, ks5, kn0, kn1, kn2, kn3, kn4, kn5, kn6, kn7, kn8, km1, km2, km3, km4, km5, km6, km7, km8, kr0, kr1, kr2, kr3, kr5, kr6, kr7, kw5, kw6, kw7, kw8, ko0, ko1, ko2, ko3, ko4, ko5, ko6, ko7, ko8, kx1, kx2, kx3, dq, cq, hi, e1, e2, e3, Nat.not_lt_zero, Nat.reduceEqDiff, show (q_no f ≤ i) = False from eq_false (by omega), Nat.add_zero]
      try simp [nI_0]
theorem c_alike (hB : q_BesB E g) (hS : q_StaB E B) (hV : q_Vsta g B f) (hI : q_In f) {s v : Nat} (hs : s < 10) (hv : v < q_sz f) : q_X 90 0 [.ref B, .int (nI s), .int (f (11 + 8 * v)), .null, .null] [] E g Q = Q (some (.int (q_set (fun k => q_bs s k && (decide (nI 0 ≤ f (107 + 3 * k)) && decide (f (11 + 8 * q_hd f k) = f (11 + 8 * v)))) 10))) E g := by
  obtain ⟨ks0, ⟨ks1, ks2, ks3, ks4, ks5⟩, hC, hN, hP, hR, hD⟩ := id hS
  obtain ⟨kn0, ⟨kn1, kn2, kn3, kn4, kn5, kn6, kn7, kn8⟩, km1, km2, km3, km4, km5, km6, km7, km8⟩ := id hN
  obtain ⟨kr0, kr1, kr2, kr3, kr5, kr6, kr7⟩ := id hR
  obtain ⟨kd0, kd1, kd2, kd3, kd5, kd6, kd7⟩ := id hD
  obtain ⟨⟨kw5, kw6, kw7, kw8⟩, vC, vN, vP, vR, vD⟩ := id hV
  obtain ⟨ko0, ko1, ko2, ko3, ko4, ko5, ko6, ko7, ko8⟩ := id vN
  obtain ⟨kx1, kx2, kx3⟩ := id vR
  simp (disch := omega) only [x90_0, x90_1, x90_2, x90_3, nI_add, pk_mul, q_cl31, q_vin, q_le, q_lt, q_eqn, q_b_0, q_b_t, q_b_f, q_nz, q_nz1, q_nz0, q_tl, q_tn, true_and, and_true, not_true_eq_false, not_false_eq_true, ite_true, ite_false, ↓reduceIte, true_or, or_true, and_self, ne_eq, q_or1, q_or2, Nat.add_eq_zero_iff, and_false, false_and, List.length_cons, List.length_nil, reduceCtorEq, q_toI, Nat.zero_add, Nat.le_refl, q_c0, q_c1, q_c2, q_c4, q_c9, q_c12, q_c30, q_c99, q_c100, q_c126, q_c32, q_c359, q_c999]
  refine (q_loop (N := 10) (P := fun j => q_X 90 5 [.ref B, .int (nI s), .int (f (11 + 8 * v)), .int (q_set (fun k => q_bs s k && (decide (nI 0 ≤ f (107 + 3 * k)) && decide (f (11 + 8 * q_hd f k) = f (11 + 8 * v)))) j), .int (nI j)] [] E g Q) (fun j hj => ?_)).trans ?_
  · dsimp only [q_set]
    rcases Bool.eq_false_or_eq_true (q_bs s j) with hb | hb <;> by_cases c1 : nI 0 ≤ f (107 + 3 * j) <;> by_cases c2 : f (11 + 8 * q_hd f j) = f (11 + 8 * v)
    all_goals
      conv => lhs; simp (disch := omega) only [x90_0, x90_1, x90_2, x90_3, x90_5, x90_7, x90_9, x90_12, x90_13, x90_15, x90_18, x90_21, x90_22, x90_24, x90_25, x90_28, x90_31, x90_32, x90_33, x90_35, x90_36, x90_37, x90_38, x90_44, x90_45, nI_add, pk_mul, q_cl31, q_vin, q_le, q_lt, q_eqn, q_b_0, q_b_t, q_b_f, q_nz, q_nz1, q_nz0, q_tl, q_tn, true_and, and_true, not_true_eq_false, not_false_eq_true, ite_true, ite_false, ↓reduceIte, true_or, or_true, and_self, ne_eq, q_or1, q_or2, Nat.add_eq_zero_iff, and_false, false_and, List.length_cons, List.length_nil, reduceCtorEq, q_toI, Nat.zero_add, Nat.le_refl, q_c0, q_c1, q_c2, q_c4, q_c9, q_c12, q_c30, q_c99, q_c100, q_c126, q_c32, q_c359, q_c999, ks0, kd0, kd1, kd2, kd3, kd5, kd6, kd7, hC.1, hP.1, ks1, ks2, ks3, ks4, ks5, kn0, kn1, kn2, kn3, kn4, kn5, kn6, kn7, kn8, km1, km2, km3, km4, km5, km6, km7, km8, kr0, kr1, kr2, kr3, kr5, kr6, kr7, kw5, kw6, kw7, kw8, ko0, ko1, ko2, ko3, ko4, ko5, ko6, ko7, ko8, kx1, kx2, kx3, c_beside hB, hb, c_hasOcc hS hV hI hj hv, c1, c2, and_self, and_true, and_false, decide_true, decide_false, show (10 ≤ j) = False from eq_false (by omega)]
      simp only [x90_41, hb, c1, c2, decide_true, decide_false, Bool.and_self, Bool.and_true, Bool.and_false, Bool.true_and, Bool.false_and, Bool.false_eq_true, ↓reduceIte, q_or0]
  · simp (disch := omega) only [x90_0, x90_1, x90_2, x90_3, x90_5, x90_7, x90_9, x90_12, x90_13, x90_15, x90_18, x90_21, x90_22, x90_24, x90_25, x90_28, x90_31, x90_32, x90_33, x90_35, x90_36, x90_37, x90_38, x90_41, x90_44, x90_45, nI_add, pk_mul, q_cl31, q_vin, q_le, q_lt, q_eqn, q_b_0, q_b_t, q_b_f, q_nz, q_nz1, q_nz0, q_tl, q_tn, true_and, and_true, not_true_eq_false, not_false_eq_true, ite_true, ite_false, ↓reduceIte, true_or, or_true, and_self, ne_eq, q_or1, q_or2, Nat.add_eq_zero_iff, and_false, false_and, List.length_cons, List.length_nil, reduceCtorEq, q_toI, Nat.zero_add, Nat.le_refl, q_c0, q_c1, q_c2, q_c4, q_c9, q_c12, q_c30, q_c99, q_c100, q_c126, q_c32, q_c359, q_c999]
theorem c_aboutS (hB : q_BesB E g) (hS : q_StaB E B) (hV : q_Vsta g B f) (hI : q_In f) {s j : Nat} (hs : s < 10) (hj : j ≤ 4) : q_X 125 0 [.ref B, .int (nI s), .int (nI j), .null, .null] [] E g Q = Q (some (.int (a_slot f s j))) E g := by
  obtain ⟨ks0, ⟨ks1, ks2, ks3, ks4, ks5⟩, hC, hN, hP, hR, hD⟩ := id hS
  obtain ⟨kn0, ⟨kn1, kn2, kn3, kn4, kn5, kn6, kn7, kn8⟩, km1, km2, km3, km4, km5, km6, km7, km8⟩ := id hN
  obtain ⟨kr0, kr1, kr2, kr3, kr5, kr6, kr7⟩ := id hR
  obtain ⟨kd0, kd1, kd2, kd3, kd5, kd6, kd7⟩ := id hD
  obtain ⟨⟨kw5, kw6, kw7, kw8⟩, vC, vN, vP, vR, vD⟩ := id hV
  obtain ⟨ko0, ko1, ko2, ko3, ko4, ko5, ko6, ko7, ko8⟩ := id vN
  obtain ⟨kx1, kx2, kx3⟩ := id vR
  have h12 := hI.1.1
  have m1 : ((-1 : Int32) < nI 0) = True := by decide
  rcases hI.2.2.2.2.2.2.2.1 s hs with ⟨h, -⟩ | ⟨h, h'⟩
  · rcases (by omega : j = 0 ∨ j = 1 ∨ j = 2 ∨ j = 3 ∨ j = 4) with rfl | rfl | rfl | rfl | rfl
    all_goals
      simp (disch := omega) only [x125_0, x125_1, x125_4, x125_7, x125_8, x125_9, x125_10, x125_11, x125_14, x125_15, x125_16, x125_19, x125_20, x125_23, x125_24, x125_26, x125_28, x125_31, x125_32, x125_35, x125_36, x125_39, x125_42, x125_44, x125_45, x125_46, x125_76, x125_77, x125_78, x125_79, x125_82, x125_85, x125_86, x125_87, x125_88, x125_89, x125_92, x125_95, x125_96, x125_97, x125_98, x125_101, x125_102, x125_103, x125_104, x125_105, x125_106, x125_107, x125_110, x125_113, x125_114, x125_115, x125_118, nI_add, pk_mul, q_cl31, q_vin, q_le, q_lt, q_eqn, q_b_0, q_b_t, q_b_f, q_nz, q_nz1, q_nz0, q_tl, q_tn, true_and, and_true, not_true_eq_false, not_false_eq_true, ite_true, ite_false, ↓reduceIte, true_or, or_true, and_self, ne_eq, q_or1, q_or2, Nat.add_eq_zero_iff, and_false, false_and, List.length_cons, List.length_nil, reduceCtorEq, q_toI, Nat.zero_add, Nat.le_refl, q_c0, q_c1, q_c2, q_c4, q_c9, q_c12, q_c30, q_c99, q_c100, q_c126, q_c32, q_c359, q_c999, ks0, kd0, kd1, kd2, kd3, kd5, kd6, kd7, hC.1, hP.1, ks1, ks2, ks3, ks4, ks5, kn0, kn1, kn2, kn3, kn4, kn5, kn6, kn7, kn8, km1, km2, km3, km4, km5, km6, km7, km8, kr0, kr1, kr2, kr3, kr5, kr6, kr7, kw5, kw6, kw7, kw8, ko0, ko1, ko2, ko3, ko4, ko5, ko6, ko7, ko8, kx1, kx2, kx3, c_hasv hN vN hI, h, q_isv_m, hB.1, hB.2, m1, a_slot, Nat.reduceLT, Nat.reduceEqDiff, or_false, false_or, Nat.add_zero, Nat.lt_irrefl]
    · simp [q_set_bs s hs]
  · rcases (by omega : j = 0 ∨ j = 1 ∨ j = 2 ∨ j = 3 ∨ j = 4) with rfl | rfl | rfl | rfl | rfl
    all_goals
      simp (disch := omega) only [x125_0, x125_1, x125_4, x125_7, x125_8, x125_9, x125_10, x125_11, x125_14, x125_15, x125_16, x125_19, x125_20, x125_23, x125_24, x125_26, x125_28, x125_31, x125_32, x125_35, x125_36, x125_39, x125_42, x125_44, x125_45, x125_46, x125_76, x125_77, x125_78, x125_79, x125_82, x125_85, x125_86, x125_87, x125_88, x125_89, x125_92, x125_95, x125_96, x125_97, x125_98, x125_101, x125_102, x125_103, x125_104, x125_105, x125_106, x125_107, x125_110, x125_113, x125_114, x125_115, x125_118, nI_add, pk_mul, q_cl31, q_vin, q_le, q_lt, q_eqn, q_b_0, q_b_t, q_b_f, q_nz, q_nz1, q_nz0, q_tl, q_tn, true_and, and_true, not_true_eq_false, not_false_eq_true, ite_true, ite_false, ↓reduceIte, true_or, or_true, and_self, ne_eq, q_or1, q_or2, Nat.add_eq_zero_iff, and_false, false_and, List.length_cons, List.length_nil, reduceCtorEq, q_toI, Nat.zero_add, Nat.le_refl, q_c0, q_c1, q_c2, q_c4, q_c9, q_c12, q_c30, q_c99, q_c100, q_c126, q_c32, q_c359, q_c999, ks0, kd0, kd1, kd2, kd3, kd5, kd6, kd7, hC.1, hP.1, ks1, ks2, ks3, ks4, ks5, kn0, kn1, kn2, kn3, kn4, kn5, kn6, kn7, kn8, km1, km2, km3, km4, km5, km6, km7, km8, kr0, kr1, kr2, kr3, kr5, kr6, kr7, kw5, kw6, kw7, kw8, ko0, ko1, ko2, ko3, ko4, ko5, ko6, ko7, ko8, kx1, kx2, kx3, c_hasv hN vN hI, h', q_isv_n, h, decide_true, c_alike hB hS hV hI hs h, hB.1, hB.2, a_slot, Nat.reduceLT, Nat.reduceEqDiff, or_false, false_or, Nat.add_zero, Nat.not_lt_zero, Nat.lt_irrefl]
    · simp [q_set_bs s hs]
    · simp
theorem c_sold (hB : q_BesB E g) (hS : q_StaB E B) (hV : q_Vsta g B f) (hI : q_In f) {s v : Nat} (hs : s < 10) (hv : v < 12) : q_X 57 0 [.ref B, .int (nI s), .int (nI v), .null, .null] [] E g Q = Q (some (.int (q_tg f s v))) E g := by
  obtain ⟨ks0, ⟨ks1, ks2, ks3, ks4, ks5⟩, hC, hN, hP, hR, hD⟩ := id hS
  obtain ⟨kn0, ⟨kn1, kn2, kn3, kn4, kn5, kn6, kn7, kn8⟩, km1, km2, km3, km4, km5, km6, km7, km8⟩ := id hN
  obtain ⟨kr0, kr1, kr2, kr3, kr5, kr6, kr7⟩ := id hR
  obtain ⟨kd0, kd1, kd2, kd3, kd5, kd6, kd7⟩ := id hD
  obtain ⟨⟨kw5, kw6, kw7, kw8⟩, vC, vN, vP, vR, vD⟩ := id hV
  obtain ⟨ko0, ko1, ko2, ko3, ko4, ko5, ko6, ko7, ko8⟩ := id vN
  obtain ⟨kx1, kx2, kx3⟩ := id vR
  have h12 := hI.1.1
  simp (disch := omega) only [x57_0, x57_1, x57_2, x57_3, nI_add, pk_mul, q_cl31, q_vin, q_le, q_lt, q_eqn, q_b_0, q_b_t, q_b_f, q_nz, q_nz1, q_nz0, q_tl, q_tn, true_and, and_true, not_true_eq_false, not_false_eq_true, ite_true, ite_false, ↓reduceIte, true_or, or_true, and_self, ne_eq, q_or1, q_or2, Nat.add_eq_zero_iff, and_false, false_and, List.length_cons, List.length_nil, reduceCtorEq, q_toI, Nat.zero_add, Nat.le_refl, q_c0, q_c1, q_c2, q_c4, q_c9, q_c12, q_c30, q_c99, q_c100, q_c126, q_c32, q_c359, q_c999]
  refine (q_loop (N := 10) (P := fun j => q_X 57 5 [.ref B, .int (nI s), .int (nI v), .int (q_sum (fun j => if q_bs s j = true ∧ nI 0 ≤ f (107 + 3 * j) then f (q_pr (q_hd f j) v) else nI 0) j), .int (nI j)] [] E g Q) (fun j hj => ?_)).trans ?_
  · dsimp only [q_sum]
    rcases hI.2.2.2.2.2.2.2.1 j hj with ⟨h, -⟩ | ⟨h, h'⟩
    · rcases Bool.eq_false_or_eq_true (q_bs s j) with hb | hb
      all_goals
        conv => lhs; simp (disch := omega) only [x57_0, x57_1, x57_2, x57_3, x57_5, x57_7, x57_9, x57_12, x57_13, x57_15, x57_18, x57_21, x57_22, x57_25, x57_26, x57_29, x57_32, x57_34, x57_35, x57_38, x57_41, x57_42, x57_43, x57_46, x57_47, x57_48, x57_51, x57_54, x57_56, x57_57, x57_60, x57_61, x57_62, x57_68, x57_69, nI_add, pk_mul, q_cl31, q_vin, q_le, q_lt, q_eqn, q_b_0, q_b_t, q_b_f, q_nz, q_nz1, q_nz0, q_tl, q_tn, true_and, and_true, not_true_eq_false, not_false_eq_true, ite_true, ite_false, ↓reduceIte, true_or, or_true, and_self, ne_eq, q_or1, q_or2, Nat.add_eq_zero_iff, and_false, false_and, List.length_cons, List.length_nil, reduceCtorEq, q_toI, Nat.zero_add, Nat.le_refl, q_c0, q_c1, q_c2, q_c4, q_c9, q_c12, q_c30, q_c99, q_c100, q_c126, q_c32, q_c359, q_c999, ks0, kd0, kd1, kd2, kd3, kd5, kd6, kd7, hC.1, hP.1, ks1, ks2, ks3, ks4, ks5, kn0, kn1, kn2, kn3, kn4, kn5, kn6, kn7, kn8, km1, km2, km3, km4, km5, km6, km7, km8, kr0, kr1, kr2, kr3, kr5, kr6, kr7, kw5, kw6, kw7, kw8, ko0, ko1, ko2, ko3, ko4, ko5, ko6, ko7, ko8, kx1, kx2, kx3, c_beside hB, hb, c_hasv hN vN hI, h, q_isv_m, show (10 ≤ j) = False from eq_false (by omega)]
        simp only [x57_65, hb, h, show (nI 0 ≤ (-1 : Int32)) = False from by decide, and_false, false_and, Bool.false_eq_true, ↓reduceIte, q_a0]
    · rcases Bool.eq_false_or_eq_true (q_bs s j) with hb | hb
      all_goals
        conv => lhs; simp (disch := omega) only [x57_0, x57_1, x57_2, x57_3, x57_5, x57_7, x57_9, x57_12, x57_13, x57_15, x57_18, x57_21, x57_22, x57_25, x57_26, x57_29, x57_32, x57_34, x57_35, x57_38, x57_41, x57_42, x57_43, x57_46, x57_47, x57_48, x57_51, x57_54, x57_56, x57_57, x57_60, x57_61, x57_62, x57_68, x57_69, nI_add, pk_mul, q_cl31, q_vin, q_le, q_lt, q_eqn, q_b_0, q_b_t, q_b_f, q_nz, q_nz1, q_nz0, q_tl, q_tn, true_and, and_true, not_true_eq_false, not_false_eq_true, ite_true, ite_false, ↓reduceIte, true_or, or_true, and_self, ne_eq, q_or1, q_or2, Nat.add_eq_zero_iff, and_false, false_and, List.length_cons, List.length_nil, reduceCtorEq, q_toI, Nat.zero_add, Nat.le_refl, q_c0, q_c1, q_c2, q_c4, q_c9, q_c12, q_c30, q_c99, q_c100, q_c126, q_c32, q_c359, q_c999, ks0, kd0, kd1, kd2, kd3, kd5, kd6, kd7, hC.1, hP.1, ks1, ks2, ks3, ks4, ks5, kn0, kn1, kn2, kn3, kn4, kn5, kn6, kn7, kn8, km1, km2, km3, km4, km5, km6, km7, km8, kr0, kr1, kr2, kr3, kr5, kr6, kr7, kw5, kw6, kw7, kw8, ko0, ko1, ko2, ko3, ko4, ko5, ko6, ko7, ko8, kx1, kx2, kx3, c_beside hB, hb, c_hasv hN vN hI, h', h, q_isv_n, decide_true, c_times hP vP, q_pr_c v (q_hd f j), show (10 ≤ j) = False from eq_false (by omega)]
        simp only [x57_65, hb, h', q_le (show 0 < 2147483648 by decide) (show q_hd f j < 2147483648 by omega), Nat.zero_le, and_true, false_and, Bool.false_eq_true, ↓reduceIte, q_a0]
  · simp (disch := omega) only [x57_0, x57_1, x57_2, x57_3, x57_5, x57_7, x57_9, x57_12, x57_13, x57_15, x57_18, x57_21, x57_22, x57_25, x57_26, x57_29, x57_32, x57_34, x57_35, x57_38, x57_41, x57_42, x57_43, x57_46, x57_47, x57_48, x57_51, x57_54, x57_56, x57_57, x57_60, x57_61, x57_62, x57_65, x57_68, x57_69, nI_add, pk_mul, q_cl31, q_vin, q_le, q_lt, q_eqn, q_b_0, q_b_t, q_b_f, q_nz, q_nz1, q_nz0, q_tl, q_tn, true_and, and_true, not_true_eq_false, not_false_eq_true, ite_true, ite_false, ↓reduceIte, true_or, or_true, and_self, ne_eq, q_or1, q_or2, Nat.add_eq_zero_iff, and_false, false_and, List.length_cons, List.length_nil, reduceCtorEq, q_toI, Nat.zero_add, Nat.le_refl, q_c0, q_c1, q_c2, q_c4, q_c9, q_c12, q_c30, q_c99, q_c100, q_c126, q_c32, q_c359, q_c999]
    rfl
theorem c_lay (hB : q_BesB E g) (hS : q_StaB E B) (hV : q_Vsta g B f) (hI : q_In f) {v : Nat} (hv : v < 12) : q_X 98 0 [.ref B, .int (nI v), .null, .null, .null, .null] [] E g Q = Q (some (.int (q_mx (fun k => decide (f (107 + 3 * k) < nI 0 ∨ (f (107 + 3 * k) = nI v ∧ f (107 + 3 * k + 1) < nI 12))) (fun k => q_tg f k v) (-1) (-1) 10).1)) E g := by
  obtain ⟨ks0, ⟨ks1, ks2, ks3, ks4, ks5⟩, hC, hN, hP, hR, hD⟩ := id hS
  obtain ⟨kn0, ⟨kn1, kn2, kn3, kn4, kn5, kn6, kn7, kn8⟩, km1, km2, km3, km4, km5, km6, km7, km8⟩ := id hN
  obtain ⟨kr0, kr1, kr2, kr3, kr5, kr6, kr7⟩ := id hR
  obtain ⟨kd0, kd1, kd2, kd3, kd5, kd6, kd7⟩ := id hD
  obtain ⟨⟨kw5, kw6, kw7, kw8⟩, vC, vN, vP, vR, vD⟩ := id hV
  obtain ⟨ko0, ko1, ko2, ko3, ko4, ko5, ko6, ko7, ko8⟩ := id vN
  obtain ⟨kx1, kx2, kx3⟩ := id vR
  have h12 := hI.1.1
  have key : ∃ L5, q_X 98 7 [.ref B, .int (nI v), .int (-1), .int (-1), .int (nI 0), .null] [] E g Q = q_X 98 7 [.ref B, .int (nI v), .int (q_mx (fun k => decide (f (107 + 3 * k) < nI 0 ∨ (f (107 + 3 * k) = nI v ∧ f (107 + 3 * k + 1) < nI 12))) (fun k => q_tg f k v) (-1) (-1) 10).1, .int (q_mx (fun k => decide (f (107 + 3 * k) < nI 0 ∨ (f (107 + 3 * k) = nI v ∧ f (107 + 3 * k + 1) < nI 12))) (fun k => q_tg f k v) (-1) (-1) 10).2, .int (nI 10), L5] [] E g Q := by
    refine q_loop1 (P := fun j L5 => q_X 98 7 [.ref B, .int (nI v), .int (q_mx (fun k => decide (f (107 + 3 * k) < nI 0 ∨ (f (107 + 3 * k) = nI v ∧ f (107 + 3 * k + 1) < nI 12))) (fun k => q_tg f k v) (-1) (-1) j).1, .int (q_mx (fun k => decide (f (107 + 3 * k) < nI 0 ∨ (f (107 + 3 * k) = nI v ∧ f (107 + 3 * k + 1) < nI 12))) (fun k => q_tg f k v) (-1) (-1) j).2, .int (nI j), L5] [] E g Q) (fun j hj L5 => ?_)
    dsimp only [q_mx]
    generalize q_mx _ _ _ _ j = bm
    obtain ⟨b, m⟩ := bm
    dsimp only
    have eqv : (f (107 + 3 * j) < nI 0 ∨ (f (107 + 3 * j) = nI v ∧ f (107 + 3 * j + 1) < nI 12)) ↔ (f (107 + 3 * j) = -1 ∨ (f (107 + 3 * j) = nI v ∧ f (107 + 3 * j + 1) < nI 12)) := by
      rcases hI.2.2.2.2.2.2.2.1 j hj with ⟨h, -⟩ | ⟨h, h'⟩
      · rw [h]; exact ⟨fun _ => Or.inl rfl, fun _ => Or.inl (by decide)⟩
      · rw [h', q_lt (by omega) (by omega)]
        have ne : ¬ nI (q_hd f j) = -1 := fun q => by
          have := congrArg Int32.toInt q
          rw [nI_toInt (by omega)] at this
          have e : (-1 : Int32).toInt = -1 := by decide
          omega
        exact ⟨fun q => Or.inr (q.resolve_left (by omega)), fun q => Or.inr (q.resolve_left ne)⟩
    by_cases x1 : (f (107 + 3 * j) = -1 ∨ (f (107 + 3 * j) = nI v ∧ f (107 + 3 * j + 1) < nI 12)) <;> by_cases x3 : m < q_tg f j v
    all_goals
      simp only [eqv, x1, x3, decide_true, decide_false, and_self, and_true, and_false, false_and, Bool.false_eq_true, ↓reduceIte]
      apply Exists.intro
      conv => lhs; simp (disch := omega) only [x98_0, x98_1, x98_2, x98_3, x98_4, x98_5, x98_7, x98_9, x98_11, x98_14, x98_15, x98_18, x98_20, x98_21, x98_24, x98_27, x98_28, x98_30, x98_31, x98_34, x98_36, x98_38, x98_39, x98_42, x98_44, x98_45, x98_47, x98_48, x98_54, x98_55, nI_add, pk_mul, q_cl31, q_vin, q_le, q_lt, q_eqn, q_b_0, q_b_t, q_b_f, q_nz, q_nz1, q_nz0, q_tl, q_tn, true_and, and_true, not_true_eq_false, not_false_eq_true, ite_true, ite_false, ↓reduceIte, true_or, or_true, and_self, ne_eq, q_or1, q_or2, Nat.add_eq_zero_iff, and_false, false_and, List.length_cons, List.length_nil, reduceCtorEq, q_toI, Nat.zero_add, Nat.le_refl, q_c0, q_c1, q_c2, q_c4, q_c9, q_c12, q_c30, q_c99, q_c100, q_c126, q_c32, q_c359, q_c999, ks0, kd0, kd1, kd2, kd3, kd5, kd6, kd7, hC.1, hP.1, ks1, ks2, ks3, ks4, ks5, kn0, kn1, kn2, kn3, kn4, kn5, kn6, kn7, kn8, km1, km2, km3, km4, km5, km6, km7, km8, kr0, kr1, kr2, kr3, kr5, kr6, kr7, kw5, kw6, kw7, kw8, ko0, ko1, ko2, ko3, ko4, ko5, ko6, ko7, ko8, kx1, kx2, kx3, c_room hR vR hj, c_sold hB hS hV hI hj hv, x1, x3, decide_true, decide_false, ← Int32.not_lt, hj, show (10 ≤ j) = False from eq_false (by omega)]
      simp only [x98_51]
      exact rfl
  obtain ⟨L5, key⟩ := key
  simp (disch := omega) only [x98_0, x98_1, x98_2, x98_3, x98_4, x98_5, nI_add, pk_mul, q_cl31, q_vin, q_le, q_lt, q_eqn, q_b_0, q_b_t, q_b_f, q_nz, q_nz1, q_nz0, q_tl, q_tn, true_and, and_true, not_true_eq_false, not_false_eq_true, ite_true, ite_false, ↓reduceIte, true_or, or_true, and_self, ne_eq, q_or1, q_or2, Nat.add_eq_zero_iff, and_false, false_and, List.length_cons, List.length_nil, reduceCtorEq, q_toI, Nat.zero_add, Nat.le_refl, q_c0, q_c1, q_c2, q_c4, q_c9, q_c12, q_c30, q_c99, q_c100, q_c126, q_c32, q_c359, q_c999]
  rw [key]
  simp (disch := omega) only [x98_0, x98_1, x98_2, x98_3, x98_4, x98_5, x98_7, x98_9, x98_11, x98_14, x98_15, x98_18, x98_20, x98_21, x98_24, x98_27, x98_28, x98_30, x98_31, x98_34, x98_36, x98_38, x98_39, x98_42, x98_44, x98_45, x98_47, x98_48, x98_51, x98_54, x98_55, nI_add, pk_mul, q_cl31, q_vin, q_le, q_lt, q_eqn, q_b_0, q_b_t, q_b_f, q_nz, q_nz1, q_nz0, q_tl, q_tn, true_and, and_true, not_true_eq_false, not_false_eq_true, ite_true, ite_false, ↓reduceIte, true_or, or_true, and_self, ne_eq, q_or1, q_or2, Nat.add_eq_zero_iff, and_false, false_and, List.length_cons, List.length_nil, reduceCtorEq, q_toI, Nat.zero_add, Nat.le_refl, q_c0, q_c1, q_c2, q_c4, q_c9, q_c12, q_c30, q_c99, q_c100, q_c126, q_c32, q_c359, q_c999]
end
