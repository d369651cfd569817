theorem q_set_bs : ∀ s, s < 10 → q_set (fun k => q_bs s k) 10 = q_bes s := by
  have h : ∀ s, s < 10 → decide (q_set (fun k => q_bs s k) 10 = q_bes s) = true := by decide +kernel
  exact fun s hs => of_decide_eq_true (h s hs)
theorem q_ol_get {g : q_G} {d n i : Nat} (hi : i < n) : (q_ol g d n).getD i (0, 0, 0) = (g (d + 1) i, g (d + 2) i, g (d + 3) i) := by
  unfold q_ol
  rw [List.getD_eq_getElem?_getD, List.getElem?_map, List.getElem?_range hi]
  rfl
section
variable {E : q_E} {g : q_G} {Q : Option Value → q_E → q_G → Prop} {f : q_St} {B : Nat}
theorem c_order (hS : q_StaB E B) (hV : q_Vsta g B f) (hI : q_In f) {x : Int32} (hx : nI 0 ≤ x) {w : Nat} (hw : w ≤ 2) : q_X 14 0 [.ref B, .int x, .int (nI w)] [] E g Q = Q (some (.int (a_order f x w))) E g := by
  obtain ⟨ks0, ⟨ks1, ks2, ks3, ks4, ks5⟩, hC, hN, hP, hR, hD⟩ := id hS
  obtain ⟨kn0, ⟨kn1, kn2, kn3, kn4, kn5, kn6, kn7, kn8⟩, km1, km2, km3, km4, km5, km6, km7, km8⟩ := id hN
  obtain ⟨kr0, kr1, kr2, kr3, kr5, kr6, kr7⟩ := id hR
  obtain ⟨kd0, kd1, kd2, kd3, kd5, kd6, kd7⟩ := id hD
  obtain ⟨⟨kw5, kw6, kw7, kw8⟩, vC, vN, vP, vR, vD⟩ := id hV
  obtain ⟨ko0, ko1, ko2, ko3, ko4, ko5, ko6, ko7, ko8⟩ := id vN
  obtain ⟨kx1, kx2, kx3⟩ := id vR
  have h8 := hI.2.1
  have dq := vD.1.trans h8.2
  have cq := vC.1
  by_cases c : nI (q_no f) ≤ x
  · rw [a_order_no h8.1 hx c]
    simp (disch := omega) only [x14_0, x14_1, x14_4, x14_5, x14_6, x14_9, x14_12, x14_15, x14_17, x14_18, x14_19, x14_44, x14_45, x14_48, x14_51, x14_52, x14_53, x14_54, x14_55, x14_58, x14_61, x14_62, x14_63, x14_64, x14_65, x14_68, x14_71, x14_72, x14_73, x14_74, x14_77, x14_80, x14_81, nI_add, pk_mul, q_cl31, q_vin, q_le, q_lt, q_eqn, q_b_0, q_b_t, q_b_f, q_nz, q_nz1, q_nz0, q_tl, q_tn, true_and, and_true, not_true_eq_false, not_false_eq_true, ite_true, ite_false, ↓reduceIte, true_or, or_true, and_self, ne_eq, q_or1, q_or2, Nat.add_eq_zero_iff, and_false, false_and, List.length_cons, List.length_nil, reduceCtorEq, q_toI, Nat.zero_add, Nat.le_refl, q_c0, q_c1, q_c2, q_c4, q_c9, q_c12, q_c30, q_c99, q_c100, q_c126, q_c32, q_c359, q_c999, ks0, kd0, kd1, kd2, kd3, kd5, kd6, kd7, hC.1, hP.1, ks1, ks2, ks3, ks4, ks5, kn0, kn1, kn2, kn3, kn4, kn5, kn6, kn7, kn8, km1, km2, km3, km4, km5, km6, km7, km8, kr0, kr1, kr2, kr3, kr5, kr6, kr7, kw5, kw6, kw7, kw8, ko0, ko1, ko2, ko3, ko4, ko5, ko6, ko7, ko8, kx1, kx2, kx3, dq, ← Int32.not_le, hx, c, not_true_eq_false]
  · have hx2 : ∃ i : Nat, i < q_no f ∧ x = nI i := by
      have a := Int32.le_iff_toInt_le.mp hx
      have b := Int32.lt_iff_toInt_lt.mp (Int32.not_le.mp c)
      rw [nI_toInt (by omega)] at a b
      refine ⟨x.toInt.toNat, by omega, ?_⟩
      apply Int32.toInt_inj.mp
      rw [nI_toInt (by omega)]
      omega
    obtain ⟨i, hi, rfl⟩ := hx2
    obtain ⟨k, hk, hg, ha⟩ := a_order_get (w := w) h8.1 hi
    rw [ha]
    rw [← vD.2, q_ol_get hi] at hg
    have e1 : g (B + 19 + 1) i = f (138 + 3 * k) := congrArg Prod.fst hg
    have e2 : g (B + 19 + 2) i = f (138 + 3 * k + 1) := congrArg (fun t => t.2.1) hg
    have e3 : g (B + 19 + 3) i = f (138 + 3 * k + 2) := congrArg (fun t => t.2.2) hg
    rcases (by omega : w = 0 ∨ w = 1 ∨ w = 2) with rfl | rfl | rfl
    all_goals
      simp (disch := omega) only [x14_0, x14_1, x14_4, x14_5, x14_6, x14_9, x14_12, x14_15, x14_17, x14_18, x14_19, x14_44, x14_45, x14_48, x14_51, x14_52, x14_53, x14_54, x14_55, x14_58, x14_61, x14_62, x14_63, x14_64, x14_65, x14_68, x14_71, x14_72, x14_73, x14_74, x14_77, x14_80, x14_81, nI_add, pk_mul, q_cl31, q_vin, q_le, q_lt, q_eqn, q_b_0, q_b_t, q_b_f, q_nz, q_nz1, q_nz0, q_tl, q_tn, true_and, and_true, not_true_eq_false, not_false_eq_true, ite_true, ite_false, ↓reduceIte, true_or, or_true, and_self, ne_eq, q_or1, q_or2, Nat.add_eq_zero_iff, and_false, false_and, List.length_cons, List.length_nil, reduceCtorEq, q_toI, Nat.zero_add, Nat.le_refl, q_c0, q_c1, q_c2, q_c4, q_c9, q_c12, q_c30, q_c99, q_c100, q_c126, q_c32, q_c359, q_c999, ks0, kd0, kd1, kd2, kd3, kd5, kd6, kd7, hC.1, hP.1, ks1, ks2, ks3, ks4, ks5, kn0, kn1, kn2, kn3, kn4, kn5, kn6, kn7, kn8, km1, km2, km3, km4, km5, km6, km7, km8, kr0, kr1, kr2, kr3, kr5, kr6, kr7, kw5, kw6, kw7, kw8, ko0, ko1, ko2, ko3, ko4, ko5, ko6, ko7, ko8, kx1, kx2, kx3, dq, cq, hi, e1, e2, e3, Nat.not_lt_zero, Nat.reduceEqDiff, show (q_no f ≤ i) = False from eq_false (by omega), Nat.add_zero]
      try simp [nI_0]
theorem c_alike (hB : q_BesB E g) (hS : q_StaB E B) (hV : q_Vsta g B f) (hI : q_In f) {s v : Nat} (hs : s < 10) (hv : v < q_sz f) : q_X 50 0 [.ref B, .int (nI s), .int (f (11 + 8 * v)), .null, .null] [] E g Q = Q (some (.int (q_set (fun k => q_bs s k && (decide (nI 0 ≤ f (107 + 3 * k)) && decide (f (11 + 8 * q_hd f k) = f (11 + 8 * v)))) 10))) E g := by
  obtain ⟨ks0, ⟨ks1, ks2, ks3, ks4, ks5⟩, hC, hN, hP, hR, hD⟩ := id hS
  obtain ⟨kn0, ⟨kn1, kn2, kn3, kn4, kn5, kn6, kn7, kn8⟩, km1, km2, km3, km4, km5, km6, km7, km8⟩ := id hN
  obtain ⟨kr0, kr1, kr2, kr3, kr5, kr6, kr7⟩ := id hR
  obtain ⟨kd0, kd1, kd2, kd3, kd5, kd6, kd7⟩ := id hD
  obtain ⟨⟨kw5, kw6, kw7, kw8⟩, vC, vN, vP, vR, vD⟩ := id hV
  obtain ⟨ko0, ko1, ko2, ko3, ko4, ko5, ko6, ko7, ko8⟩ := id vN
  obtain ⟨kx1, kx2, kx3⟩ := id vR
  simp (disch := omega) only [x50_0, x50_1, x50_2, x50_3, nI_add, pk_mul, q_cl31, q_vin, q_le, q_lt, q_eqn, q_b_0, q_b_t, q_b_f, q_nz, q_nz1, q_nz0, q_tl, q_tn, true_and, and_true, not_true_eq_false, not_false_eq_true, ite_true, ite_false, ↓reduceIte, true_or, or_true, and_self, ne_eq, q_or1, q_or2, Nat.add_eq_zero_iff, and_false, false_and, List.length_cons, List.length_nil, reduceCtorEq, q_toI, Nat.zero_add, Nat.le_refl, q_c0, q_c1, q_c2, q_c4, q_c9, q_c12, q_c30, q_c99, q_c100, q_c126, q_c32, q_c359, q_c999]
  refine (q_loop (N := 10) (P := fun j => q_X 50 5 [.ref B, .int (nI s), .int (f (11 + 8 * v)), .int (q_set (fun k => q_bs s k && (decide (nI 0 ≤ f (107 + 3 * k)) && decide (f (11 + 8 * q_hd f k) = f (11 + 8 * v)))) j), .int (nI j)] [] E g Q) (fun j hj => ?_)).trans ?_
  · dsimp only [q_set]
    rcases Bool.eq_false_or_eq_true (q_bs s j) with hb | hb <;> by_cases c1 : nI 0 ≤ f (107 + 3 * j) <;> by_cases c2 : f (11 + 8 * q_hd f j) = f (11 + 8 * v)
    all_goals
      conv => lhs; simp (disch := omega) only [x50_0, x50_1, x50_2, x50_3, x50_5, x50_7, x50_9, x50_12, x50_13, x50_15, x50_18, x50_21, x50_22, x50_24, x50_25, x50_28, x50_31, x50_32, x50_33, x50_35, x50_36, x50_37, x50_38, x50_44, x50_45, nI_add, pk_mul, q_cl31, q_vin, q_le, q_lt, q_eqn, q_b_0, q_b_t, q_b_f, q_nz, q_nz1, q_nz0, q_tl, q_tn, true_and, and_true, not_true_eq_false, not_false_eq_true, ite_true, ite_false, ↓reduceIte, true_or, or_true, and_self, ne_eq, q_or1, q_or2, Nat.add_eq_zero_iff, and_false, false_and, List.length_cons, List.length_nil, reduceCtorEq, q_toI, Nat.zero_add, Nat.le_refl, q_c0, q_c1, q_c2, q_c4, q_c9, q_c12, q_c30, q_c99, q_c100, q_c126, q_c32, q_c359, q_c999, ks0, kd0, kd1, kd2, kd3, kd5, kd6, kd7, hC.1, hP.1, ks1, ks2, ks3, ks4, ks5, kn0, kn1, kn2, kn3, kn4, kn5, kn6, kn7, kn8, km1, km2, km3, km4, km5, km6, km7, km8, kr0, kr1, kr2, kr3, kr5, kr6, kr7, kw5, kw6, kw7, kw8, ko0, ko1, ko2, ko3, ko4, ko5, ko6, ko7, ko8, kx1, kx2, kx3, c_beside hB, hb, c_hasOcc hS hV hI hj hv, c1, c2, and_self, and_true, and_false, decide_true, decide_false, show (10 ≤ j) = False from eq_false (by omega)]
      simp only [x50_41, hb, c1, c2, decide_true, decide_false, Bool.and_self, Bool.and_true, Bool.and_false, Bool.true_and, Bool.false_and, Bool.false_eq_true, ↓reduceIte, q_or0]
  · simp (disch := omega) only [x50_0, x50_1, x50_2, x50_3, x50_5, x50_7, x50_9, x50_12, x50_13, x50_15, x50_18, x50_21, x50_22, x50_24, x50_25, x50_28, x50_31, x50_32, x50_33, x50_35, x50_36, x50_37, x50_38, x50_41, x50_44, x50_45, nI_add, pk_mul, q_cl31, q_vin, q_le, q_lt, q_eqn, q_b_0, q_b_t, q_b_f, q_nz, q_nz1, q_nz0, q_tl, q_tn, true_and, and_true, not_true_eq_false, not_false_eq_true, ite_true, ite_false, ↓reduceIte, true_or, or_true, and_self, ne_eq, q_or1, q_or2, Nat.add_eq_zero_iff, and_false, false_and, List.length_cons, List.length_nil, reduceCtorEq, q_toI, Nat.zero_add, Nat.le_refl, q_c0, q_c1, q_c2, q_c4, q_c9, q_c12, q_c30, q_c99, q_c100, q_c126, q_c32, q_c359, q_c999]
theorem c_aboutS (hB : q_BesB E g) (hS : q_StaB E B) (hV : q_Vsta g B f) (hI : q_In f) {s j : Nat} (hs : s < 10) (hj : j ≤ 4) : q_X 64 0 [.ref B, .int (nI s), .int (nI j), .null, .null] [] E g Q = Q (some (.int (a_slot f s j))) E g := by
  obtain ⟨ks0, ⟨ks1, ks2, ks3, ks4, ks5⟩, hC, hN, hP, hR, hD⟩ := id hS
  obtain ⟨kn0, ⟨kn1, kn2, kn3, kn4, kn5, kn6, kn7, kn8⟩, km1, km2, km3, km4, km5, km6, km7, km8⟩ := id hN
  obtain ⟨kr0, kr1, kr2, kr3, kr5, kr6, kr7⟩ := id hR
  obtain ⟨kd0, kd1, kd2, kd3, kd5, kd6, kd7⟩ := id hD
  obtain ⟨⟨kw5, kw6, kw7, kw8⟩, vC, vN, vP, vR, vD⟩ := id hV
  obtain ⟨ko0, ko1, ko2, ko3, ko4, ko5, ko6, ko7, ko8⟩ := id vN
  obtain ⟨kx1, kx2, kx3⟩ := id vR
  have h12 := hI.1.1
  have m1 : ((-1 : Int32) < nI 0) = True := by decide
  rcases hI.2.2.2.2.2.2.2.1 s hs with ⟨h, -⟩ | ⟨h, h'⟩
  · rcases (by omega : j = 0 ∨ j = 1 ∨ j = 2 ∨ j = 3 ∨ j = 4) with rfl | rfl | rfl | rfl | rfl
    all_goals
      simp (disch := omega) only [x64_0, x64_1, x64_4, x64_7, x64_8, x64_9, x64_10, x64_11, x64_14, x64_15, x64_16, x64_19, x64_20, x64_23, x64_24, x64_26, x64_28, x64_31, x64_32, x64_35, x64_36, x64_39, x64_42, x64_44, x64_45, x64_46, x64_76, x64_77, x64_78, x64_79, x64_82, x64_85, x64_86, x64_87, x64_88, x64_89, x64_92, x64_95, x64_96, x64_97, x64_98, x64_101, x64_102, x64_103, x64_104, x64_105, x64_106, x64_107, x64_110, x64_113, x64_114, x64_115, x64_118, nI_add, pk_mul, q_cl31, q_vin, q_le, q_lt, q_eqn, q_b_0, q_b_t, q_b_f, q_nz, q_nz1, q_nz0, q_tl, q_tn, true_and, and_true, not_true_eq_false, not_false_eq_true, ite_true, ite_false, ↓reduceIte, true_or, or_true, and_self, ne_eq, q_or1, q_or2, Nat.add_eq_zero_iff, and_false, false_and, List.length_cons, List.length_nil, reduceCtorEq, q_toI, Nat.zero_add, Nat.le_refl, q_c0, q_c1, q_c2, q_c4, q_c9, q_c12, q_c30, q_c99, q_c100, q_c126, q_c32, q_c359, q_c999, ks0, kd0, kd1, kd2, kd3, kd5, kd6, kd7, hC.1, hP.1, ks1, ks2, ks3, ks4, ks5, kn0, kn1, kn2, kn3, kn4, kn5, kn6, kn7, kn8, km1, km2, km3, km4, km5, km6, km7, km8, kr0, kr1, kr2, kr3, kr5, kr6, kr7, kw5, kw6, kw7, kw8, ko0, ko1, ko2, ko3, ko4, ko5, ko6, ko7, ko8, kx1, kx2, kx3, c_hasv hN vN hI, h, q_isv_m, hB.1, hB.2, m1, a_slot, Nat.reduceLT, Nat.reduceEqDiff, or_false, false_or, Nat.add_zero, Nat.lt_irrefl]
    · simp [q_set_bs s hs]
  · rcases (by omega : j = 0 ∨ j = 1 ∨ j = 2 ∨ j = 3 ∨ j = 4) with rfl | rfl | rfl | rfl | rfl
    all_goals
      simp (disch := omega) only [x64_0, x64_1, x64_4, x64_7, x64_8, x64_9, x64_10, x64_11, x64_14, x64_15, x64_16, x64_19, x64_20, x64_23, x64_24, x64_26, x64_28, x64_31, x64_32, x64_35, x64_36, x64_39, x64_42, x64_44, x64_45, x64_46, x64_76, x64_77, x64_78, x64_79, x64_82, x64_85, x64_86, x64_87, x64_88, x64_89, x64_92, x64_95, x64_96, x64_97, x64_98, x64_101, x64_102, x64_103, x64_104, x64_105, x64_106, x64_107, x64_110, x64_113, x64_114, x64_115, x64_118, nI_add, pk_mul, q_cl31, q_vin, q_le, q_lt, q_eqn, q_b_0, q_b_t, q_b_f, q_nz, q_nz1, q_nz0, q_tl, q_tn, true_and, and_true, not_true_eq_false, not_false_eq_true, ite_true, ite_false, ↓reduceIte, true_or, or_true, and_self, ne_eq, q_or1, q_or2, Nat.add_eq_zero_iff, and_false, false_and, List.length_cons, List.length_nil, reduceCtorEq, q_toI, Nat.zero_add, Nat.le_refl, q_c0, q_c1, q_c2, q_c4, q_c9, q_c12, q_c30, q_c99, q_c100, q_c126, q_c32, q_c359, q_c999, ks0, kd0, kd1, kd2, kd3, kd5, kd6, kd7, hC.1, hP.1, ks1, ks2, ks3, ks4, ks5, kn0, kn1, kn2, kn3, kn4, kn5, kn6, kn7, kn8, km1, km2, km3, km4, km5, km6, km7, km8, kr0, kr1, kr2, kr3, kr5, kr6, kr7, kw5, kw6, kw7, kw8, ko0, ko1, ko2, ko3, ko4, ko5, ko6, ko7, ko8, kx1, kx2, kx3, c_hasv hN vN hI, h', q_isv_n, h, decide_true, c_alike hB hS hV hI hs h, hB.1, hB.2, a_slot, Nat.reduceLT, Nat.reduceEqDiff, or_false, false_or, Nat.add_zero, Nat.not_lt_zero, Nat.lt_irrefl]
    · simp [q_set_bs s hs]
    · simp
end
