theorem q_ls_ins (x : Int32) (t : q_T) (l : List q_T) : q_ls x (q_ins t l) = (if t.1 = x then t.2.1 else nI 0) + q_ls x l := by
  induction l with
  | nil => rfl
  | cons u l ih =>
    unfold q_ins
    by_cases c : t.2.2 < u.2.2
    · rw [if_pos c]; rfl
    · rw [if_neg c]
      show _ + q_ls x (q_ins t l) = _ + (_ + q_ls x l)
      rw [ih, ← Int32.add_assoc, ← Int32.add_assoc, Int32.add_comm (if u.1 = x then u.2.1 else nI 0)]
theorem q_ls_srt (x : Int32) (l : List q_T) : q_ls x (q_srt l) = q_ls x l := by
  have k : ∀ (l a : List q_T), q_ls x (l.foldl (fun a t => q_ins t a) a) = q_ls x a + q_ls x l := by
    intro l
    induction l with
    | nil => intro a; exact (q_a0 _).symm
    | cons t l ih =>
      intro a
      show q_ls x (l.foldl _ (q_ins t a)) = _ + (_ + q_ls x l)
      rw [ih, q_ls_ins, ← Int32.add_assoc, Int32.add_comm (if t.1 = x then t.2.1 else nI 0)]
  rw [q_srt, k]
  show nI 0 + _ = _
  rw [nI_0, Int32.zero_add]
section
variable {E : q_E} {g : q_G} {Q : Option Value → q_E → q_G → Prop} {f : q_St} {B : Nat}
theorem c_way {d : Nat} (hD : q_DelB E d) (hV : q_Vdel g d f) (hI : q_In f) (x : Int32) : q_X 5 0 [.ref d, .int x, .null, .null] [] E g Q = Q (some (.int (q_ow f (q_no f) x))) E g := by
  rw [c_del hD hI.2.1.1 (hV.1.trans hI.2.1.2), hV.2, q_ls_srt, ← q_ow_l]
theorem c_hasv {v : Nat} (hN : q_VerB E v) (hV : q_Vver g v f) (hI : q_In f) (x : Int32) : q_X 15 0 [.ref v, .int x] [] E g Q = Q (some (.int (q_b (q_isv f x)))) E g := by
  have h12 := hI.1.1
  rw [s_has hN (m := q_sz f) x (by omega) (hV.1.trans hI.1.2)]
  rfl
theorem q_isv_n {n : Nat} (h : n < 2147483648) : q_isv f (nI n) = decide (n < q_sz f) := by
  unfold q_isv
  rw [q_ir_nI h]
  by_cases c : n < q_sz f
  · rw [decide_eq_true c, decide_eq_true (show (0 : Int) ≤ n by omega), decide_eq_true (show (n : Int) ≤ (q_sz f : Int) - 1 by omega)]; rfl
  · rw [decide_eq_false c, decide_eq_false (show ¬ (n : Int) ≤ (q_sz f : Int) - 1 by omega), Bool.and_false]
theorem q_isv_m : q_isv f (-1) = false := by
  unfold q_isv q_ir
  have : (-1 : Int32).toInt = -1 := by decide
  rw [this]
  rfl
theorem c_room2 (hS : q_StaB E B) (hV : q_Vsta g B f) (hI : q_In f) {v : Nat} (hv : v < 12) (x : Int32) : q_X 33 0 [.ref B, .int (nI v), .int x] [] E g Q = Q (some (.int (q_b (decide (f (11 + 8 * v + 3) + q_ow f (q_no f) (nI v) + x ≤ nI 9999))))) E g := by
  obtain ⟨ks0, ⟨ks1, ks2, ks3, ks4, ks5⟩, hC, hN, hP, hR, hD⟩ := id hS
  obtain ⟨kn0, ⟨kn1, kn2, kn3, kn4, kn5, kn6, kn7, kn8⟩, km1, km2, km3, km4, km5, km6, km7, km8⟩ := id hN
  obtain ⟨kr0, kr1, kr2, kr3, kr5, kr6, kr7⟩ := id hR
  obtain ⟨kd0, kd1, kd2, kd3, kd5, kd6, kd7⟩ := id hD
  obtain ⟨⟨kw5, kw6, kw7, kw8⟩, vC, vN, vP, vR, vD⟩ := id hV
  obtain ⟨ko0, ko1, ko2, ko3, ko4, ko5, ko6, ko7, ko8⟩ := id vN
  obtain ⟨kx1, kx2, kx3⟩ := id vR
  by_cases c : f (11 + 8 * v + 3) + q_ow f (q_no f) (nI v) + x ≤ nI 9999
  all_goals
    simp (disch := omega) only [x33_0, x33_1, x33_4, x33_7, x33_8, x33_9, x33_10, x33_13, x33_14, x33_17, x33_18, x33_19, x33_20, x33_23, x33_26, x33_27, x33_30, x33_31, nI_add, pk_mul, q_cl31, q_vin, q_le, q_lt, q_eqn, q_b_0, q_b_t, q_b_f, q_nz, q_nz1, q_nz0, q_tl, q_tn, true_and, and_true, not_true_eq_false, not_false_eq_true, ite_true, ite_false, ↓reduceIte, true_or, or_true, and_self, ne_eq, q_or1, q_or2, Nat.add_eq_zero_iff, and_false, false_and, List.length_cons, List.length_nil, reduceCtorEq, q_toI, Nat.zero_add, Nat.le_refl, q_c0, q_c1, q_c2, q_c4, q_c9, q_c12, q_c30, q_c99, q_c100, q_c126, q_c32, q_c359, q_c999, ks0, kd0, kd1, kd2, kd3, kd5, kd6, kd7, hC.1, hP.1, ks1, ks2, ks3, ks4, ks5, kn0, kn1, kn2, kn3, kn4, kn5, kn6, kn7, kn8, km1, km2, km3, km4, km5, km6, km7, km8, kr0, kr1, kr2, kr3, kr5, kr6, kr7, kw5, kw6, kw7, kw8, ko0, ko1, ko2, ko3, ko4, ko5, ko6, ko7, ko8, kx1, kx2, kx3, c_way hD vD hI, ← Int32.not_le, c]
    simp [c, q_b]
theorem c_hasOcc (hS : q_StaB E B) (hV : q_Vsta g B f) (hI : q_In f) {k v : Nat} (hk : k < 10) (hv : v < q_sz f) : q_X 32 0 [.ref B, .int (nI k), .int (f (11 + 8 * v)), .null] [] E g Q = Q (some (.int (q_b (decide (nI 0 ≤ f (107 + 3 * k) ∧ f (11 + 8 * q_hd f k) = f (11 + 8 * v)))))) E g := by
  obtain ⟨ks0, ⟨ks1, ks2, ks3, ks4, ks5⟩, hC, hN, hP, hR, hD⟩ := id hS
  obtain ⟨kn0, ⟨kn1, kn2, kn3, kn4, kn5, kn6, kn7, kn8⟩, km1, km2, km3, km4, km5, km6, km7, km8⟩ := id hN
  obtain ⟨kr0, kr1, kr2, kr3, kr5, kr6, kr7⟩ := id hR
  obtain ⟨kd0, kd1, kd2, kd3, kd5, kd6, kd7⟩ := id hD
  obtain ⟨⟨kw5, kw6, kw7, kw8⟩, vC, vN, vP, vR, vD⟩ := id hV
  obtain ⟨ko0, ko1, ko2, ko3, ko4, ko5, ko6, ko7, ko8⟩ := id vN
  obtain ⟨kx1, kx2, kx3⟩ := id vR
  have h12 := hI.1.1
  rcases hI.2.2.2.2.2.2.2.1 k hk with ⟨h, -⟩ | ⟨h, h'⟩
  · simp (disch := omega) only [x32_0, x32_1, x32_4, x32_7, x32_8, x32_9, x32_10, x32_11, x32_14, x32_15, x32_18, x32_21, x32_22, x32_25, x32_28, x32_29, x32_30, x32_31, x32_34, x32_35, x32_38, x32_39, nI_add, pk_mul, q_cl31, q_vin, q_le, q_lt, q_eqn, q_b_0, q_b_t, q_b_f, q_nz, q_nz1, q_nz0, q_tl, q_tn, true_and, and_true, not_true_eq_false, not_false_eq_true, ite_true, ite_false, ↓reduceIte, true_or, or_true, and_self, ne_eq, q_or1, q_or2, Nat.add_eq_zero_iff, and_false, false_and, List.length_cons, List.length_nil, reduceCtorEq, q_toI, Nat.zero_add, Nat.le_refl, q_c0, q_c1, q_c2, q_c4, q_c9, q_c12, q_c30, q_c99, q_c100, q_c126, q_c32, q_c359, q_c999, ks0, kd0, kd1, kd2, kd3, kd5, kd6, kd7, hC.1, hP.1, ks1, ks2, ks3, ks4, ks5, kn0, kn1, kn2, kn3, kn4, kn5, kn6, kn7, kn8, km1, km2, km3, km4, km5, km6, km7, km8, kr0, kr1, kr2, kr3, kr5, kr6, kr7, kw5, kw6, kw7, kw8, ko0, ko1, ko2, ko3, ko4, ko5, ko6, ko7, ko8, kx1, kx2, kx3, c_hasv hN vN hI, h, q_isv_m]
    simp [h, q_b, show (nI 0 ≤ (-1 : Int32)) = False from by decide]
  · by_cases c : f (11 + 8 * q_hd f k) = f (11 + 8 * v)
    all_goals
      simp (disch := omega) only [x32_0, x32_1, x32_4, x32_7, x32_8, x32_9, x32_10, x32_11, x32_14, x32_15, x32_18, x32_21, x32_22, x32_25, x32_28, x32_29, x32_30, x32_31, x32_34, x32_35, x32_38, x32_39, nI_add, pk_mul, q_cl31, q_vin, q_le, q_lt, q_eqn, q_b_0, q_b_t, q_b_f, q_nz, q_nz1, q_nz0, q_tl, q_tn, true_and, and_true, not_true_eq_false, not_false_eq_true, ite_true, ite_false, ↓reduceIte, true_or, or_true, and_self, ne_eq, q_or1, q_or2, Nat.add_eq_zero_iff, and_false, false_and, List.length_cons, List.length_nil, reduceCtorEq, q_toI, Nat.zero_add, Nat.le_refl, q_c0, q_c1, q_c2, q_c4, q_c9, q_c12, q_c30, q_c99, q_c100, q_c126, q_c32, q_c359, q_c999, ks0, kd0, kd1, kd2, kd3, kd5, kd6, kd7, hC.1, hP.1, ks1, ks2, ks3, ks4, ks5, kn0, kn1, kn2, kn3, kn4, kn5, kn6, kn7, kn8, km1, km2, km3, km4, km5, km6, km7, km8, kr0, kr1, kr2, kr3, kr5, kr6, kr7, kw5, kw6, kw7, kw8, ko0, ko1, ko2, ko3, ko4, ko5, ko6, ko7, ko8, kx1, kx2, kx3, c_hasv hN vN hI, h', q_isv_n, h, decide_true, c]
      simp [h', q_b, c, q_le (show 0 < 2147483648 by decide) (show q_hd f k < 2147483648 by omega)]
theorem c_other (hB : q_BesB E g) (hS : q_StaB E B) (hV : q_Vsta g B f) (hI : q_In f) {v : Nat} (hv : v < q_sz f) : q_X 57 0 [.ref B, .int (nI v), .null, .null, .null, .null] [] E g Q = Q (some (.int (q_mx (q_po f v) (fun k => q_be f k (nI v)) (-1) (-1) 10).1)) E g := by
  obtain ⟨ks0, ⟨ks1, ks2, ks3, ks4, ks5⟩, hC, hN, hP, hR, hD⟩ := id hS
  obtain ⟨kn0, ⟨kn1, kn2, kn3, kn4, kn5, kn6, kn7, kn8⟩, km1, km2, km3, km4, km5, km6, km7, km8⟩ := id hN
  obtain ⟨kr0, kr1, kr2, kr3, kr5, kr6, kr7⟩ := id hR
  obtain ⟨kd0, kd1, kd2, kd3, kd5, kd6, kd7⟩ := id hD
  obtain ⟨⟨kw5, kw6, kw7, kw8⟩, vC, vN, vP, vR, vD⟩ := id hV
  obtain ⟨ko0, ko1, ko2, ko3, ko4, ko5, ko6, ko7, ko8⟩ := id vN
  obtain ⟨kx1, kx2, kx3⟩ := id vR
  have h12 := hI.1.1
  have key : ∃ L5, q_X 57 7 [.ref B, .int (nI v), .int (-1), .int (-1), .int (nI 0), .null] [] E g Q = q_X 57 7 [.ref B, .int (nI v), .int (q_mx (q_po f v) (fun k => q_be f k (nI v)) (-1) (-1) 10).1, .int (q_mx (q_po f v) (fun k => q_be f k (nI v)) (-1) (-1) 10).2, .int (nI 10), L5] [] E g Q := by
    refine q_loop1 (P := fun j L5 => q_X 57 7 [.ref B, .int (nI v), .int (q_mx (q_po f v) (fun k => q_be f k (nI v)) (-1) (-1) j).1, .int (q_mx (q_po f v) (fun k => q_be f k (nI v)) (-1) (-1) j).2, .int (nI j), L5] [] E g Q) (fun j hj L5 => ?_)
    dsimp only [q_mx]
    generalize q_mx _ _ _ _ j = bm
    obtain ⟨b, m⟩ := bm
    dsimp only
    by_cases x1 : nI 0 < f (107 + 3 * j + 1)
    · have hh := q_hd_lt hI hj x1
      have hk : nI 0 ≤ f (107 + 3 * j) := by rw [hh.2, q_le (by omega) (by omega)]; omega
      by_cases x2 : f (11 + 8 * q_hd f j) = f (11 + 8 * v) <;> by_cases x3 : m < q_be f j (nI v)
      all_goals
        simp only [q_po, x1, x2, x3, decide_true, decide_false, Bool.and_true, Bool.and_false, Bool.true_and, Bool.false_and, false_and, true_and, and_true, and_false, and_self, reduceCtorEq, Bool.false_eq_true, ↓reduceIte]
        apply Exists.intro
        conv => lhs; simp (disch := omega) only [x57_0, x57_1, x57_2, x57_3, x57_4, x57_5, x57_7, x57_9, x57_11, x57_14, x57_15, x57_18, x57_21, x57_23, x57_24, x57_27, x57_28, x57_30, x57_31, x57_34, x57_37, x57_38, x57_39, x57_42, x57_45, x57_46, x57_49, x57_51, x57_52, x57_55, x57_57, x57_59, x57_60, x57_63, x57_65, x57_66, x57_68, x57_69, x57_75, x57_76, nI_add, pk_mul, q_cl31, q_vin, q_le, q_lt, q_eqn, q_b_0, q_b_t, q_b_f, q_nz, q_nz1, q_nz0, q_tl, q_tn, true_and, and_true, not_true_eq_false, not_false_eq_true, ite_true, ite_false, ↓reduceIte, true_or, or_true, and_self, ne_eq, q_or1, q_or2, Nat.add_eq_zero_iff, and_false, false_and, List.length_cons, List.length_nil, reduceCtorEq, q_toI, Nat.zero_add, Nat.le_refl, q_c0, q_c1, q_c2, q_c4, q_c9, q_c12, q_c30, q_c99, q_c100, q_c126, q_c32, q_c359, q_c999, ks0, kd0, kd1, kd2, kd3, kd5, kd6, kd7, hC.1, hP.1, ks1, ks2, ks3, ks4, ks5, kn0, kn1, kn2, kn3, kn4, kn5, kn6, kn7, kn8, km1, km2, km3, km4, km5, km6, km7, km8, kr0, kr1, kr2, kr3, kr5, kr6, kr7, kw5, kw6, kw7, kw8, ko0, ko1, ko2, ko3, ko4, ko5, ko6, ko7, ko8, kx1, kx2, kx3, c_hasOcc hS hV hI hj hv, c_besideH hB hR vR, hk, x1, x2, x3, and_self, and_true, decide_true, decide_false, ← Int32.not_lt, hj, show (10 ≤ j) = False from eq_false (by omega)]
        simp only [x57_72]
        exact rfl
    · simp only [q_po, x1, decide_false, Bool.false_and, Bool.false_eq_true, false_and, ↓reduceIte]
      apply Exists.intro
      conv => lhs; simp (disch := omega) only [x57_0, x57_1, x57_2, x57_3, x57_4, x57_5, x57_7, x57_9, x57_11, x57_14, x57_15, x57_18, x57_21, x57_23, x57_24, x57_27, x57_28, x57_30, x57_31, x57_34, x57_37, x57_38, x57_39, x57_42, x57_45, x57_46, x57_49, x57_51, x57_52, x57_55, x57_57, x57_59, x57_60, x57_63, x57_65, x57_66, x57_68, x57_69, x57_75, x57_76, nI_add, pk_mul, q_cl31, q_vin, q_le, q_lt, q_eqn, q_b_0, q_b_t, q_b_f, q_nz, q_nz1, q_nz0, q_tl, q_tn, true_and, and_true, not_true_eq_false, not_false_eq_true, ite_true, ite_false, ↓reduceIte, true_or, or_true, and_self, ne_eq, q_or1, q_or2, Nat.add_eq_zero_iff, and_false, false_and, List.length_cons, List.length_nil, reduceCtorEq, q_toI, Nat.zero_add, Nat.le_refl, q_c0, q_c1, q_c2, q_c4, q_c9, q_c12, q_c30, q_c99, q_c100, q_c126, q_c32, q_c359, q_c999, ks0, kd0, kd1, kd2, kd3, kd5, kd6, kd7, hC.1, hP.1, ks1, ks2, ks3, ks4, ks5, kn0, kn1, kn2, kn3, kn4, kn5, kn6, kn7, kn8, km1, km2, km3, km4, km5, km6, km7, km8, kr0, kr1, kr2, kr3, kr5, kr6, kr7, kw5, kw6, kw7, kw8, ko0, ko1, ko2, ko3, ko4, ko5, ko6, ko7, ko8, kx1, kx2, kx3, x1, ← Int32.not_lt, hj, show (10 ≤ j) = False from eq_false (by omega)]
      simp only [x57_72]
      exact rfl
  obtain ⟨L5, key⟩ := key
  simp (disch := omega) only [x57_0, x57_1, x57_2, x57_3, x57_4, x57_5, nI_add, pk_mul, q_cl31, q_vin, q_le, q_lt, q_eqn, q_b_0, q_b_t, q_b_f, q_nz, q_nz1, q_nz0, q_tl, q_tn, true_and, and_true, not_true_eq_false, not_false_eq_true, ite_true, ite_false, ↓reduceIte, true_or, or_true, and_self, ne_eq, q_or1, q_or2, Nat.add_eq_zero_iff, and_false, false_and, List.length_cons, List.length_nil, reduceCtorEq, q_toI, Nat.zero_add, Nat.le_refl, q_c0, q_c1, q_c2, q_c4, q_c9, q_c12, q_c30, q_c99, q_c100, q_c126, q_c32, q_c359, q_c999]
  rw [key]
  simp (disch := omega) only [x57_0, x57_1, x57_2, x57_3, x57_4, x57_5, x57_7, x57_9, x57_11, x57_14, x57_15, x57_18, x57_21, x57_23, x57_24, x57_27, x57_28, x57_30, x57_31, x57_34, x57_37, x57_38, x57_39, x57_42, x57_45, x57_46, x57_49, x57_51, x57_52, x57_55, x57_57, x57_59, x57_60, x57_63, x57_65, x57_66, x57_68, x57_69, x57_72, x57_75, x57_76, nI_add, pk_mul, q_cl31, q_vin, q_le, q_lt, q_eqn, q_b_0, q_b_t, q_b_f, q_nz, q_nz1, q_nz0, q_tl, q_tn, true_and, and_true, not_true_eq_false, not_false_eq_true, ite_true, ite_false, ↓reduceIte, true_or, or_true, and_self, ne_eq, q_or1, q_or2, Nat.add_eq_zero_iff, and_false, false_and, List.length_cons, List.length_nil, reduceCtorEq, q_toI, Nat.zero_add, Nat.le_refl, q_c0, q_c1, q_c2, q_c4, q_c9, q_c12, q_c30, q_c99, q_c100, q_c126, q_c32, q_c359, q_c999]
theorem c_slot (hB : q_BesB E g) (hS : q_StaB E B) (hV : q_Vsta g B f) (hI : q_In f) {v : Nat} (hv : v < q_sz f) : q_X 67 0 [.ref B, .int (nI v), .null] [] E g Q = Q (some (.int (q_sp f v))) E g := by
  obtain ⟨ks0, ⟨ks1, ks2, ks3, ks4, ks5⟩, hC, hN, hP, hR, hD⟩ := id hS
  obtain ⟨kn0, ⟨kn1, kn2, kn3, kn4, kn5, kn6, kn7, kn8⟩, km1, km2, km3, km4, km5, km6, km7, km8⟩ := id hN
  obtain ⟨kr0, kr1, kr2, kr3, kr5, kr6, kr7⟩ := id hR
  obtain ⟨kd0, kd1, kd2, kd3, kd5, kd6, kd7⟩ := id hD
  obtain ⟨⟨kw5, kw6, kw7, kw8⟩, vC, vN, vP, vR, vD⟩ := id hV
  obtain ⟨ko0, ko1, ko2, ko3, ko4, ko5, ko6, ko7, ko8⟩ := id vN
  obtain ⟨kx1, kx2, kx3⟩ := id vR
  have h12 := hI.1.1
  obtain ⟨oc1, oc2⟩ := hI.2.2.2.2.2.1 v hv
  unfold q_sp
  cases e : q_onf f (q_occ f v)
  · simp (disch := omega) only [x67_0, x67_1, x67_4, x67_5, x67_8, x67_11, x67_12, x67_13, x67_16, x67_19, x67_20, x67_21, x67_22, x67_25, x67_26, x67_29, x67_30, x67_31, x67_32, x67_35, x67_36, x67_37, x67_40, x67_43, x67_44, nI_add, pk_mul, q_cl31, q_vin, q_le, q_lt, q_eqn, q_b_0, q_b_t, q_b_f, q_nz, q_nz1, q_nz0, q_tl, q_tn, true_and, and_true, not_true_eq_false, not_false_eq_true, ite_true, ite_false, ↓reduceIte, true_or, or_true, and_self, ne_eq, q_or1, q_or2, Nat.add_eq_zero_iff, and_false, false_and, List.length_cons, List.length_nil, reduceCtorEq, q_toI, Nat.zero_add, Nat.le_refl, q_c0, q_c1, q_c2, q_c4, q_c9, q_c12, q_c30, q_c99, q_c100, q_c126, q_c32, q_c359, q_c999, ks0, kd0, kd1, kd2, kd3, kd5, kd6, kd7, hC.1, hP.1, ks1, ks2, ks3, ks4, ks5, kn0, kn1, kn2, kn3, kn4, kn5, kn6, kn7, kn8, km1, km2, km3, km4, km5, km6, km7, km8, kr0, kr1, kr2, kr3, kr5, kr6, kr7, kw5, kw6, kw7, kw8, ko0, ko1, ko2, ko3, ko4, ko5, ko6, ko7, ko8, kx1, kx2, kx3, oc2, c_isIn hC vC hI oc1, e, Bool.false_eq_true]
  · rcases q_fi_c (q_ph f v) 10 0 (by omega) with h2 | ⟨k, -, hk, -, h2⟩
    · simp (disch := omega) only [x67_0, x67_1, x67_4, x67_5, x67_8, x67_11, x67_12, x67_13, x67_16, x67_19, x67_20, x67_21, x67_22, x67_25, x67_26, x67_29, x67_30, x67_31, x67_32, x67_35, x67_36, x67_37, x67_40, x67_43, x67_44, nI_add, pk_mul, q_cl31, q_vin, q_le, q_lt, q_eqn, q_b_0, q_b_t, q_b_f, q_nz, q_nz1, q_nz0, q_tl, q_tn, true_and, and_true, not_true_eq_false, not_false_eq_true, ite_true, ite_false, ↓reduceIte, true_or, or_true, and_self, ne_eq, q_or1, q_or2, Nat.add_eq_zero_iff, and_false, false_and, List.length_cons, List.length_nil, reduceCtorEq, q_toI, Nat.zero_add, Nat.le_refl, q_c0, q_c1, q_c2, q_c4, q_c9, q_c12, q_c30, q_c99, q_c100, q_c126, q_c32, q_c359, q_c999, ks0, kd0, kd1, kd2, kd3, kd5, kd6, kd7, hC.1, hP.1, ks1, ks2, ks3, ks4, ks5, kn0, kn1, kn2, kn3, kn4, kn5, kn6, kn7, kn8, km1, km2, km3, km4, km5, km6, km7, km8, kr0, kr1, kr2, kr3, kr5, kr6, kr7, kw5, kw6, kw7, kw8, ko0, ko1, ko2, ko3, ko4, ko5, ko6, ko7, ko8, kx1, kx2, kx3, oc2, c_isIn hC vC hI oc1, e, c_lowest hR vR, h2, c_other hB hS hV hI hv, show (nI 0 ≤ (-1 : Int32)) = False from by decide]
    · have ne : (nI k = -1) = False := by
        refine eq_false fun q => ?_
        have := congrArg Int32.toInt q
        rw [nI_toInt (by omega)] at this
        have e : (-1 : Int32).toInt = -1 := by decide
        omega
      simp (disch := omega) only [x67_0, x67_1, x67_4, x67_5, x67_8, x67_11, x67_12, x67_13, x67_16, x67_19, x67_20, x67_21, x67_22, x67_25, x67_26, x67_29, x67_30, x67_31, x67_32, x67_35, x67_36, x67_37, x67_40, x67_43, x67_44, nI_add, pk_mul, q_cl31, q_vin, q_le, q_lt, q_eqn, q_b_0, q_b_t, q_b_f, q_nz, q_nz1, q_nz0, q_tl, q_tn, true_and, and_true, not_true_eq_false, not_false_eq_true, ite_true, ite_false, ↓reduceIte, true_or, or_true, and_self, ne_eq, q_or1, q_or2, Nat.add_eq_zero_iff, and_false, false_and, List.length_cons, List.length_nil, reduceCtorEq, q_toI, Nat.zero_add, Nat.le_refl, q_c0, q_c1, q_c2, q_c4, q_c9, q_c12, q_c30, q_c99, q_c100, q_c126, q_c32, q_c359, q_c999, ks0, kd0, kd1, kd2, kd3, kd5, kd6, kd7, hC.1, hP.1, ks1, ks2, ks3, ks4, ks5, kn0, kn1, kn2, kn3, kn4, kn5, kn6, kn7, kn8, km1, km2, km3, km4, km5, km6, km7, km8, kr0, kr1, kr2, kr3, kr5, kr6, kr7, kw5, kw6, kw7, kw8, ko0, ko1, ko2, ko3, ko4, ko5, ko6, ko7, ko8, kx1, kx2, kx3, oc2, c_isIn hC vC hI oc1, e, c_lowest hR vR, h2, ne, Nat.zero_le]
theorem c_aboutV (hS : q_StaB E B) (hV : q_Vsta g B f) (hI : q_In f) {v j : Nat} (hv : v < 12) (hj : j ≤ 9) : q_X 30 0 [.ref B, .int (nI v), .int (nI j)] [] E g Q = Q (some (.int (a_verse f v j))) E g := by
  obtain ⟨ks0, ⟨ks1, ks2, ks3, ks4, ks5⟩, hC, hN, hP, hR, hD⟩ := id hS
  obtain ⟨kn0, ⟨kn1, kn2, kn3, kn4, kn5, kn6, kn7, kn8⟩, km1, km2, km3, km4, km5, km6, km7, km8⟩ := id hN
  obtain ⟨kr0, kr1, kr2, kr3, kr5, kr6, kr7⟩ := id hR
  obtain ⟨kd0, kd1, kd2, kd3, kd5, kd6, kd7⟩ := id hD
  obtain ⟨⟨kw5, kw6, kw7, kw8⟩, vC, vN, vP, vR, vD⟩ := id hV
  obtain ⟨ko0, ko1, ko2, ko3, ko4, ko5, ko6, ko7, ko8⟩ := id vN
  obtain ⟨kx1, kx2, kx3⟩ := id vR
  rcases (by omega : j = 0 ∨ j = 1 ∨ j = 2 ∨ j = 3 ∨ j = 4 ∨ j = 5 ∨ j = 6 ∨ j = 7 ∨ j = 8 ∨ j = 9) with rfl | rfl | rfl | rfl | rfl | rfl | rfl | rfl | rfl | rfl
  all_goals
    simp (disch := omega) only [x30_0, x30_1, x30_52, x30_53, x30_56, x30_59, x30_60, x30_61, x30_62, x30_63, x30_66, x30_69, x30_70, x30_71, x30_72, x30_73, x30_76, x30_79, x30_80, x30_81, x30_82, x30_83, x30_86, x30_89, x30_90, x30_91, x30_92, x30_93, x30_96, x30_97, x30_100, x30_101, x30_102, x30_105, x30_106, x30_109, x30_110, x30_111, x30_114, x30_117, x30_118, x30_119, x30_120, x30_121, x30_124, x30_127, x30_128, x30_129, x30_130, x30_131, x30_134, x30_137, x30_138, x30_139, x30_140, x30_141, x30_144, x30_147, x30_148, x30_149, nI_add, pk_mul, q_cl31, q_vin, q_le, q_lt, q_eqn, q_b_0, q_b_t, q_b_f, q_nz, q_nz1, q_nz0, q_tl, q_tn, true_and, and_true, not_true_eq_false, not_false_eq_true, ite_true, ite_false, ↓reduceIte, true_or, or_true, and_self, ne_eq, q_or1, q_or2, Nat.add_eq_zero_iff, and_false, false_and, List.length_cons, List.length_nil, reduceCtorEq, q_toI, Nat.zero_add, Nat.le_refl, q_c0, q_c1, q_c2, q_c4, q_c9, q_c12, q_c30, q_c99, q_c100, q_c126, q_c32, q_c359, q_c999, ks0, kd0, kd1, kd2, kd3, kd5, kd6, kd7, hC.1, hP.1, ks1, ks2, ks3, ks4, ks5, kn0, kn1, kn2, kn3, kn4, kn5, kn6, kn7, kn8, km1, km2, km3, km4, km5, km6, km7, km8, kr0, kr1, kr2, kr3, kr5, kr6, kr7, kw5, kw6, kw7, kw8, ko0, ko1, ko2, ko3, ko4, ko5, ko6, ko7, ko8, kx1, kx2, kx3, c_way hD vD hI, c_cards hR vR, a_verse, Nat.reduceEqDiff, Nat.reduceLT, Nat.reduceSub, Nat.lt_irrefl, Nat.add_zero]
end
