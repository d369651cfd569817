theorem q_ls_ins (x : Int32) (t : q_T) (l : List q_T) : q_ls x (q_ins t l) = (if t.1 = x then t.2.1 else nI 0) + q_ls x l := by
  induction l with
  | nil => rfl
  | cons u l ih =>
    unfold q_ins
    by_cases c : t.2.2 < u.2.2
    · rw [if_pos c]; rfl
    · rw [if_neg c]
      show _ + q_ls x (q_ins t l) = _ + (_ + q_ls x l)
      rw [ih, ← Int32.add_assoc, ← Int32.add_assoc, Int32.add_comm (if u.1 = x then u.2.1 else nI 0)]
theorem q_ls_srt (x : Int32) (l : List q_T) : q_ls x (q_srt l) = q_ls x l := by
  have k : ∀ (l a : List q_T), q_ls x (l.foldl (fun a t => q_ins t a) a) = q_ls x a + q_ls x l := by
    intro l
    induction l with
    | nil => intro a; exact (q_a0 _).symm
    | cons t l ih =>
      intro a
      show q_ls x (l.foldl _ (q_ins t a)) = _ + (_ + q_ls x l)
      rw [ih, q_ls_ins, ← Int32.add_assoc, Int32.add_comm (if t.1 = x then t.2.1 else nI 0)]
  rw [q_srt, k]
  show nI 0 + _ = _
  rw [nI_0, Int32.zero_add]
section
variable {E : q_E} {g : q_G} {Q : Option Value → q_E → q_G → Prop} {f : q_St} {B : Nat}
theorem c_way {d : Nat} (hD : q_DelB E d) (hV : q_Vdel g d f) (hI : q_In f) (x : Int32) : q_X 5 0 [.ref d, .int x, .null, .null] [] E g Q = Q (some (.int (q_ow f (q_no f) x))) E g := by
  rw [c_del hD hI.2.1.1 (hV.1.trans hI.2.1.2), hV.2, q_ls_srt, ← q_ow_l]
theorem c_hasv {v : Nat} (hN : q_VerB E v) (hV : q_Vver g v f) (hI : q_In f) (x : Int32) : q_X 20 0 [.ref v, .int x] [] E g Q = Q (some (.int (q_b (q_isv f x)))) E g := by
  have h12 := hI.1.1
  rw [s_has hN (m := q_sz f) x (by omega) (hV.1.trans hI.1.2)]
  rfl
theorem q_isv_n {n : Nat} (h : n < 2147483648) : q_isv f (nI n) = decide (n < q_sz f) := by
  unfold q_isv
  rw [q_ir_nI h]
  by_cases c : n < q_sz f
  · rw [decide_eq_true c, decide_eq_true (show (0 : Int) ≤ n by omega), decide_eq_true (show (n : Int) ≤ (q_sz f : Int) - 1 by omega)]; rfl
  · rw [decide_eq_false c, decide_eq_false (show ¬ (n : Int) ≤ (q_sz f : Int) - 1 by omega), Bool.and_false]
theorem q_isv_m : q_isv f (-1) = false := by
  unfold q_isv q_ir
  have : (-1 : Int32).toInt = -1 := by decide
  rw [this]
  rfl
theorem c_room2 (hS : q_StaB E B) (hV : q_Vsta g B f) (hI : q_In f) {v : Nat} (hv : v < 12) (x : Int32) : q_X 55 0 [.ref B, .int (nI v), .int x] [] E g Q = Q (some (.int (q_b (decide (f (11 + 8 * v + 3) + q_ow f (q_no f) (nI v) + x ≤ nI 9999))))) E g := by
  obtain ⟨ks0, ⟨ks1, ks2, ks3, ks4, ks5⟩, hC, hN, hP, hR, hD⟩ := id hS
  obtain ⟨kn0, ⟨kn1, kn2, kn3, kn4, kn5, kn6, kn7, kn8⟩, km1, km2, km3, km4, km5, km6, km7, km8⟩ := id hN
  obtain ⟨kr0, kr1, kr2, kr3, kr5, kr6, kr7⟩ := id hR
  obtain ⟨kd0, kd1, kd2, kd3, kd5, kd6, kd7⟩ := id hD
  obtain ⟨⟨kw5, kw6, kw7, kw8⟩, vC, vN, vP, vR, vD⟩ := id hV
  obtain ⟨ko0, ko1, ko2, ko3, ko4, ko5, ko6, ko7, ko8⟩ := id vN
  obtain ⟨kx1, kx2, kx3⟩ := id vR
  by_cases c : f (11 + 8 * v + 3) + q_ow f (q_no f) (nI v) + x ≤ nI 9999
  all_goals
    simp (disch := omega) only [x55_0, x55_1, x55_4, x55_7, x55_8, x55_9, x55_10, x55_13, x55_14, x55_17, x55_18, x55_19, x55_20, x55_23, x55_26, x55_27, x55_30, x55_31, nI_add, pk_mul, q_cl31, q_vin, q_le, q_lt, q_eqn, q_b_0, q_b_t, q_b_f, q_nz, q_nz1, q_nz0, q_tl, q_tn, true_and, and_true, not_true_eq_false, not_false_eq_true, ite_true, ite_false, ↓reduceIte, true_or, or_true, and_self, ne_eq, q_or1, q_or2, Nat.add_eq_zero_iff, and_false, false_and, List.length_cons, List.length_nil, reduceCtorEq, q_toI, Nat.zero_add, Nat.le_refl, q_c0, q_c1, q_c2, q_c4, q_c9, q_c12, q_c30, q_c99, q_c100, q_c126, q_c32, q_c359, q_c999, ks0, kd0, kd1, kd2, kd3, kd5, kd6, kd7, hC.1, hP.1, ks1, ks2, ks3, ks4, ks5, kn0, kn1, kn2, kn3, kn4, kn5, kn6, kn7, kn8, km1, km2, km3, km4, km5, km6, km7, km8, kr0, kr1, kr2, kr3, kr5, kr6, kr7, kw5, kw6, kw7, kw8, ko0, ko1, ko2, ko3, ko4, ko5, ko6, ko7, ko8, kx1, kx2, kx3, c_way hD vD hI, ← Int32.not_le, c]
    simp [c, q_b]
theorem c_hasOcc (hS : q_StaB E B) (hV : q_Vsta g B f) (hI : q_In f) {k v : Nat} (hk : k < 10) (hv : v < q_sz f) : q_X 54 0 [.ref B, .int (nI k), .int (f (11 + 8 * v)), .null] [] E g Q = Q (some (.int (q_b (decide (nI 0 ≤ f (107 + 3 * k) ∧ f (11 + 8 * q_hd f k) = f (11 + 8 * v)))))) E g := by
  obtain ⟨ks0, ⟨ks1, ks2, ks3, ks4, ks5⟩, hC, hN, hP, hR, hD⟩ := id hS
  obtain ⟨kn0, ⟨kn1, kn2, kn3, kn4, kn5, kn6, kn7, kn8⟩, km1, km2, km3, km4, km5, km6, km7, km8⟩ := id hN
  obtain ⟨kr0, kr1, kr2, kr3, kr5, kr6, kr7⟩ := id hR
  obtain ⟨kd0, kd1, kd2, kd3, kd5, kd6, kd7⟩ := id hD
  obtain ⟨⟨kw5, kw6, kw7, kw8⟩, vC, vN, vP, vR, vD⟩ := id hV
  obtain ⟨ko0, ko1, ko2, ko3, ko4, ko5, ko6, ko7, ko8⟩ := id vN
  obtain ⟨kx1, kx2, kx3⟩ := id vR
  have h12 := hI.1.1
  rcases hI.2.2.2.2.2.2.2.1 k hk with ⟨h, -⟩ | ⟨h, h'⟩
  · simp (disch := omega) only [x54_0, x54_1, x54_4, x54_7, x54_8, x54_9, x54_10, x54_11, x54_14, x54_15, x54_18, x54_21, x54_22, x54_25, x54_28, x54_29, x54_30, x54_31, x54_34, x54_35, x54_38, x54_39, nI_add, pk_mul, q_cl31, q_vin, q_le, q_lt, q_eqn, q_b_0, q_b_t, q_b_f, q_nz, q_nz1, q_nz0, q_tl, q_tn, true_and, and_true, not_true_eq_false, not_false_eq_true, ite_true, ite_false, ↓reduceIte, true_or, or_true, and_self, ne_eq, q_or1, q_or2, Nat.add_eq_zero_iff, and_false, false_and, List.length_cons, List.length_nil, reduceCtorEq, q_toI, Nat.zero_add, Nat.le_refl, q_c0, q_c1, q_c2, q_c4, q_c9, q_c12, q_c30, q_c99, q_c100, q_c126, q_c32, q_c359, q_c999, ks0, kd0, kd1, kd2, kd3, kd5, kd6, kd7, hC.1, hP.1, ks1, ks2, ks3, ks4, ks5, kn0, kn1, kn2, kn3, kn4, kn5, kn6, kn7, kn8, km1, km2, km3, km4, km5, km6, km7, km8, kr0, kr1, kr2, kr3, kr5, kr6, kr7, kw5, kw6, kw7, kw8, ko0, ko1, ko2, ko3, ko4, ko5, ko6, ko7, ko8, kx1, kx2, kx3, c_hasv hN vN hI, h, q_isv_m]
    simp [h, q_b, show (nI 0 ≤ (-1 : Int32)) = False from by decide]
  · by_cases c : f (11 + 8 * q_hd f k) = f (11 + 8 * v)
    all_goals
      simp (disch := omega) only [x54_0, x54_1, x54_4, x54_7, x54_8, x54_9, x54_10, x54_11, x54_14, x54_15, x54_18, x54_21, x54_22, x54_25, x54_28, x54_29, x54_30, x54_31, x54_34, x54_35, x54_38, x54_39, nI_add, pk_mul, q_cl31, q_vin, q_le, q_lt, q_eqn, q_b_0, q_b_t, q_b_f, q_nz, q_nz1, q_nz0, q_tl, q_tn, true_and, and_true, not_true_eq_false, not_false_eq_true, ite_true, ite_false, ↓reduceIte, true_or, or_true, and_self, ne_eq, q_or1, q_or2, Nat.add_eq_zero_iff, and_false, false_and, List.length_cons, List.length_nil, reduceCtorEq, q_toI, Nat.zero_add, Nat.le_refl, q_c0, q_c1, q_c2, q_c4, q_c9, q_c12, q_c30, q_c99, q_c100, q_c126, q_c32, q_c359, q_c999, ks0, kd0, kd1, kd2, kd3, kd5, kd6, kd7, hC.1, hP.1, ks1, ks2, ks3, ks4, ks5, kn0, kn1, kn2, kn3, kn4, kn5, kn6, kn7, kn8, km1, km2, km3, km4, km5, km6, km7, km8, kr0, kr1, kr2, kr3, kr5, kr6, kr7, kw5, kw6, kw7, kw8, ko0, ko1, ko2, ko3, ko4, ko5, ko6, ko7, ko8, kx1, kx2, kx3, c_hasv hN vN hI, h', q_isv_n, h, decide_true, c]
      simp [h', q_b, c, q_le (show 0 < 2147483648 by decide) (show q_hd f k < 2147483648 by omega)]
theorem c_other (hB : q_BesB E g) (hS : q_StaB E B) (hV : q_Vsta g B f) (hI : q_In f) {v : Nat} (hv : v < q_sz f) : q_X 97 0 [.ref B, .int (nI v), .null, .null, .null, .null] [] E g Q = Q (some (.int (q_mx (q_po f v) (fun k => q_be f k (nI v)) (-1) (-1) 10).1)) E g := by
  obtain ⟨ks0, ⟨ks1, ks2, ks3, ks4, ks5⟩, hC, hN, hP, hR, hD⟩ := id hS
  obtain ⟨kn0, ⟨kn1, kn2, kn3, kn4, kn5, kn6, kn7, kn8⟩, km1, km2, km3, km4, km5, km6, km7, km8⟩ := id hN
  obtain ⟨kr0, kr1, kr2, kr3, kr5, kr6, kr7⟩ := id hR
  obtain ⟨kd0, kd1, kd2, kd3, kd5, kd6, kd7⟩ := id hD
  obtain ⟨⟨kw5, kw6, kw7, kw8⟩, vC, vN, vP, vR, vD⟩ := id hV
  obtain ⟨ko0, ko1, ko2, ko3, ko4, ko5, ko6, ko7, ko8⟩ := id vN
  obtain ⟨kx1, kx2, kx3⟩ := id vR
  have h12 := hI.1.1
  have key : ∃ L5, q_X 97 7 [.ref B, .int (nI v), .int (-1), .int (-1), .int (nI 0), .null] [] E g Q = q_X 97 7 [.ref B, .int (nI v), .int (q_mx (q_po f v) (fun k => q_be f k (nI v)) (-1) (-1) 10).1, .int (q_mx (q_po f v) (fun k => q_be f k (nI v)) (-1) (-1) 10).2, .int (nI 10), L5] [] E g Q := by
    refine q_loop1 (P := fun j L5 => q_X 97 7 [.ref B, .int (nI v), .int (q_mx (q_po f v) (fun k => q_be f k (nI v)) (-1) (-1) j).1, .int (q_mx (q_po f v) (fun k => q_be f k (nI v)) (-1) (-1) j).2, .int (nI j), L5] [] E g Q) (fun j hj L5 => ?_)
    dsimp only [q_mx]
    generalize q_mx _ _ _ _ j = bm
    obtain ⟨b, m⟩ := bm
    dsimp only
    by_cases x1 : nI 0 < f (107 + 3 * j + 1)
    · have hh := q_hd_lt hI hj x1
      have hk : nI 0 ≤ f (107 + 3 * j) := by rw [hh.2, q_le (by omega) (by omega)]; omega
      by_cases x2 : f (11 + 8 * q_hd f j) = f (11 + 8 * v) <;> by_cases x3 : m < q_be f j (nI v)
      all_goals
        simp only [q_po, x1, x2, x3, decide_true, decide_false, Bool.and_true, Bool.and_false, Bool.true_and, Bool.false_and, false_and, true_and, and_true, and_false, and_self, reduceCtorEq, Bool.false_eq_true, ↓reduceIte]
        apply Exists.intro
        conv => lhs; simp (disch := omega) only [x97_0, x97_1, x97_2, x97_3, x97_4, x97_5, x97_7, x97_9, x97_11, x97_14, x97_15, x97_18, x97_21, x97_23, x97_24, x97_27, x97_28, x97_30, x97_31, x97_34, x97_37, x97_38, x97_39, x97_42, x97_45, x97_46, x97_49, x97_51, x97_52, x97_55, x97_57, x97_59, x97_60, x97_63, x97_65, x97_66, x97_68, x97_69, x97_75, x97_76, nI_add, pk_mul, q_cl31, q_vin, q_le, q_lt, q_eqn, q_b_0, q_b_t, q_b_f, q_nz, q_nz1, q_nz0, q_tl, q_tn, true_and, and_true, not_true_eq_false, not_false_eq_true, ite_true, ite_false, ↓reduceIte, true_or, or_true, and_self, ne_eq, q_or1, q_or2, Nat.add_eq_zero_iff, and_false, false_and, List.length_cons, List.length_nil, reduceCtorEq, q_toI, Nat.zero_add, Nat.le_refl, q_c0, q_c1, q_c2, q_c4, q_c9, q_c12, q_c30, q_c99, q_c100, q_c126, q_c32, q_c359, q_c999, ks0, kd0, kd1, kd2, kd3, kd5, kd6, kd7, hC.1, hP.1, ks1, ks2, ks3, ks4, ks5, kn0, kn1, kn2, kn3, kn4, kn5, kn6, kn7, kn8, km1, km2, km3, km4, km5, km6, km7, km8, kr0, kr1, kr2, kr3, kr5, kr6, kr7, kw5, kw6, kw7, kw8, ko0, ko1, ko2, ko3, ko4, ko5, ko6, ko7, ko8, kx1, kx2, kx3, c_hasOcc hS hV hI hj hv, c_besideH hB hR vR, hk, x1, x2, x3, and_self, and_true, decide_true, decide_false, ← Int32.not_lt, hj, show (10 ≤ j) = False from eq_false (by omega)]
        simp only [x97_72]
        exact rfl
    · simp only [q_po, x1, decide_false, Bool.false_and, Bool.false_eq_true, false_and, ↓reduceIte]
      apply Exists.intro
      conv => lhs; simp (disch := omega) only [x97_0, x97_1, x97_2, x97_3, x97_4, x97_5, x97_7, x97_9, x97_11, x97_14, x97_15, x97_18, x97_21, x97_23, x97_24, x97_27, x97_28, x97_30, x97_31, x97_34, x97_37, x97_38, x97_39, x97_42, x97_45, x97_46, x97_49, x97_51, x97_52, x97_55, x97_57, x97_59, x97_60, x97_63, x97_65, x97_66, x97_68, x97_69, x97_75, x97_76, nI_add, pk_mul, q_cl31, q_vin, q_le, q_lt, q_eqn, q_b_0, q_b_t, q_b_f, q_nz, q_nz1, q_nz0, q_tl, q_tn, true_and, and_true, not_true_eq_false, not_false_eq_true, ite_true, ite_false, ↓reduceIte, true_or, or_true, and_self, ne_eq, q_or1, q_or2, Nat.add_eq_zero_iff, and_false, false_and, List.length_cons, List.length_nil, reduceCtorEq, q_toI, Nat.zero_add, Nat.le_refl, q_c0, q_c1, q_c2, q_c4, q_c9, q_c12, q_c30, q_c99, q_c100, q_c126, q_c32, q_c359, q_c999, ks0, kd0, kd1, kd2, kd3, kd5, kd6, kd7, hC.1, hP.1, ks1, ks2, ks3, ks4, ks5, kn0, kn1, kn2, kn3, kn4, kn5, kn6, kn7, kn8, km1, km2, km3, km4, km5, km6, km7, km8, kr0, kr1, kr2, kr3, kr5, kr6, kr7, kw5, kw6, kw7, kw8, ko0, ko1, ko2, ko3, ko4, ko5, ko6, ko7, ko8, kx1, kx2, kx3, x1, ← Int32.not_lt, hj, show (10 ≤ j) = False from eq_false (by omega)]
      simp only [x97_72]
      exact rfl
  obtain ⟨L5, key⟩ := key
  simp (disch := omega) only [x97_0, x97_1, x97_2, x97_3, x97_4, x97_5, nI_add, pk_mul, q_cl31, q_vin, q_le, q_lt, q_eqn, q_b_0, q_b_t, q_b_f, q_nz, q_nz1, q_nz0, q_tl, q_tn, true_and, and_true, not_true_eq_false, not_false_eq_true, ite_true, ite_false, ↓reduceIte, true_or, or_true, and_self, ne_eq, q_or1, q_or2, Nat.add_eq_zero_iff, and_false, false_and, List.length_cons, List.length_nil, reduceCtorEq, q_toI, Nat.zero_add, Nat.le_refl, q_c0, q_c1, q_c2, q_c4, q_c9, q_c12, q_c30, q_c99, q_c100, q_c126, q_c32, q_c359, q_c999]
  rw [key]
  simp (disch := omega) only [x97_0, x97_1, x97_2, x97_3, x97_4, x97_5, x97_7, x97_9, x97_11, x97_14, x97_15, x97_18, x97_21, x97_23, x97_24, x97_27, x97_28, x97_30, x97_31, x97_34, x97_37, x97_38, x97_39, x97_42, x97_45, x97_46, x97_49, x97_51, x97_52, x97_55, x97_57, x97_59, x97_60, x97_63, x97_65, x97_66, x97_68, x97_69, x97_72, x97_75, x97_76, nI_add, pk_mul, q_cl31, q_vin, q_le, q_lt, q_eqn, q_b_0, q_b_t, q_b_f, q_nz, q_nz1, q_nz0, q_tl, q_tn, true_and, and_true, not_true_eq_false, not_false_eq_true, ite_true, ite_false, ↓reduceIte, true_or, or_true, and_self, ne_eq, q_or1, q_or2, Nat.add_eq_zero_iff, and_false, false_and, List.length_cons, List.length_nil, reduceCtorEq, q_toI, Nat.zero_add, Nat.le_refl, q_c0, q_c1, q_c2, q_c4, q_c9, q_c12, q_c30, q_c99, q_c100, q_c126, q_c32, q_c359, q_c999]
theorem c_slot (hB : q_BesB E g) (hS : q_StaB E B) (hV : q_Vsta g B f) (hI : q_In f) {v : Nat} (hv : v < q_sz f) : q_X 128 0 [.ref B, .int (nI v), .null] [] E g Q = Q (some (.int (q_sp f v))) E g := by
  obtain ⟨ks0, ⟨ks1, ks2, ks3, ks4, ks5⟩, hC, hN, hP, hR, hD⟩ := id hS
  obtain ⟨kn0, ⟨kn1, kn2, kn3, kn4, kn5, kn6, kn7, kn8⟩, km1, km2, km3, km4, km5, km6, km7, km8⟩ := id hN
  obtain ⟨kr0, kr1, kr2, kr3, kr5, kr6, kr7⟩ := id hR
  obtain ⟨kd0, kd1, kd2, kd3, kd5, kd6, kd7⟩ := id hD
  obtain ⟨⟨kw5, kw6, kw7, kw8⟩, vC, vN, vP, vR, vD⟩ := id hV
  obtain ⟨ko0, ko1, ko2, ko3, ko4, ko5, ko6, ko7, ko8⟩ := id vN
  obtain ⟨kx1, kx2, kx3⟩ := id vR
  have h12 := hI.1.1
  obtain ⟨oc1, oc2⟩ := hI.2.2.2.2.2.1 v hv
  unfold q_sp
  cases e : q_onf f (q_occ f v)
  · simp (disch := omega) only [x128_0, x128_1, x128_4, x128_5, x128_8, x128_11, x128_12, x128_13, x128_16, x128_19, x128_20, x128_21, x128_22, x128_25, x128_26, x128_29, x128_30, x128_31, x128_32, x128_35, x128_36, x128_37, x128_40, x128_43, x128_44, nI_add, pk_mul, q_cl31, q_vin, q_le, q_lt, q_eqn, q_b_0, q_b_t, q_b_f, q_nz, q_nz1, q_nz0, q_tl, q_tn, true_and, and_true, not_true_eq_false, not_false_eq_true, ite_true, ite_false, ↓reduceIte, true_or, or_true, and_self, ne_eq, q_or1, q_or2, Nat.add_eq_zero_iff, and_false, false_and, List.length_cons, List.length_nil, reduceCtorEq, q_toI, Nat.zero_add, Nat.le_refl, q_c0, q_c1, q_c2, q_c4, q_c9, q_c12, q_c30, q_c99, q_c100, q_c126, q_c32, q_c359, q_c999, ks0, kd0, kd1, kd2, kd3, kd5, kd6, kd7, hC.1, hP.1, ks1, ks2, ks3, ks4, ks5, kn0, kn1, kn2, kn3, kn4, kn5, kn6, kn7, kn8, km1, km2, km3, km4, km5, km6, km7, km8, kr0, kr1, kr2, kr3, kr5, kr6, kr7, kw5, kw6, kw7, kw8, ko0, ko1, ko2, ko3, ko4, ko5, ko6, ko7, ko8, kx1, kx2, kx3, oc2, c_isIn hC vC hI oc1, e, Bool.false_eq_true]
  · rcases q_fi_c (q_ph f v) 10 0 (by omega) with h2 | ⟨k, -, hk, -, h2⟩
    · simp (disch := omega) only [x128_0, x128_1, x128_4, x128_5, x128_8, x128_11, x128_12, x128_13, x128_16, x128_19, x128_20, x128_21, x128_22, x128_25, x128_26, x128_29, x128_30, x128_31, x128_32, x128_35, x128_36, x128_37, x128_40, x128_43, x128_44, nI_add, pk_mul, q_cl31, q_vin, q_le, q_lt, q_eqn, q_b_0, q_b_t, q_b_f, q_nz, q_nz1, q_nz0, q_tl, q_tn, true_and, and_true, not_true_eq_false, not_false_eq_true, ite_true, ite_false, ↓reduceIte, true_or, or_true, and_self, ne_eq, q_or1, q_or2, Nat.add_eq_zero_iff, and_false, false_and, List.length_cons, List.length_nil, reduceCtorEq, q_toI, Nat.zero_add, Nat.le_refl, q_c0, q_c1, q_c2, q_c4, q_c9, q_c12, q_c30, q_c99, q_c100, q_c126, q_c32, q_c359, q_c999, ks0, kd0, kd1, kd2, kd3, kd5, kd6, kd7, hC.1, hP.1, ks1, ks2, ks3, ks4, ks5, kn0, kn1, kn2, kn3, kn4, kn5, kn6, kn7, kn8, km1, km2, km3, km4, km5, km6, km7, km8, kr0, kr1, kr2, kr3, kr5, kr6, kr7, kw5, kw6, kw7, kw8, ko0, ko1, ko2, ko3, ko4, ko5, ko6, ko7, ko8, kx1, kx2, kx3, oc2, c_isIn hC vC hI oc1, e, c_lowest hR vR, h2, c_other hB hS hV hI hv, show (nI 0 ≤ (-1 : Int32)) = False from by decide]
    · have ne : (nI k = -1) = False := by
        refine eq_false fun q => ?_
        have := congrArg Int32.toInt q
        rw [nI_toInt (by omega)] at this
        have e : (-1 : Int32).toInt = -1 := by decide
        omega
      simp (disch := omega) only [x128_0, x128_1, x128_4, x128_5, x128_8, x128_11, x128_12, x128_13, x128_16, x128_19, x128_20, x128_21, x128_22, x128_25, x128_26, x128_29, x128_30, x128_31, x128_32, x128_35, x128_36, x128_37, x128_40, x128_43, x128_44, nI_add, pk_mul, q_cl31, q_vin, q_le, q_lt, q_eqn, q_b_0, q_b_t, q_b_f, q_nz, q_nz1, q_nz0, q_tl, q_tn, true_and, and_true, not_true_eq_false, not_false_eq_true, ite_true, ite_false, ↓reduceIte, true_or, or_true, and_self, ne_eq, q_or1, q_or2, Nat.add_eq_zero_iff, and_false, false_and, List.length_cons, List.length_nil, reduceCtorEq, q_toI, Nat.zero_add, Nat.le_refl, q_c0, q_c1, q_c2, q_c4, q_c9, q_c12, q_c30, q_c99, q_c100, q_c126, q_c32, q_c359, q_c999, ks0, kd0, kd1, kd2, kd3, kd5, kd6, kd7, hC.1, hP.1, ks1, ks2, ks3, ks4, ks5, kn0, kn1, kn2, kn3, kn4, kn5, kn6, kn7, kn8, km1, km2, km3, km4, km5, km6, km7, km8, kr0, kr1, kr2, kr3, kr5, kr6, kr7, kw5, kw6, kw7, kw8, ko0, ko1, ko2, ko3, ko4, ko5, ko6, ko7, ko8, kx1, kx2, kx3, oc2, c_isIn hC vC hI oc1, e, c_lowest hR vR, h2, ne, Nat.zero_le]
theorem c_all (hS : q_StaB E B) (hV : q_Vsta g B f) (hI : q_In f) {v : Nat} (hv : v < 12) : q_X 52 0 [.ref B, .int (nI v)] [] E g Q = Q (some (.int (q_all f v))) E g := by
  obtain ⟨ks0, ⟨ks1, ks2, ks3, ks4, ks5⟩, hC, hN, hP, hR, hD⟩ := id hS
  obtain ⟨kn0, ⟨kn1, kn2, kn3, kn4, kn5, kn6, kn7, kn8⟩, km1, km2, km3, km4, km5, km6, km7, km8⟩ := id hN
  obtain ⟨kr0, kr1, kr2, kr3, kr5, kr6, kr7⟩ := id hR
  obtain ⟨kd0, kd1, kd2, kd3, kd5, kd6, kd7⟩ := id hD
  obtain ⟨⟨kw5, kw6, kw7, kw8⟩, vC, vN, vP, vR, vD⟩ := id hV
  obtain ⟨ko0, ko1, ko2, ko3, ko4, ko5, ko6, ko7, ko8⟩ := id vN
  obtain ⟨kx1, kx2, kx3⟩ := id vR
  simp (disch := omega) only [x52_0, x52_1, x52_4, x52_5, x52_8, x52_9, x52_12, x52_15, x52_16, x52_17, x52_18, x52_19, x52_22, x52_23, x52_26, x52_27, nI_add, pk_mul, q_cl31, q_vin, q_le, q_lt, q_eqn, q_b_0, q_b_t, q_b_f, q_nz, q_nz1, q_nz0, q_tl, q_tn, true_and, and_true, not_true_eq_false, not_false_eq_true, ite_true, ite_false, ↓reduceIte, true_or, or_true, and_self, ne_eq, q_or1, q_or2, Nat.add_eq_zero_iff, and_false, false_and, List.length_cons, List.length_nil, reduceCtorEq, q_toI, Nat.zero_add, Nat.le_refl, q_c0, q_c1, q_c2, q_c4, q_c9, q_c12, q_c30, q_c99, q_c100, q_c126, q_c32, q_c359, q_c999, ks0, kd0, kd1, kd2, kd3, kd5, kd6, kd7, hC.1, hP.1, ks1, ks2, ks3, ks4, ks5, kn0, kn1, kn2, kn3, kn4, kn5, kn6, kn7, kn8, km1, km2, km3, km4, km5, km6, km7, km8, kr0, kr1, kr2, kr3, kr5, kr6, kr7, kw5, kw6, kw7, kw8, ko0, ko1, ko2, ko3, ko4, ko5, ko6, ko7, ko8, kx1, kx2, kx3, c_way hD vD hI, c_cards hR vR, q_all]
theorem c_aboutV (hS : q_StaB E B) (hV : q_Vsta g B f) (hI : q_In f) {v j : Nat} (hv : v < 12) (hj : j ≤ 9) : q_X 51 0 [.ref B, .int (nI v), .int (nI j)] [] E g Q = Q (some (.int (a_verse f v j))) E g := by
  obtain ⟨ks0, ⟨ks1, ks2, ks3, ks4, ks5⟩, hC, hN, hP, hR, hD⟩ := id hS
  obtain ⟨kn0, ⟨kn1, kn2, kn3, kn4, kn5, kn6, kn7, kn8⟩, km1, km2, km3, km4, km5, km6, km7, km8⟩ := id hN
  obtain ⟨kr0, kr1, kr2, kr3, kr5, kr6, kr7⟩ := id hR
  obtain ⟨kd0, kd1, kd2, kd3, kd5, kd6, kd7⟩ := id hD
  obtain ⟨⟨kw5, kw6, kw7, kw8⟩, vC, vN, vP, vR, vD⟩ := id hV
  obtain ⟨ko0, ko1, ko2, ko3, ko4, ko5, ko6, ko7, ko8⟩ := id vN
  obtain ⟨kx1, kx2, kx3⟩ := id vR
  rcases (by omega : j = 0 ∨ j = 1 ∨ j = 2 ∨ j = 3 ∨ j = 4 ∨ j = 5 ∨ j = 6 ∨ j = 7 ∨ j = 8 ∨ j = 9) with rfl | rfl | rfl | rfl | rfl | rfl | rfl | rfl | rfl | rfl
  all_goals
    simp (disch := omega) only [x51_0, x51_1, x51_52, x51_53, x51_56, x51_59, x51_60, x51_61, x51_62, x51_63, x51_66, x51_69, x51_70, x51_71, x51_72, x51_73, x51_76, x51_79, x51_80, x51_81, x51_82, x51_83, x51_86, x51_89, x51_90, x51_91, x51_92, x51_93, x51_96, x51_97, x51_100, x51_101, x51_102, x51_105, x51_106, x51_109, x51_110, x51_111, x51_114, x51_117, x51_118, x51_119, x51_120, x51_121, x51_124, x51_127, x51_128, x51_129, x51_130, x51_131, x51_134, x51_137, x51_138, x51_139, x51_140, x51_141, x51_144, x51_147, x51_148, x51_149, nI_add, pk_mul, q_cl31, q_vin, q_le, q_lt, q_eqn, q_b_0, q_b_t, q_b_f, q_nz, q_nz1, q_nz0, q_tl, q_tn, true_and, and_true, not_true_eq_false, not_false_eq_true, ite_true, ite_false, ↓reduceIte, true_or, or_true, and_self, ne_eq, q_or1, q_or2, Nat.add_eq_zero_iff, and_false, false_and, List.length_cons, List.length_nil, reduceCtorEq, q_toI, Nat.zero_add, Nat.le_refl, q_c0, q_c1, q_c2, q_c4, q_c9, q_c12, q_c30, q_c99, q_c100, q_c126, q_c32, q_c359, q_c999, ks0, kd0, kd1, kd2, kd3, kd5, kd6, kd7, hC.1, hP.1, ks1, ks2, ks3, ks4, ks5, kn0, kn1, kn2, kn3, kn4, kn5, kn6, kn7, kn8, km1, km2, km3, km4, km5, km6, km7, km8, kr0, kr1, kr2, kr3, kr5, kr6, kr7, kw5, kw6, kw7, kw8, ko0, ko1, ko2, ko3, ko4, ko5, ko6, ko7, ko8, kx1, kx2, kx3, c_way hD vD hI, c_cards hR vR, a_verse, Nat.reduceEqDiff, Nat.reduceLT, Nat.reduceSub, Nat.lt_irrefl, Nat.add_zero]
end
