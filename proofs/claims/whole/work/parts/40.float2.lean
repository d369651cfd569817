/-- what the comparison pushes, as rows for simp -/
theorem q_cge {c e : Nat} (h : q_fok c e) {x : UInt32} {m : Nat} (hx : Jvm.FP.Core.val32 x = .fin false 8388608 ((m : Int) - 150)) (op : CmpOp) : (Op.cmpValue (FP.fcmp (q_fl c e) x) op < nI 0) = (e < m) ∧ (nI 0 ≤ Op.cmpValue (FP.fcmp (q_fl c e) x) op) = (m ≤ e) := by
  obtain ⟨h1, h2⟩ := q_fcmp_at h hx
  by_cases k : m ≤ e
  · have := h1 k
    generalize FP.fcmp (q_fl c e) x = o at *
    rw [eq_true k, eq_false (show ¬ e < m by omega)]
    rcases o with _ | o
    · exact absurd rfl this.2
    · cases o
      · exact absurd rfl this.1
      · exact ⟨by show ((0 : Int32) < nI 0) = False; decide, by show (nI 0 ≤ (0 : Int32)) = True; decide⟩
      · exact ⟨by show ((1 : Int32) < nI 0) = False; decide, by show (nI 0 ≤ (1 : Int32)) = True; decide⟩
  · rw [h2 (by omega), eq_false k, eq_true (show e < m by omega)]
    exact ⟨by show ((-1 : Int32) < nI 0) = True; decide, by show (nI 0 ≤ (-1 : Int32)) = False; decide⟩
theorem q_fv2' : Jvm.FP.Core.val32 FP.fconst2 = .fin false 8388608 (((128 : Nat) : Int) - 150) := q_fv2
theorem q_fv1' : Jvm.FP.Core.val32 FP.fconst1 = .fin false 8388608 (((127 : Nat) : Int) - 150) := q_fv1
theorem q_cg0 {c e : Nat} (h : q_fok c e) : (nI 0 < Op.cmpValue (FP.fcmp (q_fl c e) FP.fconst0) .l) = True := by
  rw [q_fgt0 h]
  show (nI 0 < (1 : Int32)) = True
  decide
theorem q_shl : ∀ e, e < 255 → nI e <<< (nI 23 &&& 31) = nI (e * 8388608) := by
  have h : ∀ e, e < 255 → decide (nI e <<< (nI 23 &&& 31) = nI (e * 8388608)) = true := by decide +kernel
  exact fun e he => of_decide_eq_true (h e he)
theorem q_flI {c e : Nat} (h : q_fok c e) : (q_fl c e).toInt32 = nI (e * 8388608 + (c - 8388608)) := by
  apply Int32.toInt_inj.mp
  have hN := q_flN h
  obtain ⟨⟨h1, h2⟩, h3, h4⟩ := h
  rw [nI_toInt (by omega)]
  show (q_fl c e).toBitVec.toInt = _
  rw [BitVec.toInt_eq_toNat_of_lt (by show 2 * (q_fl c e).toNat < 4294967296; omega)]
  show ((q_fl c e).toNat : Int) = _
  rw [hN]
section
variable {E : q_E} {g : q_G} {Q : Option Value → q_E → q_G → Prop}
theorem s_bits {c e : Nat} (h : q_fok c e) : q_X 22 0 [.float (q_fl c e), .null, .null, .null] [] E g Q = Q (some (.int (q_fl c e).toInt32)) E g := by
  have hc := h.1
  have he := h.2
  have ok : ∀ n, 1 ≤ n → n ≤ 254 → q_fok c n := fun n a b => ⟨hc, a, b⟩
  simp (disch := omega) only [x22_0, x22_1, x22_2, x22_3, x22_6, x22_7, x22_8, x22_9, x22_10, x22_12, x22_13, x22_14, nI_add, pk_mul, q_cl31, q_vin, q_le, q_lt, q_eqn, q_b_0, q_b_t, q_b_f, q_nz, q_nz1, q_nz0, q_tl, q_tn, true_and, and_true, not_true_eq_false, not_false_eq_true, ite_true, ite_false, ↓reduceIte, true_or, or_true, and_self, ne_eq, q_or1, q_or2, Nat.add_eq_zero_iff, and_false, false_and, List.length_cons, List.length_nil, reduceCtorEq, q_toI, Nat.zero_add, Nat.le_refl, q_c0, q_c1, q_c2, q_c4, q_c9, q_c12, q_c30, q_c99, q_c100, q_c126, q_c32, q_c359, q_c999, q_cg0 h]
  -- halving
  have l1 : q_X 22 15 [.float (q_fl c e), .float (q_fl c e), .int (nI 127), .int (nI 0)] [] E g Q = q_X 22 43 [.float (q_fl c e), .float (q_fl c (e - (e - 127))), .int (nI (127 + (e - 127))), .int (nI 0)] [] E g Q := by
    refine (q_loop (N := e - 127) (P := fun j => q_X 22 15 [.float (q_fl c e), .float (q_fl c (e - j)), .int (nI (127 + j)), .int (nI j)] [] E g Q) (fun j hj => ?_)).trans ?_
    · try dsimp only
      have k := q_cge (ok (e - j) (by omega) (by omega)) q_fv2' .l
      have d : FP.fdiv (q_fl c (e - j)) FP.fconst2 = q_fl c (e - (j + 1)) := by
        rw [show e - j = e - (j + 1) + 1 by omega]
        exact q_fhalf (ok _ (by omega) (by omega)) (ok _ (by omega) (by omega))
      conv => lhs; simp (disch := omega) only [x22_0, x22_1, x22_2, x22_3, x22_6, x22_7, x22_8, x22_9, x22_10, x22_12, x22_13, x22_14, x22_15, x22_16, x22_19, x22_22, x22_23, x22_24, x22_25, x22_28, x22_29, x22_30, x22_31, x22_32, x22_35, x22_41, x22_42, x22_43, x22_44, x22_47, x22_50, x22_51, x22_52, x22_53, x22_56, x22_57, x22_58, x22_59, x22_60, x22_63, x22_69, x22_70, x22_71, x22_72, x22_75, x22_76, x22_77, x22_78, x22_79, x22_81, x22_82, x22_83, x22_84, nI_add, pk_mul, q_cl31, q_vin, q_le, q_lt, q_eqn, q_b_0, q_b_t, q_b_f, q_nz, q_nz1, q_nz0, q_tl, q_tn, true_and, and_true, not_true_eq_false, not_false_eq_true, ite_true, ite_false, ↓reduceIte, true_or, or_true, and_self, ne_eq, q_or1, q_or2, Nat.add_eq_zero_iff, and_false, false_and, List.length_cons, List.length_nil, reduceCtorEq, q_toI, Nat.zero_add, Nat.le_refl, q_c0, q_c1, q_c2, q_c4, q_c9, q_c12, q_c30, q_c99, q_c100, q_c126, q_c32, q_c359, q_c999, k.1, d, q_flnn (ok (e - (j + 1)) (by omega) (by omega)), show (200 ≤ j) = False from eq_false (by omega), show (e - j < 128) = False from eq_false (by omega)]
      simp only [x22_38, x22_66]
      rfl
    · have k := q_cge (ok (e - (e - 127)) (by omega) (by omega)) q_fv2' .l
      simp (disch := omega) only [x22_15, x22_16, x22_19, x22_22, x22_23, x22_24, x22_25, x22_28, x22_29, x22_30, x22_31, x22_32, x22_35, x22_38, x22_41, x22_42, nI_add, pk_mul, q_cl31, q_vin, q_le, q_lt, q_eqn, q_b_0, q_b_t, q_b_f, q_nz, q_nz1, q_nz0, q_tl, q_tn, true_and, and_true, not_true_eq_false, not_false_eq_true, ite_true, ite_false, ↓reduceIte, true_or, or_true, and_self, ne_eq, q_or1, q_or2, Nat.add_eq_zero_iff, and_false, false_and, List.length_cons, List.length_nil, reduceCtorEq, q_toI, Nat.zero_add, Nat.le_refl, q_c0, q_c1, q_c2, q_c4, q_c9, q_c12, q_c30, q_c99, q_c100, q_c126, q_c32, q_c359, q_c999, k.1, show (200 ≤ e - 127) = False from eq_false (by omega), show (e - (e - 127) < 128) = True from eq_true (by omega)]
  rw [l1]
  generalize hd : e - (e - 127) = e1
  have l2 : q_X 22 43 [.float (q_fl c e), .float (q_fl c e1), .int (nI (127 + (e - 127))), .int (nI 0)] [] E g Q = q_X 22 69 [.float (q_fl c e), .float (q_fl c 127), .int (nI e), .int (nI (127 - e1))] [] E g Q := by
    have z : q_X 22 43 [.float (q_fl c e), .float (q_fl c e1), .int (nI (127 + (e - 127))), .int (nI 0)] [] E g Q = q_X 22 43 [.float (q_fl c e), .float (q_fl c (e1 + 0)), .int (nI (127 + (e - 127) - 0)), .int (nI 0)] [] E g Q := rfl
    rw [z]
    refine (q_loop (N := 127 - e1) (P := fun j => q_X 22 43 [.float (q_fl c e), .float (q_fl c (e1 + j)), .int (nI (127 + (e - 127) - j)), .int (nI j)] [] E g Q) (fun j hj => ?_)).trans ?_
    · try dsimp only
      have k := q_cge (ok (e1 + j) (by omega) (by omega)) q_fv1' .g
      have d : FP.fmul (q_fl c (e1 + j)) FP.fconst2 = q_fl c (e1 + (j + 1)) := q_fdbl (ok _ (by omega) (by omega)) (ok _ (by omega) (by omega))
      have m : nI (127 + (e - 127) - j) + (-1) = nI (127 + (e - 127) - (j + 1)) := by
        rw [show 127 + (e - 127) - j = (127 + (e - 127) - (j + 1)) + 1 by omega, pk_m1]
      conv => lhs; simp (disch := omega) only [x22_0, x22_1, x22_2, x22_3, x22_6, x22_7, x22_8, x22_9, x22_10, x22_12, x22_13, x22_14, x22_15, x22_16, x22_19, x22_22, x22_23, x22_24, x22_25, x22_28, x22_29, x22_30, x22_31, x22_32, x22_35, x22_41, x22_42, x22_43, x22_44, x22_47, x22_50, x22_51, x22_52, x22_53, x22_56, x22_57, x22_58, x22_59, x22_60, x22_63, x22_69, x22_70, x22_71, x22_72, x22_75, x22_76, x22_77, x22_78, x22_79, x22_81, x22_82, x22_83, x22_84, nI_add, pk_mul, q_cl31, q_vin, q_le, q_lt, q_eqn, q_b_0, q_b_t, q_b_f, q_nz, q_nz1, q_nz0, q_tl, q_tn, true_and, and_true, not_true_eq_false, not_false_eq_true, ite_true, ite_false, ↓reduceIte, true_or, or_true, and_self, ne_eq, q_or1, q_or2, Nat.add_eq_zero_iff, and_false, false_and, List.length_cons, List.length_nil, reduceCtorEq, q_toI, Nat.zero_add, Nat.le_refl, q_c0, q_c1, q_c2, q_c4, q_c9, q_c12, q_c30, q_c99, q_c100, q_c126, q_c32, q_c359, q_c999, k.2, d, m, q_flnn (ok (e1 + (j + 1)) (by omega) (by omega)), show (200 ≤ j) = False from eq_false (by omega), show (127 ≤ e1 + j) = False from eq_false (by omega)]
      simp only [x22_38, x22_66]
    · have k := q_cge (ok (e1 + (127 - e1)) (by omega) (by omega)) q_fv1' .g
      simp (disch := omega) only [x22_43, x22_44, x22_47, x22_50, x22_51, x22_52, x22_53, x22_56, x22_57, x22_58, x22_59, x22_60, x22_63, x22_66, nI_add, pk_mul, q_cl31, q_vin, q_le, q_lt, q_eqn, q_b_0, q_b_t, q_b_f, q_nz, q_nz1, q_nz0, q_tl, q_tn, true_and, and_true, not_true_eq_false, not_false_eq_true, ite_true, ite_false, ↓reduceIte, true_or, or_true, and_self, ne_eq, q_or1, q_or2, Nat.add_eq_zero_iff, and_false, false_and, List.length_cons, List.length_nil, reduceCtorEq, q_toI, Nat.zero_add, Nat.le_refl, q_c0, q_c1, q_c2, q_c4, q_c9, q_c12, q_c30, q_c99, q_c100, q_c126, q_c32, q_c359, q_c999, k.2, show (200 ≤ 127 - e1) = False from eq_false (by omega), show (127 ≤ e1 + (127 - e1)) = True from eq_true (by omega)]
      rw [show e1 + (127 - e1) = 127 by omega, show 127 + (e - 127) - (127 - e1) = e by omega]
  rw [l2]
  obtain ⟨f1, f2, f3⟩ := q_ffr (ok 127 (by omega) (by omega))
  simp (disch := omega) only [x22_69, x22_70, x22_71, x22_72, x22_75, x22_76, x22_77, x22_78, x22_79, x22_81, x22_82, x22_83, x22_84, nI_add, pk_mul, q_cl31, q_vin, q_le, q_lt, q_eqn, q_b_0, q_b_t, q_b_f, q_nz, q_nz1, q_nz0, q_tl, q_tn, true_and, and_true, not_true_eq_false, not_false_eq_true, ite_true, ite_false, ↓reduceIte, true_or, or_true, and_self, ne_eq, q_or1, q_or2, Nat.add_eq_zero_iff, and_false, false_and, List.length_cons, List.length_nil, reduceCtorEq, q_toI, Nat.zero_add, Nat.le_refl, q_c0, q_c1, q_c2, q_c4, q_c9, q_c12, q_c30, q_c99, q_c100, q_c126, q_c32, q_c359, q_c999, f1, f2, f3, q_shl, q_flI h]
theorem s_bits0 : q_X 22 0 [.float 0, .null, .null, .null] [] E g Q = Q (some (.int (0 : UInt32).toInt32)) E g := by
  simp (disch := omega) only [x22_0, x22_1, x22_2, x22_3, x22_6, x22_7, nI_add, pk_mul, q_cl31, q_vin, q_le, q_lt, q_eqn, q_b_0, q_b_t, q_b_f, q_nz, q_nz1, q_nz0, q_tl, q_tn, true_and, and_true, not_true_eq_false, not_false_eq_true, ite_true, ite_false, ↓reduceIte, true_or, or_true, and_self, ne_eq, q_or1, q_or2, Nat.add_eq_zero_iff, and_false, false_and, List.length_cons, List.length_nil, reduceCtorEq, q_toI, Nat.zero_add, Nat.le_refl, q_c0, q_c1, q_c2, q_c4, q_c9, q_c12, q_c30, q_c99, q_c100, q_c126, q_c32, q_c359, q_c999, show (nI 0 < Op.cmpValue (FP.fcmp 0 FP.fconst0) .l) = False from by decide +kernel]
  try rfl
theorem s_isNaN {x : UInt32} (h : FP.fcmp x x = some .eq) : q_X 3 0 [.float x] [] E g Q = Q (some (.int (nI 0))) E g := by
  simp (disch := omega) only [x3_0, x3_1, x3_2, x3_3, x3_6, x3_7, x3_10, x3_11, nI_add, pk_mul, q_cl31, q_vin, q_le, q_lt, q_eqn, q_b_0, q_b_t, q_b_f, q_nz, q_nz1, q_nz0, q_tl, q_tn, true_and, and_true, not_true_eq_false, not_false_eq_true, ite_true, ite_false, ↓reduceIte, true_or, or_true, and_self, ne_eq, q_or1, q_or2, Nat.add_eq_zero_iff, and_false, false_and, List.length_cons, List.length_nil, reduceCtorEq, q_toI, Nat.zero_add, Nat.le_refl, q_c0, q_c1, q_c2, q_c4, q_c9, q_c12, q_c30, q_c99, q_c100, q_c126, q_c32, q_c359, q_c999, h]
  have e : Op.cmpValue (some .eq) .l = nI 0 := by decide
  rw [e, if_pos rfl]
  try exact propext ⟨fun h => h.2, fun h => ⟨by decide, h⟩⟩
theorem s_f2b {x : UInt32} (h : FP.fcmp x x = some .eq) : q_X 39 0 [.float x] [] E g Q = Q (some (.int x.toInt32)) E g := by
  simp (disch := omega) only [x39_0, x39_1, x39_4, x39_7, x39_8, x39_11, x39_12, x39_14, nI_add, pk_mul, q_cl31, q_vin, q_le, q_lt, q_eqn, q_b_0, q_b_t, q_b_f, q_nz, q_nz1, q_nz0, q_tl, q_tn, true_and, and_true, not_true_eq_false, not_false_eq_true, ite_true, ite_false, ↓reduceIte, true_or, or_true, and_self, ne_eq, q_or1, q_or2, Nat.add_eq_zero_iff, and_false, false_and, List.length_cons, List.length_nil, reduceCtorEq, q_toI, Nat.zero_add, Nat.le_refl, q_c0, q_c1, q_c2, q_c4, q_c9, q_c12, q_c30, q_c99, q_c100, q_c126, q_c32, q_c359, q_c999, s_isNaN h]
theorem q_feq {c e : Nat} (h : q_fok c e) : FP.fcmp (q_fl c e) (q_fl c e) = some .eq := by
  have k : FP.fcmp (q_fl c e) (q_fl c e) = Jvm.FP.Core.order (Jvm.FP.Core.val32 (q_fl c e)) (Jvm.FP.Core.val32 (q_fl c e)) := rfl
  rw [k, q_flv h]
  show some (compare _ _) = _
  rw [Int.compare_eq_eq.mpr rfl]
theorem q_feq0 : FP.fcmp 0 0 = some .eq := by decide +kernel
end

/-- finite, of positive sign, at least m -/
theorem q_fpos {x : UInt32} {s : Bool} {c : Nat} {q : Int} (h : Jvm.FP.Core.val32 x = .fin s c q) (hs : s = false) : x.toNat < 2147483648 := by
  have := (Jvm.FP.Core.sign_bits32 (a := x) (s := s) (Or.inl ⟨c, q, h⟩))
  rw [hs] at this
  refine Nat.lt_of_not_le fun k => ?_
  exact absurd (this.mpr k) (by decide)
/-- an int from 1 on, as a float -/
theorem q_fint {n : Nat} (h1 : 1 ≤ n) (h2 : n < 2147483648) : 1065353216 ≤ (FP.i2f (nI n)).toNat ∧ (FP.i2f (nI n)).toNat < 1342177280 := by
  have e : (nI n).toInt = (n : Int) := nI_toInt h2
  have m1 := Jvm.FP.Core.i2f_mag (nI n)
  have m2 := Jvm.FP.Core.fromInt_ge32 (Jvm.FP.Core.toNat_i2f (nI n)) (by rw [e]; omega)
  have f := Jvm.FP.Core.fin_of_lt32 m1 (by decide)
  obtain ⟨s, c, q, f⟩ := f
  have hs : s = false := by
    have k := Jvm.FP.Core.sgn_roundRatio Jvm.FP.Core.b32 (decide ((nI n).toInt < 0)) (nI n).toInt.natAbs 1 0
    have v := Jvm.FP.Core.val32_i2f (nI n)
    rw [f] at v
    have v2 : Jvm.FP.Core.Datum.fin s c q = Jvm.FP.Core.roundRatio Jvm.FP.Core.b32 (decide ((nI n).toInt < 0)) (nI n).toInt.natAbs 1 0 := v
    rw [← v2] at k
    have k2 : s = decide ((nI n).toInt < 0) := k
    rw [k2, e]
    exact decide_eq_false (by omega)
  have p := q_fpos f hs
  show 1065353216 ≤ (Jvm.FP.Core.i2f (nI n)).toNat ∧ (Jvm.FP.Core.i2f (nI n)).toNat < 1342177280
  omega
theorem q_fun {x : UInt32} {m : Nat} (h : m ≤ x.toNat) (h2 : x.toNat < 2139095040) : ∃ s c q, Jvm.FP.Core.val32 x = .fin s c q ∧ s = false ∧ Jvm.FP.Core.fits Jvm.FP.Core.b32 (.fin s c q) ∧ Jvm.FP.Core.unitsOf Jvm.FP.Core.b32 m ≤ Jvm.FP.Core.inUnits c q (-149) ∧ Jvm.FP.Core.inUnits c q (-149) = Jvm.FP.Core.unitsOf Jvm.FP.Core.b32 x.toNat := by
  have hf : Jvm.FP.Core.FFin x := (Jvm.FP.Core.fin_bits32 x).mpr (by omega)
  obtain ⟨s, c, q, f⟩ := hf
  have z := Jvm.FP.Core.zmag_toNat32 (a := x) (by rw [f]; exact fun q => (by cases q))
  have ft := Jvm.FP.Core.val32_fits x
  rw [f] at z ft
  have z2 : Jvm.FP.Core.inUnits c q (-149) = Jvm.FP.Core.unitsOf Jvm.FP.Core.b32 (x.toNat % 2 ^ 31) := z
  rw [show x.toNat % 2 ^ 31 = x.toNat by omega] at z2
  refine ⟨s, c, q, f, ?_, ft, ?_, z2⟩
  · have k := Jvm.FP.Core.sign_bits32 (a := x) (s := s) (Or.inl ⟨c, q, f⟩)
    cases s
    · rfl
    · have := k.mp rfl
      omega
  · rw [z2]
    exact Jvm.FP.Core.unitsOf_le_iff.mpr h
theorem q_u1 : Jvm.FP.Core.unitsOf Jvm.FP.Core.b32 1065353216 = 2 ^ 149 := by decide +kernel
theorem q_u2 : Jvm.FP.Core.unitsOf Jvm.FP.Core.b32 1342177280 = 2 ^ 182 := by decide +kernel
theorem q_u3 : Jvm.FP.Core.unitsOf Jvm.FP.Core.b32 788529152 = 2 ^ 116 := by decide +kernel
/-- a product of floats from 1 on -/
theorem q_fpro {x y : UInt32} (hx : 1065353216 ≤ x.toNat ∧ x.toNat < 1342177280) (hy : 1065353216 ≤ y.toNat ∧ y.toNat < 1342177280) : 1065353216 ≤ (FP.fmul x y).toNat ∧ (FP.fmul x y).toNat < 1627389952 := by
  obtain ⟨s, c, q, f, hs, ft, u, -⟩ := q_fun hx.1 (by omega)
  obtain ⟨t, d, r, k, ht, kt, w, -⟩ := q_fun hy.1 (by omega)
  subst hs
  subst ht
  have up := Jvm.FP.Core.fmul_mag (a := x) (b := y) (Ka := 160) (Kb := 160) (by omega) (by omega) (by decide) (by decide)
  have hq1 : Jvm.FP.Core.b32.qmin = -149 := by decide
  have v : Jvm.FP.Core.val32 (Jvm.FP.Core.fmul x y) = Jvm.FP.Core.roundRatio Jvm.FP.Core.b32 false (c * d) 1 (q + r) := by
    rw [Jvm.FP.Core.val32_fmul, f, k]
    rfl
  have lo : 1065353216 ≤ Jvm.FP.Core.mag Jvm.FP.Core.b32 (Jvm.FP.Core.fmul x y).toNat := by
    obtain ⟨-, p2, p3⟩ := Jvm.FP.Core.product_units ft kt
    refine Jvm.FP.Core.mag_ge Jvm.FP.Core.good_b32 (e0 := 2 * Jvm.FP.Core.b32.qmin) v (by decide) (by rw [hq1]; decide) p2 (by decide +kernel) ?_
    rw [p3, q_u1, hq1]
    rw [q_u1] at u w
    show 2 ^ 149 * 2 ^ 149 * 1 ≤ _
    rw [Nat.mul_one]
    exact Nat.mul_le_mul u w
  rw [Jvm.FP.Core.mag_toNat32] at lo
  obtain ⟨s2, c2, q2, f2⟩ := Jvm.FP.Core.fin_of_lt32 up (by decide)
  have hs : s2 = false := by
    have k := Jvm.FP.Core.sgn_roundRatio Jvm.FP.Core.b32 false (c * d) 1 (q + r)
    rw [← v, f2] at k
    exact k
  have p := q_fpos f2 hs
  show 1065353216 ≤ (Jvm.FP.Core.fmul x y).toNat ∧ (Jvm.FP.Core.fmul x y).toNat < 1627389952
  omega
/-- such a product, shared out -/
theorem q_fquo {x y : UInt32} (hx : 1065353216 ≤ x.toNat ∧ x.toNat < 1627389952) (hy : 1065353216 ≤ y.toNat ∧ y.toNat < 1342177280) : 788529152 ≤ (FP.fdiv x y).toNat ∧ (FP.fdiv x y).toNat < 2139095040 := by
  obtain ⟨s, c, q, f, hs, ft, u, -⟩ := q_fun hx.1 (by omega)
  obtain ⟨t, d, r, k, ht, kt, w, w2⟩ := q_fun hy.1 (by omega)
  subst hs
  subst ht
  have up := Jvm.FP.Core.fdiv_mag (a := x) (b := y) (K := 194) (L := 127) (by omega) (by omega) (by omega) (by decide) (by decide)
  have hq1 : Jvm.FP.Core.b32.qmin = -149 := by decide
  rw [q_u1] at u w
  have wu : Jvm.FP.Core.inUnits d r (-149) ≤ 2 ^ 182 := by
    rw [w2, ← q_u2]
    exact Jvm.FP.Core.unitsOf_le_iff.mpr (by omega)
  have hd : 0 < d := by
    rcases Nat.eq_zero_or_pos d with h | h
    · subst h
      unfold Jvm.FP.Core.inUnits at w
      rw [Nat.zero_mul] at w
      exact absurd w (by decide)
    · exact h
  have v : Jvm.FP.Core.val32 (Jvm.FP.Core.fdiv x y) = Jvm.FP.Core.roundRatio Jvm.FP.Core.b32 false c d (q - r) := by
    rw [Jvm.FP.Core.val32_fdiv, f, k]
    show (if d = 0 then _ else _) = _
    rw [if_neg (by omega)]
    rfl
  have b1 : -149 ≤ q ∧ q ≤ 104 := ⟨by have := ft.2.1; rw [hq1] at this; exact this, by have := ft.2.2.1; exact this⟩
  have b2 : -149 ≤ r ∧ r ≤ 104 := ⟨by have := kt.2.1; rw [hq1] at this; exact this, by have := kt.2.2.1; exact this⟩
  have lo : 788529152 ≤ Jvm.FP.Core.mag Jvm.FP.Core.b32 (Jvm.FP.Core.fdiv x y).toNat := by
    refine Jvm.FP.Core.mag_ge Jvm.FP.Core.good_b32 (e0 := -649) v hd (by rw [hq1]; decide) (by omega) (by decide +kernel) ?_
    rw [q_u3, hq1]
    unfold Jvm.FP.Core.inUnits at u wu ⊢
    refine Nat.le_of_mul_le_mul_right (c := 2 ^ (r - -149).toNat) ?_ (Nat.two_pow_pos _)
    have e1 : ((-149 : Int) - -649).toNat = 500 := by decide
    rw [e1]
    calc 2 ^ 116 * 2 ^ 500 * d * 2 ^ (r - -149).toNat = 2 ^ 116 * 2 ^ 500 * (d * 2 ^ (r - -149).toNat) := by rw [Nat.mul_assoc]
      _ ≤ 2 ^ 116 * 2 ^ 500 * 2 ^ 182 := Nat.mul_le_mul_left _ wu
      _ = 2 ^ 149 * 2 ^ 649 := by rw [← Nat.pow_add, ← Nat.pow_add, ← Nat.pow_add]
      _ ≤ c * 2 ^ (q - -149).toNat * 2 ^ 649 := Nat.mul_le_mul_right _ u
      _ = c * 2 ^ (q - r - -649).toNat * 2 ^ (r - -149).toNat := by
        rw [Nat.mul_assoc, Nat.mul_assoc, ← Nat.pow_add, ← Nat.pow_add]
        congr 2
        omega
  rw [Jvm.FP.Core.mag_toNat32] at lo
  obtain ⟨s2, c2, q2, f2⟩ := Jvm.FP.Core.fin_of_lt32 up (by decide)
  have hs : s2 = false := by
    have k := Jvm.FP.Core.sgn_roundRatio Jvm.FP.Core.b32 false c d (q - r)
    rw [← v, f2] at k
    exact k
  have p := q_fpos f2 hs
  show 788529152 ≤ (Jvm.FP.Core.fdiv x y).toNat ∧ (Jvm.FP.Core.fdiv x y).toNat < 2139095040
  omega
/-- cards times days over wanted -/
def q_ldv (n d w : Nat) : UInt32 := FP.fdiv (FP.fmul (FP.i2f (nI n)) (FP.i2f (nI d))) (FP.i2f (nI w))
theorem q_fvp {n d w : Nat} (hn : n < 2147483648) (hd : 1 ≤ d ∧ d < 2147483648) (hw : 1 ≤ w ∧ w < 2147483648) : ((FP.fmul (FP.i2f (nI n)) (FP.i2f (nI d)) &&& 0x7fffffff ≤ 0x7f800000) = True ∧ (q_ldv n d w &&& 0x7fffffff ≤ 0x7f800000) = True) ∧ ((n = 0 ∧ q_ldv n d w = 0) ∨ ∃ c e, q_fok c e ∧ q_ldv n d w = q_fl c e) := by
  have id := q_fint hd.1 hd.2
  have iw := q_fint hw.1 hw.2
  have nn : ∀ x : UInt32, x.toNat < 2139095040 → (x &&& 0x7fffffff ≤ 0x7f800000) = True := by
    intro x hx
    obtain ⟨s, c, q, f, -⟩ := q_fun (m := 0) (Nat.zero_le _) hx
    exact q_fnn (by rw [f]; exact fun q => (by cases q))
  unfold q_ldv
  by_cases h0 : n = 0
  · subst h0
    have z : FP.i2f (nI 0) = 0 := by decide +kernel
    have zv : Jvm.FP.Core.val32 0 = .fin false 0 (-149) := by decide +kernel
    rw [z]
    have m0 : FP.fmul 0 (FP.i2f (nI d)) = 0 := by
      obtain ⟨s, c, q, f, hs, -⟩ := q_fun id.1 (by omega)
      subst hs
      have v : Jvm.FP.Core.val32 (Jvm.FP.Core.fmul 0 (FP.i2f (nI d))) = Jvm.FP.Core.val32 0 := by
        rw [Jvm.FP.Core.val32_fmul, f, zv]
        show Jvm.FP.Core.roundRatio Jvm.FP.Core.b32 false (0 * c) 1 _ = _
        rw [Nat.zero_mul]
        rfl
      exact Jvm.FP.Core.val32_inj (by rw [v, zv]; exact fun q => (by cases q)) v
    have d0 : FP.fdiv 0 (FP.i2f (nI w)) = 0 := by
      obtain ⟨s, c, q, f, hs, -, u, -⟩ := q_fun iw.1 (by omega)
      subst hs
      have v : Jvm.FP.Core.val32 (Jvm.FP.Core.fdiv 0 (FP.i2f (nI w))) = Jvm.FP.Core.val32 0 := by
        rw [Jvm.FP.Core.val32_fdiv, f, zv]
        show (if c = 0 then _ else Jvm.FP.Core.roundRatio Jvm.FP.Core.b32 false 0 c _) = _
        rw [q_u1] at u
        unfold Jvm.FP.Core.inUnits at u
        rw [if_neg]
        · rfl
        · intro hc
          rw [hc, Nat.zero_mul] at u
          exact absurd u (by decide)
      exact Jvm.FP.Core.val32_inj (by rw [v, zv]; exact fun q => (by cases q)) v
    rw [m0, d0]
    exact ⟨⟨nn 0 (by decide), nn 0 (by decide)⟩, Or.inl ⟨rfl, rfl⟩⟩
  · have iN := q_fint (n := n) (by omega) hn
    have p := q_fpro iN id
    have q := q_fquo p iw
    exact ⟨⟨nn _ (by omega), nn _ q.2⟩, Or.inr (q_fl_of (by omega) q.2)⟩
