/-! the class's object -/
def q_okb (b : Nat) : Prop := b = 4 ∨ b = 27 ∨ b = 50 ∨ b = 73 ∨ b = 96 ∨ b = 119
def q_EB (L : Nat) (E : q_E) : Prop := (E.1 = 146 ∧ E.2.1 ≤ 2079 ∧ q_kd E 1 = (1, L) ∧ q_kd E 2 = (1, 10)) ∧ (q_kd E 3 = (12, 9) ∧ q_rf E 3 7 = 142 ∧ q_rf E 3 8 = 145 ∧ q_kd E 145 = (8, 4)) ∧ q_TexB E ∧ True ∧ ∀ b, q_okb b → q_StaB E b
/-- now, trial, latest, second, third, oldest -/
def q_Slo (E : q_E) : Prop := (∀ i, i < 6 → q_okb (q_rf E 3 i)) ∧ ∀ i j, i < 6 → j < 6 → i ≠ j → q_rf E 3 i ≠ q_rf E 3 j
theorem q_rfn {E : q_E} {a k v b j : Nat} (h : ¬ j = k) : q_rf (q_setR E a k v) b j = q_rf E b j := if_neg fun q => h q.2
theorem q_rfm {E : q_E} {a k v b j : Nat} (h : ¬ b = a) : q_rf (q_setR E a k v) b j = q_rf E b j := if_neg fun q => h q.1
theorem q_rfe {E : q_E} {a k v : Nat} : q_rf (q_setR E a k v) a k = v := if_pos ⟨rfl, rfl⟩
theorem q_kds (E : q_E) (a k v b : Nat) : q_kd (q_setR E a k v) b = q_kd E b := rfl
theorem q_StaB_c {E E' : q_E} {B : Nat} (hk : ∀ a, q_kd E' a = q_kd E a) (hr : ∀ a j, 4 ≤ a → q_rf E' a j = q_rf E a j) (hB : 4 ≤ B) (h : q_StaB E B) : q_StaB E' B := by
  obtain ⟨s0, ⟨s1, s2, s3, s4, s5⟩, ⟨c0, c1, c2, c3, c4⟩, ⟨v0, ⟨v1, v2, v3, v4, v5, v6, v7, v8⟩, w1, w2, w3, w4, w5, w6, w7, w8⟩, ⟨p0, p1, p2⟩, ⟨r0, r1, r2, r3, r4, r5, r6⟩, ⟨d0, d1, d2, d3, d4, d5, d6⟩⟩ := h
  exact ⟨(hk _).trans s0, ⟨(hr _ _ hB).trans s1, (hr _ _ hB).trans s2, (hr _ _ hB).trans s3, (hr _ _ hB).trans s4, (hr _ _ hB).trans s5⟩, ⟨(hk _).trans c0, (hr _ _ (Nat.le_trans hB (Nat.le_add_right _ _))).trans c1, (hr _ _ (Nat.le_trans hB (Nat.le_add_right _ _))).trans c2, (hk _).trans c3, (hk _).trans c4⟩, ⟨(hk _).trans v0, ⟨(hr _ _ (Nat.le_trans hB (Nat.le_add_right _ _))).trans v1, (hr _ _ (Nat.le_trans hB (Nat.le_add_right _ _))).trans v2, (hr _ _ (Nat.le_trans hB (Nat.le_add_right _ _))).trans v3, (hr _ _ (Nat.le_trans hB (Nat.le_add_right _ _))).trans v4, (hr _ _ (Nat.le_trans hB (Nat.le_add_right _ _))).trans v5, (hr _ _ (Nat.le_trans hB (Nat.le_add_right _ _))).trans v6, (hr _ _ (Nat.le_trans hB (Nat.le_add_right _ _))).trans v7, (hr _ _ (Nat.le_trans hB (Nat.le_add_right _ _))).trans v8⟩, (hk _).trans w1, (hk _).trans w2, (hk _).trans w3, (hk _).trans w4, (hk _).trans w5, (hk _).trans w6, (hk _).trans w7, (hk _).trans w8⟩, ⟨(hk _).trans p0, (hr _ _ (Nat.le_trans hB (Nat.le_add_right _ _))).trans p1, (hk _).trans p2⟩, ⟨(hk _).trans r0, (hr _ _ (Nat.le_trans hB (Nat.le_add_right _ _))).trans r1, (hr _ _ (Nat.le_trans hB (Nat.le_add_right _ _))).trans r2, (hr _ _ (Nat.le_trans hB (Nat.le_add_right _ _))).trans r3, (hk _).trans r4, (hk _).trans r5, (hk _).trans r6⟩, ⟨(hk _).trans d0, (hr _ _ (Nat.le_trans hB (Nat.le_add_right _ _))).trans d1, (hr _ _ (Nat.le_trans hB (Nat.le_add_right _ _))).trans d2, (hr _ _ (Nat.le_trans hB (Nat.le_add_right _ _))).trans d3, (hk _).trans d4, (hk _).trans d5, (hk _).trans d6⟩⟩
theorem q_EB_c {L : Nat} {E E' : q_E} (h0 : E'.1 = E.1 ∧ E'.2.1 = E.2.1) (hk : ∀ a, q_kd E' a = q_kd E a) (hr : ∀ a j, 4 ≤ a → q_rf E' a j = q_rf E a j) (h7 : ∀ j, 6 ≤ j → q_rf E' 3 j = q_rf E 3 j) (h : q_EB L E) : q_EB L E' := by
  obtain ⟨⟨a1, a2, a3, a4⟩, ⟨b1, b2, b3, b4⟩, ⟨x1, x2, x3, x4, x5⟩, -, hs⟩ := h
  refine ⟨⟨by rw [h0.1]; exact a1, by rw [h0.2]; exact a2, by rw [hk]; exact a3, by rw [hk]; exact a4⟩, ⟨by rw [hk]; exact b1, by rw [h7 _ (by omega)]; exact b2, by rw [h7 _ (by omega)]; exact b3, by rw [hk]; exact b4⟩, ⟨by rw [hk]; exact x1, by rw [hr _ _ (by omega)]; exact x2, by rw [hr _ _ (by omega)]; exact x3, by rw [hk]; exact x4, by rw [hk]; exact x5⟩, trivial, fun b hb => q_StaB_c hk hr (by unfold q_okb at hb; omega) (hs b hb)⟩
/-- the trial becomes the state -/
def q_kt (E : q_E) : q_E := q_setR (q_setR (q_setR (q_setR (q_setR (q_setR E 3 5 (q_rf E 3 4)) 3 4 (q_rf E 3 3)) 3 3 (q_rf E 3 2)) 3 2 (q_rf E 3 0)) 3 0 (q_rf E 3 1)) 3 1 (q_rf E 3 5)
/-- the latest state is the state again -/
def q_ut (E : q_E) : q_E := q_setR (q_setR (q_setR (q_setR (q_setR E 3 0 (q_rf E 3 2)) 3 2 (q_rf E 3 3)) 3 3 (q_rf E 3 4)) 3 4 (q_rf E 3 5)) 3 5 (q_rf E 3 0)
theorem q_kt_r (E : q_E) : q_rf (q_kt E) 3 0 = q_rf E 3 1 ∧ q_rf (q_kt E) 3 1 = q_rf E 3 5 ∧ q_rf (q_kt E) 3 2 = q_rf E 3 0 ∧ q_rf (q_kt E) 3 3 = q_rf E 3 2 ∧ q_rf (q_kt E) 3 4 = q_rf E 3 3 ∧ q_rf (q_kt E) 3 5 = q_rf E 3 4 := ⟨rfl, rfl, rfl, rfl, rfl, rfl⟩
theorem q_ut_r (E : q_E) : q_rf (q_ut E) 3 0 = q_rf E 3 2 ∧ q_rf (q_ut E) 3 1 = q_rf E 3 1 ∧ q_rf (q_ut E) 3 2 = q_rf E 3 3 ∧ q_rf (q_ut E) 3 3 = q_rf E 3 4 ∧ q_rf (q_ut E) 3 4 = q_rf E 3 5 ∧ q_rf (q_ut E) 3 5 = q_rf E 3 0 := ⟨rfl, rfl, rfl, rfl, rfl, rfl⟩
theorem q_EB_kt {L : Nat} {E : q_E} (h : q_EB L E) : q_EB L (q_kt E) := by
  refine q_EB_c (E := E) ⟨rfl, rfl⟩ (fun _ => rfl) (fun a j ha => ?_) (fun j hj => ?_) h
  · unfold q_kt
    rw [q_rfm (by omega), q_rfm (by omega), q_rfm (by omega), q_rfm (by omega), q_rfm (by omega), q_rfm (by omega)]
  · unfold q_kt
    rw [q_rfn (by omega), q_rfn (by omega), q_rfn (by omega), q_rfn (by omega), q_rfn (by omega), q_rfn (by omega)]
theorem q_EB_ut {L : Nat} {E : q_E} (h : q_EB L E) : q_EB L (q_ut E) := by
  refine q_EB_c (E := E) ⟨rfl, rfl⟩ (fun _ => rfl) (fun a j ha => ?_) (fun j hj => ?_) h
  · unfold q_ut
    rw [q_rfm (by omega), q_rfm (by omega), q_rfm (by omega), q_rfm (by omega), q_rfm (by omega)]
  · unfold q_ut
    rw [q_rfn (by omega), q_rfn (by omega), q_rfn (by omega), q_rfn (by omega), q_rfn (by omega)]
theorem q_Slo_mk {E : q_E} {a0 a1 a2 a3 a4 a5 : Nat} (h0 : q_rf E 3 0 = a0) (h1 : q_rf E 3 1 = a1) (h2 : q_rf E 3 2 = a2) (h3 : q_rf E 3 3 = a3) (h4 : q_rf E 3 4 = a4) (h5 : q_rf E 3 5 = a5) (ok : q_okb a0 ∧ q_okb a1 ∧ q_okb a2 ∧ q_okb a3 ∧ q_okb a4 ∧ q_okb a5) (ne : (a0 ≠ a1 ∧ a0 ≠ a2 ∧ a0 ≠ a3 ∧ a0 ≠ a4 ∧ a0 ≠ a5) ∧ (a1 ≠ a2 ∧ a1 ≠ a3 ∧ a1 ≠ a4 ∧ a1 ≠ a5) ∧ (a2 ≠ a3 ∧ a2 ≠ a4 ∧ a2 ≠ a5) ∧ (a3 ≠ a4 ∧ a3 ≠ a5) ∧ a4 ≠ a5) : q_Slo E := by
  refine ⟨fun i hi => ?_, fun i j hi hj hij => ?_⟩
  · rcases (by omega : i = 0 ∨ i = 1 ∨ i = 2 ∨ i = 3 ∨ i = 4 ∨ i = 5) with rfl | rfl | rfl | rfl | rfl | rfl
    · rw [h0]; exact ok.1
    · rw [h1]; exact ok.2.1
    · rw [h2]; exact ok.2.2.1
    · rw [h3]; exact ok.2.2.2.1
    · rw [h4]; exact ok.2.2.2.2.1
    · rw [h5]; exact ok.2.2.2.2.2
  · rcases (by omega : i = 0 ∨ i = 1 ∨ i = 2 ∨ i = 3 ∨ i = 4 ∨ i = 5) with rfl | rfl | rfl | rfl | rfl | rfl <;> rcases (by omega : j = 0 ∨ j = 1 ∨ j = 2 ∨ j = 3 ∨ j = 4 ∨ j = 5) with rfl | rfl | rfl | rfl | rfl | rfl
    all_goals first
      | exact absurd rfl hij
      | (simp only [h0, h1, h2, h3, h4, h5]; omega)
theorem q_Slo_g {E : q_E} (h : q_Slo E) : (q_okb (q_rf E 3 0) ∧ q_okb (q_rf E 3 1) ∧ q_okb (q_rf E 3 2) ∧ q_okb (q_rf E 3 3) ∧ q_okb (q_rf E 3 4) ∧ q_okb (q_rf E 3 5)) ∧ ((q_rf E 3 0 ≠ q_rf E 3 1 ∧ q_rf E 3 0 ≠ q_rf E 3 2 ∧ q_rf E 3 0 ≠ q_rf E 3 3 ∧ q_rf E 3 0 ≠ q_rf E 3 4 ∧ q_rf E 3 0 ≠ q_rf E 3 5) ∧ (q_rf E 3 1 ≠ q_rf E 3 2 ∧ q_rf E 3 1 ≠ q_rf E 3 3 ∧ q_rf E 3 1 ≠ q_rf E 3 4 ∧ q_rf E 3 1 ≠ q_rf E 3 5) ∧ (q_rf E 3 2 ≠ q_rf E 3 3 ∧ q_rf E 3 2 ≠ q_rf E 3 4 ∧ q_rf E 3 2 ≠ q_rf E 3 5) ∧ (q_rf E 3 3 ≠ q_rf E 3 4 ∧ q_rf E 3 3 ≠ q_rf E 3 5) ∧ q_rf E 3 4 ≠ q_rf E 3 5) :=
  ⟨⟨h.1 0 (by omega), h.1 1 (by omega), h.1 2 (by omega), h.1 3 (by omega), h.1 4 (by omega), h.1 5 (by omega)⟩, ⟨h.2 0 1 (by omega) (by omega) (by omega), h.2 0 2 (by omega) (by omega) (by omega), h.2 0 3 (by omega) (by omega) (by omega), h.2 0 4 (by omega) (by omega) (by omega), h.2 0 5 (by omega) (by omega) (by omega)⟩, ⟨h.2 1 2 (by omega) (by omega) (by omega), h.2 1 3 (by omega) (by omega) (by omega), h.2 1 4 (by omega) (by omega) (by omega), h.2 1 5 (by omega) (by omega) (by omega)⟩, ⟨h.2 2 3 (by omega) (by omega) (by omega), h.2 2 4 (by omega) (by omega) (by omega), h.2 2 5 (by omega) (by omega) (by omega)⟩, ⟨h.2 3 4 (by omega) (by omega) (by omega), h.2 3 5 (by omega) (by omega) (by omega)⟩, h.2 4 5 (by omega) (by omega) (by omega)⟩
theorem q_Slo_kt {E : q_E} (h : q_Slo E) : q_Slo (q_kt E) := by
  obtain ⟨⟨o0, o1, o2, o3, o4, o5⟩, ⟨n1, n2, n3, n4, n5⟩, ⟨m2, m3, m4, m5⟩, ⟨l3, l4, l5⟩, ⟨k4, k5⟩, j5⟩ := q_Slo_g h
  obtain ⟨r0, r1, r2, r3, r4, r5⟩ := q_kt_r E
  exact q_Slo_mk r0 r1 r2 r3 r4 r5 ⟨o1, o5, o0, o2, o3, o4⟩ ⟨⟨m5, n1.symm, m2, m3, m4⟩, ⟨n5.symm, l5.symm, k5.symm, j5.symm⟩, ⟨n2, n3, n4⟩, ⟨l3, l4⟩, k4⟩
theorem q_Slo_ut {E : q_E} (h : q_Slo E) : q_Slo (q_ut E) := by
  obtain ⟨⟨o0, o1, o2, o3, o4, o5⟩, ⟨n1, n2, n3, n4, n5⟩, ⟨m2, m3, m4, m5⟩, ⟨l3, l4, l5⟩, ⟨k4, k5⟩, j5⟩ := q_Slo_g h
  obtain ⟨r0, r1, r2, r3, r4, r5⟩ := q_ut_r E
  exact q_Slo_mk r0 r1 r2 r3 r4 r5 ⟨o2, o1, o3, o4, o5, o0⟩ ⟨⟨m2.symm, l3, l4, l5, n2.symm⟩, ⟨m3, m4, m5, n1.symm⟩, ⟨k4, k5, n3.symm⟩, ⟨j5, n4.symm⟩, n5.symm⟩
section
variable {E : q_E} {g : q_G} {Q : Option Value → q_E → q_G → Prop} {L : Nat}
theorem q_Slo_z (h : q_Slo E) : (q_rf E 3 0 = 0) = False ∧ (q_rf E 3 1 = 0) = False ∧ (q_rf E 3 2 = 0) = False ∧ (q_rf E 3 3 = 0) = False ∧ (q_rf E 3 4 = 0) = False ∧ (q_rf E 3 5 = 0) = False := by
  obtain ⟨⟨o0, o1, o2, o3, o4, o5⟩, -⟩ := q_Slo_g h
  unfold q_okb at *
  exact ⟨eq_false (by omega), eq_false (by omega), eq_false (by omega), eq_false (by omega), eq_false (by omega), eq_false (by omega)⟩
theorem c_keep (hE : q_EB L E) (hS : q_Slo E) {st : Nat} (hs : st ≤ 4) (h6 : g 3 6 = nI st) : q_X 40 0 [.ref 3, .null] [] E g Q = Q none (q_kt E) (q_up g 3 6 (nI (min (st + 1) 4))) := by
  obtain ⟨z0, z1, z2, z3, z4, z5⟩ := q_Slo_z hS
  have k3 := hE.2.1.1
  have mn : (if 4 < st + 1 then nI 4 else nI (st + 1)) = nI (min (st + 1) 4) := by
    by_cases c : 4 < st + 1
    · rw [if_pos c, show min (st + 1) 4 = 4 by omega]
    · rw [if_neg c, show min (st + 1) 4 = st + 1 by omega]
  simp (disch := omega) only [x40_0, x40_1, x40_4, x40_5, x40_6, x40_7, x40_10, x40_13, x40_14, x40_15, x40_18, x40_21, x40_22, x40_23, x40_26, x40_29, x40_30, x40_31, x40_34, x40_37, x40_38, x40_39, x40_42, x40_45, x40_46, x40_47, x40_50, x40_51, x40_52, x40_55, x40_56, x40_57, x40_58, x40_61, x40_64, nI_add, q_tl, q_tn, true_and, and_true, not_false_eq_true, ne_eq, q_kds, q_rfn, q_rfe, k3, z0, z1, z2, z3, z4, z5, h6, s_min, q_lt, mn]
  rfl
theorem c_settleE (hE : q_EB L E) {r : Int32} (hr : q_Er r) : q_X 61 0 [.ref 3, .int r] [] E g Q = Q (some (.int r)) E g := by
  simp (disch := omega) only [x61_0, x61_1, x61_4, x61_5, x61_8, x61_9, nI_add, pk_mul, q_cl31, q_vin, q_le, q_lt, q_eqn, q_b_0, q_b_t, q_b_f, q_nz, q_nz1, q_nz0, q_tl, q_tn, true_and, and_true, not_true_eq_false, not_false_eq_true, ite_true, ite_false, ↓reduceIte, true_or, or_true, and_self, ne_eq, q_or1, q_or2, Nat.add_eq_zero_iff, and_false, false_and, List.length_cons, List.length_nil, reduceCtorEq, q_toI, Nat.zero_add, Nat.le_refl, q_c0, q_c1, q_c2, q_c4, q_c9, q_c12, q_c30, q_c99, q_c100, q_c126, q_c32, q_c359, q_c999, q_er_lt hr]
theorem c_settle (hE : q_EB L E) (hS : q_Slo E) {st : Nat} (hs : st ≤ 4) (h6 : g 3 6 = nI st) {r : Nat} (hr : r < 1000000) : q_X 61 0 [.ref 3, .int (nI r)] [] E g Q = Q (some (.int (nI r))) (q_kt E) (q_up g 3 6 (nI (min (st + 1) 4))) := by
  have k3 := hE.2.1.1
  simp (disch := omega) only [x61_0, x61_1, x61_4, x61_5, x61_8, x61_9, nI_add, pk_mul, q_cl31, q_vin, q_le, q_lt, q_eqn, q_b_0, q_b_t, q_b_f, q_nz, q_nz1, q_nz0, q_tl, q_tn, true_and, and_true, not_true_eq_false, not_false_eq_true, ite_true, ite_false, ↓reduceIte, true_or, or_true, and_self, ne_eq, q_or1, q_or2, Nat.add_eq_zero_iff, and_false, false_and, List.length_cons, List.length_nil, reduceCtorEq, q_toI, Nat.zero_add, Nat.le_refl, q_c0, q_c1, q_c2, q_c4, q_c9, q_c12, q_c30, q_c99, q_c100, q_c126, q_c32, q_c359, q_c999, k3, c_keep hE hS hs h6, Nat.not_lt_zero]
theorem c_undo8 (hE : q_EB L E) (hS : q_Slo E) {st : Nat} (hs : st ≤ 4) (h6 : g 3 6 = nI st) : q_X 19 0 [.ref 3, .null] [] E g Q = if st = 0 then Q (some (.int (-1000002))) E g else Q (some (.int (nI (st - 1)))) (q_ut E) (q_up g 3 6 (nI (st - 1))) := by
  obtain ⟨z0, z1, z2, z3, z4, z5⟩ := q_Slo_z hS
  have k3 := hE.2.1.1
  by_cases h0 : st = 0
  · rw [if_pos h0]
    simp (disch := omega) only [x19_0, x19_1, x19_4, x19_7, x19_9, x19_10, x19_11, x19_14, x19_15, x19_16, x19_17, x19_20, x19_23, x19_24, x19_25, x19_28, x19_31, x19_32, x19_33, x19_36, x19_39, x19_40, x19_41, x19_44, x19_47, x19_48, x19_49, x19_52, x19_53, x19_54, x19_57, x19_58, x19_59, x19_62, x19_63, x19_66, nI_add, pk_mul, q_cl31, q_vin, q_le, q_lt, q_eqn, q_b_0, q_b_t, q_b_f, q_nz, q_nz1, q_nz0, q_tl, q_tn, true_and, and_true, not_true_eq_false, not_false_eq_true, ite_true, ite_false, ↓reduceIte, true_or, or_true, and_self, ne_eq, q_or1, q_or2, Nat.add_eq_zero_iff, and_false, false_and, List.length_cons, List.length_nil, reduceCtorEq, q_toI, Nat.zero_add, Nat.le_refl, q_c0, q_c1, q_c2, q_c4, q_c9, q_c12, q_c30, q_c99, q_c100, q_c126, q_c32, q_c359, q_c999, k3, h6, h0]
  · rw [if_neg h0]
    simp (disch := omega) only [x19_0, x19_1, x19_4, x19_7, x19_9, x19_10, x19_11, x19_14, x19_15, x19_16, x19_17, x19_20, x19_23, x19_24, x19_25, x19_28, x19_31, x19_32, x19_33, x19_36, x19_39, x19_40, x19_41, x19_44, x19_47, x19_48, x19_49, x19_52, x19_53, x19_54, x19_57, x19_58, x19_59, x19_62, x19_63, x19_66, nI_add, pk_mul, q_cl31, q_vin, q_le, q_lt, q_eqn, q_b_0, q_b_t, q_b_f, q_nz, q_nz1, q_nz0, q_tl, q_tn, true_and, and_true, not_true_eq_false, not_false_eq_true, ite_true, ite_false, ↓reduceIte, true_or, or_true, and_self, ne_eq, q_or1, q_or2, Nat.add_eq_zero_iff, and_false, false_and, List.length_cons, List.length_nil, reduceCtorEq, q_toI, Nat.zero_add, Nat.le_refl, q_c0, q_c1, q_c2, q_c4, q_c9, q_c12, q_c30, q_c99, q_c100, q_c126, q_c32, q_c359, q_c999, q_kds, q_rfn, q_rfe, k3, z0, z1, z2, z3, z4, z5, h6, h0, pk_sub, q_ups]
    rfl
theorem c_fresh (hE : q_EB L E) (hS : q_Slo E) : ∃ g1 : q_G, (∀ Q : Option Value → q_E → q_G → Prop, q_X 70 0 [.ref 3] [] E g Q = Q (some (.ref (q_rf E 3 1))) E g1) ∧ q_Out (q_rf E 3 1) g g1 ∧ ∀ f, q_no f ≤ 8 → q_Vsta g (q_rf E 3 0) f → q_Vsta g1 (q_rf E 3 1) f := by
  obtain ⟨z0, z1, z2, z3, z4, z5⟩ := q_Slo_z hS
  obtain ⟨⟨o0, o1, -⟩, ⟨n1, -⟩, -⟩ := q_Slo_g hS
  have k3 := hE.2.1.1
  have s0 := hE.2.2.2.2 _ o0
  have s1 := hE.2.2.2.2 _ o1
  obtain ⟨g1, i1, i2, i3⟩ := k_copy (g := g) s1 s0 (by unfold q_okb at o0 o1; omega)
  refine ⟨g1, fun Q => ?_, i2, i3⟩
  have t1 := s1.1
  conv => lhs; simp (disch := omega) only [x70_0, x70_1, x70_4, x70_5, x70_8, x70_11, x70_12, x70_15, nI_add, pk_mul, q_cl31, q_vin, q_le, q_lt, q_eqn, q_b_0, q_b_t, q_b_f, q_nz, q_nz1, q_nz0, q_tl, q_tn, true_and, and_true, not_true_eq_false, not_false_eq_true, ite_true, ite_false, ↓reduceIte, true_or, or_true, and_self, ne_eq, q_or1, q_or2, Nat.add_eq_zero_iff, and_false, false_and, List.length_cons, List.length_nil, reduceCtorEq, q_toI, Nat.zero_add, Nat.le_refl, q_c0, q_c1, q_c2, q_c4, q_c9, q_c12, q_c30, q_c99, q_c100, q_c126, q_c32, q_c359, q_c999, k3, z0, z1, t1, i1]
/-- how a change of the class ends -/
def q_Cend (E : q_E) (g : q_G) (st : Nat) (p : Int32 × q_St) (E' : q_E) (g' : q_G) : Prop :=
  (q_Er p.1 ∧ E' = E ∧ q_Rf (q_rf E 3 1) g g') ∨ ((∃ r : Nat, r < 1000000 ∧ p.1 = nI r) ∧ E' = q_kt E ∧ ∃ g2, q_Rf (q_rf E 3 1) g g2 ∧ q_Vsta g2 (q_rf E 3 1) p.2 ∧ g' = q_up g2 3 6 (nI (min (st + 1) 4)))
theorem q_Cend_of (hE : q_EB L E) (hS : q_Slo E) {st : Nat} (hs : st ≤ 4) (h6 : g 3 6 = nI st) {f : q_St} {p : Int32 × q_St} (ok : q_Ok f p) {g2 : q_G} (hf : q_Rf (q_rf E 3 1) g g2) (hV : ¬ q_Er p.1 → q_Vsta g2 (q_rf E 3 1) p.2) : ∃ E' g', (∀ Q : Option Value → q_E → q_G → Prop, q_X 61 0 [.ref 3, .int p.1] [] E g2 Q = Q (some (.int p.1)) E' g') ∧ q_Cend E g st p E' g' := by
  obtain ⟨⟨o0, o1, -⟩, -⟩ := q_Slo_g hS
  have h62 : g2 3 6 = nI st := by rw [hf.1 3 (by unfold q_okb at o1; omega) (by decide) (by decide) (by decide)]; exact h6
  rcases ok with ⟨h1, h2⟩ | ⟨r, r1, r2, r3⟩
  · exact ⟨E, g2, fun Q => c_settleE hE h1, Or.inl ⟨h1, rfl, hf⟩⟩
  · refine ⟨q_kt E, q_up g2 3 6 (nI (min (st + 1) 4)), fun Q => ?_, Or.inr ⟨⟨r, r1, r2⟩, rfl, g2, hf, hV (by rw [r2]; exact q_er_n r1), rfl⟩⟩
    rw [r2]
    exact c_settle hE hS hs h62 r1
end
