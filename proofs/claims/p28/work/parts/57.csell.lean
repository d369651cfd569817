/-! sales -/
section
variable {E : q_E} {g : q_G} {f : q_St} {B : Nat}
theorem c_take (hS : q_StaB E B) (hV : q_Vsta g B f) (hI : q_In f) {v k : Nat} (hv : v < q_sz f) (hk : k < 10) (hc : nI 0 < f (107 + 3 * k + 1)) : ∃ g' : q_G, (∀ Q : Option Value → q_E → q_G → Prop, q_X 69 32 [.ref B, .int (nI v), .null, .null] [.int (nI k)] E g Q = Q (some (.int (nI (q_hd f k)))) E g') ∧ q_Out B g g' ∧ q_Vsta g' B (p_take f v k) := by
  obtain ⟨ks0, ⟨ks1, ks2, ks3, ks4, ks5⟩, hC, hN, hP, hR, hD⟩ := id hS
  obtain ⟨kn0, ⟨kn1, kn2, kn3, kn4, kn5, kn6, kn7, kn8⟩, km1, km2, km3, km4, km5, km6, km7, km8⟩ := id hN
  obtain ⟨kr0, kr1, kr2, kr3, kr5, kr6, kr7⟩ := id hR
  obtain ⟨kd0, kd1, kd2, kd3, kd5, kd6, kd7⟩ := id hD
  obtain ⟨⟨kw5, kw6, kw7, kw8⟩, vC, vN, vP, vR, vD⟩ := id hV
  obtain ⟨ko0, ko1, ko2, ko3, ko4, ko5, ko6, ko7, ko8⟩ := id vN
  obtain ⟨kx1, kx2, kx3⟩ := id vR
  have h12 := hI.1.1
  obtain ⟨h, h'⟩ := q_hd_lt hI hk hc
  unfold p_take
  generalize q_hd f k = u at *
  have ek : q_ir 0 9 (nI k) = true := by rw [q_ir_nI (by omega), decide_eq_true (show (0 : Int) ≤ k by omega), decide_eq_true (show (k : Int) ≤ 9 by omega)]; rfl
  by_cases e : u = v
  · subst e
    apply Exists.intro
    refine ⟨fun Q => ?_, ?_, ?_⟩
    · conv => lhs; simp (disch := omega) only [x69_0, x69_1, x69_4, x69_5, x69_8, x69_11, x69_13, x69_14, x69_15, x69_18, x69_21, x69_22, x69_23, x69_24, x69_25, x69_26, x69_27, x69_28, x69_29, x69_32, x69_33, x69_34, x69_37, x69_40, x69_41, x69_44, x69_47, x69_48, x69_49, x69_52, x69_53, x69_54, x69_55, x69_58, x69_59, x69_62, x69_65, x69_66, x69_69, x69_72, x69_73, x69_74, x69_75, x69_76, x69_77, x69_78, x69_80, x69_81, x69_82, x69_85, x69_88, x69_89, x69_90, x69_91, x69_92, x69_93, x69_94, x69_95, x69_98, x69_101, x69_102, x69_103, x69_104, x69_105, x69_106, x69_107, x69_108, x69_111, x69_114, x69_115, x69_116, x69_117, x69_118, x69_119, x69_120, x69_121, x69_122, x69_125, x69_126, x69_129, x69_132, x69_133, x69_134, x69_135, x69_136, x69_137, x69_138, x69_139, x69_140, x69_143, x69_144, x69_147, x69_150, x69_151, x69_152, x69_153, x69_156, x69_157, nI_add, pk_mul, q_cl31, q_vin, q_le, q_lt, q_eqn, q_b_0, q_b_t, q_b_f, q_nz, q_nz1, q_nz0, q_tl, q_tn, true_and, and_true, not_true_eq_false, not_false_eq_true, ite_true, ite_false, ↓reduceIte, true_or, or_true, and_self, ne_eq, q_or1, q_or2, Nat.add_eq_zero_iff, and_false, false_and, List.length_cons, List.length_nil, reduceCtorEq, q_toI, Nat.zero_add, Nat.le_refl, q_c0, q_c1, q_c2, q_c4, q_c9, q_c12, q_c30, q_c99, q_c100, q_c126, q_c32, q_c359, q_c999, ks0, kd0, kd1, kd2, kd3, kd5, kd6, kd7, hC.1, hP.1, ks1, ks2, ks3, ks4, ks5, kn0, kn1, kn2, kn3, kn4, kn5, kn6, kn7, kn8, km1, km2, km3, km4, km5, km6, km7, km8, kr0, kr1, kr2, kr3, kr5, kr6, kr7, kw5, kw6, kw7, kw8, ko0, ko1, ko2, ko3, ko4, ko5, ko6, ko7, ko8, kx1, kx2, kx3, s_isSlot, c_hasv hN vN hI, ek, h', q_isv_n, h, decide_true, Bool.true_eq_false, q_upn, q_upm]
      try exact rfl
    · exact q_Out_u (q_Out_u (q_Out_u (q_Out_u (q_Out_r B g) (by omega)) (by omega)) (by omega)) (by omega)
    · rw [if_pos rfl, q_a0, q_upd_id (i := 11 + 8 * u + 5) (by rw [q_updn (by omega), q_updn (by omega), q_updn (by omega)])]
      exact (q_W_up (o := 0) (hl := (Or.inl ⟨rfl, by decide⟩)) (j := 8) (i := 310) (q_W_up (o := 9) (hl := (Or.inr (Or.inr (Or.inr (Or.inr (Or.inr (Or.inl ⟨by decide, by decide, by omega, rfl⟩))))))) (j := u) (i := 11 + 8 * u + 4) (q_W_up (o := 18) (hl := (Or.inr (Or.inr (Or.inr (Or.inr (Or.inr (Or.inr (⟨by decide, by decide, by omega, rfl⟩)))))))) (j := k) (i := 107 + 3 * k + 2) (q_W_up (o := 17) (hl := (Or.inr (Or.inr (Or.inr (Or.inr (Or.inr (Or.inr (⟨by decide, by decide, by omega, rfl⟩)))))))) (j := k) (i := 107 + 3 * k + 1) (q_W_i hV hI))))).1
  · apply Exists.intro
    refine ⟨fun Q => ?_, ?_, ?_⟩
    · conv => lhs; simp (disch := omega) only [x69_0, x69_1, x69_4, x69_5, x69_8, x69_11, x69_13, x69_14, x69_15, x69_18, x69_21, x69_22, x69_23, x69_24, x69_25, x69_26, x69_27, x69_28, x69_29, x69_32, x69_33, x69_34, x69_37, x69_40, x69_41, x69_44, x69_47, x69_48, x69_49, x69_52, x69_53, x69_54, x69_55, x69_58, x69_59, x69_62, x69_65, x69_66, x69_69, x69_72, x69_73, x69_74, x69_75, x69_76, x69_77, x69_78, x69_80, x69_81, x69_82, x69_85, x69_88, x69_89, x69_90, x69_91, x69_92, x69_93, x69_94, x69_95, x69_98, x69_101, x69_102, x69_103, x69_104, x69_105, x69_106, x69_107, x69_108, x69_111, x69_114, x69_115, x69_116, x69_117, x69_118, x69_119, x69_120, x69_121, x69_122, x69_125, x69_126, x69_129, x69_132, x69_133, x69_134, x69_135, x69_136, x69_137, x69_138, x69_139, x69_140, x69_143, x69_144, x69_147, x69_150, x69_151, x69_152, x69_153, x69_156, x69_157, nI_add, pk_mul, q_cl31, q_vin, q_le, q_lt, q_eqn, q_b_0, q_b_t, q_b_f, q_nz, q_nz1, q_nz0, q_tl, q_tn, true_and, and_true, not_true_eq_false, not_false_eq_true, ite_true, ite_false, ↓reduceIte, true_or, or_true, and_self, ne_eq, q_or1, q_or2, Nat.add_eq_zero_iff, and_false, false_and, List.length_cons, List.length_nil, reduceCtorEq, q_toI, Nat.zero_add, Nat.le_refl, q_c0, q_c1, q_c2, q_c4, q_c9, q_c12, q_c30, q_c99, q_c100, q_c126, q_c32, q_c359, q_c999, ks0, kd0, kd1, kd2, kd3, kd5, kd6, kd7, hC.1, hP.1, ks1, ks2, ks3, ks4, ks5, kn0, kn1, kn2, kn3, kn4, kn5, kn6, kn7, kn8, km1, km2, km3, km4, km5, km6, km7, km8, kr0, kr1, kr2, kr3, kr5, kr6, kr7, kw5, kw6, kw7, kw8, ko0, ko1, ko2, ko3, ko4, ko5, ko6, ko7, ko8, kx1, kx2, kx3, s_isSlot, c_hasv hN vN hI, ek, h', q_isv_n, h, decide_true, Bool.true_eq_false, q_upn, q_upm, e]
      try exact rfl
    · exact q_Out_u (q_Out_u (q_Out_u (q_Out_u (q_Out_u (q_Out_r B g) (by omega)) (by omega)) (by omega)) (by omega)) (by omega)
    · rw [if_neg e]
      exact (q_W_up (o := 0) (hl := (Or.inl ⟨rfl, by decide⟩)) (j := 8) (i := 310) (q_W_up (o := 10) (hl := (Or.inr (Or.inr (Or.inr (Or.inr (Or.inr (Or.inl ⟨by decide, by decide, by omega, rfl⟩))))))) (j := u) (i := 11 + 8 * u + 5) (q_W_up (o := 9) (hl := (Or.inr (Or.inr (Or.inr (Or.inr (Or.inr (Or.inl ⟨by decide, by decide, by omega, rfl⟩))))))) (j := u) (i := 11 + 8 * u + 4) (q_W_up (o := 18) (hl := (Or.inr (Or.inr (Or.inr (Or.inr (Or.inr (Or.inr (⟨by decide, by decide, by omega, rfl⟩)))))))) (j := k) (i := 107 + 3 * k + 2) (q_W_up (o := 17) (hl := (Or.inr (Or.inr (Or.inr (Or.inr (Or.inr (Or.inr (⟨by decide, by decide, by omega, rfl⟩)))))))) (j := k) (i := 107 + 3 * k + 1) (q_W_i hV hI)))))).1
theorem c_lost (hS : q_StaB E B) (hV : q_Vsta g B f) (hI : q_In f) {v : Nat} (hv : v < q_sz f) {Q : Option Value → q_E → q_G → Prop} : q_X 69 32 [.ref B, .int (nI v), .null, .null] [.int (-1)] E g Q = Q (some (.int (nI 100))) E (q_up g (B + 11) v (f (11 + 8 * v + 6) + nI 1)) := by
  obtain ⟨ks0, ⟨ks1, ks2, ks3, ks4, ks5⟩, hC, hN, hP, hR, hD⟩ := id hS
  obtain ⟨kn0, ⟨kn1, kn2, kn3, kn4, kn5, kn6, kn7, kn8⟩, km1, km2, km3, km4, km5, km6, km7, km8⟩ := id hN
  obtain ⟨kr0, kr1, kr2, kr3, kr5, kr6, kr7⟩ := id hR
  obtain ⟨kd0, kd1, kd2, kd3, kd5, kd6, kd7⟩ := id hD
  obtain ⟨⟨kw5, kw6, kw7, kw8⟩, vC, vN, vP, vR, vD⟩ := id hV
  obtain ⟨ko0, ko1, ko2, ko3, ko4, ko5, ko6, ko7, ko8⟩ := id vN
  obtain ⟨kx1, kx2, kx3⟩ := id vR
  have h12 := hI.1.1
  simp (disch := omega) only [x69_0, x69_1, x69_4, x69_5, x69_8, x69_11, x69_13, x69_14, x69_15, x69_18, x69_21, x69_22, x69_23, x69_24, x69_25, x69_26, x69_27, x69_28, x69_29, x69_32, x69_33, x69_34, x69_37, x69_40, x69_41, x69_44, x69_47, x69_48, x69_49, x69_52, x69_53, x69_54, x69_55, x69_58, x69_59, x69_62, x69_65, x69_66, x69_69, x69_72, x69_73, x69_74, x69_75, x69_76, x69_77, x69_78, x69_80, x69_81, x69_82, x69_85, x69_88, x69_89, x69_90, x69_91, x69_92, x69_93, x69_94, x69_95, x69_98, x69_101, x69_102, x69_103, x69_104, x69_105, x69_106, x69_107, x69_108, x69_111, x69_114, x69_115, x69_116, x69_117, x69_118, x69_119, x69_120, x69_121, x69_122, x69_125, x69_126, x69_129, x69_132, x69_133, x69_134, x69_135, x69_136, x69_137, x69_138, x69_139, x69_140, x69_143, x69_144, x69_147, x69_150, x69_151, x69_152, x69_153, x69_156, x69_157, nI_add, pk_mul, q_cl31, q_vin, q_le, q_lt, q_eqn, q_b_0, q_b_t, q_b_f, q_nz, q_nz1, q_nz0, q_tl, q_tn, true_and, and_true, not_true_eq_false, not_false_eq_true, ite_true, ite_false, ↓reduceIte, true_or, or_true, and_self, ne_eq, q_or1, q_or2, Nat.add_eq_zero_iff, and_false, false_and, List.length_cons, List.length_nil, reduceCtorEq, q_toI, Nat.zero_add, Nat.le_refl, q_c0, q_c1, q_c2, q_c4, q_c9, q_c12, q_c30, q_c99, q_c100, q_c126, q_c32, q_c359, q_c999, ks0, kd0, kd1, kd2, kd3, kd5, kd6, kd7, hC.1, hP.1, ks1, ks2, ks3, ks4, ks5, kn0, kn1, kn2, kn3, kn4, kn5, kn6, kn7, kn8, km1, km2, km3, km4, km5, km6, km7, km8, kr0, kr1, kr2, kr3, kr5, kr6, kr7, kw5, kw6, kw7, kw8, ko0, ko1, ko2, ko3, ko4, ko5, ko6, ko7, ko8, kx1, kx2, kx3, s_isSlot, c_hasv hN vN hI, q_isv_m, Bool.true_eq_false, show q_ir 0 9 (-1) = false from by decide]
/-- one who wants v -/
theorem c_sell (hB : q_BesB E g) (hB2 : 2 < B) (hS : q_StaB E B) (hV : q_Vsta g B f) (hI : q_In f) {v : Nat} (hv : v < q_sz f) : ∃ g' : q_G, (∀ Q : Option Value → q_E → q_G → Prop, q_X 69 0 [.ref B, .int (nI v), .null, .null] [] E g Q = Q (some (.int (if (p_sells f v).1 < nI 0 then nI 100 else (p_sells f v).1))) E g') ∧ q_Out B g g' ∧ q_Vsta g' B (p_sells f v).2 := by
  obtain ⟨ks0, ⟨ks1, ks2, ks3, ks4, ks5⟩, hC, hN, hP, hR, hD⟩ := id hS
  obtain ⟨kn0, ⟨kn1, kn2, kn3, kn4, kn5, kn6, kn7, kn8⟩, km1, km2, km3, km4, km5, km6, km7, km8⟩ := id hN
  obtain ⟨kr0, kr1, kr2, kr3, kr5, kr6, kr7⟩ := id hR
  obtain ⟨kd0, kd1, kd2, kd3, kd5, kd6, kd7⟩ := id hD
  obtain ⟨⟨kw5, kw6, kw7, kw8⟩, vC, vN, vP, vR, vD⟩ := id hV
  obtain ⟨ko0, ko1, ko2, ko3, ko4, ko5, ko6, ko7, ko8⟩ := id vN
  obtain ⟨kx1, kx2, kx3⟩ := id vR
  have h12 := hI.1.1
  have hW := q_W_up (o := 12) (hl := (Or.inr (Or.inr (Or.inr (Or.inr (Or.inr (Or.inl ⟨by decide, by decide, by omega, rfl⟩))))))) (j := v) (i := 11 + 8 * v + 7) (x := f (11 + 8 * v + 7) + nI 1) (q_W_i hV hI)
  have hI1 := q_In_want hI hv (w := 7) (by omega) (by omega) (by omega) (f (11 + 8 * v + 7) + nI 1)
  have hO := q_Out_u (j := v) (x := f (11 + 8 * v + 7) + nI 1) (q_Out_r B g) (a := B + 12) (by omega)
  have hB1 := q_Bes_o hB hO hB2
  have hz : q_sz (upd f (11 + 8 * v + 7) (f (11 + 8 * v + 7) + nI 1)) = q_sz f := q_sz_u (by omega)
  have hv1 : v < q_sz (upd f (11 + 8 * v + 7) (f (11 + 8 * v + 7) + nI 1)) := by rw [hz]; exact hv
  have sl := fun Q => c_slot (Q := Q) hB1 hS hW.1 hI1 hv1
  have f6 : upd f (11 + 8 * v + 7) (f (11 + 8 * v + 7) + nI 1) (11 + 8 * v + 6) = f (11 + 8 * v + 6) := q_updn (by omega)
  have lo := fun Q => c_lost (Q := Q) hS hW.1 hI1 hv1
  have st : ∀ Q, q_X 69 0 [.ref B, .int (nI v), .null, .null] [] E g Q = q_X 69 32 [.ref B, .int (nI v), .null, .null] [.int (q_sp (upd f (11 + 8 * v + 7) (f (11 + 8 * v + 7) + nI 1)) v)] E (q_up g (B + 12) v (f (11 + 8 * v + 7) + nI 1)) Q := by
    intro Q
    simp (disch := omega) only [x69_0, x69_1, x69_4, x69_5, x69_8, x69_11, x69_13, x69_14, x69_15, x69_18, x69_21, x69_22, x69_23, x69_24, x69_25, x69_26, x69_27, x69_28, x69_29, nI_add, pk_mul, q_cl31, q_vin, q_le, q_lt, q_eqn, q_b_0, q_b_t, q_b_f, q_nz, q_nz1, q_nz0, q_tl, q_tn, true_and, and_true, not_true_eq_false, not_false_eq_true, ite_true, ite_false, ↓reduceIte, true_or, or_true, and_self, ne_eq, q_or1, q_or2, Nat.add_eq_zero_iff, and_false, false_and, List.length_cons, List.length_nil, reduceCtorEq, q_toI, Nat.zero_add, Nat.le_refl, q_c0, q_c1, q_c2, q_c4, q_c9, q_c12, q_c30, q_c99, q_c100, q_c126, q_c32, q_c359, q_c999, ks0, kd0, kd1, kd2, kd3, kd5, kd6, kd7, hC.1, hP.1, ks1, ks2, ks3, ks4, ks5, kn0, kn1, kn2, kn3, kn4, kn5, kn6, kn7, kn8, km1, km2, km3, km4, km5, km6, km7, km8, kr0, kr1, kr2, kr3, kr5, kr6, kr7, kw5, kw6, kw7, kw8, ko0, ko1, ko2, ko3, ko4, ko5, ko6, ko7, ko8, kx1, kx2, kx3, c_hasv hN vN hI, q_isv_n, hv, decide_true, Bool.true_eq_false, sl]
  rcases q_sp_c (upd f (11 + 8 * v + 7) (f (11 + 8 * v + 7) + nI 1)) v with h | ⟨k, hk, h, hc⟩
  · have ps : p_sells f v = (-1, upd (upd f (11 + 8 * v + 7) (f (11 + 8 * v + 7) + nI 1)) (11 + 8 * v + 6) (f (11 + 8 * v + 6) + nI 1)) := by
      unfold p_sells
      rw [h]
      exact if_pos (by decide)
    rw [h] at st
    rw [ps]
    dsimp only
    rw [if_pos (by decide)]
    refine ⟨_, fun Q => (st Q).trans (lo Q), q_Out_u hO (by omega), ?_⟩
    rw [← f6]
    exact (q_W_up (o := 11) (hl := (Or.inr (Or.inr (Or.inr (Or.inr (Or.inr (Or.inl ⟨by decide, by decide, by omega, rfl⟩))))))) (j := v) (i := 11 + 8 * v + 6) hW).1
  · have hd := q_hd_lt hI1 hk hc
    have hq : q_hd (upd f (11 + 8 * v + 7) (f (11 + 8 * v + 7) + nI 1)) k = q_hd f k := q_hd_u (by omega)
    have ps : p_sells f v = (nI (q_hd f k), p_take (upd f (11 + 8 * v + 7) (f (11 + 8 * v + 7) + nI 1)) v k) := by
      unfold p_sells
      rw [h, nI_clamp (by omega), if_neg (show ¬ nI k < nI 0 by rw [q_lt (by omega) (by omega)]; omega)]
    rw [h] at st
    obtain ⟨g', i1, i2, i3⟩ := c_take hS hW.1 hI1 hv1 hk hc
    rw [hq] at i1
    rw [hq, hz] at hd
    generalize upd f (11 + 8 * v + 7) (f (11 + 8 * v + 7) + nI 1) = f1 at *
    rw [ps]
    dsimp only
    rw [if_neg (by rw [q_lt (by omega) (by omega)]; omega)]
    exact ⟨g', fun Q => (st Q).trans (i1 Q), q_Out_t hO i2, i3⟩
theorem k_sell (hB : q_BesB E g) (hB2 : 2 < B) (hS : q_StaB E B) (hV : q_Vsta g B f) (hI : q_In f) (x : Int32) : q_Cop E g B 69 [.ref B, .int x, .null, .null] (p_sell f x) := by
  obtain ⟨ks0, ⟨ks1, ks2, ks3, ks4, ks5⟩, hC, hN, hP, hR, hD⟩ := id hS
  obtain ⟨kn0, ⟨kn1, kn2, kn3, kn4, kn5, kn6, kn7, kn8⟩, km1, km2, km3, km4, km5, km6, km7, km8⟩ := id hN
  obtain ⟨kr0, kr1, kr2, kr3, kr5, kr6, kr7⟩ := id hR
  obtain ⟨kd0, kd1, kd2, kd3, kd5, kd6, kd7⟩ := id hD
  obtain ⟨⟨kw5, kw6, kw7, kw8⟩, vC, vN, vP, vR, vD⟩ := id hV
  obtain ⟨ko0, ko1, ko2, ko3, ko4, ko5, ko6, ko7, ko8⟩ := id vN
  obtain ⟨kx1, kx2, kx3⟩ := id vR
  unfold p_sell
  by_cases e1 : q_isv f x = true
  · rw [if_pos e1]
    obtain ⟨v, v1, rfl, v3⟩ := q_isv_lo hI e1
    rw [v3]
    obtain ⟨g', i1, i2, i3⟩ := c_sell hB hB2 hS hV hI v1
    generalize p_sells f v = s at *
    obtain ⟨s1, s2⟩ := s
    exact ⟨g', i1, i2, fun _ => i3⟩
  · rw [if_neg e1]
    refine q_Cop_er (Or.inl rfl) fun Q => ?_
    have e1' : q_isv f x = false := by simpa using e1
    simp (disch := omega) only [x69_0, x69_1, x69_4, x69_5, x69_8, x69_11, x69_13, x69_14, x69_15, x69_18, x69_21, x69_22, x69_23, x69_24, x69_25, x69_26, x69_27, x69_28, x69_29, x69_32, x69_33, x69_34, x69_37, x69_40, x69_41, x69_44, x69_47, x69_48, x69_49, x69_52, x69_53, x69_54, x69_55, x69_58, x69_59, x69_62, x69_65, x69_66, x69_69, x69_72, x69_73, x69_74, x69_75, x69_76, x69_77, x69_78, x69_80, x69_81, x69_82, x69_85, x69_88, x69_89, x69_90, x69_91, x69_92, x69_93, x69_94, x69_95, x69_98, x69_101, x69_102, x69_103, x69_104, x69_105, x69_106, x69_107, x69_108, x69_111, x69_114, x69_115, x69_116, x69_117, x69_118, x69_119, x69_120, x69_121, x69_122, x69_125, x69_126, x69_129, x69_132, x69_133, x69_134, x69_135, x69_136, x69_137, x69_138, x69_139, x69_140, x69_143, x69_144, x69_147, x69_150, x69_151, x69_152, x69_153, x69_156, x69_157, nI_add, pk_mul, q_cl31, q_vin, q_le, q_lt, q_eqn, q_b_0, q_b_t, q_b_f, q_nz, q_nz1, q_nz0, q_tl, q_tn, true_and, and_true, not_true_eq_false, not_false_eq_true, ite_true, ite_false, ↓reduceIte, true_or, or_true, and_self, ne_eq, q_or1, q_or2, Nat.add_eq_zero_iff, and_false, false_and, List.length_cons, List.length_nil, reduceCtorEq, q_toI, Nat.zero_add, Nat.le_refl, q_c0, q_c1, q_c2, q_c4, q_c9, q_c12, q_c30, q_c99, q_c100, q_c126, q_c32, q_c359, q_c999, ks0, kd0, kd1, kd2, kd3, kd5, kd6, kd7, hC.1, hP.1, ks1, ks2, ks3, ks4, ks5, kn0, kn1, kn2, kn3, kn4, kn5, kn6, kn7, kn8, km1, km2, km3, km4, km5, km6, km7, km8, kr0, kr1, kr2, kr3, kr5, kr6, kr7, kw5, kw6, kw7, kw8, ko0, ko1, ko2, ko3, ko4, ko5, ko6, ko7, ko8, kx1, kx2, kx3, c_hasv hN vN hI, e1']
theorem c_addOne {p : Nat} (hP : q_PaiB E p) {a b : Nat} (ha : a < 12) (hb : b < 12) {x : Int32} (h1 : g (p + 1) (a * 12 + b) = x) (h2 : g (p + 1) (b * 12 + a) = x) : ∃ g' : q_G, (∀ Q : Option Value → q_E → q_G → Prop, q_X 9 0 [.ref p, .int (nI a), .int (nI b)] [] E g Q = Q none E g') ∧ (∀ c, ¬ c = p + 1 → g' c = g c) ∧ ∀ j, g' (p + 1) j = if j = a * 12 + b ∨ j = b * 12 + a then x + nI 1 else g (p + 1) j := by
  obtain ⟨p1, p2, p3⟩ := hP
  by_cases e : a = b
  · subst e
    refine ⟨q_up g (p + 1) (a * 12 + a) (x + nI 1), fun Q => ?_, fun c hc => q_upf hc, fun j => ?_⟩
    · conv => lhs; simp (disch := omega) only [x9_0, x9_1, x9_4, x9_5, x9_7, x9_8, x9_9, x9_10, x9_11, x9_12, x9_13, x9_14, x9_15, x9_16, x9_17, x9_20, x9_21, x9_24, x9_25, x9_27, x9_28, x9_29, x9_30, x9_31, x9_32, x9_33, x9_34, x9_35, nI_add, pk_mul, q_cl31, q_vin, q_le, q_lt, q_eqn, q_b_0, q_b_t, q_b_f, q_nz, q_nz1, q_nz0, q_tl, q_tn, true_and, and_true, not_true_eq_false, not_false_eq_true, ite_true, ite_false, ↓reduceIte, true_or, or_true, and_self, ne_eq, q_or1, q_or2, Nat.add_eq_zero_iff, and_false, false_and, List.length_cons, List.length_nil, reduceCtorEq, q_toI, Nat.zero_add, Nat.le_refl, q_c0, q_c1, q_c2, q_c4, q_c9, q_c12, q_c30, q_c99, q_c100, q_c126, q_c32, q_c359, q_c999, p1, p2, p3, h1]
    · rw [q_ups]
      by_cases c : j = a * 12 + a <;> simp [c]
  · refine ⟨q_up (q_up g (p + 1) (a * 12 + b) (x + nI 1)) (p + 1) (b * 12 + a) (x + nI 1), fun Q => ?_, fun c hc => by rw [q_upf hc, q_upf hc], fun j => ?_⟩
    · conv => lhs; simp (disch := omega) only [x9_0, x9_1, x9_4, x9_5, x9_7, x9_8, x9_9, x9_10, x9_11, x9_12, x9_13, x9_14, x9_15, x9_16, x9_17, x9_20, x9_21, x9_24, x9_25, x9_27, x9_28, x9_29, x9_30, x9_31, x9_32, x9_33, x9_34, x9_35, nI_add, pk_mul, q_cl31, q_vin, q_le, q_lt, q_eqn, q_b_0, q_b_t, q_b_f, q_nz, q_nz1, q_nz0, q_tl, q_tn, true_and, and_true, not_true_eq_false, not_false_eq_true, ite_true, ite_false, ↓reduceIte, true_or, or_true, and_self, ne_eq, q_or1, q_or2, Nat.add_eq_zero_iff, and_false, false_and, List.length_cons, List.length_nil, reduceCtorEq, q_toI, Nat.zero_add, Nat.le_refl, q_c0, q_c1, q_c2, q_c4, q_c9, q_c12, q_c30, q_c99, q_c100, q_c126, q_c32, q_c359, q_c999, p1, p2, p3, h1, h2, e, q_upm]
    · rw [q_ups, q_ups]
      by_cases c : j = a * 12 + b <;> by_cases d : j = b * 12 + a <;> simp [c, d]
theorem q_Out_p {g' : q_G} (h : ∀ c, ¬ c = B + 13 + 1 → g' c = g c) : q_Out B g g' := fun b hb => h b (by omega)
theorem q_isv_100 (hI : q_In f) : q_isv f (nI 100) = false := by
  have h12 := hI.1.1
  rw [q_isv_n (by omega), decide_eq_false (by omega)]
theorem k_two (hB : q_BesB E g) (hB2 : 2 < B) (hS : q_StaB E B) (hV : q_Vsta g B f) (hI : q_In f) (x y : Int32) : q_Cop E g B 75 [.ref B, .int x, .int y, .null, .null] (p_two f x y) := by
  obtain ⟨ks0, ⟨ks1, ks2, ks3, ks4, ks5⟩, hC, hN, hP, hR, hD⟩ := id hS
  obtain ⟨kn0, ⟨kn1, kn2, kn3, kn4, kn5, kn6, kn7, kn8⟩, km1, km2, km3, km4, km5, km6, km7, km8⟩ := id hN
  obtain ⟨kr0, kr1, kr2, kr3, kr5, kr6, kr7⟩ := id hR
  obtain ⟨kd0, kd1, kd2, kd3, kd5, kd6, kd7⟩ := id hD
  obtain ⟨⟨kw5, kw6, kw7, kw8⟩, vC, vN, vP, vR, vD⟩ := id hV
  obtain ⟨ko0, ko1, ko2, ko3, ko4, ko5, ko6, ko7, ko8⟩ := id vN
  obtain ⟨kx1, kx2, kx3⟩ := id vR
  have h12 := hI.1.1
  unfold p_two
  by_cases hc : (q_isv f x && q_isv f y) = true
  · rw [if_pos hc]
    obtain ⟨e1, e2⟩ : q_isv f x = true ∧ q_isv f y = true := by simpa only [Bool.and_eq_true] using hc
    obtain ⟨v, v1, rfl, v3⟩ := q_isv_lo hI e1
    obtain ⟨w, w1, rfl, w3⟩ := q_isv_lo hI e2
    rw [v3, w3]
    obtain ⟨g1, i1, i2, i3⟩ := c_sell hB hB2 hS hV hI v1
    obtain ⟨I1, z1, r1⟩ := p_sells_In hI v1
    have hB1 := q_Bes_o hB i2 hB2
    obtain ⟨g2, j1, j2, j3⟩ := c_sell hB1 hB2 hS i3 I1 (v := w) (by omega)
    obtain ⟨I2, z2, r2⟩ := p_sells_In I1 (v := w) (by omega)
    have hO := q_Out_t i2 j2
    generalize p_sells f v = s1 at *
    obtain ⟨a1, f1⟩ := s1
    dsimp only at *
    generalize p_sells f1 w = s2 at *
    obtain ⟨a2, f2⟩ := s2
    dsimp only at *
    have hh := fun Q x => c_hasv (Q := Q) hN j3.2.2.1 I2 x
    have m1 : ((-1 : Int32) < nI 0) = True := by decide
    rcases r1 with rfl | ⟨u, u1, rfl⟩
    · rcases r2 with rfl | ⟨t, t1, rfl⟩
      · refine ⟨g2, fun Q => ?_, hO, fun _ => ?_⟩
        · conv => lhs; simp (disch := omega) only [x75_0, x75_1, x75_4, x75_5, x75_8, x75_11, x75_12, x75_15, x75_16, x75_19, x75_22, x75_24, x75_25, x75_26, x75_27, x75_30, x75_31, x75_32, x75_33, x75_36, x75_38, x75_39, x75_42, x75_43, x75_46, x75_49, x75_50, x75_53, x75_55, x75_58, x75_61, x75_62, x75_65, x75_66, x75_68, x75_71, x75_72, x75_73, x75_74, x75_77, x75_78, x75_81, x75_84, x75_85, x75_88, x75_90, x75_93, x75_96, x75_97, x75_100, x75_101, nI_add, pk_mul, q_cl31, q_vin, q_le, q_lt, q_eqn, q_b_0, q_b_t, q_b_f, q_nz, q_nz1, q_nz0, q_tl, q_tn, true_and, and_true, not_true_eq_false, not_false_eq_true, ite_true, ite_false, ↓reduceIte, true_or, or_true, and_self, ne_eq, q_or1, q_or2, Nat.add_eq_zero_iff, and_false, false_and, List.length_cons, List.length_nil, reduceCtorEq, q_toI, Nat.zero_add, Nat.le_refl, q_c0, q_c1, q_c2, q_c4, q_c9, q_c12, q_c30, q_c99, q_c100, q_c126, q_c32, q_c359, q_c999, ks0, kd0, kd1, kd2, kd3, kd5, kd6, kd7, hC.1, hP.1, ks1, ks2, ks3, ks4, ks5, kn0, kn1, kn2, kn3, kn4, kn5, kn6, kn7, kn8, km1, km2, km3, km4, km5, km6, km7, km8, kr0, kr1, kr2, kr3, kr5, kr6, kr7, kw5, kw6, kw7, kw8, ko0, ko1, ko2, ko3, ko4, ko5, ko6, ko7, ko8, kx1, kx2, kx3, c_hasv hN vN hI, e1, e2, i1, j1, m1, hh, q_isv_100 I2]
          simp only [m1, ↓reduceIte, nI_add, pk_mul, q_cl31, q_vin, q_le, q_lt, q_eqn, q_b_0, q_b_t, q_b_f, q_nz, q_nz1, q_nz0, q_tl, q_tn, true_and, and_true, not_true_eq_false, not_false_eq_true, ite_true, ite_false, ↓reduceIte, true_or, or_true, and_self, ne_eq, q_or1, q_or2, Nat.add_eq_zero_iff, and_false, false_and, List.length_cons, List.length_nil, reduceCtorEq, q_toI, Nat.zero_add, Nat.le_refl, q_c0, q_c1, q_c2, q_c4, q_c9, q_c12, q_c30, q_c99, q_c100, q_c126, q_c32, q_c359, q_c999]
        · rw [if_pos (Or.inl (by decide))]; exact j3
      · have tz : t < q_sz f2 := by omega
        have t0 : ¬ nI t < nI 0 := by rw [q_lt (by omega) (by omega)]; omega
        refine ⟨g2, fun Q => ?_, hO, fun _ => ?_⟩
        · conv => lhs; simp (disch := omega) only [x75_0, x75_1, x75_4, x75_5, x75_8, x75_11, x75_12, x75_15, x75_16, x75_19, x75_22, x75_24, x75_25, x75_26, x75_27, x75_30, x75_31, x75_32, x75_33, x75_36, x75_38, x75_39, x75_42, x75_43, x75_46, x75_49, x75_50, x75_53, x75_55, x75_58, x75_61, x75_62, x75_65, x75_66, x75_68, x75_71, x75_72, x75_73, x75_74, x75_77, x75_78, x75_81, x75_84, x75_85, x75_88, x75_90, x75_93, x75_96, x75_97, x75_100, x75_101, nI_add, pk_mul, q_cl31, q_vin, q_le, q_lt, q_eqn, q_b_0, q_b_t, q_b_f, q_nz, q_nz1, q_nz0, q_tl, q_tn, true_and, and_true, not_true_eq_false, not_false_eq_true, ite_true, ite_false, ↓reduceIte, true_or, or_true, and_self, ne_eq, q_or1, q_or2, Nat.add_eq_zero_iff, and_false, false_and, List.length_cons, List.length_nil, reduceCtorEq, q_toI, Nat.zero_add, Nat.le_refl, q_c0, q_c1, q_c2, q_c4, q_c9, q_c12, q_c30, q_c99, q_c100, q_c126, q_c32, q_c359, q_c999, ks0, kd0, kd1, kd2, kd3, kd5, kd6, kd7, hC.1, hP.1, ks1, ks2, ks3, ks4, ks5, kn0, kn1, kn2, kn3, kn4, kn5, kn6, kn7, kn8, km1, km2, km3, km4, km5, km6, km7, km8, kr0, kr1, kr2, kr3, kr5, kr6, kr7, kw5, kw6, kw7, kw8, ko0, ko1, ko2, ko3, ko4, ko5, ko6, ko7, ko8, kx1, kx2, kx3, c_hasv hN vN hI, e1, e2, i1, j1, m1, t0, hh, q_isv_100 I2, q_isv_n, tz, decide_true, Nat.not_lt_zero]
          simp only [m1, t0, ↓reduceIte, nI_add, pk_mul, q_cl31, q_vin, q_le, q_lt, q_eqn, q_b_0, q_b_t, q_b_f, q_nz, q_nz1, q_nz0, q_tl, q_tn, true_and, and_true, not_true_eq_false, not_false_eq_true, ite_true, ite_false, ↓reduceIte, true_or, or_true, and_self, ne_eq, q_or1, q_or2, Nat.add_eq_zero_iff, and_false, false_and, List.length_cons, List.length_nil, reduceCtorEq, q_toI, Nat.zero_add, Nat.le_refl, q_c0, q_c1, q_c2, q_c4, q_c9, q_c12, q_c30, q_c99, q_c100, q_c126, q_c32, q_c359, q_c999]
        · rw [if_pos (Or.inl (by decide))]; exact j3
    · have uz : u < q_sz f2 := by omega
      have u0 : ¬ nI u < nI 0 := by rw [q_lt (by omega) (by omega)]; omega
      rcases r2 with rfl | ⟨t, t1, rfl⟩
      · refine ⟨g2, fun Q => ?_, hO, fun _ => ?_⟩
        · conv => lhs; simp (disch := omega) only [x75_0, x75_1, x75_4, x75_5, x75_8, x75_11, x75_12, x75_15, x75_16, x75_19, x75_22, x75_24, x75_25, x75_26, x75_27, x75_30, x75_31, x75_32, x75_33, x75_36, x75_38, x75_39, x75_42, x75_43, x75_46, x75_49, x75_50, x75_53, x75_55, x75_58, x75_61, x75_62, x75_65, x75_66, x75_68, x75_71, x75_72, x75_73, x75_74, x75_77, x75_78, x75_81, x75_84, x75_85, x75_88, x75_90, x75_93, x75_96, x75_97, x75_100, x75_101, nI_add, pk_mul, q_cl31, q_vin, q_le, q_lt, q_eqn, q_b_0, q_b_t, q_b_f, q_nz, q_nz1, q_nz0, q_tl, q_tn, true_and, and_true, not_true_eq_false, not_false_eq_true, ite_true, ite_false, ↓reduceIte, true_or, or_true, and_self, ne_eq, q_or1, q_or2, Nat.add_eq_zero_iff, and_false, false_and, List.length_cons, List.length_nil, reduceCtorEq, q_toI, Nat.zero_add, Nat.le_refl, q_c0, q_c1, q_c2, q_c4, q_c9, q_c12, q_c30, q_c99, q_c100, q_c126, q_c32, q_c359, q_c999, ks0, kd0, kd1, kd2, kd3, kd5, kd6, kd7, hC.1, hP.1, ks1, ks2, ks3, ks4, ks5, kn0, kn1, kn2, kn3, kn4, kn5, kn6, kn7, kn8, km1, km2, km3, km4, km5, km6, km7, km8, kr0, kr1, kr2, kr3, kr5, kr6, kr7, kw5, kw6, kw7, kw8, ko0, ko1, ko2, ko3, ko4, ko5, ko6, ko7, ko8, kx1, kx2, kx3, c_hasv hN vN hI, e1, e2, i1, j1, m1, u0, hh, q_isv_100 I2, q_isv_n, uz, decide_true, Nat.not_lt_zero]
          simp only [m1, u0, ↓reduceIte, nI_add, pk_mul, q_cl31, q_vin, q_le, q_lt, q_eqn, q_b_0, q_b_t, q_b_f, q_nz, q_nz1, q_nz0, q_tl, q_tn, true_and, and_true, not_true_eq_false, not_false_eq_true, ite_true, ite_false, ↓reduceIte, true_or, or_true, and_self, ne_eq, q_or1, q_or2, Nat.add_eq_zero_iff, and_false, false_and, List.length_cons, List.length_nil, reduceCtorEq, q_toI, Nat.zero_add, Nat.le_refl, q_c0, q_c1, q_c2, q_c4, q_c9, q_c12, q_c30, q_c99, q_c100, q_c126, q_c32, q_c359, q_c999]
        · rw [if_pos (Or.inr (by decide))]; exact j3
      · have tz : t < q_sz f2 := by omega
        have t0 : ¬ nI t < nI 0 := by rw [q_lt (by omega) (by omega)]; omega
        rw [if_neg u0, if_neg t0, if_neg (by rintro (q | q) <;> contradiction), nI_clamp (by omega), nI_clamp (by omega)]
        obtain ⟨g3, l1, l2, l3⟩ := c_addOne (E := E) (g := g2) hP (a := u) (b := t) (x := f2 (q_pr u t)) (by omega) (by omega) (j3.2.2.2.1 u t (by omega) (by omega)) ((j3.2.2.2.1 t u (by omega) (by omega)).trans (congrArg f2 (q_pr_c t u)))
        have hO3 : q_Out B g2 g3 := q_Out_p l2
        refine ⟨g3, fun Q => ?_, q_Out_t hO hO3, fun _ => ?_⟩
        · conv => lhs; simp (disch := omega) only [x75_0, x75_1, x75_4, x75_5, x75_8, x75_11, x75_12, x75_15, x75_16, x75_19, x75_22, x75_24, x75_25, x75_26, x75_27, x75_30, x75_31, x75_32, x75_33, x75_36, x75_38, x75_39, x75_42, x75_43, x75_46, x75_49, x75_50, x75_53, x75_55, x75_58, x75_61, x75_62, x75_65, x75_66, x75_68, x75_71, x75_72, x75_73, x75_74, x75_77, x75_78, x75_81, x75_84, x75_85, x75_88, x75_90, x75_93, x75_96, x75_97, x75_100, x75_101, nI_add, pk_mul, q_cl31, q_vin, q_le, q_lt, q_eqn, q_b_0, q_b_t, q_b_f, q_nz, q_nz1, q_nz0, q_tl, q_tn, true_and, and_true, not_true_eq_false, not_false_eq_true, ite_true, ite_false, ↓reduceIte, true_or, or_true, and_self, ne_eq, q_or1, q_or2, Nat.add_eq_zero_iff, and_false, false_and, List.length_cons, List.length_nil, reduceCtorEq, q_toI, Nat.zero_add, Nat.le_refl, q_c0, q_c1, q_c2, q_c4, q_c9, q_c12, q_c30, q_c99, q_c100, q_c126, q_c32, q_c359, q_c999, ks0, kd0, kd1, kd2, kd3, kd5, kd6, kd7, hC.1, hP.1, ks1, ks2, ks3, ks4, ks5, kn0, kn1, kn2, kn3, kn4, kn5, kn6, kn7, kn8, km1, km2, km3, km4, km5, km6, km7, km8, kr0, kr1, kr2, kr3, kr5, kr6, kr7, kw5, kw6, kw7, kw8, ko0, ko1, ko2, ko3, ko4, ko5, ko6, ko7, ko8, kx1, kx2, kx3, c_hasv hN vN hI, e1, e2, i1, j1, u0, t0, hh, q_isv_n, uz, tz, decide_true, Bool.true_eq_false, Nat.not_lt_zero, l1]
          dsimp only
          rw [nI_add]
        · exact q_V_pr j3 I2.2.1.1 (by omega) (by omega) l2 l3
  · rw [if_neg hc]
    refine q_Cop_er (Or.inl rfl) fun Q => ?_
    rcases Bool.eq_false_or_eq_true (q_isv f x) with e1 | e1 <;> rcases Bool.eq_false_or_eq_true (q_isv f y) with e2 | e2
    all_goals first
      | exact absurd (by rw [e1, e2]; rfl) hc
      | simp (disch := omega) only [x75_0, x75_1, x75_4, x75_5, x75_8, x75_11, x75_12, x75_15, x75_16, x75_19, x75_22, x75_24, x75_25, x75_26, x75_27, x75_30, x75_31, x75_32, x75_33, x75_36, x75_38, x75_39, x75_42, x75_43, x75_46, x75_49, x75_50, x75_53, x75_55, x75_58, x75_61, x75_62, x75_65, x75_66, x75_68, x75_71, x75_72, x75_73, x75_74, x75_77, x75_78, x75_81, x75_84, x75_85, x75_88, x75_90, x75_93, x75_96, x75_97, x75_100, x75_101, nI_add, pk_mul, q_cl31, q_vin, q_le, q_lt, q_eqn, q_b_0, q_b_t, q_b_f, q_nz, q_nz1, q_nz0, q_tl, q_tn, true_and, and_true, not_true_eq_false, not_false_eq_true, ite_true, ite_false, ↓reduceIte, true_or, or_true, and_self, ne_eq, q_or1, q_or2, Nat.add_eq_zero_iff, and_false, false_and, List.length_cons, List.length_nil, reduceCtorEq, q_toI, Nat.zero_add, Nat.le_refl, q_c0, q_c1, q_c2, q_c4, q_c9, q_c12, q_c30, q_c99, q_c100, q_c126, q_c32, q_c359, q_c999, ks0, kd0, kd1, kd2, kd3, kd5, kd6, kd7, hC.1, hP.1, ks1, ks2, ks3, ks4, ks5, kn0, kn1, kn2, kn3, kn4, kn5, kn6, kn7, kn8, km1, km2, km3, km4, km5, km6, km7, km8, kr0, kr1, kr2, kr3, kr5, kr6, kr7, kw5, kw6, kw7, kw8, ko0, ko1, ko2, ko3, ko4, ko5, ko6, ko7, ko8, kx1, kx2, kx3, c_hasv hN vN hI, e1, e2, Bool.false_eq_true, Bool.true_eq_false]
end
