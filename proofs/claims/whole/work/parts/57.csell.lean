/-! sales -/
section
variable {E : q_E} {g : q_G} {f : q_St} {B : Nat}
theorem c_take (hS : q_StaB E B) (hV : q_Vsta g B f) (hI : q_In f) {v k : Nat} (hv : v < q_sz f) (hk : k < 10) (hc : nI 0 < f (107 + 3 * k + 1)) : ∃ g' : q_G, (∀ Q : Option Value → q_E → q_G → Prop, q_X 137 32 [.ref B, .int (nI v), .null, .null] [.int (nI k)] E g Q = Q (some (.int (nI (q_hd f k)))) E g') ∧ q_Out B g g' ∧ q_Vsta g' B (p_take f v k) := by
  obtain ⟨ks0, ⟨ks1, ks2, ks3, ks4, ks5⟩, hC, hN, hP, hR, hD⟩ := id hS
  obtain ⟨kn0, ⟨kn1, kn2, kn3, kn4, kn5, kn6, kn7, kn8⟩, km1, km2, km3, km4, km5, km6, km7, km8⟩ := id hN
  obtain ⟨kr0, kr1, kr2, kr3, kr5, kr6, kr7⟩ := id hR
  obtain ⟨kd0, kd1, kd2, kd3, kd5, kd6, kd7⟩ := id hD
  obtain ⟨⟨kw5, kw6, kw7, kw8⟩, vC, vN, vP, vR, vD⟩ := id hV
  obtain ⟨ko0, ko1, ko2, ko3, ko4, ko5, ko6, ko7, ko8⟩ := id vN
  obtain ⟨kx1, kx2, kx3⟩ := id vR
  have h12 := hI.1.1
  obtain ⟨h, h'⟩ := q_hd_lt hI hk hc
  unfold p_take
  generalize q_hd f k = u at *
  have ek : q_ir 0 9 (nI k) = true := by rw [q_ir_nI (by omega), decide_eq_true (show (0 : Int) ≤ k by omega), decide_eq_true (show (k : Int) ≤ 9 by omega)]; rfl
  by_cases e : u = v
  · subst e
    apply Exists.intro
    refine ⟨fun Q => ?_, ?_, ?_⟩
    · conv => lhs; simp (disch := omega) only [x137_0, x137_1, x137_4, x137_5, x137_8, x137_11, x137_13, x137_14, x137_15, x137_18, x137_21, x137_22, x137_23, x137_24, x137_25, x137_26, x137_27, x137_28, x137_29, x137_32, x137_33, x137_34, x137_37, x137_40, x137_41, x137_44, x137_47, x137_48, x137_49, x137_52, x137_53, x137_54, x137_55, x137_58, x137_59, x137_62, x137_65, x137_66, x137_69, x137_72, x137_73, x137_74, x137_75, x137_76, x137_77, x137_78, x137_80, x137_81, x137_82, x137_85, x137_88, x137_89, x137_90, x137_91, x137_92, x137_93, x137_94, x137_95, x137_98, x137_101, x137_102, x137_103, x137_104, x137_105, x137_106, x137_107, x137_108, x137_111, x137_114, x137_115, x137_116, x137_117, x137_118, x137_119, x137_120, x137_121, x137_122, x137_125, x137_126, x137_129, x137_132, x137_133, x137_134, x137_135, x137_136, x137_137, x137_138, x137_139, x137_140, x137_143, x137_144, x137_147, x137_150, x137_151, x137_152, x137_153, x137_156, x137_157, nI_add, pk_mul, q_cl31, q_vin, q_le, q_lt, q_eqn, q_b_0, q_b_t, q_b_f, q_nz, q_nz1, q_nz0, q_tl, q_tn, true_and, and_true, not_true_eq_false, not_false_eq_true, ite_true, ite_false, ↓reduceIte, true_or, or_true, and_self, ne_eq, q_or1, q_or2, Nat.add_eq_zero_iff, and_false, false_and, List.length_cons, List.length_nil, reduceCtorEq, q_toI, Nat.zero_add, Nat.le_refl, q_c0, q_c1, q_c2, q_c4, q_c9, q_c12, q_c30, q_c99, q_c100, q_c126, q_c32, q_c359, q_c999, ks0, kd0, kd1, kd2, kd3, kd5, kd6, kd7, hC.1, hP.1, ks1, ks2, ks3, ks4, ks5, kn0, kn1, kn2, kn3, kn4, kn5, kn6, kn7, kn8, km1, km2, km3, km4, km5, km6, km7, km8, kr0, kr1, kr2, kr3, kr5, kr6, kr7, kw5, kw6, kw7, kw8, ko0, ko1, ko2, ko3, ko4, ko5, ko6, ko7, ko8, kx1, kx2, kx3, s_isSlot, c_hasv hN vN hI, ek, h', q_isv_n, h, decide_true, Bool.true_eq_false, q_upn, q_upm]
      try exact rfl
    · exact q_Out_u (q_Out_u (q_Out_u (q_Out_u (q_Out_r B g) (by omega)) (by omega)) (by omega)) (by omega)
    · rw [if_pos rfl, q_a0, q_upd_id (i := 11 + 8 * u + 5) (by rw [q_updn (by omega), q_updn (by omega), q_updn (by omega)])]
      exact (q_W_up (o := 0) (hl := (Or.inl ⟨rfl, by decide⟩)) (j := 8) (i := 310) (q_W_up (o := 9) (hl := (Or.inr (Or.inr (Or.inr (Or.inr (Or.inr (Or.inl ⟨by decide, by decide, by omega, rfl⟩))))))) (j := u) (i := 11 + 8 * u + 4) (q_W_up (o := 18) (hl := (Or.inr (Or.inr (Or.inr (Or.inr (Or.inr (Or.inr (⟨by decide, by decide, by omega, rfl⟩)))))))) (j := k) (i := 107 + 3 * k + 2) (q_W_up (o := 17) (hl := (Or.inr (Or.inr (Or.inr (Or.inr (Or.inr (Or.inr (⟨by decide, by decide, by omega, rfl⟩)))))))) (j := k) (i := 107 + 3 * k + 1) (q_W_i hV hI))))).1
  · apply Exists.intro
    refine ⟨fun Q => ?_, ?_, ?_⟩
    · conv => lhs; simp (disch := omega) only [x137_0, x137_1, x137_4, x137_5, x137_8, x137_11, x137_13, x137_14, x137_15, x137_18, x137_21, x137_22, x137_23, x137_24, x137_25, x137_26, x137_27, x137_28, x137_29, x137_32, x137_33, x137_34, x137_37, x137_40, x137_41, x137_44, x137_47, x137_48, x137_49, x137_52, x137_53, x137_54, x137_55, x137_58, x137_59, x137_62, x137_65, x137_66, x137_69, x137_72, x137_73, x137_74, x137_75, x137_76, x137_77, x137_78, x137_80, x137_81, x137_82, x137_85, x137_88, x137_89, x137_90, x137_91, x137_92, x137_93, x137_94, x137_95, x137_98, x137_101, x137_102, x137_103, x137_104, x137_105, x137_106, x137_107, x137_108, x137_111, x137_114, x137_115, x137_116, x137_117, x137_118, x137_119, x137_120, x137_121, x137_122, x137_125, x137_126, x137_129, x137_132, x137_133, x137_134, x137_135, x137_136, x137_137, x137_138, x137_139, x137_140, x137_143, x137_144, x137_147, x137_150, x137_151, x137_152, x137_153, x137_156, x137_157, nI_add, pk_mul, q_cl31, q_vin, q_le, q_lt, q_eqn, q_b_0, q_b_t, q_b_f, q_nz, q_nz1, q_nz0, q_tl, q_tn, true_and, and_true, not_true_eq_false, not_false_eq_true, ite_true, ite_false, ↓reduceIte, true_or, or_true, and_self, ne_eq, q_or1, q_or2, Nat.add_eq_zero_iff, and_false, false_and, List.length_cons, List.length_nil, reduceCtorEq, q_toI, Nat.zero_add, Nat.le_refl, q_c0, q_c1, q_c2, q_c4, q_c9, q_c12, q_c30, q_c99, q_c100, q_c126, q_c32, q_c359, q_c999, ks0, kd0, kd1, kd2, kd3, kd5, kd6, kd7, hC.1, hP.1, ks1, ks2, ks3, ks4, ks5, kn0, kn1, kn2, kn3, kn4, kn5, kn6, kn7, kn8, km1, km2, km3, km4, km5, km6, km7, km8, kr0, kr1, kr2, kr3, kr5, kr6, kr7, kw5, kw6, kw7, kw8, ko0, ko1, ko2, ko3, ko4, ko5, ko6, ko7, ko8, kx1, kx2, kx3, s_isSlot, c_hasv hN vN hI, ek, h', q_isv_n, h, decide_true, Bool.true_eq_false, q_upn, q_upm, e]
      try exact rfl
    · exact q_Out_u (q_Out_u (q_Out_u (q_Out_u (q_Out_u (q_Out_r B g) (by omega)) (by omega)) (by omega)) (by omega)) (by omega)
    · rw [if_neg e]
      exact (q_W_up (o := 0) (hl := (Or.inl ⟨rfl, by decide⟩)) (j := 8) (i := 310) (q_W_up (o := 10) (hl := (Or.inr (Or.inr (Or.inr (Or.inr (Or.inr (Or.inl ⟨by decide, by decide, by omega, rfl⟩))))))) (j := u) (i := 11 + 8 * u + 5) (q_W_up (o := 9) (hl := (Or.inr (Or.inr (Or.inr (Or.inr (Or.inr (Or.inl ⟨by decide, by decide, by omega, rfl⟩))))))) (j := u) (i := 11 + 8 * u + 4) (q_W_up (o := 18) (hl := (Or.inr (Or.inr (Or.inr (Or.inr (Or.inr (Or.inr (⟨by decide, by decide, by omega, rfl⟩)))))))) (j := k) (i := 107 + 3 * k + 2) (q_W_up (o := 17) (hl := (Or.inr (Or.inr (Or.inr (Or.inr (Or.inr (Or.inr (⟨by decide, by decide, by omega, rfl⟩)))))))) (j := k) (i := 107 + 3 * k + 1) (q_W_i hV hI)))))).1
theorem c_lost (hS : q_StaB E B) (hV : q_Vsta g B f) (hI : q_In f) {v : Nat} (hv : v < q_sz f) {Q : Option Value → q_E → q_G → Prop} : q_X 137 32 [.ref B, .int (nI v), .null, .null] [.int (-1)] E g Q = Q (some (.int (nI 100))) E (q_up g (B + 11) v (f (11 + 8 * v + 6) + nI 1)) := by
  obtain ⟨ks0, ⟨ks1, ks2, ks3, ks4, ks5⟩, hC, hN, hP, hR, hD⟩ := id hS
  obtain ⟨kn0, ⟨kn1, kn2, kn3, kn4, kn5, kn6, kn7, kn8⟩, km1, km2, km3, km4, km5, km6, km7, km8⟩ := id hN
  obtain ⟨kr0, kr1, kr2, kr3, kr5, kr6, kr7⟩ := id hR
  obtain ⟨kd0, kd1, kd2, kd3, kd5, kd6, kd7⟩ := id hD
  obtain ⟨⟨kw5, kw6, kw7, kw8⟩, vC, vN, vP, vR, vD⟩ := id hV
  obtain ⟨ko0, ko1, ko2, ko3, ko4, ko5, ko6, ko7, ko8⟩ := id vN
  obtain ⟨kx1, kx2, kx3⟩ := id vR
  have h12 := hI.1.1
  simp (disch := omega) only [x137_0, x137_1, x137_4, x137_5, x137_8, x137_11, x137_13, x137_14, x137_15, x137_18, x137_21, x137_22, x137_23, x137_24, x137_25, x137_26, x137_27, x137_28, x137_29, x137_32, x137_33, x137_34, x137_37, x137_40, x137_41, x137_44, x137_47, x137_48, x137_49, x137_52, x137_53, x137_54, x137_55, x137_58, x137_59, x137_62, x137_65, x137_66, x137_69, x137_72, x137_73, x137_74, x137_75, x137_76, x137_77, x137_78, x137_80, x137_81, x137_82, x137_85, x137_88, x137_89, x137_90, x137_91, x137_92, x137_93, x137_94, x137_95, x137_98, x137_101, x137_102, x137_103, x137_104, x137_105, x137_106, x137_107, x137_108, x137_111, x137_114, x137_115, x137_116, x137_117, x137_118, x137_119, x137_120, x137_121, x137_122, x137_125, x137_126, x137_129, x137_132, x137_133, x137_134, x137_135, x137_136, x137_137, x137_138, x137_139, x137_140, x137_143, x137_144, x137_147, x137_150, x137_151, x137_152, x137_153, x137_156, x137_157, nI_add, pk_mul, q_cl31, q_vin, q_le, q_lt, q_eqn, q_b_0, q_b_t, q_b_f, q_nz, q_nz1, q_nz0, q_tl, q_tn, true_and, and_true, not_true_eq_false, not_false_eq_true, ite_true, ite_false, ↓reduceIte, true_or, or_true, and_self, ne_eq, q_or1, q_or2, Nat.add_eq_zero_iff, and_false, false_and, List.length_cons, List.length_nil, reduceCtorEq, q_toI, Nat.zero_add, Nat.le_refl, q_c0, q_c1, q_c2, q_c4, q_c9, q_c12, q_c30, q_c99, q_c100, q_c126, q_c32, q_c359, q_c999, ks0, kd0, kd1, kd2, kd3, kd5, kd6, kd7, hC.1, hP.1, ks1, ks2, ks3, ks4, ks5, kn0, kn1, kn2, kn3, kn4, kn5, kn6, kn7, kn8, km1, km2, km3, km4, km5, km6, km7, km8, kr0, kr1, kr2, kr3, kr5, kr6, kr7, kw5, kw6, kw7, kw8, ko0, ko1, ko2, ko3, ko4, ko5, ko6, ko7, ko8, kx1, kx2, kx3, s_isSlot, c_hasv hN vN hI, q_isv_m, Bool.true_eq_false, show q_ir 0 9 (-1) = false from by decide]
/-- one who wants v -/
theorem c_sell (hB : q_BesB E g) (hB2 : 2 < B) (hS : q_StaB E B) (hV : q_Vsta g B f) (hI : q_In f) {v : Nat} (hv : v < q_sz f) : ∃ g' : q_G, (∀ Q : Option Value → q_E → q_G → Prop, q_X 137 0 [.ref B, .int (nI v), .null, .null] [] E g Q = Q (some (.int (if (p_sells f v).1 < nI 0 then nI 100 else (p_sells f v).1))) E g') ∧ q_Out B g g' ∧ q_Vsta g' B (p_sells f v).2 := by
  obtain ⟨ks0, ⟨ks1, ks2, ks3, ks4, ks5⟩, hC, hN, hP, hR, hD⟩ := id hS
  obtain ⟨kn0, ⟨kn1, kn2, kn3, kn4, kn5, kn6, kn7, kn8⟩, km1, km2, km3, km4, km5, km6, km7, km8⟩ := id hN
  obtain ⟨kr0, kr1, kr2, kr3, kr5, kr6, kr7⟩ := id hR
  obtain ⟨kd0, kd1, kd2, kd3, kd5, kd6, kd7⟩ := id hD
  obtain ⟨⟨kw5, kw6, kw7, kw8⟩, vC, vN, vP, vR, vD⟩ := id hV
  obtain ⟨ko0, ko1, ko2, ko3, ko4, ko5, ko6, ko7, ko8⟩ := id vN
  obtain ⟨kx1, kx2, kx3⟩ := id vR
  have h12 := hI.1.1
  have hW := q_W_up (o := 12) (hl := (Or.inr (Or.inr (Or.inr (Or.inr (Or.inr (Or.inl ⟨by decide, by decide, by omega, rfl⟩))))))) (j := v) (i := 11 + 8 * v + 7) (x := f (11 + 8 * v + 7) + nI 1) (q_W_i hV hI)
  have hI1 := q_In_want hI hv (w := 7) (by omega) (by omega) (by omega) (f (11 + 8 * v + 7) + nI 1)
  have hO := q_Out_u (j := v) (x := f (11 + 8 * v + 7) + nI 1) (q_Out_r B g) (a := B + 12) (by omega)
  have hB1 := q_Bes_o hB hO hB2
  have hz : q_sz (upd f (11 + 8 * v + 7) (f (11 + 8 * v + 7) + nI 1)) = q_sz f := q_sz_u (by omega)
  have hv1 : v < q_sz (upd f (11 + 8 * v + 7) (f (11 + 8 * v + 7) + nI 1)) := by rw [hz]; exact hv
  have sl := fun Q => c_slot (Q := Q) hB1 hS hW.1 hI1 hv1
  have f6 : upd f (11 + 8 * v + 7) (f (11 + 8 * v + 7) + nI 1) (11 + 8 * v + 6) = f (11 + 8 * v + 6) := q_updn (by omega)
  have lo := fun Q => c_lost (Q := Q) hS hW.1 hI1 hv1
  have st : ∀ Q, q_X 137 0 [.ref B, .int (nI v), .null, .null] [] E g Q = q_X 137 32 [.ref B, .int (nI v), .null, .null] [.int (q_sp (upd f (11 + 8 * v + 7) (f (11 + 8 * v + 7) + nI 1)) v)] E (q_up g (B + 12) v (f (11 + 8 * v + 7) + nI 1)) Q := by
    intro Q
    simp (disch := omega) only [x137_0, x137_1, x137_4, x137_5, x137_8, x137_11, x137_13, x137_14, x137_15, x137_18, x137_21, x137_22, x137_23, x137_24, x137_25, x137_26, x137_27, x137_28, x137_29, nI_add, pk_mul, q_cl31, q_vin, q_le, q_lt, q_eqn, q_b_0, q_b_t, q_b_f, q_nz, q_nz1, q_nz0, q_tl, q_tn, true_and, and_true, not_true_eq_false, not_false_eq_true, ite_true, ite_false, ↓reduceIte, true_or, or_true, and_self, ne_eq, q_or1, q_or2, Nat.add_eq_zero_iff, and_false, false_and, List.length_cons, List.length_nil, reduceCtorEq, q_toI, Nat.zero_add, Nat.le_refl, q_c0, q_c1, q_c2, q_c4, q_c9, q_c12, q_c30, q_c99, q_c100, q_c126, q_c32, q_c359, q_c999, ks0, kd0, kd1, kd2, kd3, kd5, kd6, kd7, hC.1, hP.1, ks1, ks2, ks3, ks4, ks5, kn0, kn1, kn2, kn3, kn4, kn5, kn6, kn7, kn8, km1, km2, km3, km4, km5, km6, km7, km8, kr0, kr1, kr2, kr3, kr5, kr6, kr7, kw5, kw6, kw7, kw8, ko0, ko1, ko2, ko3, ko4, ko5, ko6, ko7, ko8, kx1, kx2, kx3, c_hasv hN vN hI, q_isv_n, hv, decide_true, Bool.true_eq_false, sl]
  rcases q_sp_c (upd f (11 + 8 * v + 7) (f (11 + 8 * v + 7) + nI 1)) v with h | ⟨k, hk, h, hc⟩
  · have ps : p_sells f v = (-1, upd (upd f (11 + 8 * v + 7) (f (11 + 8 * v + 7) + nI 1)) (11 + 8 * v + 6) (f (11 + 8 * v + 6) + nI 1)) := by
      unfold p_sells
      rw [h]
      exact if_pos (by decide)
    rw [h] at st
    rw [ps]
    dsimp only
    rw [if_pos (by decide)]
    refine ⟨_, fun Q => (st Q).trans (lo Q), q_Out_u hO (by omega), ?_⟩
    rw [← f6]
    exact (q_W_up (o := 11) (hl := (Or.inr (Or.inr (Or.inr (Or.inr (Or.inr (Or.inl ⟨by decide, by decide, by omega, rfl⟩))))))) (j := v) (i := 11 + 8 * v + 6) hW).1
  · have hd := q_hd_lt hI1 hk hc
    have hq : q_hd (upd f (11 + 8 * v + 7) (f (11 + 8 * v + 7) + nI 1)) k = q_hd f k := q_hd_u (by omega)
    have ps : p_sells f v = (nI (q_hd f k), p_take (upd f (11 + 8 * v + 7) (f (11 + 8 * v + 7) + nI 1)) v k) := by
      unfold p_sells
      rw [h, nI_clamp (by omega), if_neg (show ¬ nI k < nI 0 by rw [q_lt (by omega) (by omega)]; omega)]
    rw [h] at st
    obtain ⟨g', i1, i2, i3⟩ := c_take hS hW.1 hI1 hv1 hk hc
    rw [hq] at i1
    rw [hq, hz] at hd
    generalize upd f (11 + 8 * v + 7) (f (11 + 8 * v + 7) + nI 1) = f1 at *
    rw [ps]
    dsimp only
    rw [if_neg (by rw [q_lt (by omega) (by omega)]; omega)]
    exact ⟨g', fun Q => (st Q).trans (i1 Q), q_Out_t hO i2, i3⟩
theorem k_sell (hB : q_BesB E g) (hB2 : 2 < B) (hS : q_StaB E B) (hV : q_Vsta g B f) (hI : q_In f) (x : Int32) : q_Cop E g B 137 [.ref B, .int x, .null, .null] (p_sell f x) := by
  obtain ⟨ks0, ⟨ks1, ks2, ks3, ks4, ks5⟩, hC, hN, hP, hR, hD⟩ := id hS
  obtain ⟨kn0, ⟨kn1, kn2, kn3, kn4, kn5, kn6, kn7, kn8⟩, km1, km2, km3, km4, km5, km6, km7, km8⟩ := id hN
  obtain ⟨kr0, kr1, kr2, kr3, kr5, kr6, kr7⟩ := id hR
  obtain ⟨kd0, kd1, kd2, kd3, kd5, kd6, kd7⟩ := id hD
  obtain ⟨⟨kw5, kw6, kw7, kw8⟩, vC, vN, vP, vR, vD⟩ := id hV
  obtain ⟨ko0, ko1, ko2, ko3, ko4, ko5, ko6, ko7, ko8⟩ := id vN
  obtain ⟨kx1, kx2, kx3⟩ := id vR
  unfold p_sell
  by_cases e1 : q_isv f x = true
  · rw [if_pos e1]
    obtain ⟨v, v1, rfl, v3⟩ := q_isv_lo hI e1
    rw [v3]
    obtain ⟨g', i1, i2, i3⟩ := c_sell hB hB2 hS hV hI v1
    generalize p_sells f v = s at *
    obtain ⟨s1, s2⟩ := s
    exact ⟨g', i1, i2, fun _ => i3⟩
  · rw [if_neg e1]
    refine q_Cop_er (Or.inl rfl) fun Q => ?_
    have e1' : q_isv f x = false := by simpa using e1
    simp (disch := omega) only [x137_0, x137_1, x137_4, x137_5, x137_8, x137_11, x137_13, x137_14, x137_15, x137_18, x137_21, x137_22, x137_23, x137_24, x137_25, x137_26, x137_27, x137_28, x137_29, x137_32, x137_33, x137_34, x137_37, x137_40, x137_41, x137_44, x137_47, x137_48, x137_49, x137_52, x137_53, x137_54, x137_55, x137_58, x137_59, x137_62, x137_65, x137_66, x137_69, x137_72, x137_73, x137_74, x137_75, x137_76, x137_77, x137_78, x137_80, x137_81, x137_82, x137_85, x137_88, x137_89, x137_90, x137_91, x137_92, x137_93, x137_94, x137_95, x137_98, x137_101, x137_102, x137_103, x137_104, x137_105, x137_106, x137_107, x137_108, x137_111, x137_114, x137_115, x137_116, x137_117, x137_118, x137_119, x137_120, x137_121, x137_122, x137_125, x137_126, x137_129, x137_132, x137_133, x137_134, x137_135, x137_136, x137_137, x137_138, x137_139, x137_140, x137_143, x137_144, x137_147, x137_150, x137_151, x137_152, x137_153, x137_156, x137_157, nI_add, pk_mul, q_cl31, q_vin, q_le, q_lt, q_eqn, q_b_0, q_b_t, q_b_f, q_nz, q_nz1, q_nz0, q_tl, q_tn, true_and, and_true, not_true_eq_false, not_false_eq_true, ite_true, ite_false, ↓reduceIte, true_or, or_true, and_self, ne_eq, q_or1, q_or2, Nat.add_eq_zero_iff, and_false, false_and, List.length_cons, List.length_nil, reduceCtorEq, q_toI, Nat.zero_add, Nat.le_refl, q_c0, q_c1, q_c2, q_c4, q_c9, q_c12, q_c30, q_c99, q_c100, q_c126, q_c32, q_c359, q_c999, ks0, kd0, kd1, kd2, kd3, kd5, kd6, kd7, hC.1, hP.1, ks1, ks2, ks3, ks4, ks5, kn0, kn1, kn2, kn3, kn4, kn5, kn6, kn7, kn8, km1, km2, km3, km4, km5, km6, km7, km8, kr0, kr1, kr2, kr3, kr5, kr6, kr7, kw5, kw6, kw7, kw8, ko0, ko1, ko2, ko3, ko4, ko5, ko6, ko7, ko8, kx1, kx2, kx3, c_hasv hN vN hI, e1']
theorem c_addOne {p : Nat} (hP : q_PaiB E p) {a b : Nat} (ha : a < 12) (hb : b < 12) {x : Int32} (h1 : g (p + 1) (a * 12 + b) = x) (h2 : g (p + 1) (b * 12 + a) = x) : ∃ g' : q_G, (∀ Q : Option Value → q_E → q_G → Prop, q_X 9 0 [.ref p, .int (nI a), .int (nI b)] [] E g Q = Q none E g') ∧ (∀ c, ¬ c = p + 1 → g' c = g c) ∧ ∀ j, g' (p + 1) j = if j = a * 12 + b ∨ j = b * 12 + a then x + nI 1 else g (p + 1) j := by
  obtain ⟨p1, p2, p3⟩ := hP
  by_cases e : a = b
  · subst e
    refine ⟨q_up g (p + 1) (a * 12 + a) (x + nI 1), fun Q => ?_, fun c hc => q_upf hc, fun j => ?_⟩
    · conv => lhs; simp (disch := omega) only [x9_0, x9_1, x9_4, x9_5, x9_7, x9_8, x9_9, x9_10, x9_11, x9_12, x9_13, x9_14, x9_15, x9_16, x9_17, x9_20, x9_21, x9_24, x9_25, x9_27, x9_28, x9_29, x9_30, x9_31, x9_32, x9_33, x9_34, x9_35, nI_add, pk_mul, q_cl31, q_vin, q_le, q_lt, q_eqn, q_b_0, q_b_t, q_b_f, q_nz, q_nz1, q_nz0, q_tl, q_tn, true_and, and_true, not_true_eq_false, not_false_eq_true, ite_true, ite_false, ↓reduceIte, true_or, or_true, and_self, ne_eq, q_or1, q_or2, Nat.add_eq_zero_iff, and_false, false_and, List.length_cons, List.length_nil, reduceCtorEq, q_toI, Nat.zero_add, Nat.le_refl, q_c0, q_c1, q_c2, q_c4, q_c9, q_c12, q_c30, q_c99, q_c100, q_c126, q_c32, q_c359, q_c999, p1, p2, p3, h1]
    · rw [q_ups]
      by_cases c : j = a * 12 + a <;> simp [c]
  · refine ⟨q_up (q_up g (p + 1) (a * 12 + b) (x + nI 1)) (p + 1) (b * 12 + a) (x + nI 1), fun Q => ?_, fun c hc => by rw [q_upf hc, q_upf hc], fun j => ?_⟩
    · conv => lhs; simp (disch := omega) only [x9_0, x9_1, x9_4, x9_5, x9_7, x9_8, x9_9, x9_10, x9_11, x9_12, x9_13, x9_14, x9_15, x9_16, x9_17, x9_20, x9_21, x9_24, x9_25, x9_27, x9_28, x9_29, x9_30, x9_31, x9_32, x9_33, x9_34, x9_35, nI_add, pk_mul, q_cl31, q_vin, q_le, q_lt, q_eqn, q_b_0, q_b_t, q_b_f, q_nz, q_nz1, q_nz0, q_tl, q_tn, true_and, and_true, not_true_eq_false, not_false_eq_true, ite_true, ite_false, ↓reduceIte, true_or, or_true, and_self, ne_eq, q_or1, q_or2, Nat.add_eq_zero_iff, and_false, false_and, List.length_cons, List.length_nil, reduceCtorEq, q_toI, Nat.zero_add, Nat.le_refl, q_c0, q_c1, q_c2, q_c4, q_c9, q_c12, q_c30, q_c99, q_c100, q_c126, q_c32, q_c359, q_c999, p1, p2, p3, h1, h2, e, q_upm]
    · rw [q_ups, q_ups]
      by_cases c : j = a * 12 + b <;> by_cases d : j = b * 12 + a <;> simp [c, d]
theorem q_Out_p {g' : q_G} (h : ∀ c, ¬ c = B + 13 + 1 → g' c = g c) : q_Out B g g' := fun b hb => h b (by omega)
theorem q_isv_100 (hI : q_In f) : q_isv f (nI 100) = false := by
  have h12 := hI.1.1
  rw [q_isv_n (by omega), decide_eq_false (by omega)]
theorem k_two (hB : q_BesB E g) (hB2 : 2 < B) (hS : q_StaB E B) (hV : q_Vsta g B f) (hI : q_In f) (x y : Int32) : q_Cop E g B 145 [.ref B, .int x, .int y, .null, .null] (p_two f x y) := by
  obtain ⟨ks0, ⟨ks1, ks2, ks3, ks4, ks5⟩, hC, hN, hP, hR, hD⟩ := id hS
  obtain ⟨kn0, ⟨kn1, kn2, kn3, kn4, kn5, kn6, kn7, kn8⟩, km1, km2, km3, km4, km5, km6, km7, km8⟩ := id hN
  obtain ⟨kr0, kr1, kr2, kr3, kr5, kr6, kr7⟩ := id hR
  obtain ⟨kd0, kd1, kd2, kd3, kd5, kd6, kd7⟩ := id hD
  obtain ⟨⟨kw5, kw6, kw7, kw8⟩, vC, vN, vP, vR, vD⟩ := id hV
  obtain ⟨ko0, ko1, ko2, ko3, ko4, ko5, ko6, ko7, ko8⟩ := id vN
  obtain ⟨kx1, kx2, kx3⟩ := id vR
  have h12 := hI.1.1
  unfold p_two
  by_cases hc : (q_isv f x && q_isv f y) = true
  · rw [if_pos hc]
    obtain ⟨e1, e2⟩ : q_isv f x = true ∧ q_isv f y = true := by simpa only [Bool.and_eq_true] using hc
    obtain ⟨v, v1, rfl, v3⟩ := q_isv_lo hI e1
    obtain ⟨w, w1, rfl, w3⟩ := q_isv_lo hI e2
    rw [v3, w3]
    obtain ⟨g1, i1, i2, i3⟩ := c_sell hB hB2 hS hV hI v1
    obtain ⟨I1, z1, r1⟩ := p_sells_In hI v1
    have hB1 := q_Bes_o hB i2 hB2
    obtain ⟨g2, j1, j2, j3⟩ := c_sell hB1 hB2 hS i3 I1 (v := w) (by omega)
    obtain ⟨I2, z2, r2⟩ := p_sells_In I1 (v := w) (by omega)
    have hO := q_Out_t i2 j2
    generalize p_sells f v = s1 at *
    obtain ⟨a1, f1⟩ := s1
    dsimp only at *
    generalize p_sells f1 w = s2 at *
    obtain ⟨a2, f2⟩ := s2
    dsimp only at *
    have hh := fun Q x => c_hasv (Q := Q) hN j3.2.2.1 I2 x
    have m1 : ((-1 : Int32) < nI 0) = True := by decide
    rcases r1 with rfl | ⟨u, u1, rfl⟩
    · rcases r2 with rfl | ⟨t, t1, rfl⟩
      · refine ⟨g2, fun Q => ?_, hO, fun _ => ?_⟩
        · conv => lhs; simp (disch := omega) only [x145_0, x145_1, x145_4, x145_5, x145_8, x145_11, x145_12, x145_15, x145_16, x145_19, x145_22, x145_24, x145_25, x145_26, x145_27, x145_30, x145_31, x145_32, x145_33, x145_36, x145_38, x145_39, x145_42, x145_43, x145_46, x145_49, x145_50, x145_53, x145_55, x145_58, x145_61, x145_62, x145_65, x145_66, x145_68, x145_71, x145_72, x145_73, x145_74, x145_77, x145_78, x145_81, x145_84, x145_85, x145_88, x145_90, x145_93, x145_96, x145_97, x145_100, x145_101, nI_add, pk_mul, q_cl31, q_vin, q_le, q_lt, q_eqn, q_b_0, q_b_t, q_b_f, q_nz, q_nz1, q_nz0, q_tl, q_tn, true_and, and_true, not_true_eq_false, not_false_eq_true, ite_true, ite_false, ↓reduceIte, true_or, or_true, and_self, ne_eq, q_or1, q_or2, Nat.add_eq_zero_iff, and_false, false_and, List.length_cons, List.length_nil, reduceCtorEq, q_toI, Nat.zero_add, Nat.le_refl, q_c0, q_c1, q_c2, q_c4, q_c9, q_c12, q_c30, q_c99, q_c100, q_c126, q_c32, q_c359, q_c999, ks0, kd0, kd1, kd2, kd3, kd5, kd6, kd7, hC.1, hP.1, ks1, ks2, ks3, ks4, ks5, kn0, kn1, kn2, kn3, kn4, kn5, kn6, kn7, kn8, km1, km2, km3, km4, km5, km6, km7, km8, kr0, kr1, kr2, kr3, kr5, kr6, kr7, kw5, kw6, kw7, kw8, ko0, ko1, ko2, ko3, ko4, ko5, ko6, ko7, ko8, kx1, kx2, kx3, c_hasv hN vN hI, e1, e2, i1, j1, m1, hh, q_isv_100 I2]
          simp only [m1, ↓reduceIte, nI_add, pk_mul, q_cl31, q_vin, q_le, q_lt, q_eqn, q_b_0, q_b_t, q_b_f, q_nz, q_nz1, q_nz0, q_tl, q_tn, true_and, and_true, not_true_eq_false, not_false_eq_true, ite_true, ite_false, ↓reduceIte, true_or, or_true, and_self, ne_eq, q_or1, q_or2, Nat.add_eq_zero_iff, and_false, false_and, List.length_cons, List.length_nil, reduceCtorEq, q_toI, Nat.zero_add, Nat.le_refl, q_c0, q_c1, q_c2, q_c4, q_c9, q_c12, q_c30, q_c99, q_c100, q_c126, q_c32, q_c359, q_c999]
        · rw [if_pos (Or.inl (by decide))]; exact j3
      · have tz : t < q_sz f2 := by omega
        have t0 : ¬ nI t < nI 0 := by rw [q_lt (by omega) (by omega)]; omega
        refine ⟨g2, fun Q => ?_, hO, fun _ => ?_⟩
        · conv => lhs; simp (disch := omega) only [x145_0, x145_1, x145_4, x145_5, x145_8, x145_11, x145_12, x145_15, x145_16, x145_19, x145_22, x145_24, x145_25, x145_26, x145_27, x145_30, x145_31, x145_32, x145_33, x145_36, x145_38, x145_39, x145_42, x145_43, x145_46, x145_49, x145_50, x145_53, x145_55, x145_58, x145_61, x145_62, x145_65, x145_66, x145_68, x145_71, x145_72, x145_73, x145_74, x145_77, x145_78, x145_81, x145_84, x145_85, x145_88, x145_90, x145_93, x145_96, x145_97, x145_100, x145_101, nI_add, pk_mul, q_cl31, q_vin, q_le, q_lt, q_eqn, q_b_0, q_b_t, q_b_f, q_nz, q_nz1, q_nz0, q_tl, q_tn, true_and, and_true, not_true_eq_false, not_false_eq_true, ite_true, ite_false, ↓reduceIte, true_or, or_true, and_self, ne_eq, q_or1, q_or2, Nat.add_eq_zero_iff, and_false, false_and, List.length_cons, List.length_nil, reduceCtorEq, q_toI, Nat.zero_add, Nat.le_refl, q_c0, q_c1, q_c2, q_c4, q_c9, q_c12, q_c30, q_c99, q_c100, q_c126, q_c32, q_c359, q_c999, ks0, kd0, kd1, kd2, kd3, kd5, kd6, kd7, hC.1, hP.1, ks1, ks2, ks3, ks4, ks5, kn0, kn1, kn2, kn3, kn4, kn5, kn6, kn7, kn8, km1, km2, km3, km4, km5, km6, km7, km8, kr0, kr1, kr2, kr3, kr5, kr6, kr7, kw5, kw6, kw7, kw8, ko0, ko1, ko2, ko3, ko4, ko5, ko6, ko7, ko8, kx1, kx2, kx3, c_hasv hN vN hI, e1, e2, i1, j1, m1, t0, hh, q_isv_100 I2, q_isv_n, tz, decide_true, Nat.not_lt_zero]
          simp only [m1, t0, ↓reduceIte, nI_add, pk_mul, q_cl31, q_vin, q_le, q_lt, q_eqn, q_b_0, q_b_t, q_b_f, q_nz, q_nz1, q_nz0, q_tl, q_tn, true_and, and_true, not_true_eq_false, not_false_eq_true, ite_true, ite_false, ↓reduceIte, true_or, or_true, and_self, ne_eq, q_or1, q_or2, Nat.add_eq_zero_iff, and_false, false_and, List.length_cons, List.length_nil, reduceCtorEq, q_toI, Nat.zero_add, Nat.le_refl, q_c0, q_c1, q_c2, q_c4, q_c9, q_c12, q_c30, q_c99, q_c100, q_c126, q_c32, q_c359, q_c999]
        · rw [if_pos (Or.inl (by decide))]; exact j3
    · have uz : u < q_sz f2 := by omega
      have u0 : ¬ nI u < nI 0 := by rw [q_lt (by omega) (by omega)]; omega
      rcases r2 with rfl | ⟨t, t1, rfl⟩
      · refine ⟨g2, fun Q => ?_, hO, fun _ => ?_⟩
        · conv => lhs; simp (disch := omega) only [x145_0, x145_1, x145_4, x145_5, x145_8, x145_11, x145_12, x145_15, x145_16, x145_19, x145_22, x145_24, x145_25, x145_26, x145_27, x145_30, x145_31, x145_32, x145_33, x145_36, x145_38, x145_39, x145_42, x145_43, x145_46, x145_49, x145_50, x145_53, x145_55, x145_58, x145_61, x145_62, x145_65, x145_66, x145_68, x145_71, x145_72, x145_73, x145_74, x145_77, x145_78, x145_81, x145_84, x145_85, x145_88, x145_90, x145_93, x145_96, x145_97, x145_100, x145_101, nI_add, pk_mul, q_cl31, q_vin, q_le, q_lt, q_eqn, q_b_0, q_b_t, q_b_f, q_nz, q_nz1, q_nz0, q_tl, q_tn, true_and, and_true, not_true_eq_false, not_false_eq_true, ite_true, ite_false, ↓reduceIte, true_or, or_true, and_self, ne_eq, q_or1, q_or2, Nat.add_eq_zero_iff, and_false, false_and, List.length_cons, List.length_nil, reduceCtorEq, q_toI, Nat.zero_add, Nat.le_refl, q_c0, q_c1, q_c2, q_c4, q_c9, q_c12, q_c30, q_c99, q_c100, q_c126, q_c32, q_c359, q_c999, ks0, kd0, kd1, kd2, kd3, kd5, kd6, kd7, hC.1, hP.1, ks1, ks2, ks3, ks4, ks5, kn0, kn1, kn2, kn3, kn4, kn5, kn6, kn7, kn8, km1, km2, km3, km4, km5, km6, km7, km8, kr0, kr1, kr2, kr3, kr5, kr6, kr7, kw5, kw6, kw7, kw8, ko0, ko1, ko2, ko3, ko4, ko5, ko6, ko7, ko8, kx1, kx2, kx3, c_hasv hN vN hI, e1, e2, i1, j1, m1, u0, hh, q_isv_100 I2, q_isv_n, uz, decide_true, Nat.not_lt_zero]
          simp only [m1, u0, ↓reduceIte, nI_add, pk_mul, q_cl31, q_vin, q_le, q_lt, q_eqn, q_b_0, q_b_t, q_b_f, q_nz, q_nz1, q_nz0, q_tl, q_tn, true_and, and_true, not_true_eq_false, not_false_eq_true, ite_true, ite_false, ↓reduceIte, true_or, or_true, and_self, ne_eq, q_or1, q_or2, Nat.add_eq_zero_iff, and_false, false_and, List.length_cons, List.length_nil, reduceCtorEq, q_toI, Nat.zero_add, Nat.le_refl, q_c0, q_c1, q_c2, q_c4, q_c9, q_c12, q_c30, q_c99, q_c100, q_c126, q_c32, q_c359, q_c999]
        · rw [if_pos (Or.inr (by decide))]; exact j3
      · have tz : t < q_sz f2 := by omega
        have t0 : ¬ nI t < nI 0 := by rw [q_lt (by omega) (by omega)]; omega
        rw [if_neg u0, if_neg t0, if_neg (by rintro (q | q) <;> contradiction), nI_clamp (by omega), nI_clamp (by omega)]
        obtain ⟨g3, l1, l2, l3⟩ := c_addOne (E := E) (g := g2) hP (a := u) (b := t) (x := f2 (q_pr u t)) (by omega) (by omega) (j3.2.2.2.1 u t (by omega) (by omega)) ((j3.2.2.2.1 t u (by omega) (by omega)).trans (congrArg f2 (q_pr_c t u)))
        have hO3 : q_Out B g2 g3 := q_Out_p l2
        refine ⟨g3, fun Q => ?_, q_Out_t hO hO3, fun _ => ?_⟩
        · conv => lhs; simp (disch := omega) only [x145_0, x145_1, x145_4, x145_5, x145_8, x145_11, x145_12, x145_15, x145_16, x145_19, x145_22, x145_24, x145_25, x145_26, x145_27, x145_30, x145_31, x145_32, x145_33, x145_36, x145_38, x145_39, x145_42, x145_43, x145_46, x145_49, x145_50, x145_53, x145_55, x145_58, x145_61, x145_62, x145_65, x145_66, x145_68, x145_71, x145_72, x145_73, x145_74, x145_77, x145_78, x145_81, x145_84, x145_85, x145_88, x145_90, x145_93, x145_96, x145_97, x145_100, x145_101, nI_add, pk_mul, q_cl31, q_vin, q_le, q_lt, q_eqn, q_b_0, q_b_t, q_b_f, q_nz, q_nz1, q_nz0, q_tl, q_tn, true_and, and_true, not_true_eq_false, not_false_eq_true, ite_true, ite_false, ↓reduceIte, true_or, or_true, and_self, ne_eq, q_or1, q_or2, Nat.add_eq_zero_iff, and_false, false_and, List.length_cons, List.length_nil, reduceCtorEq, q_toI, Nat.zero_add, Nat.le_refl, q_c0, q_c1, q_c2, q_c4, q_c9, q_c12, q_c30, q_c99, q_c100, q_c126, q_c32, q_c359, q_c999, ks0, kd0, kd1, kd2, kd3, kd5, kd6, kd7, hC.1, hP.1, ks1, ks2, ks3, ks4, ks5, kn0, kn1, kn2, kn3, kn4, kn5, kn6, kn7, kn8, km1, km2, km3, km4, km5, km6, km7, km8, kr0, kr1, kr2, kr3, kr5, kr6, kr7, kw5, kw6, kw7, kw8, ko0, ko1, ko2, ko3, ko4, ko5, ko6, ko7, ko8, kx1, kx2, kx3, c_hasv hN vN hI, e1, e2, i1, j1, u0, t0, hh, q_isv_n, uz, tz, decide_true, Bool.true_eq_false, Nat.not_lt_zero, l1]
          dsimp only
          rw [nI_add]
        · exact q_V_pr j3 I2.2.1.1 (by omega) (by omega) l2 l3
  · rw [if_neg hc]
    refine q_Cop_er (Or.inl rfl) fun Q => ?_
    rcases Bool.eq_false_or_eq_true (q_isv f x) with e1 | e1 <;> rcases Bool.eq_false_or_eq_true (q_isv f y) with e2 | e2
    all_goals first
      | exact absurd (by rw [e1, e2]; rfl) hc
      | simp (disch := omega) only [x145_0, x145_1, x145_4, x145_5, x145_8, x145_11, x145_12, x145_15, x145_16, x145_19, x145_22, x145_24, x145_25, x145_26, x145_27, x145_30, x145_31, x145_32, x145_33, x145_36, x145_38, x145_39, x145_42, x145_43, x145_46, x145_49, x145_50, x145_53, x145_55, x145_58, x145_61, x145_62, x145_65, x145_66, x145_68, x145_71, x145_72, x145_73, x145_74, x145_77, x145_78, x145_81, x145_84, x145_85, x145_88, x145_90, x145_93, x145_96, x145_97, x145_100, x145_101, nI_add, pk_mul, q_cl31, q_vin, q_le, q_lt, q_eqn, q_b_0, q_b_t, q_b_f, q_nz, q_nz1, q_nz0, q_tl, q_tn, true_and, and_true, not_true_eq_false, not_false_eq_true, ite_true, ite_false, ↓reduceIte, true_or, or_true, and_self, ne_eq, q_or1, q_or2, Nat.add_eq_zero_iff, and_false, false_and, List.length_cons, List.length_nil, reduceCtorEq, q_toI, Nat.zero_add, Nat.le_refl, q_c0, q_c1, q_c2, q_c4, q_c9, q_c12, q_c30, q_c99, q_c100, q_c126, q_c32, q_c359, q_c999, ks0, kd0, kd1, kd2, kd3, kd5, kd6, kd7, hC.1, hP.1, ks1, ks2, ks3, ks4, ks5, kn0, kn1, kn2, kn3, kn4, kn5, kn6, kn7, kn8, km1, km2, km3, km4, km5, km6, km7, km8, kr0, kr1, kr2, kr3, kr5, kr6, kr7, kw5, kw6, kw7, kw8, ko0, ko1, ko2, ko3, ko4, ko5, ko6, ko7, ko8, kx1, kx2, kx3, c_hasv hN vN hI, e1, e2, Bool.false_eq_true, Bool.true_eq_false]
end
