/-! the law -/
/-- where the small machine begins: the script, the static row, nothing else -/
def q_E0 (L : Nat) : q_E := (3, 0, fun a => if a = 1 then (1, L) else if a = 2 then (1, 10) else (0, 0), fun _ _ => 0)
def q_g0 (xs : Nat → Int32) : q_G := fun a => if a = 1 then xs else if a = 2 then q_bes else fun _ => 0
section
variable {L w i : Nat} {xs : Nat → Int32} {E : q_E} {g : q_G}
theorem q_begin (L : Nat) (xs : Nat → Int32) : ∃ E g, q_Rel L xs 0 E g ∧ ∀ Q : Option Value → q_E → q_G → Prop, q_X 164 0 [.ref 1, .null, .null, .null] [] (q_E0 L) (q_g0 xs) Q = q_X 164 18 [.ref 1, .ref 3, .ref 146, .int (nI 0)] [] E g Q := by
  obtain ⟨K0, hK⟩ : ∃ K0 : Nat → Nat × Nat, K0 = fun a => if a = 1 then (1, L) else if a = 2 then (1, 10) else (0, 0) := ⟨_, rfl⟩
  have hE : q_E0 L = (3, 0, K0, fun (_ _ : Nat) => (0 : Nat)) := by rw [hK]; rfl
  obtain ⟨K1, R1, g1, i1, b1, x1, x2, x3, x4, x5, x6, x7⟩ := c_iAll (c := 3) (s := 0 + 9) (K := q_tK K0 3 (12, 9)) (R := q_tZ (fun (_ _ : Nat) => (0 : Nat)) 3) (g := q_upA (q_g0 xs) 3 (fun _ => nI 0)) (tK_e rfl)
  obtain ⟨K2, R2, g2, j1, b2, y1, y2, y3⟩ := c_iMod (c := 3 + 143) (s := 0 + 9 + 2070 + 8) (K := q_tK K1 (3 + 143) (13, 8)) (R := q_tZ R1 (3 + 143)) (g := q_upA g1 (3 + 143) (fun _ => nI 0)) (tK_e rfl) (fun i => by rw [q_upA_s])
  have tr : q_Bet 0 146 K1 K2 R1 R2 g1 g2 := fun a _ ha => ⟨(b2 a ha).1.trans (tK_n (Nat.ne_of_lt ha)), fun j => ((b2 a ha).2.1 j).trans (tZ_n (Nat.ne_of_lt ha)), (b2 a ha).2.2.trans (q_upA_n _ _ (Nat.ne_of_lt ha))⟩
  have t0 : ∀ a, a < 3 → K2 a = K0 a ∧ g2 a = q_g0 xs a := fun a ha => ⟨(tr a (Nat.zero_le _) (by omega)).1.trans ((b1 a ha).1.trans (tK_n (by omega))), (tr a (Nat.zero_le _) (by omega)).2.2.trans ((b1 a ha).2.2.trans (q_upA_n _ _ (by omega)))⟩
  have rf : ∀ a j x, a < 146 → R1 a j = x → R2 a j = x := fun a j x ha hx => ((tr a (Nat.zero_le _) ha).2.1 j).trans hx
  have kd : ∀ a x, a < 146 → K1 a = x → K2 a = x := fun a x ha hx => (tr a (Nat.zero_le _) ha).1.trans hx
  have gg : ∀ a, a < 146 → g2 a = g1 a := fun a ha => (tr a (Nat.zero_le _) ha).2.2
  have sta : ∀ b, q_okb b → q_StaB (0, 0, K2, R2) b := by
    obtain ⟨s0, s1, s2, s3, s4, s5⟩ := x4
    intro b hb
    rcases hb with rfl | rfl | rfl | rfl | rfl | rfl
    · exact q_Sta_t s0 tr (Nat.zero_le _) (by decide)
    · exact q_Sta_t s1 tr (Nat.zero_le _) (by decide)
    · exact q_Sta_t s2 tr (Nat.zero_le _) (by decide)
    · exact q_Sta_t s3 tr (Nat.zero_le _) (by decide)
    · exact q_Sta_t s4 tr (Nat.zero_le _) (by decide)
    · exact q_Sta_t s5 tr (Nat.zero_le _) (by decide)
  have f147 : ∀ i, i < 312 → g2 147 i = q_f0 i := y3
  refine ⟨(150, 4022, K2, R2), g2, ⟨⟨⟨⟨rfl, Nat.le_refl _, ?_, ?_⟩, ⟨kd 3 _ (by decide) x1.1, rf 3 7 _ (by decide) x1.2.1, rf 3 8 _ (by decide) x1.2.2.1, kd 145 _ (by decide) x1.2.2.2⟩, ⟨kd 142 _ (by decide) x2.1, rf 142 0 _ (by decide) x2.2.1, rf 142 2 _ (by decide) x2.2.2.1, kd 143 _ (by decide) x2.2.2.2.1, kd 144 _ (by decide) x2.2.2.2.2⟩, y1, fun b hb => sta b hb⟩, ?_, ?_, ?_, fun i hi => ?_⟩, 0, 0, ⟨by decide, ?_, y2 1⟩, ⟨⟨⟨?_, by decide⟩, fun i hi => absurd hi (Nat.not_lt_zero _), fun i hi => absurd hi (Nat.not_lt_zero _)⟩, y2 3⟩, fun j hj => ?_, ?_, fun h h1 h2 => ?_⟩, fun Q => ?_⟩
  · show K2 1 = _
    rw [(t0 1 (by decide)).1, hK]; rfl
  · show K2 2 = _
    rw [(t0 2 (by decide)).1, hK]; rfl
  · obtain ⟨r0, r1, r2, r3, r4, r5⟩ := x3
    exact q_Slo_mk (rf 3 0 _ (by decide) r0) (rf 3 1 _ (by decide) r1) (rf 3 2 _ (by decide) r2) (rf 3 3 _ (by decide) r3) (rf 3 4 _ (by decide) r4) (rf 3 5 _ (by decide) r5) (by unfold q_okb; decide) (by decide)
  · rw [(t0 1 (by decide)).2]; rfl
  · show K2 2 = _
    rw [(t0 2 (by decide)).1, hK]; rfl
  · rw [(t0 2 (by decide)).2]; rfl
  · rw [gg 3 (by decide)]; exact x5
  · rw [gg 142 (by decide)]; exact x6
  · obtain rfl : j = 0 := by omega
    exact ⟨q_In_k f0_In f147, q_Wb_c f0_W f147⟩
  · show q_Vsta g2 (R2 3 0) (g2 147)
    rw [rf 3 0 _ (by decide) x3.1]
    exact q_V_c (q_V_o x7 fun b c1 c2 => gg b (by omega)) (by rw [f0_n.2.1]; decide) f147
  · exact absurd h2 (by omega)
  · rw [hE]
    conv => lhs; simp (disch := omega) only [x164_0, x164_3, x164_4, x164_7, x164_8, x164_11, x164_12, x164_15, x164_16, x164_17, nI_add, pk_mul, q_cl31, q_vin, q_le, q_lt, q_eqn, q_b_0, q_b_t, q_b_f, q_nz, q_nz1, q_nz0, q_tl, q_tn, true_and, and_true, not_true_eq_false, not_false_eq_true, ite_true, ite_false, ↓reduceIte, true_or, or_true, and_self, ne_eq, q_or1, q_or2, Nat.add_eq_zero_iff, and_false, false_and, List.length_cons, List.length_nil, reduceCtorEq, q_toI, Nat.zero_add, Nat.le_refl, q_c0, q_c1, q_c2, q_c4, q_c9, q_c12, q_c30, q_c99, q_c100, q_c126, q_c32, q_c359, q_c999, e_new, e_set, e_kd, e_rf, i1, j1]
    try exact rfl
theorem l_verse (hi : i + 4 ≤ L) (hL : L ≤ 2048) (hw : w ≤ 1000000) (hR : q_Rel L xs w E g) : ∃ E' g', q_Rel L xs (w + 60) E' g' ∧ ∀ Q : Option Value → q_E → q_G → Prop, q_X 164 148 [.ref 1, .ref 3, .ref 146, .int (nI i)] [] E g Q = q_X 164 833 [.ref 1, .ref 3, .ref 146, .int (nI i)] [] E' g' Q := by
  obtain ⟨r, E1, g1, g2, p1, p2, ⟨e1, e2, e3⟩, p3⟩ := tt_verse hR (xs (i + 1)) (xs (i + 2)) (xs (i + 3))
  obtain ⟨⟨⟨-, -, a1, -⟩, ⟨a2, -⟩, -⟩, -, h1, -⟩ := hR.1
  refine ⟨E1, g2, p3, fun Q => ?_⟩
  conv => lhs; simp (disch := omega) only [x164_148, x164_149, x164_150, x164_151, x164_152, x164_153, x164_154, x164_155, x164_156, x164_157, x164_158, x164_159, x164_160, x164_161, x164_162, x164_163, x164_164, x164_167, x164_168, x164_169, x164_170, x164_171, x164_172, x164_173, x164_174, x164_175, x164_176, x164_177, x164_178, x164_179, x164_180, x164_181, x164_182, x164_183, x164_186, x164_189, x164_190, nI_add, pk_mul, q_cl31, q_vin, q_le, q_lt, q_eqn, q_b_0, q_b_t, q_b_f, q_nz, q_nz1, q_nz0, q_tl, q_tn, true_and, and_true, not_true_eq_false, not_false_eq_true, ite_true, ite_false, ↓reduceIte, true_or, or_true, and_self, ne_eq, q_or1, q_or2, Nat.add_eq_zero_iff, and_false, false_and, List.length_cons, List.length_nil, reduceCtorEq, q_toI, Nat.zero_add, Nat.le_refl, q_c0, q_c1, q_c2, q_c4, q_c9, q_c12, q_c30, q_c99, q_c100, q_c126, q_c32, q_c359, q_c999, a1, a2, h1, p1, p2, e1, e2, e3, eq_self]
theorem l_season (hi : i + 4 ≤ L) (hL : L ≤ 2048) (hw : w ≤ 1000000) (hR : q_Rel L xs w E g) : ∃ E' g', q_Rel L xs (w + 60) E' g' ∧ ∀ Q : Option Value → q_E → q_G → Prop, q_X 164 191 [.ref 1, .ref 3, .ref 146, .int (nI i)] [] E g Q = q_X 164 833 [.ref 1, .ref 3, .ref 146, .int (nI i)] [] E' g' Q := by
  obtain ⟨r, E1, g1, g2, p1, p2, ⟨e1, e2, e3⟩, p3⟩ := tt_season hR (xs (i + 1)) (xs (i + 2)) (xs (i + 3))
  obtain ⟨⟨⟨-, -, a1, -⟩, ⟨a2, -⟩, -⟩, -, h1, -⟩ := hR.1
  refine ⟨E1, g2, p3, fun Q => ?_⟩
  conv => lhs; simp (disch := omega) only [x164_191, x164_192, x164_193, x164_194, x164_195, x164_196, x164_197, x164_198, x164_199, x164_200, x164_201, x164_202, x164_203, x164_204, x164_205, x164_206, x164_207, x164_210, x164_211, x164_212, x164_213, x164_214, x164_215, x164_216, x164_217, x164_218, x164_219, x164_220, x164_221, x164_222, x164_223, x164_224, x164_225, x164_226, x164_229, x164_232, x164_233, nI_add, pk_mul, q_cl31, q_vin, q_le, q_lt, q_eqn, q_b_0, q_b_t, q_b_f, q_nz, q_nz1, q_nz0, q_tl, q_tn, true_and, and_true, not_true_eq_false, not_false_eq_true, ite_true, ite_false, ↓reduceIte, true_or, or_true, and_self, ne_eq, q_or1, q_or2, Nat.add_eq_zero_iff, and_false, false_and, List.length_cons, List.length_nil, reduceCtorEq, q_toI, Nat.zero_add, Nat.le_refl, q_c0, q_c1, q_c2, q_c4, q_c9, q_c12, q_c30, q_c99, q_c100, q_c126, q_c32, q_c359, q_c999, a1, a2, h1, p1, p2, e1, e2, e3, eq_self]
theorem l_order (hi : i + 4 ≤ L) (hL : L ≤ 2048) (hw : w ≤ 1000000) (hR : q_Rel L xs w E g) : ∃ E' g', q_Rel L xs (w + 60) E' g' ∧ ∀ Q : Option Value → q_E → q_G → Prop, q_X 164 234 [.ref 1, .ref 3, .ref 146, .int (nI i)] [] E g Q = q_X 164 833 [.ref 1, .ref 3, .ref 146, .int (nI i)] [] E' g' Q := by
  obtain ⟨r, E1, g1, g2, p1, p2, ⟨e1, e2, e3⟩, p3⟩ := tt_order hR (xs (i + 1)) (xs (i + 2))
  obtain ⟨⟨⟨-, -, a1, -⟩, ⟨a2, -⟩, -⟩, -, h1, -⟩ := hR.1
  refine ⟨E1, g2, p3, fun Q => ?_⟩
  conv => lhs; simp (disch := omega) only [x164_234, x164_235, x164_236, x164_237, x164_238, x164_239, x164_240, x164_241, x164_242, x164_243, x164_244, x164_245, x164_248, x164_249, x164_250, x164_251, x164_252, x164_253, x164_254, x164_255, x164_256, x164_257, x164_258, x164_259, x164_262, x164_265, x164_266, nI_add, pk_mul, q_cl31, q_vin, q_le, q_lt, q_eqn, q_b_0, q_b_t, q_b_f, q_nz, q_nz1, q_nz0, q_tl, q_tn, true_and, and_true, not_true_eq_false, not_false_eq_true, ite_true, ite_false, ↓reduceIte, true_or, or_true, and_self, ne_eq, q_or1, q_or2, Nat.add_eq_zero_iff, and_false, false_and, List.length_cons, List.length_nil, reduceCtorEq, q_toI, Nat.zero_add, Nat.le_refl, q_c0, q_c1, q_c2, q_c4, q_c9, q_c12, q_c30, q_c99, q_c100, q_c126, q_c32, q_c359, q_c999, a1, a2, h1, p1, p2, e1, e2, e3, eq_self]
theorem l_lay (hi : i + 4 ≤ L) (hL : L ≤ 2048) (hw : w ≤ 1000000) (hR : q_Rel L xs w E g) : ∃ E' g', q_Rel L xs (w + 60) E' g' ∧ ∀ Q : Option Value → q_E → q_G → Prop, q_X 164 267 [.ref 1, .ref 3, .ref 146, .int (nI i)] [] E g Q = q_X 164 833 [.ref 1, .ref 3, .ref 146, .int (nI i)] [] E' g' Q := by
  obtain ⟨r, E1, g1, g2, p1, p2, ⟨e1, e2, e3⟩, p3⟩ := tt_lay hR (xs (i + 1)) (xs (i + 2)) (xs (i + 3))
  obtain ⟨⟨⟨-, -, a1, -⟩, ⟨a2, -⟩, -⟩, -, h1, -⟩ := hR.1
  refine ⟨E1, g2, p3, fun Q => ?_⟩
  conv => lhs; simp (disch := omega) only [x164_267, x164_268, x164_269, x164_270, x164_271, x164_272, x164_273, x164_274, x164_275, x164_276, x164_277, x164_278, x164_279, x164_280, x164_281, x164_282, x164_283, x164_286, x164_287, x164_288, x164_289, x164_290, x164_291, x164_292, x164_293, x164_294, x164_295, x164_296, x164_297, x164_298, x164_299, x164_300, x164_301, x164_302, x164_305, x164_308, x164_309, nI_add, pk_mul, q_cl31, q_vin, q_le, q_lt, q_eqn, q_b_0, q_b_t, q_b_f, q_nz, q_nz1, q_nz0, q_tl, q_tn, true_and, and_true, not_true_eq_false, not_false_eq_true, ite_true, ite_false, ↓reduceIte, true_or, or_true, and_self, ne_eq, q_or1, q_or2, Nat.add_eq_zero_iff, and_false, false_and, List.length_cons, List.length_nil, reduceCtorEq, q_toI, Nat.zero_add, Nat.le_refl, q_c0, q_c1, q_c2, q_c4, q_c9, q_c12, q_c30, q_c99, q_c100, q_c126, q_c32, q_c359, q_c999, a1, a2, h1, p1, p2, e1, e2, e3, eq_self]
theorem l_clear (hi : i + 4 ≤ L) (hL : L ≤ 2048) (hw : w ≤ 1000000) (hR : q_Rel L xs w E g) : ∃ E' g', q_Rel L xs (w + 60) E' g' ∧ ∀ Q : Option Value → q_E → q_G → Prop, q_X 164 310 [.ref 1, .ref 3, .ref 146, .int (nI i)] [] E g Q = q_X 164 833 [.ref 1, .ref 3, .ref 146, .int (nI i)] [] E' g' Q := by
  obtain ⟨r, E1, g1, g2, p1, p2, ⟨e1, e2, e3⟩, p3⟩ := tt_clear hR (xs (i + 1))
  obtain ⟨⟨⟨-, -, a1, -⟩, ⟨a2, -⟩, -⟩, -, h1, -⟩ := hR.1
  refine ⟨E1, g2, p3, fun Q => ?_⟩
  conv => lhs; simp (disch := omega) only [x164_310, x164_311, x164_312, x164_313, x164_314, x164_315, x164_316, x164_319, x164_320, x164_321, x164_322, x164_323, x164_324, x164_325, x164_328, x164_331, x164_332, nI_add, pk_mul, q_cl31, q_vin, q_le, q_lt, q_eqn, q_b_0, q_b_t, q_b_f, q_nz, q_nz1, q_nz0, q_tl, q_tn, true_and, and_true, not_true_eq_false, not_false_eq_true, ite_true, ite_false, ↓reduceIte, true_or, or_true, and_self, ne_eq, q_or1, q_or2, Nat.add_eq_zero_iff, and_false, false_and, List.length_cons, List.length_nil, reduceCtorEq, q_toI, Nat.zero_add, Nat.le_refl, q_c0, q_c1, q_c2, q_c4, q_c9, q_c12, q_c30, q_c99, q_c100, q_c126, q_c32, q_c359, q_c999, a1, a2, h1, p1, p2, e1, e2, e3, eq_self]
theorem l_sell (hi : i + 4 ≤ L) (hL : L ≤ 2048) (hw : w ≤ 1000000) (hR : q_Rel L xs w E g) : ∃ E' g', q_Rel L xs (w + 60) E' g' ∧ ∀ Q : Option Value → q_E → q_G → Prop, q_X 164 333 [.ref 1, .ref 3, .ref 146, .int (nI i)] [] E g Q = q_X 164 833 [.ref 1, .ref 3, .ref 146, .int (nI i)] [] E' g' Q := by
  obtain ⟨r, E1, g1, g2, p1, p2, ⟨e1, e2, e3⟩, p3⟩ := tt_sell hR (xs (i + 1))
  obtain ⟨⟨⟨-, -, a1, -⟩, ⟨a2, -⟩, -⟩, -, h1, -⟩ := hR.1
  refine ⟨E1, g2, p3, fun Q => ?_⟩
  conv => lhs; simp (disch := omega) only [x164_333, x164_334, x164_335, x164_336, x164_337, x164_338, x164_339, x164_342, x164_343, x164_344, x164_345, x164_346, x164_347, x164_348, x164_351, x164_354, x164_355, nI_add, pk_mul, q_cl31, q_vin, q_le, q_lt, q_eqn, q_b_0, q_b_t, q_b_f, q_nz, q_nz1, q_nz0, q_tl, q_tn, true_and, and_true, not_true_eq_false, not_false_eq_true, ite_true, ite_false, ↓reduceIte, true_or, or_true, and_self, ne_eq, q_or1, q_or2, Nat.add_eq_zero_iff, and_false, false_and, List.length_cons, List.length_nil, reduceCtorEq, q_toI, Nat.zero_add, Nat.le_refl, q_c0, q_c1, q_c2, q_c4, q_c9, q_c12, q_c30, q_c99, q_c100, q_c126, q_c32, q_c359, q_c999, a1, a2, h1, p1, p2, e1, e2, e3, eq_self]
theorem l_sellTwo (hi : i + 4 ≤ L) (hL : L ≤ 2048) (hw : w ≤ 1000000) (hR : q_Rel L xs w E g) : ∃ E' g', q_Rel L xs (w + 60) E' g' ∧ ∀ Q : Option Value → q_E → q_G → Prop, q_X 164 356 [.ref 1, .ref 3, .ref 146, .int (nI i)] [] E g Q = q_X 164 833 [.ref 1, .ref 3, .ref 146, .int (nI i)] [] E' g' Q := by
  obtain ⟨r, E1, g1, g2, p1, p2, ⟨e1, e2, e3⟩, p3⟩ := tt_sellTwo hR (xs (i + 1)) (xs (i + 2))
  obtain ⟨⟨⟨-, -, a1, -⟩, ⟨a2, -⟩, -⟩, -, h1, -⟩ := hR.1
  refine ⟨E1, g2, p3, fun Q => ?_⟩
  conv => lhs; simp (disch := omega) only [x164_356, x164_357, x164_358, x164_359, x164_360, x164_361, x164_362, x164_363, x164_364, x164_365, x164_366, x164_367, x164_370, x164_371, x164_372, x164_373, x164_374, x164_375, x164_376, x164_377, x164_378, x164_379, x164_380, x164_381, x164_384, x164_387, x164_388, nI_add, pk_mul, q_cl31, q_vin, q_le, q_lt, q_eqn, q_b_0, q_b_t, q_b_f, q_nz, q_nz1, q_nz0, q_tl, q_tn, true_and, and_true, not_true_eq_false, not_false_eq_true, ite_true, ite_false, ↓reduceIte, true_or, or_true, and_self, ne_eq, q_or1, q_or2, Nat.add_eq_zero_iff, and_false, false_and, List.length_cons, List.length_nil, reduceCtorEq, q_toI, Nat.zero_add, Nat.le_refl, q_c0, q_c1, q_c2, q_c4, q_c9, q_c12, q_c30, q_c99, q_c100, q_c126, q_c32, q_c359, q_c999, a1, a2, h1, p1, p2, e1, e2, e3, eq_self]
theorem l_giveBack (hi : i + 4 ≤ L) (hL : L ≤ 2048) (hw : w ≤ 1000000) (hR : q_Rel L xs w E g) : ∃ E' g', q_Rel L xs (w + 60) E' g' ∧ ∀ Q : Option Value → q_E → q_G → Prop, q_X 164 389 [.ref 1, .ref 3, .ref 146, .int (nI i)] [] E g Q = q_X 164 833 [.ref 1, .ref 3, .ref 146, .int (nI i)] [] E' g' Q := by
  obtain ⟨r, E1, g1, g2, p1, p2, ⟨e1, e2, e3⟩, p3⟩ := tt_giveBack hR 
  obtain ⟨⟨⟨-, -, a1, -⟩, ⟨a2, -⟩, -⟩, -, h1, -⟩ := hR.1
  refine ⟨E1, g2, p3, fun Q => ?_⟩
  conv => lhs; simp (disch := omega) only [x164_389, x164_390, x164_393, x164_394, x164_397, x164_400, x164_401, nI_add, pk_mul, q_cl31, q_vin, q_le, q_lt, q_eqn, q_b_0, q_b_t, q_b_f, q_nz, q_nz1, q_nz0, q_tl, q_tn, true_and, and_true, not_true_eq_false, not_false_eq_true, ite_true, ite_false, ↓reduceIte, true_or, or_true, and_self, ne_eq, q_or1, q_or2, Nat.add_eq_zero_iff, and_false, false_and, List.length_cons, List.length_nil, reduceCtorEq, q_toI, Nat.zero_add, Nat.le_refl, q_c0, q_c1, q_c2, q_c4, q_c9, q_c12, q_c30, q_c99, q_c100, q_c126, q_c32, q_c359, q_c999, a1, a2, h1, p1, p2, e1, e2, e3, eq_self]
theorem l_pass (hi : i + 4 ≤ L) (hL : L ≤ 2048) (hw : w ≤ 1000000) (hR : q_Rel L xs w E g) : ∃ E' g', q_Rel L xs (w + 60) E' g' ∧ ∀ Q : Option Value → q_E → q_G → Prop, q_X 164 402 [.ref 1, .ref 3, .ref 146, .int (nI i)] [] E g Q = q_X 164 833 [.ref 1, .ref 3, .ref 146, .int (nI i)] [] E' g' Q := by
  obtain ⟨r, E1, g1, g2, p1, p2, ⟨e1, e2, e3⟩, p3⟩ := tt_pass hR (xs (i + 1))
  obtain ⟨⟨⟨-, -, a1, -⟩, ⟨a2, -⟩, -⟩, -, h1, -⟩ := hR.1
  refine ⟨E1, g2, p3, fun Q => ?_⟩
  conv => lhs; simp (disch := omega) only [x164_402, x164_403, x164_404, x164_405, x164_406, x164_407, x164_408, x164_411, x164_412, x164_413, x164_414, x164_415, x164_416, x164_417, x164_420, x164_423, x164_424, nI_add, pk_mul, q_cl31, q_vin, q_le, q_lt, q_eqn, q_b_0, q_b_t, q_b_f, q_nz, q_nz1, q_nz0, q_tl, q_tn, true_and, and_true, not_true_eq_false, not_false_eq_true, ite_true, ite_false, ↓reduceIte, true_or, or_true, and_self, ne_eq, q_or1, q_or2, Nat.add_eq_zero_iff, and_false, false_and, List.length_cons, List.length_nil, reduceCtorEq, q_toI, Nat.zero_add, Nat.le_refl, q_c0, q_c1, q_c2, q_c4, q_c9, q_c12, q_c30, q_c99, q_c100, q_c126, q_c32, q_c359, q_c999, a1, a2, h1, p1, p2, e1, e2, e3, eq_self]
theorem l_set (hi : i + 4 ≤ L) (hL : L ≤ 2048) (hw : w ≤ 1000000) (hR : q_Rel L xs w E g) : ∃ E' g', q_Rel L xs (w + 60) E' g' ∧ ∀ Q : Option Value → q_E → q_G → Prop, q_X 164 425 [.ref 1, .ref 3, .ref 146, .int (nI i)] [] E g Q = q_X 164 833 [.ref 1, .ref 3, .ref 146, .int (nI i)] [] E' g' Q := by
  obtain ⟨r, E1, g1, g2, p1, p2, ⟨e1, e2, e3⟩, p3⟩ := tt_set hR (xs (i + 1)) (xs (i + 2))
  obtain ⟨⟨⟨-, -, a1, -⟩, ⟨a2, -⟩, -⟩, -, h1, -⟩ := hR.1
  refine ⟨E1, g2, p3, fun Q => ?_⟩
  conv => lhs; simp (disch := omega) only [x164_425, x164_426, x164_427, x164_428, x164_429, x164_430, x164_431, x164_432, x164_433, x164_434, x164_435, x164_436, x164_439, x164_440, x164_441, x164_442, x164_443, x164_444, x164_445, x164_446, x164_447, x164_448, x164_449, x164_450, x164_453, x164_456, x164_457, nI_add, pk_mul, q_cl31, q_vin, q_le, q_lt, q_eqn, q_b_0, q_b_t, q_b_f, q_nz, q_nz1, q_nz0, q_tl, q_tn, true_and, and_true, not_true_eq_false, not_false_eq_true, ite_true, ite_false, ↓reduceIte, true_or, or_true, and_self, ne_eq, q_or1, q_or2, Nat.add_eq_zero_iff, and_false, false_and, List.length_cons, List.length_nil, reduceCtorEq, q_toI, Nat.zero_add, Nat.le_refl, q_c0, q_c1, q_c2, q_c4, q_c9, q_c12, q_c30, q_c99, q_c100, q_c126, q_c32, q_c359, q_c999, a1, a2, h1, p1, p2, e1, e2, e3, eq_self]
theorem l_verseOf (hi : i + 4 ≤ L) (hL : L ≤ 2048) (hw : w ≤ 1000000) (hR : q_Rel L xs w E g) : ∃ E' g', q_Rel L xs (w + 60) E' g' ∧ ∀ Q : Option Value → q_E → q_G → Prop, q_X 164 458 [.ref 1, .ref 3, .ref 146, .int (nI i)] [] E g Q = q_X 164 833 [.ref 1, .ref 3, .ref 146, .int (nI i)] [] E' g' Q := by
  obtain ⟨r, E1, g1, g2, p1, p2, ⟨e1, e2, e3⟩, p3⟩ := tt_verseOf hR (xs (i + 1)) (xs (i + 2))
  obtain ⟨⟨⟨-, -, a1, -⟩, ⟨a2, -⟩, -⟩, -, h1, -⟩ := hR.1
  refine ⟨E1, g2, p3, fun Q => ?_⟩
  conv => lhs; simp (disch := omega) only [x164_458, x164_459, x164_460, x164_461, x164_462, x164_463, x164_464, x164_465, x164_466, x164_467, x164_468, x164_469, x164_472, x164_473, x164_474, x164_475, x164_476, x164_477, x164_478, x164_479, x164_480, x164_481, x164_482, x164_483, x164_486, x164_489, x164_490, nI_add, pk_mul, q_cl31, q_vin, q_le, q_lt, q_eqn, q_b_0, q_b_t, q_b_f, q_nz, q_nz1, q_nz0, q_tl, q_tn, true_and, and_true, not_true_eq_false, not_false_eq_true, ite_true, ite_false, ↓reduceIte, true_or, or_true, and_self, ne_eq, q_or1, q_or2, Nat.add_eq_zero_iff, and_false, false_and, List.length_cons, List.length_nil, reduceCtorEq, q_toI, Nat.zero_add, Nat.le_refl, q_c0, q_c1, q_c2, q_c4, q_c9, q_c12, q_c30, q_c99, q_c100, q_c126, q_c32, q_c359, q_c999, a1, a2, h1, p1, p2, e1, e2, e3, eq_self]
theorem l_slotOf (hi : i + 4 ≤ L) (hL : L ≤ 2048) (hw : w ≤ 1000000) (hR : q_Rel L xs w E g) : ∃ E' g', q_Rel L xs (w + 60) E' g' ∧ ∀ Q : Option Value → q_E → q_G → Prop, q_X 164 491 [.ref 1, .ref 3, .ref 146, .int (nI i)] [] E g Q = q_X 164 833 [.ref 1, .ref 3, .ref 146, .int (nI i)] [] E' g' Q := by
  obtain ⟨r, E1, g1, g2, p1, p2, ⟨e1, e2, e3⟩, p3⟩ := tt_slotOf hR (xs (i + 1)) (xs (i + 2))
  obtain ⟨⟨⟨-, -, a1, -⟩, ⟨a2, -⟩, -⟩, -, h1, -⟩ := hR.1
  refine ⟨E1, g2, p3, fun Q => ?_⟩
  conv => lhs; simp (disch := omega) only [x164_491, x164_492, x164_493, x164_494, x164_495, x164_496, x164_497, x164_498, x164_499, x164_500, x164_501, x164_502, x164_505, x164_506, x164_507, x164_508, x164_509, x164_510, x164_511, x164_512, x164_513, x164_514, x164_515, x164_516, x164_519, x164_522, x164_523, nI_add, pk_mul, q_cl31, q_vin, q_le, q_lt, q_eqn, q_b_0, q_b_t, q_b_f, q_nz, q_nz1, q_nz0, q_tl, q_tn, true_and, and_true, not_true_eq_false, not_false_eq_true, ite_true, ite_false, ↓reduceIte, true_or, or_true, and_self, ne_eq, q_or1, q_or2, Nat.add_eq_zero_iff, and_false, false_and, List.length_cons, List.length_nil, reduceCtorEq, q_toI, Nat.zero_add, Nat.le_refl, q_c0, q_c1, q_c2, q_c4, q_c9, q_c12, q_c30, q_c99, q_c100, q_c126, q_c32, q_c359, q_c999, a1, a2, h1, p1, p2, e1, e2, e3, eq_self]
theorem l_orderOf (hi : i + 4 ≤ L) (hL : L ≤ 2048) (hw : w ≤ 1000000) (hR : q_Rel L xs w E g) : ∃ E' g', q_Rel L xs (w + 60) E' g' ∧ ∀ Q : Option Value → q_E → q_G → Prop, q_X 164 524 [.ref 1, .ref 3, .ref 146, .int (nI i)] [] E g Q = q_X 164 833 [.ref 1, .ref 3, .ref 146, .int (nI i)] [] E' g' Q := by
  obtain ⟨r, E1, g1, g2, p1, p2, ⟨e1, e2, e3⟩, p3⟩ := tt_orderOf hR (xs (i + 1)) (xs (i + 2))
  obtain ⟨⟨⟨-, -, a1, -⟩, ⟨a2, -⟩, -⟩, -, h1, -⟩ := hR.1
  refine ⟨E1, g2, p3, fun Q => ?_⟩
  conv => lhs; simp (disch := omega) only [x164_524, x164_525, x164_526, x164_527, x164_528, x164_529, x164_530, x164_531, x164_532, x164_533, x164_534, x164_535, x164_538, x164_539, x164_540, x164_541, x164_542, x164_543, x164_544, x164_545, x164_546, x164_547, x164_548, x164_549, x164_552, x164_555, x164_556, nI_add, pk_mul, q_cl31, q_vin, q_le, q_lt, q_eqn, q_b_0, q_b_t, q_b_f, q_nz, q_nz1, q_nz0, q_tl, q_tn, true_and, and_true, not_true_eq_false, not_false_eq_true, ite_true, ite_false, ↓reduceIte, true_or, or_true, and_self, ne_eq, q_or1, q_or2, Nat.add_eq_zero_iff, and_false, false_and, List.length_cons, List.length_nil, reduceCtorEq, q_toI, Nat.zero_add, Nat.le_refl, q_c0, q_c1, q_c2, q_c4, q_c9, q_c12, q_c30, q_c99, q_c100, q_c126, q_c32, q_c359, q_c999, a1, a2, h1, p1, p2, e1, e2, e3, eq_self]
theorem l_occasionOf (hi : i + 4 ≤ L) (hL : L ≤ 2048) (hw : w ≤ 1000000) (hR : q_Rel L xs w E g) : ∃ E' g', q_Rel L xs (w + 60) E' g' ∧ ∀ Q : Option Value → q_E → q_G → Prop, q_X 164 557 [.ref 1, .ref 3, .ref 146, .int (nI i)] [] E g Q = q_X 164 833 [.ref 1, .ref 3, .ref 146, .int (nI i)] [] E' g' Q := by
  obtain ⟨r, E1, g1, g2, p1, p2, ⟨e1, e2, e3⟩, p3⟩ := tt_occasionOf hR (xs (i + 1)) (xs (i + 2))
  obtain ⟨⟨⟨-, -, a1, -⟩, ⟨a2, -⟩, -⟩, -, h1, -⟩ := hR.1
  refine ⟨E1, g2, p3, fun Q => ?_⟩
  conv => lhs; simp (disch := omega) only [x164_557, x164_558, x164_559, x164_560, x164_561, x164_562, x164_563, x164_564, x164_565, x164_566, x164_567, x164_568, x164_571, x164_572, x164_573, x164_574, x164_575, x164_576, x164_577, x164_578, x164_579, x164_580, x164_581, x164_582, x164_585, x164_588, x164_589, nI_add, pk_mul, q_cl31, q_vin, q_le, q_lt, q_eqn, q_b_0, q_b_t, q_b_f, q_nz, q_nz1, q_nz0, q_tl, q_tn, true_and, and_true, not_true_eq_false, not_false_eq_true, ite_true, ite_false, ↓reduceIte, true_or, or_true, and_self, ne_eq, q_or1, q_or2, Nat.add_eq_zero_iff, and_false, false_and, List.length_cons, List.length_nil, reduceCtorEq, q_toI, Nat.zero_add, Nat.le_refl, q_c0, q_c1, q_c2, q_c4, q_c9, q_c12, q_c30, q_c99, q_c100, q_c126, q_c32, q_c359, q_c999, a1, a2, h1, p1, p2, e1, e2, e3, eq_self]
theorem l_together (hi : i + 4 ≤ L) (hL : L ≤ 2048) (hw : w ≤ 1000000) (hR : q_Rel L xs w E g) : ∃ E' g', q_Rel L xs (w + 60) E' g' ∧ ∀ Q : Option Value → q_E → q_G → Prop, q_X 164 590 [.ref 1, .ref 3, .ref 146, .int (nI i)] [] E g Q = q_X 164 833 [.ref 1, .ref 3, .ref 146, .int (nI i)] [] E' g' Q := by
  obtain ⟨r, E1, g1, g2, p1, p2, ⟨e1, e2, e3⟩, p3⟩ := tt_together hR (xs (i + 1)) (xs (i + 2))
  obtain ⟨⟨⟨-, -, a1, -⟩, ⟨a2, -⟩, -⟩, -, h1, -⟩ := hR.1
  refine ⟨E1, g2, p3, fun Q => ?_⟩
  conv => lhs; simp (disch := omega) only [x164_590, x164_591, x164_592, x164_593, x164_594, x164_595, x164_596, x164_597, x164_598, x164_599, x164_600, x164_601, x164_604, x164_605, x164_606, x164_607, x164_608, x164_609, x164_610, x164_611, x164_612, x164_613, x164_614, x164_615, x164_618, x164_621, x164_622, nI_add, pk_mul, q_cl31, q_vin, q_le, q_lt, q_eqn, q_b_0, q_b_t, q_b_f, q_nz, q_nz1, q_nz0, q_tl, q_tn, true_and, and_true, not_true_eq_false, not_false_eq_true, ite_true, ite_false, ↓reduceIte, true_or, or_true, and_self, ne_eq, q_or1, q_or2, Nat.add_eq_zero_iff, and_false, false_and, List.length_cons, List.length_nil, reduceCtorEq, q_toI, Nat.zero_add, Nat.le_refl, q_c0, q_c1, q_c2, q_c4, q_c9, q_c12, q_c30, q_c99, q_c100, q_c126, q_c32, q_c359, q_c999, a1, a2, h1, p1, p2, e1, e2, e3, eq_self]
theorem l_would (hi : i + 4 ≤ L) (hL : L ≤ 2048) (hw : w ≤ 1000000) (hR : q_Rel L xs w E g) : ∃ E' g', q_Rel L xs (w + 60) E' g' ∧ ∀ Q : Option Value → q_E → q_G → Prop, q_X 164 623 [.ref 1, .ref 3, .ref 146, .int (nI i)] [] E g Q = q_X 164 833 [.ref 1, .ref 3, .ref 146, .int (nI i)] [] E' g' Q := by
  obtain ⟨r, E1, g1, g2, p1, p2, ⟨e1, e2, e3⟩, p3⟩ := tt_would hR (xs (i + 1)) (xs (i + 2))
  obtain ⟨⟨⟨-, -, a1, -⟩, ⟨a2, -⟩, -⟩, -, h1, -⟩ := hR.1
  refine ⟨E1, g2, p3, fun Q => ?_⟩
  conv => lhs; simp (disch := omega) only [x164_623, x164_624, x164_625, x164_626, x164_627, x164_628, x164_629, x164_630, x164_631, x164_632, x164_633, x164_634, x164_637, x164_638, x164_639, x164_640, x164_641, x164_642, x164_643, x164_644, x164_645, x164_646, x164_647, x164_648, x164_651, x164_654, x164_655, nI_add, pk_mul, q_cl31, q_vin, q_le, q_lt, q_eqn, q_b_0, q_b_t, q_b_f, q_nz, q_nz1, q_nz0, q_tl, q_tn, true_and, and_true, not_true_eq_false, not_false_eq_true, ite_true, ite_false, ↓reduceIte, true_or, or_true, and_self, ne_eq, q_or1, q_or2, Nat.add_eq_zero_iff, and_false, false_and, List.length_cons, List.length_nil, reduceCtorEq, q_toI, Nat.zero_add, Nat.le_refl, q_c0, q_c1, q_c2, q_c4, q_c9, q_c12, q_c30, q_c99, q_c100, q_c126, q_c32, q_c359, q_c999, a1, a2, h1, p1, p2, e1, e2, e3, eq_self]
theorem l_bestSlot (hi : i + 4 ≤ L) (hL : L ≤ 2048) (hw : w ≤ 1000000) (hR : q_Rel L xs w E g) : ∃ E' g', q_Rel L xs (w + 60) E' g' ∧ ∀ Q : Option Value → q_E → q_G → Prop, q_X 164 656 [.ref 1, .ref 3, .ref 146, .int (nI i)] [] E g Q = q_X 164 833 [.ref 1, .ref 3, .ref 146, .int (nI i)] [] E' g' Q := by
  obtain ⟨r, E1, g1, g2, p1, p2, ⟨e1, e2, e3⟩, p3⟩ := tt_bestSlot hR (xs (i + 1))
  obtain ⟨⟨⟨-, -, a1, -⟩, ⟨a2, -⟩, -⟩, -, h1, -⟩ := hR.1
  refine ⟨E1, g2, p3, fun Q => ?_⟩
  conv => lhs; simp (disch := omega) only [x164_656, x164_657, x164_658, x164_659, x164_660, x164_661, x164_662, x164_665, x164_666, x164_667, x164_668, x164_669, x164_670, x164_671, x164_674, x164_677, x164_678, nI_add, pk_mul, q_cl31, q_vin, q_le, q_lt, q_eqn, q_b_0, q_b_t, q_b_f, q_nz, q_nz1, q_nz0, q_tl, q_tn, true_and, and_true, not_true_eq_false, not_false_eq_true, ite_true, ite_false, ↓reduceIte, true_or, or_true, and_self, ne_eq, q_or1, q_or2, Nat.add_eq_zero_iff, and_false, false_and, List.length_cons, List.length_nil, reduceCtorEq, q_toI, Nat.zero_add, Nat.le_refl, q_c0, q_c1, q_c2, q_c4, q_c9, q_c12, q_c30, q_c99, q_c100, q_c126, q_c32, q_c359, q_c999, a1, a2, h1, p1, p2, e1, e2, e3, eq_self]
theorem l_partner (hi : i + 4 ≤ L) (hL : L ≤ 2048) (hw : w ≤ 1000000) (hR : q_Rel L xs w E g) : ∃ E' g', q_Rel L xs (w + 60) E' g' ∧ ∀ Q : Option Value → q_E → q_G → Prop, q_X 164 679 [.ref 1, .ref 3, .ref 146, .int (nI i)] [] E g Q = q_X 164 833 [.ref 1, .ref 3, .ref 146, .int (nI i)] [] E' g' Q := by
  obtain ⟨r, E1, g1, g2, p1, p2, ⟨e1, e2, e3⟩, p3⟩ := tt_partner hR (xs (i + 1))
  obtain ⟨⟨⟨-, -, a1, -⟩, ⟨a2, -⟩, -⟩, -, h1, -⟩ := hR.1
  refine ⟨E1, g2, p3, fun Q => ?_⟩
  conv => lhs; simp (disch := omega) only [x164_679, x164_680, x164_681, x164_682, x164_683, x164_684, x164_685, x164_688, x164_689, x164_690, x164_691, x164_692, x164_693, x164_694, x164_697, x164_700, x164_701, nI_add, pk_mul, q_cl31, q_vin, q_le, q_lt, q_eqn, q_b_0, q_b_t, q_b_f, q_nz, q_nz1, q_nz0, q_tl, q_tn, true_and, and_true, not_true_eq_false, not_false_eq_true, ite_true, ite_false, ↓reduceIte, true_or, or_true, and_self, ne_eq, q_or1, q_or2, Nat.add_eq_zero_iff, and_false, false_and, List.length_cons, List.length_nil, reduceCtorEq, q_toI, Nat.zero_add, Nat.le_refl, q_c0, q_c1, q_c2, q_c4, q_c9, q_c12, q_c30, q_c99, q_c100, q_c126, q_c32, q_c359, q_c999, a1, a2, h1, p1, p2, e1, e2, e3, eq_self]
theorem l_lasts (hi : i + 4 ≤ L) (hL : L ≤ 2048) (hw : w ≤ 1000000) (hR : q_Rel L xs w E g) : ∃ E' g', q_Rel L xs (w + 60) E' g' ∧ ∀ Q : Option Value → q_E → q_G → Prop, q_X 164 702 [.ref 1, .ref 3, .ref 146, .int (nI i)] [] E g Q = q_X 164 833 [.ref 1, .ref 3, .ref 146, .int (nI i)] [] E' g' Q := by
  obtain ⟨r, E1, g1, g2, p1, p2, ⟨e1, e2, e3⟩, p3⟩ := tt_lasts hR hw (xs (i + 1))
  obtain ⟨⟨⟨-, -, a1, -⟩, ⟨a2, -⟩, -⟩, -, h1, -⟩ := hR.1
  refine ⟨E1, g2, p3, fun Q => ?_⟩
  conv => lhs; simp (disch := omega) only [x164_702, x164_703, x164_704, x164_705, x164_706, x164_707, x164_708, x164_711, x164_712, x164_713, x164_714, x164_715, x164_716, x164_717, x164_720, x164_723, x164_724, nI_add, pk_mul, q_cl31, q_vin, q_le, q_lt, q_eqn, q_b_0, q_b_t, q_b_f, q_nz, q_nz1, q_nz0, q_tl, q_tn, true_and, and_true, not_true_eq_false, not_false_eq_true, ite_true, ite_false, ↓reduceIte, true_or, or_true, and_self, ne_eq, q_or1, q_or2, Nat.add_eq_zero_iff, and_false, false_and, List.length_cons, List.length_nil, reduceCtorEq, q_toI, Nat.zero_add, Nat.le_refl, q_c0, q_c1, q_c2, q_c4, q_c9, q_c12, q_c30, q_c99, q_c100, q_c126, q_c32, q_c359, q_c999, a1, a2, h1, p1, p2, e1, e2, e3, eq_self]
theorem l_count (hi : i + 4 ≤ L) (hL : L ≤ 2048) (hw : w ≤ 1000000) (hR : q_Rel L xs w E g) : ∃ E' g', q_Rel L xs (w + 60) E' g' ∧ ∀ Q : Option Value → q_E → q_G → Prop, q_X 164 725 [.ref 1, .ref 3, .ref 146, .int (nI i)] [] E g Q = q_X 164 833 [.ref 1, .ref 3, .ref 146, .int (nI i)] [] E' g' Q := by
  obtain ⟨r, E1, g1, g2, p1, p2, ⟨e1, e2, e3⟩, p3⟩ := tt_count hR (xs (i + 1))
  obtain ⟨⟨⟨-, -, a1, -⟩, ⟨a2, -⟩, -⟩, -, h1, -⟩ := hR.1
  refine ⟨E1, g2, p3, fun Q => ?_⟩
  conv => lhs; simp (disch := omega) only [x164_725, x164_726, x164_727, x164_728, x164_729, x164_730, x164_731, x164_734, x164_735, x164_736, x164_737, x164_738, x164_739, x164_740, x164_743, x164_746, x164_747, nI_add, pk_mul, q_cl31, q_vin, q_le, q_lt, q_eqn, q_b_0, q_b_t, q_b_f, q_nz, q_nz1, q_nz0, q_tl, q_tn, true_and, and_true, not_true_eq_false, not_false_eq_true, ite_true, ite_false, ↓reduceIte, true_or, or_true, and_self, ne_eq, q_or1, q_or2, Nat.add_eq_zero_iff, and_false, false_and, List.length_cons, List.length_nil, reduceCtorEq, q_toI, Nat.zero_add, Nat.le_refl, q_c0, q_c1, q_c2, q_c4, q_c9, q_c12, q_c30, q_c99, q_c100, q_c126, q_c32, q_c359, q_c999, a1, a2, h1, p1, p2, e1, e2, e3, eq_self]
theorem l_undo (hi : i + 4 ≤ L) (hL : L ≤ 2048) (hw : w ≤ 1000000) (hR : q_Rel L xs w E g) : ∃ E' g', q_Rel L xs (w + 60) E' g' ∧ ∀ Q : Option Value → q_E → q_G → Prop, q_X 164 748 [.ref 1, .ref 3, .ref 146, .int (nI i)] [] E g Q = q_X 164 833 [.ref 1, .ref 3, .ref 146, .int (nI i)] [] E' g' Q := by
  obtain ⟨r, E1, g1, g2, p1, p2, ⟨e1, e2, e3⟩, p3⟩ := tt_undo hR 
  obtain ⟨⟨⟨-, -, a1, -⟩, ⟨a2, -⟩, -⟩, -, h1, -⟩ := hR.1
  refine ⟨E1, g2, p3, fun Q => ?_⟩
  conv => lhs; simp (disch := omega) only [x164_748, x164_749, x164_752, x164_753, x164_756, x164_759, x164_760, nI_add, pk_mul, q_cl31, q_vin, q_le, q_lt, q_eqn, q_b_0, q_b_t, q_b_f, q_nz, q_nz1, q_nz0, q_tl, q_tn, true_and, and_true, not_true_eq_false, not_false_eq_true, ite_true, ite_false, ↓reduceIte, true_or, or_true, and_self, ne_eq, q_or1, q_or2, Nat.add_eq_zero_iff, and_false, false_and, List.length_cons, List.length_nil, reduceCtorEq, q_toI, Nat.zero_add, Nat.le_refl, q_c0, q_c1, q_c2, q_c4, q_c9, q_c12, q_c30, q_c99, q_c100, q_c126, q_c32, q_c359, q_c999, a1, a2, h1, p1, p2, e1, e2, e3, eq_self]
theorem l_type (hi : i + 4 ≤ L) (hL : L ≤ 2048) (hw : w ≤ 1000000) (hR : q_Rel L xs w E g) : ∃ E' g', q_Rel L xs (w + 60) E' g' ∧ ∀ Q : Option Value → q_E → q_G → Prop, q_X 164 761 [.ref 1, .ref 3, .ref 146, .int (nI i)] [] E g Q = q_X 164 833 [.ref 1, .ref 3, .ref 146, .int (nI i)] [] E' g' Q := by
  obtain ⟨r, E1, g1, g2, p1, p2, ⟨e1, e2, e3⟩, p3⟩ := tt_type hR (xs (i + 1))
  obtain ⟨⟨⟨-, -, a1, -⟩, ⟨a2, -⟩, -⟩, -, h1, -⟩ := hR.1
  refine ⟨E1, g2, p3, fun Q => ?_⟩
  conv => lhs; simp (disch := omega) only [x164_761, x164_762, x164_763, x164_764, x164_765, x164_766, x164_767, x164_770, x164_771, x164_772, x164_773, x164_774, x164_775, x164_776, x164_779, x164_782, x164_783, nI_add, pk_mul, q_cl31, q_vin, q_le, q_lt, q_eqn, q_b_0, q_b_t, q_b_f, q_nz, q_nz1, q_nz0, q_tl, q_tn, true_and, and_true, not_true_eq_false, not_false_eq_true, ite_true, ite_false, ↓reduceIte, true_or, or_true, and_self, ne_eq, q_or1, q_or2, Nat.add_eq_zero_iff, and_false, false_and, List.length_cons, List.length_nil, reduceCtorEq, q_toI, Nat.zero_add, Nat.le_refl, q_c0, q_c1, q_c2, q_c4, q_c9, q_c12, q_c30, q_c99, q_c100, q_c126, q_c32, q_c359, q_c999, a1, a2, h1, p1, p2, e1, e2, e3, eq_self]
theorem l_clearText (hi : i + 4 ≤ L) (hL : L ≤ 2048) (hw : w ≤ 1000000) (hR : q_Rel L xs w E g) : ∃ E' g', q_Rel L xs (w + 60) E' g' ∧ ∀ Q : Option Value → q_E → q_G → Prop, q_X 164 784 [.ref 1, .ref 3, .ref 146, .int (nI i)] [] E g Q = q_X 164 833 [.ref 1, .ref 3, .ref 146, .int (nI i)] [] E' g' Q := by
  obtain ⟨r, E1, g1, g2, p1, p2, ⟨e1, e2, e3⟩, p3⟩ := tt_clearText hR 
  obtain ⟨⟨⟨-, -, a1, -⟩, ⟨a2, -⟩, -⟩, -, h1, -⟩ := hR.1
  refine ⟨E1, g2, p3, fun Q => ?_⟩
  conv => lhs; simp (disch := omega) only [x164_784, x164_785, x164_788, x164_789, x164_792, x164_795, x164_796, nI_add, pk_mul, q_cl31, q_vin, q_le, q_lt, q_eqn, q_b_0, q_b_t, q_b_f, q_nz, q_nz1, q_nz0, q_tl, q_tn, true_and, and_true, not_true_eq_false, not_false_eq_true, ite_true, ite_false, ↓reduceIte, true_or, or_true, and_self, ne_eq, q_or1, q_or2, Nat.add_eq_zero_iff, and_false, false_and, List.length_cons, List.length_nil, reduceCtorEq, q_toI, Nat.zero_add, Nat.le_refl, q_c0, q_c1, q_c2, q_c4, q_c9, q_c12, q_c30, q_c99, q_c100, q_c126, q_c32, q_c359, q_c999, a1, a2, h1, p1, p2, e1, e2, e3, eq_self]
theorem l_fault (hi : i + 4 ≤ L) (hL : L ≤ 2048) (hw : w ≤ 1000000) (hR : q_Rel L xs w E g) : ∃ E' g', q_Rel L xs (w + 60) E' g' ∧ ∀ Q : Option Value → q_E → q_G → Prop, q_X 164 797 [.ref 1, .ref 3, .ref 146, .int (nI i)] [] E g Q = q_X 164 833 [.ref 1, .ref 3, .ref 146, .int (nI i)] [] E' g' Q := by
  obtain ⟨r, E1, g1, g2, p1, p2, ⟨e1, e2, e3⟩, p3⟩ := tt_fault hR (xs (i + 1))
  obtain ⟨⟨⟨-, -, a1, -⟩, ⟨a2, -⟩, -⟩, -, h1, -⟩ := hR.1
  refine ⟨E1, g2, p3, fun Q => ?_⟩
  conv => lhs; simp (disch := omega) only [x164_797, x164_798, x164_799, x164_800, x164_801, x164_802, x164_803, x164_806, x164_807, x164_808, x164_809, x164_810, x164_811, x164_812, x164_815, x164_818, x164_819, nI_add, pk_mul, q_cl31, q_vin, q_le, q_lt, q_eqn, q_b_0, q_b_t, q_b_f, q_nz, q_nz1, q_nz0, q_tl, q_tn, true_and, and_true, not_true_eq_false, not_false_eq_true, ite_true, ite_false, ↓reduceIte, true_or, or_true, and_self, ne_eq, q_or1, q_or2, Nat.add_eq_zero_iff, and_false, false_and, List.length_cons, List.length_nil, reduceCtorEq, q_toI, Nat.zero_add, Nat.le_refl, q_c0, q_c1, q_c2, q_c4, q_c9, q_c12, q_c30, q_c99, q_c100, q_c126, q_c32, q_c359, q_c999, a1, a2, h1, p1, p2, e1, e2, e3, eq_self]
theorem l_play (hi : i + 4 ≤ L) (hL : L ≤ 2048) (hw : w ≤ 1000000) (hR : q_Rel L xs w E g) : ∃ E' g', q_Rel L xs (w + 60) E' g' ∧ ∀ Q : Option Value → q_E → q_G → Prop, q_X 164 820 [.ref 1, .ref 3, .ref 146, .int (nI i)] [] E g Q = q_X 164 833 [.ref 1, .ref 3, .ref 146, .int (nI i)] [] E' g' Q := by
  obtain ⟨r, E1, g1, g2, p1, p2, ⟨e1, e2, e3⟩, p3⟩ := tt_play hR 
  obtain ⟨⟨⟨-, -, a1, -⟩, ⟨a2, -⟩, -⟩, -, h1, -⟩ := hR.1
  refine ⟨E1, g2, p3, fun Q => ?_⟩
  conv => lhs; simp (disch := omega) only [x164_820, x164_821, x164_824, x164_825, x164_828, x164_831, x164_832, nI_add, pk_mul, q_cl31, q_vin, q_le, q_lt, q_eqn, q_b_0, q_b_t, q_b_f, q_nz, q_nz1, q_nz0, q_tl, q_tn, true_and, and_true, not_true_eq_false, not_false_eq_true, ite_true, ite_false, ↓reduceIte, true_or, or_true, and_self, ne_eq, q_or1, q_or2, Nat.add_eq_zero_iff, and_false, false_and, List.length_cons, List.length_nil, reduceCtorEq, q_toI, Nat.zero_add, Nat.le_refl, q_c0, q_c1, q_c2, q_c4, q_c9, q_c12, q_c30, q_c99, q_c100, q_c126, q_c32, q_c359, q_c999, a1, a2, h1, p1, p2, e1, e2, e3, eq_self]
theorem q_turn (hi : i + 4 ≤ L) (hL : L ≤ 2048) (hw : w ≤ 1000000) (hR : q_Rel L xs w E g) : ∃ E' g', q_Rel L xs (w + 60) E' g' ∧ ∀ Q : Option Value → q_E → q_G → Prop, q_X 164 18 [.ref 1, .ref 3, .ref 146, .int (nI i)] [] E g Q = q_X 164 18 [.ref 1, .ref 3, .ref 146, .int (nI (i + 4))] [] E' g' Q := by
  have hd : ∀ Q : Option Value → q_E → q_G → Prop, q_X 164 18 [.ref 1, .ref 3, .ref 146, .int (nI i)] [] E g Q = q_X 164 32 [.ref 1, .ref 3, .ref 146, .int (nI i)] [.int (xs i &&& nI 31)] E g Q := by
    intro Q
    obtain ⟨⟨⟨-, -, a1, -⟩, -⟩, -, h1, -⟩ := hR.1
    simp (disch := omega) only [x164_18, x164_19, x164_20, x164_21, x164_22, x164_23, x164_26, x164_27, x164_28, x164_29, x164_31, nI_add, pk_mul, q_cl31, q_vin, q_le, q_lt, q_eqn, q_b_0, q_b_t, q_b_f, q_nz, q_nz1, q_nz0, q_tl, q_tn, true_and, and_true, not_true_eq_false, not_false_eq_true, ite_true, ite_false, ↓reduceIte, true_or, or_true, and_self, ne_eq, q_or1, q_or2, Nat.add_eq_zero_iff, and_false, false_and, List.length_cons, List.length_nil, reduceCtorEq, q_toI, Nat.zero_add, Nat.le_refl, q_c0, q_c1, q_c2, q_c4, q_c9, q_c12, q_c30, q_c99, q_c100, q_c126, q_c32, q_c359, q_c999, a1, h1, pk_sub, show (L - 4 < i) = False from eq_false (by omega)]
  have fin : ∀ {E' : q_E} {g' : q_G} (Q : Option Value → q_E → q_G → Prop), q_X 164 833 [.ref 1, .ref 3, .ref 146, .int (nI i)] [] E' g' Q = q_X 164 18 [.ref 1, .ref 3, .ref 146, .int (nI (i + 4))] [] E' g' Q := by
    intro E' g' Q
    simp only [x164_833, x164_836, nI_add]
  by_cases c0 : xs i &&& nI 31 = nI 0
  · obtain ⟨E', g', h1, h2⟩ := l_verse hi hL hw hR
    refine ⟨E', g', h1, fun Q => ?_⟩
    rw [hd, c0]
    conv => lhs; simp (disch := omega) only [x164_32, nI_add, pk_mul, q_cl31, q_vin, q_le, q_lt, q_eqn, q_b_0, q_b_t, q_b_f, q_nz, q_nz1, q_nz0, q_tl, q_tn, true_and, and_true, not_true_eq_false, not_false_eq_true, ite_true, ite_false, ↓reduceIte, true_or, or_true, and_self, ne_eq, q_or1, q_or2, Nat.add_eq_zero_iff, and_false, false_and, List.length_cons, List.length_nil, reduceCtorEq, q_toI, Nat.zero_add, Nat.le_refl, q_c0, q_c1, q_c2, q_c4, q_c9, q_c12, q_c30, q_c99, q_c100, q_c126, q_c32, q_c359, q_c999, Nat.reduceEqDiff, h2, fin]
  by_cases c1 : xs i &&& nI 31 = nI 1
  · obtain ⟨E', g', h1, h2⟩ := l_season hi hL hw hR
    refine ⟨E', g', h1, fun Q => ?_⟩
    rw [hd, c1]
    conv => lhs; simp (disch := omega) only [x164_32, nI_add, pk_mul, q_cl31, q_vin, q_le, q_lt, q_eqn, q_b_0, q_b_t, q_b_f, q_nz, q_nz1, q_nz0, q_tl, q_tn, true_and, and_true, not_true_eq_false, not_false_eq_true, ite_true, ite_false, ↓reduceIte, true_or, or_true, and_self, ne_eq, q_or1, q_or2, Nat.add_eq_zero_iff, and_false, false_and, List.length_cons, List.length_nil, reduceCtorEq, q_toI, Nat.zero_add, Nat.le_refl, q_c0, q_c1, q_c2, q_c4, q_c9, q_c12, q_c30, q_c99, q_c100, q_c126, q_c32, q_c359, q_c999, Nat.reduceEqDiff, h2, fin]
  by_cases c2 : xs i &&& nI 31 = nI 2
  · obtain ⟨E', g', h1, h2⟩ := l_order hi hL hw hR
    refine ⟨E', g', h1, fun Q => ?_⟩
    rw [hd, c2]
    conv => lhs; simp (disch := omega) only [x164_32, nI_add, pk_mul, q_cl31, q_vin, q_le, q_lt, q_eqn, q_b_0, q_b_t, q_b_f, q_nz, q_nz1, q_nz0, q_tl, q_tn, true_and, and_true, not_true_eq_false, not_false_eq_true, ite_true, ite_false, ↓reduceIte, true_or, or_true, and_self, ne_eq, q_or1, q_or2, Nat.add_eq_zero_iff, and_false, false_and, List.length_cons, List.length_nil, reduceCtorEq, q_toI, Nat.zero_add, Nat.le_refl, q_c0, q_c1, q_c2, q_c4, q_c9, q_c12, q_c30, q_c99, q_c100, q_c126, q_c32, q_c359, q_c999, Nat.reduceEqDiff, h2, fin]
  by_cases c3 : xs i &&& nI 31 = nI 3
  · obtain ⟨E', g', h1, h2⟩ := l_lay hi hL hw hR
    refine ⟨E', g', h1, fun Q => ?_⟩
    rw [hd, c3]
    conv => lhs; simp (disch := omega) only [x164_32, nI_add, pk_mul, q_cl31, q_vin, q_le, q_lt, q_eqn, q_b_0, q_b_t, q_b_f, q_nz, q_nz1, q_nz0, q_tl, q_tn, true_and, and_true, not_true_eq_false, not_false_eq_true, ite_true, ite_false, ↓reduceIte, true_or, or_true, and_self, ne_eq, q_or1, q_or2, Nat.add_eq_zero_iff, and_false, false_and, List.length_cons, List.length_nil, reduceCtorEq, q_toI, Nat.zero_add, Nat.le_refl, q_c0, q_c1, q_c2, q_c4, q_c9, q_c12, q_c30, q_c99, q_c100, q_c126, q_c32, q_c359, q_c999, Nat.reduceEqDiff, h2, fin]
  by_cases c4 : xs i &&& nI 31 = nI 4
  · obtain ⟨E', g', h1, h2⟩ := l_clear hi hL hw hR
    refine ⟨E', g', h1, fun Q => ?_⟩
    rw [hd, c4]
    conv => lhs; simp (disch := omega) only [x164_32, nI_add, pk_mul, q_cl31, q_vin, q_le, q_lt, q_eqn, q_b_0, q_b_t, q_b_f, q_nz, q_nz1, q_nz0, q_tl, q_tn, true_and, and_true, not_true_eq_false, not_false_eq_true, ite_true, ite_false, ↓reduceIte, true_or, or_true, and_self, ne_eq, q_or1, q_or2, Nat.add_eq_zero_iff, and_false, false_and, List.length_cons, List.length_nil, reduceCtorEq, q_toI, Nat.zero_add, Nat.le_refl, q_c0, q_c1, q_c2, q_c4, q_c9, q_c12, q_c30, q_c99, q_c100, q_c126, q_c32, q_c359, q_c999, Nat.reduceEqDiff, h2, fin]
  by_cases c5 : xs i &&& nI 31 = nI 5
  · obtain ⟨E', g', h1, h2⟩ := l_sell hi hL hw hR
    refine ⟨E', g', h1, fun Q => ?_⟩
    rw [hd, c5]
    conv => lhs; simp (disch := omega) only [x164_32, nI_add, pk_mul, q_cl31, q_vin, q_le, q_lt, q_eqn, q_b_0, q_b_t, q_b_f, q_nz, q_nz1, q_nz0, q_tl, q_tn, true_and, and_true, not_true_eq_false, not_false_eq_true, ite_true, ite_false, ↓reduceIte, true_or, or_true, and_self, ne_eq, q_or1, q_or2, Nat.add_eq_zero_iff, and_false, false_and, List.length_cons, List.length_nil, reduceCtorEq, q_toI, Nat.zero_add, Nat.le_refl, q_c0, q_c1, q_c2, q_c4, q_c9, q_c12, q_c30, q_c99, q_c100, q_c126, q_c32, q_c359, q_c999, Nat.reduceEqDiff, h2, fin]
  by_cases c6 : xs i &&& nI 31 = nI 6
  · obtain ⟨E', g', h1, h2⟩ := l_sellTwo hi hL hw hR
    refine ⟨E', g', h1, fun Q => ?_⟩
    rw [hd, c6]
    conv => lhs; simp (disch := omega) only [x164_32, nI_add, pk_mul, q_cl31, q_vin, q_le, q_lt, q_eqn, q_b_0, q_b_t, q_b_f, q_nz, q_nz1, q_nz0, q_tl, q_tn, true_and, and_true, not_true_eq_false, not_false_eq_true, ite_true, ite_false, ↓reduceIte, true_or, or_true, and_self, ne_eq, q_or1, q_or2, Nat.add_eq_zero_iff, and_false, false_and, List.length_cons, List.length_nil, reduceCtorEq, q_toI, Nat.zero_add, Nat.le_refl, q_c0, q_c1, q_c2, q_c4, q_c9, q_c12, q_c30, q_c99, q_c100, q_c126, q_c32, q_c359, q_c999, Nat.reduceEqDiff, h2, fin]
  by_cases c7 : xs i &&& nI 31 = nI 7
  · obtain ⟨E', g', h1, h2⟩ := l_giveBack hi hL hw hR
    refine ⟨E', g', h1, fun Q => ?_⟩
    rw [hd, c7]
    conv => lhs; simp (disch := omega) only [x164_32, nI_add, pk_mul, q_cl31, q_vin, q_le, q_lt, q_eqn, q_b_0, q_b_t, q_b_f, q_nz, q_nz1, q_nz0, q_tl, q_tn, true_and, and_true, not_true_eq_false, not_false_eq_true, ite_true, ite_false, ↓reduceIte, true_or, or_true, and_self, ne_eq, q_or1, q_or2, Nat.add_eq_zero_iff, and_false, false_and, List.length_cons, List.length_nil, reduceCtorEq, q_toI, Nat.zero_add, Nat.le_refl, q_c0, q_c1, q_c2, q_c4, q_c9, q_c12, q_c30, q_c99, q_c100, q_c126, q_c32, q_c359, q_c999, Nat.reduceEqDiff, h2, fin]
  by_cases c8 : xs i &&& nI 31 = nI 8
  · obtain ⟨E', g', h1, h2⟩ := l_pass hi hL hw hR
    refine ⟨E', g', h1, fun Q => ?_⟩
    rw [hd, c8]
    conv => lhs; simp (disch := omega) only [x164_32, nI_add, pk_mul, q_cl31, q_vin, q_le, q_lt, q_eqn, q_b_0, q_b_t, q_b_f, q_nz, q_nz1, q_nz0, q_tl, q_tn, true_and, and_true, not_true_eq_false, not_false_eq_true, ite_true, ite_false, ↓reduceIte, true_or, or_true, and_self, ne_eq, q_or1, q_or2, Nat.add_eq_zero_iff, and_false, false_and, List.length_cons, List.length_nil, reduceCtorEq, q_toI, Nat.zero_add, Nat.le_refl, q_c0, q_c1, q_c2, q_c4, q_c9, q_c12, q_c30, q_c99, q_c100, q_c126, q_c32, q_c359, q_c999, Nat.reduceEqDiff, h2, fin]
  by_cases c9 : xs i &&& nI 31 = nI 9
  · obtain ⟨E', g', h1, h2⟩ := l_set hi hL hw hR
    refine ⟨E', g', h1, fun Q => ?_⟩
    rw [hd, c9]
    conv => lhs; simp (disch := omega) only [x164_32, nI_add, pk_mul, q_cl31, q_vin, q_le, q_lt, q_eqn, q_b_0, q_b_t, q_b_f, q_nz, q_nz1, q_nz0, q_tl, q_tn, true_and, and_true, not_true_eq_false, not_false_eq_true, ite_true, ite_false, ↓reduceIte, true_or, or_true, and_self, ne_eq, q_or1, q_or2, Nat.add_eq_zero_iff, and_false, false_and, List.length_cons, List.length_nil, reduceCtorEq, q_toI, Nat.zero_add, Nat.le_refl, q_c0, q_c1, q_c2, q_c4, q_c9, q_c12, q_c30, q_c99, q_c100, q_c126, q_c32, q_c359, q_c999, Nat.reduceEqDiff, h2, fin]
  by_cases c10 : xs i &&& nI 31 = nI 10
  · obtain ⟨E', g', h1, h2⟩ := l_verseOf hi hL hw hR
    refine ⟨E', g', h1, fun Q => ?_⟩
    rw [hd, c10]
    conv => lhs; simp (disch := omega) only [x164_32, nI_add, pk_mul, q_cl31, q_vin, q_le, q_lt, q_eqn, q_b_0, q_b_t, q_b_f, q_nz, q_nz1, q_nz0, q_tl, q_tn, true_and, and_true, not_true_eq_false, not_false_eq_true, ite_true, ite_false, ↓reduceIte, true_or, or_true, and_self, ne_eq, q_or1, q_or2, Nat.add_eq_zero_iff, and_false, false_and, List.length_cons, List.length_nil, reduceCtorEq, q_toI, Nat.zero_add, Nat.le_refl, q_c0, q_c1, q_c2, q_c4, q_c9, q_c12, q_c30, q_c99, q_c100, q_c126, q_c32, q_c359, q_c999, Nat.reduceEqDiff, h2, fin]
  by_cases c11 : xs i &&& nI 31 = nI 11
  · obtain ⟨E', g', h1, h2⟩ := l_slotOf hi hL hw hR
    refine ⟨E', g', h1, fun Q => ?_⟩
    rw [hd, c11]
    conv => lhs; simp (disch := omega) only [x164_32, nI_add, pk_mul, q_cl31, q_vin, q_le, q_lt, q_eqn, q_b_0, q_b_t, q_b_f, q_nz, q_nz1, q_nz0, q_tl, q_tn, true_and, and_true, not_true_eq_false, not_false_eq_true, ite_true, ite_false, ↓reduceIte, true_or, or_true, and_self, ne_eq, q_or1, q_or2, Nat.add_eq_zero_iff, and_false, false_and, List.length_cons, List.length_nil, reduceCtorEq, q_toI, Nat.zero_add, Nat.le_refl, q_c0, q_c1, q_c2, q_c4, q_c9, q_c12, q_c30, q_c99, q_c100, q_c126, q_c32, q_c359, q_c999, Nat.reduceEqDiff, h2, fin]
  by_cases c12 : xs i &&& nI 31 = nI 12
  · obtain ⟨E', g', h1, h2⟩ := l_orderOf hi hL hw hR
    refine ⟨E', g', h1, fun Q => ?_⟩
    rw [hd, c12]
    conv => lhs; simp (disch := omega) only [x164_32, nI_add, pk_mul, q_cl31, q_vin, q_le, q_lt, q_eqn, q_b_0, q_b_t, q_b_f, q_nz, q_nz1, q_nz0, q_tl, q_tn, true_and, and_true, not_true_eq_false, not_false_eq_true, ite_true, ite_false, ↓reduceIte, true_or, or_true, and_self, ne_eq, q_or1, q_or2, Nat.add_eq_zero_iff, and_false, false_and, List.length_cons, List.length_nil, reduceCtorEq, q_toI, Nat.zero_add, Nat.le_refl, q_c0, q_c1, q_c2, q_c4, q_c9, q_c12, q_c30, q_c99, q_c100, q_c126, q_c32, q_c359, q_c999, Nat.reduceEqDiff, h2, fin]
  by_cases c13 : xs i &&& nI 31 = nI 13
  · obtain ⟨E', g', h1, h2⟩ := l_occasionOf hi hL hw hR
    refine ⟨E', g', h1, fun Q => ?_⟩
    rw [hd, c13]
    conv => lhs; simp (disch := omega) only [x164_32, nI_add, pk_mul, q_cl31, q_vin, q_le, q_lt, q_eqn, q_b_0, q_b_t, q_b_f, q_nz, q_nz1, q_nz0, q_tl, q_tn, true_and, and_true, not_true_eq_false, not_false_eq_true, ite_true, ite_false, ↓reduceIte, true_or, or_true, and_self, ne_eq, q_or1, q_or2, Nat.add_eq_zero_iff, and_false, false_and, List.length_cons, List.length_nil, reduceCtorEq, q_toI, Nat.zero_add, Nat.le_refl, q_c0, q_c1, q_c2, q_c4, q_c9, q_c12, q_c30, q_c99, q_c100, q_c126, q_c32, q_c359, q_c999, Nat.reduceEqDiff, h2, fin]
  by_cases c14 : xs i &&& nI 31 = nI 14
  · obtain ⟨E', g', h1, h2⟩ := l_together hi hL hw hR
    refine ⟨E', g', h1, fun Q => ?_⟩
    rw [hd, c14]
    conv => lhs; simp (disch := omega) only [x164_32, nI_add, pk_mul, q_cl31, q_vin, q_le, q_lt, q_eqn, q_b_0, q_b_t, q_b_f, q_nz, q_nz1, q_nz0, q_tl, q_tn, true_and, and_true, not_true_eq_false, not_false_eq_true, ite_true, ite_false, ↓reduceIte, true_or, or_true, and_self, ne_eq, q_or1, q_or2, Nat.add_eq_zero_iff, and_false, false_and, List.length_cons, List.length_nil, reduceCtorEq, q_toI, Nat.zero_add, Nat.le_refl, q_c0, q_c1, q_c2, q_c4, q_c9, q_c12, q_c30, q_c99, q_c100, q_c126, q_c32, q_c359, q_c999, Nat.reduceEqDiff, h2, fin]
  by_cases c15 : xs i &&& nI 31 = nI 15
  · obtain ⟨E', g', h1, h2⟩ := l_would hi hL hw hR
    refine ⟨E', g', h1, fun Q => ?_⟩
    rw [hd, c15]
    conv => lhs; simp (disch := omega) only [x164_32, nI_add, pk_mul, q_cl31, q_vin, q_le, q_lt, q_eqn, q_b_0, q_b_t, q_b_f, q_nz, q_nz1, q_nz0, q_tl, q_tn, true_and, and_true, not_true_eq_false, not_false_eq_true, ite_true, ite_false, ↓reduceIte, true_or, or_true, and_self, ne_eq, q_or1, q_or2, Nat.add_eq_zero_iff, and_false, false_and, List.length_cons, List.length_nil, reduceCtorEq, q_toI, Nat.zero_add, Nat.le_refl, q_c0, q_c1, q_c2, q_c4, q_c9, q_c12, q_c30, q_c99, q_c100, q_c126, q_c32, q_c359, q_c999, Nat.reduceEqDiff, h2, fin]
  by_cases c16 : xs i &&& nI 31 = nI 16
  · obtain ⟨E', g', h1, h2⟩ := l_bestSlot hi hL hw hR
    refine ⟨E', g', h1, fun Q => ?_⟩
    rw [hd, c16]
    conv => lhs; simp (disch := omega) only [x164_32, nI_add, pk_mul, q_cl31, q_vin, q_le, q_lt, q_eqn, q_b_0, q_b_t, q_b_f, q_nz, q_nz1, q_nz0, q_tl, q_tn, true_and, and_true, not_true_eq_false, not_false_eq_true, ite_true, ite_false, ↓reduceIte, true_or, or_true, and_self, ne_eq, q_or1, q_or2, Nat.add_eq_zero_iff, and_false, false_and, List.length_cons, List.length_nil, reduceCtorEq, q_toI, Nat.zero_add, Nat.le_refl, q_c0, q_c1, q_c2, q_c4, q_c9, q_c12, q_c30, q_c99, q_c100, q_c126, q_c32, q_c359, q_c999, Nat.reduceEqDiff, h2, fin]
  by_cases c17 : xs i &&& nI 31 = nI 17
  · obtain ⟨E', g', h1, h2⟩ := l_partner hi hL hw hR
    refine ⟨E', g', h1, fun Q => ?_⟩
    rw [hd, c17]
    conv => lhs; simp (disch := omega) only [x164_32, nI_add, pk_mul, q_cl31, q_vin, q_le, q_lt, q_eqn, q_b_0, q_b_t, q_b_f, q_nz, q_nz1, q_nz0, q_tl, q_tn, true_and, and_true, not_true_eq_false, not_false_eq_true, ite_true, ite_false, ↓reduceIte, true_or, or_true, and_self, ne_eq, q_or1, q_or2, Nat.add_eq_zero_iff, and_false, false_and, List.length_cons, List.length_nil, reduceCtorEq, q_toI, Nat.zero_add, Nat.le_refl, q_c0, q_c1, q_c2, q_c4, q_c9, q_c12, q_c30, q_c99, q_c100, q_c126, q_c32, q_c359, q_c999, Nat.reduceEqDiff, h2, fin]
  by_cases c18 : xs i &&& nI 31 = nI 18
  · obtain ⟨E', g', h1, h2⟩ := l_lasts hi hL hw hR
    refine ⟨E', g', h1, fun Q => ?_⟩
    rw [hd, c18]
    conv => lhs; simp (disch := omega) only [x164_32, nI_add, pk_mul, q_cl31, q_vin, q_le, q_lt, q_eqn, q_b_0, q_b_t, q_b_f, q_nz, q_nz1, q_nz0, q_tl, q_tn, true_and, and_true, not_true_eq_false, not_false_eq_true, ite_true, ite_false, ↓reduceIte, true_or, or_true, and_self, ne_eq, q_or1, q_or2, Nat.add_eq_zero_iff, and_false, false_and, List.length_cons, List.length_nil, reduceCtorEq, q_toI, Nat.zero_add, Nat.le_refl, q_c0, q_c1, q_c2, q_c4, q_c9, q_c12, q_c30, q_c99, q_c100, q_c126, q_c32, q_c359, q_c999, Nat.reduceEqDiff, h2, fin]
  by_cases c19 : xs i &&& nI 31 = nI 19
  · obtain ⟨E', g', h1, h2⟩ := l_count hi hL hw hR
    refine ⟨E', g', h1, fun Q => ?_⟩
    rw [hd, c19]
    conv => lhs; simp (disch := omega) only [x164_32, nI_add, pk_mul, q_cl31, q_vin, q_le, q_lt, q_eqn, q_b_0, q_b_t, q_b_f, q_nz, q_nz1, q_nz0, q_tl, q_tn, true_and, and_true, not_true_eq_false, not_false_eq_true, ite_true, ite_false, ↓reduceIte, true_or, or_true, and_self, ne_eq, q_or1, q_or2, Nat.add_eq_zero_iff, and_false, false_and, List.length_cons, List.length_nil, reduceCtorEq, q_toI, Nat.zero_add, Nat.le_refl, q_c0, q_c1, q_c2, q_c4, q_c9, q_c12, q_c30, q_c99, q_c100, q_c126, q_c32, q_c359, q_c999, Nat.reduceEqDiff, h2, fin]
  by_cases c20 : xs i &&& nI 31 = nI 20
  · obtain ⟨E', g', h1, h2⟩ := l_undo hi hL hw hR
    refine ⟨E', g', h1, fun Q => ?_⟩
    rw [hd, c20]
    conv => lhs; simp (disch := omega) only [x164_32, nI_add, pk_mul, q_cl31, q_vin, q_le, q_lt, q_eqn, q_b_0, q_b_t, q_b_f, q_nz, q_nz1, q_nz0, q_tl, q_tn, true_and, and_true, not_true_eq_false, not_false_eq_true, ite_true, ite_false, ↓reduceIte, true_or, or_true, and_self, ne_eq, q_or1, q_or2, Nat.add_eq_zero_iff, and_false, false_and, List.length_cons, List.length_nil, reduceCtorEq, q_toI, Nat.zero_add, Nat.le_refl, q_c0, q_c1, q_c2, q_c4, q_c9, q_c12, q_c30, q_c99, q_c100, q_c126, q_c32, q_c359, q_c999, Nat.reduceEqDiff, h2, fin]
  by_cases c21 : xs i &&& nI 31 = nI 21
  · obtain ⟨E', g', h1, h2⟩ := l_type hi hL hw hR
    refine ⟨E', g', h1, fun Q => ?_⟩
    rw [hd, c21]
    conv => lhs; simp (disch := omega) only [x164_32, nI_add, pk_mul, q_cl31, q_vin, q_le, q_lt, q_eqn, q_b_0, q_b_t, q_b_f, q_nz, q_nz1, q_nz0, q_tl, q_tn, true_and, and_true, not_true_eq_false, not_false_eq_true, ite_true, ite_false, ↓reduceIte, true_or, or_true, and_self, ne_eq, q_or1, q_or2, Nat.add_eq_zero_iff, and_false, false_and, List.length_cons, List.length_nil, reduceCtorEq, q_toI, Nat.zero_add, Nat.le_refl, q_c0, q_c1, q_c2, q_c4, q_c9, q_c12, q_c30, q_c99, q_c100, q_c126, q_c32, q_c359, q_c999, Nat.reduceEqDiff, h2, fin]
  by_cases c22 : xs i &&& nI 31 = nI 22
  · obtain ⟨E', g', h1, h2⟩ := l_clearText hi hL hw hR
    refine ⟨E', g', h1, fun Q => ?_⟩
    rw [hd, c22]
    conv => lhs; simp (disch := omega) only [x164_32, nI_add, pk_mul, q_cl31, q_vin, q_le, q_lt, q_eqn, q_b_0, q_b_t, q_b_f, q_nz, q_nz1, q_nz0, q_tl, q_tn, true_and, and_true, not_true_eq_false, not_false_eq_true, ite_true, ite_false, ↓reduceIte, true_or, or_true, and_self, ne_eq, q_or1, q_or2, Nat.add_eq_zero_iff, and_false, false_and, List.length_cons, List.length_nil, reduceCtorEq, q_toI, Nat.zero_add, Nat.le_refl, q_c0, q_c1, q_c2, q_c4, q_c9, q_c12, q_c30, q_c99, q_c100, q_c126, q_c32, q_c359, q_c999, Nat.reduceEqDiff, h2, fin]
  by_cases c23 : xs i &&& nI 31 = nI 23
  · obtain ⟨E', g', h1, h2⟩ := l_fault hi hL hw hR
    refine ⟨E', g', h1, fun Q => ?_⟩
    rw [hd, c23]
    conv => lhs; simp (disch := omega) only [x164_32, nI_add, pk_mul, q_cl31, q_vin, q_le, q_lt, q_eqn, q_b_0, q_b_t, q_b_f, q_nz, q_nz1, q_nz0, q_tl, q_tn, true_and, and_true, not_true_eq_false, not_false_eq_true, ite_true, ite_false, ↓reduceIte, true_or, or_true, and_self, ne_eq, q_or1, q_or2, Nat.add_eq_zero_iff, and_false, false_and, List.length_cons, List.length_nil, reduceCtorEq, q_toI, Nat.zero_add, Nat.le_refl, q_c0, q_c1, q_c2, q_c4, q_c9, q_c12, q_c30, q_c99, q_c100, q_c126, q_c32, q_c359, q_c999, Nat.reduceEqDiff, h2, fin]
  by_cases c24 : xs i &&& nI 31 = nI 24
  · obtain ⟨E', g', h1, h2⟩ := l_play hi hL hw hR
    refine ⟨E', g', h1, fun Q => ?_⟩
    rw [hd, c24]
    conv => lhs; simp (disch := omega) only [x164_32, nI_add, pk_mul, q_cl31, q_vin, q_le, q_lt, q_eqn, q_b_0, q_b_t, q_b_f, q_nz, q_nz1, q_nz0, q_tl, q_tn, true_and, and_true, not_true_eq_false, not_false_eq_true, ite_true, ite_false, ↓reduceIte, true_or, or_true, and_self, ne_eq, q_or1, q_or2, Nat.add_eq_zero_iff, and_false, false_and, List.length_cons, List.length_nil, reduceCtorEq, q_toI, Nat.zero_add, Nat.le_refl, q_c0, q_c1, q_c2, q_c4, q_c9, q_c12, q_c30, q_c99, q_c100, q_c126, q_c32, q_c359, q_c999, Nat.reduceEqDiff, h2, fin]
  refine ⟨E, g, q_Rel_l hR (by omega), fun Q => ?_⟩
  rw [hd]
  conv => lhs; simp only [x164_32, c0, c1, c2, c3, c4, c5, c6, c7, c8, c9, c10, c11, c12, c13, c14, c15, c16, c17, c18, c19, c20, c21, c22, c23, c24, ↓reduceIte, fin]
theorem q_turns (hL : L ≤ 2048) : ∀ m i w (E : q_E) (g : q_G), L < i + 4 + 4 * m → i ≤ 2048 → w + 60 * m ≤ 1000000 → q_Rel L xs w E g → q_X 164 18 [.ref 1, .ref 3, .ref 146, .int (nI i)] [] E g (fun v E' _ => v = some (.int 1) ∧ E'.1 ≤ 150 ∧ E'.2.1 ≤ 4022) := by
  have stop : ∀ i (w : Nat) (E : q_E) (g : q_G), L < i + 4 → i ≤ 2048 → q_Rel L xs w E g → q_X 164 18 [.ref 1, .ref 3, .ref 146, .int (nI i)] [] E g (fun v E' _ => v = some (.int 1) ∧ E'.1 ≤ 150 ∧ E'.2.1 ≤ 4022) := by
    intro i w E g hi hi2 hR
    obtain ⟨⟨⟨z1, z2, a1, -⟩, -⟩, -, h1, -⟩ := hR.1
    have cmp : (nI L - nI 4 < nI i) = True := by
      apply eq_true
      rw [Int32.lt_iff_toInt_lt, pk_sub_toInt (by omega) (by omega), nI_toInt (by omega)]
      omega
    simp (disch := omega) only [x164_18, x164_19, x164_20, x164_21, x164_22, x164_23, x164_839, x164_840, nI_add, pk_mul, q_cl31, q_vin, q_le, q_lt, q_eqn, q_b_0, q_b_t, q_b_f, q_nz, q_nz1, q_nz0, q_tl, q_tn, true_and, and_true, not_true_eq_false, not_false_eq_true, ite_true, ite_false, ↓reduceIte, true_or, or_true, and_self, ne_eq, q_or1, q_or2, Nat.add_eq_zero_iff, and_false, false_and, List.length_cons, List.length_nil, reduceCtorEq, q_toI, Nat.zero_add, Nat.le_refl, q_c0, q_c1, q_c2, q_c4, q_c9, q_c12, q_c30, q_c99, q_c100, q_c126, q_c32, q_c359, q_c999, a1, cmp]
    exact ⟨rfl, by omega, z2⟩
  intro m
  induction m with
  | zero => intro i w E g hi hi2 _ hR; exact stop i w E g (by omega) hi2 hR
  | succ m ih =>
    intro i w E g hi hi2 hw hR
    by_cases c : L < i + 4
    · exact stop i w E g c hi2 hR
    · obtain ⟨E', g', h1, h2⟩ := q_turn (i := i) (by omega) hL (by omega) hR
      rw [h2]
      exact ih (i + 4) (w + 60) E' g' (by omega) (by omega) (by omega) h1
end
theorem q_law (L : Nat) (xs : Nat → Int32) (hL : L ≤ 2048) : q_X 164 0 [.ref 1, .null, .null, .null] [] (q_E0 L) (q_g0 xs) (fun v E' _ => v = some (.int 1) ∧ E'.1 ≤ 150 ∧ E'.2.1 ≤ 4022) := by
  obtain ⟨E, g, h1, h2⟩ := q_begin L xs
  rw [h2]
  exact q_turns hL 512 0 0 E g (by omega) (by omega) (by omega) h1
