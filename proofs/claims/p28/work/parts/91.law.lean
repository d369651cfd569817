/-! p28: the law's start -/
/-- where the small machine begins: the script, the static row, nothing else -/
def q_E0 (L : Nat) : q_E := (3, 0, fun a => if a = 1 then (1, L) else if a = 2 then (1, 10) else (0, 0), fun _ _ => 0)
def q_g0 (xs : Nat → Int32) : q_G := fun a => if a = 1 then xs else if a = 2 then q_bes else fun _ => 0
theorem q_begin (L : Nat) (xs : Nat → Int32) : ∃ E g, q_Rc L xs E g q_f0 0 ∧ ∀ Q : Option Value → q_E → q_G → Prop, q_X 86 0 [.ref 1, .null, .null, .null, .null, .null, .null, .null, .null, .null, .null, .null, .null, .null, .null, .null, .null, .null, .null, .null, .null, .null, .null, .null, .null, .null, .null, .null, .null, .null, .null, .null] [] (q_E0 L) (q_g0 xs) Q = q_X 86 8 [.ref 1, .ref 3, .null, .null, .null, .null, .null, .null, .null, .null, .null, .null, .null, .null, .null, .null, .null, .null, .null, .null, .null, .null, .null, .null, .null, .null, .null, .null, .null, .null, .null, .null] [] E g Q := by
  obtain ⟨K0, hK⟩ : ∃ K0 : Nat → Nat × Nat, K0 = fun a => if a = 1 then (1, L) else if a = 2 then (1, 10) else (0, 0) := ⟨_, rfl⟩
  have hE : q_E0 L = (3, 0, K0, fun (_ _ : Nat) => (0 : Nat)) := by rw [hK]; rfl
  obtain ⟨K1, R1, g1, i1, b1, x1, x2, x3, x4, x5, x6, x7⟩ := c_iAll (c := 3) (s := 0 + 9) (K := q_tK K0 3 (12, 9)) (R := q_tZ (fun (_ _ : Nat) => (0 : Nat)) 3) (g := q_upA (q_g0 xs) 3 (fun _ => nI 0)) (tK_e rfl)
  have t0 : ∀ a, a < 3 → K1 a = K0 a ∧ g1 a = q_g0 xs a := fun a ha => ⟨(b1 a ha).1.trans (tK_n (by omega)), (b1 a ha).2.2.trans (q_upA_n _ _ (by omega))⟩
  have sta : ∀ b, q_okb b → q_StaB (0, 0, K1, R1) b := by
    obtain ⟨s0, s1, s2, s3, s4, s5⟩ := x4
    intro b hb
    rcases hb with rfl | rfl | rfl | rfl | rfl | rfl
    · exact s0
    · exact s1
    · exact s2
    · exact s3
    · exact s4
    · exact s5
  refine ⟨(146, 2079, K1, R1), g1, ⟨⟨⟨⟨rfl, Nat.le_refl _, ?_, ?_⟩, ⟨x1.1, x1.2.1, x1.2.2.1, x1.2.2.2⟩, ⟨x2.1, x2.2.1, x2.2.2.1, x2.2.2.2.1, x2.2.2.2.2⟩, trivial, fun b hb => sta b hb⟩, ?_, ?_, ?_, fun i hi => ?_⟩, ⟨by decide, x5⟩, f0_In, ?_⟩, fun Q => ?_⟩
  · show K1 1 = _
    rw [(t0 1 (by decide)).1, hK]; rfl
  · show K1 2 = _
    rw [(t0 2 (by decide)).1, hK]; rfl
  · obtain ⟨r0, r1, r2, r3, r4, r5⟩ := x3
    exact q_Slo_mk r0 r1 r2 r3 r4 r5 (by unfold q_okb; decide) (by decide)
  · rw [(t0 1 (by decide)).2]; rfl
  · show K1 2 = _
    rw [(t0 2 (by decide)).1, hK]; rfl
  · rw [(t0 2 (by decide)).2]; rfl
  · show q_Vsta g1 (R1 3 0) q_f0
    rw [x3.1]
    exact x7
  · rw [hE]
    conv => lhs; simp (disch := omega) only [x86_0, x86_3, x86_4, x86_7, nI_add, pk_mul, q_cl31, q_vin, q_le, q_lt, q_eqn, q_b_0, q_b_t, q_b_f, q_nz, q_nz1, q_nz0, q_tl, q_tn, true_and, and_true, not_true_eq_false, not_false_eq_true, ite_true, ite_false, ↓reduceIte, true_or, or_true, and_self, ne_eq, q_or1, q_or2, Nat.add_eq_zero_iff, and_false, false_and, List.length_cons, List.length_nil, reduceCtorEq, q_toI, Nat.zero_add, Nat.le_refl, q_c0, q_c1, q_c2, q_c4, q_c9, q_c12, q_c30, q_c99, q_c100, q_c126, q_c32, q_c359, q_c999, e_new, e_set, e_kd, e_rf, i1]
/-- a row to which nothing but verses was added -/
def hg_F (t : Nat) (f : q_St) : Prop := q_sz f = t ∧ (∀ x, 107 ≤ x → x < 312 → x ≠ 306 → f x = q_f0 x) ∧ (∀ v w, v < 12 → 3 ≤ w → w < 8 → f (11 + 8 * v + w) = nI 0) ∧ hg_Pr t f
theorem hg_F_Le {m : Nat} {f : q_St} (h : hg_F m f) (h2 : 2 ≤ m) (h6 : m ≤ 6) : hg_Le m 0 (2 * 0) (nI 0) (nI 100000000) f := by
  obtain ⟨a, b, c, p⟩ := h
  have as : ∀ w, 3 ≤ w → w < 8 → a_sum f w = nI 0 := fun w w1 w2 => q_sum_z0 _ fun v hv => c v w (by omega) w1 w2
  have e1 : hg_outs f = nI 0 := q_sum_z0 _ fun k hk => by rw [b _ (by omega) (by omega) (by omega)]; exact f0_z (by omega) (by omega) (by omega) (by omega)
  have e2 : hg_card f = nI 0 := q_sum_z0 _ fun k hk => by rw [b _ (by omega) (by omega) (by omega)]; exact f0_z (by omega) (by omega) (by omega) (by omega)
  have e3 : q_no f = 0 := by unfold q_no; rw [b 137 (by omega) (by omega) (by omega)]; exact f0_n.2.1
  have e4 : hg_amts f = nI 0 := by unfold hg_amts; rw [e3]; rfl
  have e5 : f 309 = nI 0 := by rw [b 309 (by omega) (by omega) (by omega)]; exact f0_z (by omega) (by omega) (by omega) (by omega)
  have e6 : f 310 = nI 0 := by rw [b 310 (by omega) (by omega) (by omega)]; exact f0_z (by omega) (by omega) (by omega) (by omega)
  have e7 : q_dy f = 0 := by unfold q_dy; rw [b 308 (by omega) (by omega) (by omega)]; exact f0_n.2.2.2
  have e8 : (nI 0).toInt = 0 := by decide
  refine ⟨⟨a, h2, h6⟩, ?_, ?_, ?_, ?_, p, fun v hv => ⟨0, 0, by omega, by omega, c v 5 (by omega) (by omega) (by omega), c v 4 (by omega) (by omega) (by omega)⟩, ⟨0, e5, by omega⟩, ⟨0, rfl, by omega⟩, by omega, ?_, ?_⟩
  · rw [e1, as 4 (by omega) (by omega)]
  · rw [as 7 (by omega) (by omega), as 4 (by omega) (by omega), as 6 (by omega) (by omega), q_a0]
  · rw [e2, e4, e5, as 3 (by omega) (by omega), as 4 (by omega) (by omega), q_a0, q_a0, q_a0, q_a0]
  · rw [e6, q_z0]
  · rw [e6, e8]; omega
  · rw [e6, e8]; omega
theorem hg_F_v {t a p c : Nat} {f : q_St} (hI : q_In f) (h : hg_F t f) (ht : t < 12) (ha : a ≤ 4) (hp : 1 ≤ p) (hp2 : p ≤ 99) (hc : c ≤ 99) : (p_verse f (nI a) (nI p) (nI c)).1 = nI t ∧ hg_F (t + 1) (p_verse f (nI a) (nI p) (nI c)).2 := by
  obtain ⟨z, b, c', pr⟩ := h
  have t1 := q_ir_t (lo := 0) (hi := 4) (Nat.zero_le a) ha (by omega)
  have t2 := q_ir_t (lo := 1) (hi := 99) hp hp2 (by omega)
  have t3 := q_ir_t (lo := 0) (hi := 99) (Nat.zero_le c) hc (by omega)
  rw [q_c0, q_c4] at t1
  rw [q_c1, q_c99] at t2
  rw [q_c0, q_c99] at t3
  have e : p_verse f (nI a) (nI p) (nI c) = (nI t, upd (upd (upd (upd f 10 (nI (t + 1))) (11 + 8 * t) (nI a)) (11 + 8 * t + 1) (nI p)) (11 + 8 * t + 2) (nI c)) := by
    unfold p_verse
    rw [t1, t2, t3, z, if_pos (by rfl), if_neg (by omega)]
  rw [e]
  refine ⟨rfl, ?_, fun x x1 x2 x3 => ?_, fun v w v1 w1 w2 => ?_, fun v hv => ?_⟩
  · unfold q_sz
    dsimp only
    rw [q_updn (by omega), q_updn (by omega), q_updn (by omega), q_upds rfl, nI_clamp (by omega)]
  · dsimp only
    rw [q_updn (by omega), q_updn (by omega), q_updn (by omega), q_updn (by omega)]
    exact b x x1 x2 x3
  · dsimp only
    rw [q_updn (by omega), q_updn (by omega), q_updn (by omega), q_updn (by omega)]
    exact c' v w v1 w1 w2
  · dsimp only
    by_cases q : v = t
    · subst q
      refine ⟨p, c, hp, hp2, hc, ?_, q_upds rfl⟩
      rw [q_updn (by omega), q_upds rfl]
    · obtain ⟨pp, pc, p1, p2, p3, p4, p5⟩ := pr v (by omega)
      refine ⟨pp, pc, p1, p2, p3, ?_, ?_⟩
      · rw [q_updn (by omega), q_updn (by omega), q_updn (by omega), q_updn (by omega)]; exact p4
      · rw [q_updn (by omega), q_updn (by omega), q_updn (by omega), q_updn (by omega)]; exact p5
section
variable {L m : Nat} {xs : Nat → Int32} {Q : Option Value → q_E → q_G → Prop}
/-- the verses are made, season and delay set: the loop's head -/
theorem hg_made (hN : L ≤ 260) (h2 : 2 ≤ m) (h6 : m ≤ 6) (H : hg_Hd L xs m 0 Q) {E : q_E} {g : q_G} {f : q_St} (h : q_Rc L xs E g f 4) (hF : hg_F m f) {l4 l5 l6 l7 l8 l9 l10 l11 l12 l13 l14 l15 l16 l17 l18 l19 l20 l21 l22 l23 l24 l25 l26 l27 l28 l29 l30 l31 : Value} : q_X 86 176 [.ref 1, .ref 3, .int (nI 1), .int (nI m), l4, l5, l6, l7, l8, l9, l10, l11, l12, l13, l14, l15, l16, l17, l18, l19, l20, l21, l22, l23, l24, l25, l26, l27, l28, l29, l30, l31] [] E g Q := by
  simp (disch := omega) only [x86_176, x86_177, x86_179, x86_181, x86_183, x86_184, nI_add, pk_mul, q_cl31, q_vin, q_le, q_lt, q_eqn, q_b_0, q_b_t, q_b_f, q_nz, q_nz1, q_nz0, q_tl, q_tn, true_and, and_true, not_true_eq_false, not_false_eq_true, ite_true, ite_false, ↓reduceIte, true_or, or_true, and_self, ne_eq, q_or1, q_or2, Nat.add_eq_zero_iff, and_false, false_and, List.length_cons, List.length_nil, reduceCtorEq, q_toI, Nat.zero_add, Nat.le_refl, q_c0, q_c1, q_c2, q_c4, q_c9, q_c12, q_c30, q_c99, q_c100, q_c126, q_c32, q_c359, q_c999]
  exact H _ _ _ _ _ h (hg_F_Le hF h2 h6) _ _ _ _ _ _ _ _ _ _ _ _ _ _ _ _ _ _ _ _ _ _ _ _ _
theorem hg_set (hN : L ≤ 260) (h2 : 2 ≤ m) (h6 : m ≤ 6) (H : hg_Hd L xs m 0 Q) {E : q_E} {g : q_G} {f : q_St} {st : Nat} (hst : st = min m 4) (h : q_Rc L xs E g f st) (hF : hg_F m f) (h306 : f 306 = nI 3) {l4 l5 l6 l7 l8 l9 l10 l11 l12 l13 l14 l15 l16 l17 l18 l19 l20 l21 l22 l23 l24 l25 l26 l27 l28 l29 l30 l31 : Value} : q_X 86 121 [.ref 1, .ref 3, .int (nI 1), .int (nI m), l4, l5, l6, l7, l8, l9, l10, l11, l12, l13, l14, l15, l16, l17, l18, l19, l20, l21, l22, l23, l24, l25, l26, l27, l28, l29, l30, l31] [] E g Q := by
  have k3 := h.1.1.2.1.1
  obtain ⟨a, a1, a2⟩ := s_cell (g := g) h.1.1.1.2.2.1 hN (k := 8) (by omega)
  obtain ⟨b, b1, b2⟩ := s_cell (g := g) h.1.1.1.2.2.1 hN (k := 9) (by omega)
  obtain ⟨a', ha⟩ : ∃ a', a' = a % 360 := ⟨_, rfl⟩
  obtain ⟨b', hb⟩ : ∃ b', b' = b % 360 := ⟨_, rfl⟩
  obtain ⟨E1, g1, W1, st1, r1, s1⟩ := w_season h (nI 0) (nI a') (nI b')
  have t1 := q_ir_t (lo := 0) (hi := 359) (Nat.zero_le a') (by omega) (by omega)
  have t2 := q_ir_t (lo := 0) (hi := 359) (Nat.zero_le b') (by omega) (by omega)
  rw [q_c0, q_c359] at t1 t2
  have e1 : p_season f (nI 0) (nI a') (nI b') = (q_b (q_onf (upd (upd f 0 (nI a')) 1 (nI b')) 0), upd (upd f 0 (nI a')) 1 (nI b')) := by
    unfold p_season
    rw [t1, t2, if_pos (by decide)]
    rfl
  rw [e1] at W1 r1 s1
  dsimp only at W1 r1 s1
  obtain ⟨q, q1, q2⟩ : ∃ q : Nat, q < 2 ∧ q_b (q_onf (upd (upd f 0 (nI a')) 1 (nI b')) 0) = nI q := by
    cases q_onf (upd (upd f 0 (nI a')) 1 (nI b')) 0
    · exact ⟨0, by omega, rfl⟩
    · exact ⟨1, by omega, rfl⟩
  rw [q2] at W1 s1
  rcases s1 with ⟨s1, -⟩ | ⟨-, s2, -⟩
  · exact absurd s1 (q_er_n (by omega))
  obtain ⟨c, c1, c2⟩ := s_cell (g := g1) r1.1.1.1.2.2.1 hN (k := 10) (by omega)
  obtain ⟨c', hc⟩ : ∃ c', c' = c % 5 := ⟨_, rfl⟩
  obtain ⟨E2, g2, W2, st2, r2, s3⟩ := w_set r1 (nI 0) (nI c')
  have k3' := r1.1.1.2.1.1
  have t3 := q_ir_t (lo := 0) (hi := 30) (Nat.zero_le c') (by omega) (by omega)
  rw [q_c0, q_c30] at t3
  have e2 : p_set (upd (upd f 0 (nI a')) 1 (nI b')) (nI 0) (nI c') = (nI 3, upd (upd (upd f 0 (nI a')) 1 (nI b')) 306 (nI c')) := by
    unfold p_set
    rw [if_pos (show nI 0 = nI 0 from rfl), t3, if_pos (by decide)]
    show (upd (upd f 0 (nI a')) 1 (nI b') 306, _) = _
    rw [q_updn (by omega), q_updn (by omega), h306]
    rfl
  rw [e2] at W2 r2 s3
  dsimp only at W2 r2 s3
  rcases s3 with ⟨s3, -⟩ | ⟨-, s4, -⟩
  · exact absurd s3 (q_er_n (by omega))
  obtain rfl : st2 = 4 := by omega
  have hF2 : hg_F m (upd (upd (upd f 0 (nI a')) 1 (nI b')) 306 (nI c')) := by
    obtain ⟨z, b, d, p⟩ := hF
    refine ⟨?_, fun x x1 x2 x3 => ?_, fun v w v1 w1 w2 => ?_, fun v hv => ?_⟩
    · unfold q_sz
      rw [q_updn (by omega), q_updn (by omega), q_updn (by omega)]
      exact z
    · rw [q_updn (by omega), q_updn (by omega), q_updn (by omega)]; exact b x x1 x2 x3
    · rw [q_updn (by omega), q_updn (by omega), q_updn (by omega)]; exact d v w v1 w1 w2
    · rw [q_updn (by omega), q_updn (by omega), q_updn (by omega), q_updn (by omega), q_updn (by omega), q_updn (by omega)]; exact p v hv
  simp (disch := omega) only [x86_121, x86_122, x86_125, x86_126, x86_127, x86_128, x86_130, x86_133, x86_136, x86_137, x86_138, x86_140, x86_143, x86_146, x86_147, x86_150, x86_153, x86_154, x86_155, x86_156, x86_158, x86_161, x86_162, x86_163, x86_166, x86_167, x86_170, x86_171, x86_174, x86_175, nI_add, pk_mul, q_cl31, q_vin, q_le, q_lt, q_eqn, q_b_0, q_b_t, q_b_f, q_nz, q_nz1, q_nz0, q_tl, q_tn, true_and, and_true, not_true_eq_false, not_false_eq_true, ite_true, ite_false, ↓reduceIte, true_or, or_true, and_self, ne_eq, q_or1, q_or2, Nat.add_eq_zero_iff, and_false, false_and, List.length_cons, List.length_nil, reduceCtorEq, q_toI, Nat.zero_add, Nat.le_refl, q_c0, q_c1, q_c2, q_c4, q_c9, q_c12, q_c30, q_c99, q_c100, q_c126, q_c32, q_c359, q_c999, k3, k3', a2, b2, c2, pk_div, hg_rem, hg_nz, ← ha, ← hb, ← hc, W1, W2, eq_self, Nat.not_lt_zero]
  exact hg_made hN h2 h6 H r2 hF2
/-- the law, from the small machine's start -/
theorem q_law (L : Nat) (xs : Nat → Int32) (hN : L ≤ 260) : q_X 86 0 (.ref 1 :: List.replicate 31 .null) [] (q_E0 L) (q_g0 xs) (fun v E' _ => v = some (.int 1) ∧ E'.1 ≤ 146 ∧ E'.2.1 ≤ 2079) := by
  obtain ⟨E, g, h, hs⟩ := q_begin L xs
  show q_X 86 0 [.ref 1, .null, .null, .null, .null, .null, .null, .null, .null, .null, .null, .null, .null, .null, .null, .null, .null, .null, .null, .null, .null, .null, .null, .null, .null, .null, .null, .null, .null, .null, .null, .null] [] (q_E0 L) (q_g0 xs) _
  rw [hs]
  have k3 := h.1.1.2.1.1
  have f310 : q_f0 310 = nI 0 := f0_z (by omega) (by omega) (by omega) (by omega)
  obtain ⟨E1, g1, W1, st1, r1, s1⟩ := w_giveBack h
  have e1 : p_give q_f0 = (-1000002, q_f0) := by
    unfold p_give
    rw [f0_n.1]
    exact if_pos rfl
  rw [e1] at W1 r1 s1
  dsimp only at W1 r1 s1
  obtain rfl : st1 = 0 := by
    rcases s1 with ⟨-, s⟩ | ⟨⟨r, hr, hr2⟩, -⟩
    · exact s
    · exact absurd (show q_Er (nI r) from hr2 ▸ Or.inr (Or.inl rfl)) (q_er_n hr)
  obtain ⟨E2, g2, W2, st2, r2, s2⟩ := w_sell r1 (nI 0)
  have e2 : p_sell q_f0 (nI 0) = (-1000001, q_f0) := by
    unfold p_sell
    exact if_neg (by
      unfold q_isv
      rw [f0_n.1]
      decide)
  rw [e2] at W2 r2 s2
  dsimp only at W2 r2 s2
  obtain rfl : st2 = 0 := by
    rcases s2 with ⟨-, s⟩ | ⟨⟨r, hr, hr2⟩, -⟩
    · exact s
    · exact absurd (show q_Er (nI r) from hr2 ▸ Or.inl rfl) (q_er_n hr)
  have k31 := r1.1.1.2.1.1
  have k32 := r2.1.1.2.1.1
  obtain ⟨y, y1, y2⟩ := s_cell (g := g2) r2.1.1.1.2.2.1 hN (k := 0) (by omega)
  obtain ⟨m, hm⟩ : ∃ m, m = 2 + y % 5 := ⟨_, rfl⟩
  have HH : hg_Hd L xs m 0 (fun v E' _ => v = some (.int 1) ∧ E'.1 ≤ 146 ∧ E'.2.1 ≤ 2079) := hg_all hN (hg_fin fun E' g' a b => ⟨rfl, a, b⟩)
  simp (disch := omega) only [x86_8, x86_9, x86_11, x86_14, x86_16, x86_19, x86_20, x86_23, x86_25, x86_28, x86_29, x86_30, x86_33, x86_35, x86_38, x86_39, x86_42, x86_43, x86_44, x86_45, x86_46, x86_47, x86_50, x86_51, x86_52, x86_53, x86_54, x86_55, nI_add, pk_mul, q_cl31, q_vin, q_le, q_lt, q_eqn, q_b_0, q_b_t, q_b_f, q_nz, q_nz1, q_nz0, q_tl, q_tn, true_and, and_true, not_true_eq_false, not_false_eq_true, ite_true, ite_false, ↓reduceIte, true_or, or_true, and_self, ne_eq, q_or1, q_or2, Nat.add_eq_zero_iff, and_false, false_and, List.length_cons, List.length_nil, reduceCtorEq, q_toI, Nat.zero_add, Nat.le_refl, q_c0, q_c1, q_c2, q_c4, q_c9, q_c12, q_c30, q_c99, q_c100, q_c126, q_c32, q_c359, q_c999, k3, k31, k32, r_count h, ac_8, f310, W1, W2, y2, pk_div, hg_rem, hg_nz, ← hm, eq_self]
  refine hg_down (N := m) (P := fun t => ∀ (E : q_E) (g : q_G) (f : q_St) (st : Nat), st = min t 4 → q_Rc L xs E g f st → hg_F t f → f 306 = nI 3 → ∀ l5 l6 l7 l8 l9 l10 l11 l12 l13 l14 l15 l16 l17 l18 l19 l20 l21 l22 l23 l24 l25 l26 l27 l28 l29 l30 l31 : Value, q_X 86 57 [.ref 1, .ref 3, .int (nI 1), .int (nI m), .int (nI t), l5, l6, l7, l8, l9, l10, l11, l12, l13, l14, l15, l16, l17, l18, l19, l20, l21, l22, l23, l24, l25, l26, l27, l28, l29, l30, l31] [] E g (fun v E' _ => v = some (.int 1) ∧ E'.1 ≤ 146 ∧ E'.2.1 ≤ 2079)) (fun t ht hP E g f st hst h hF h306 l5 l6 l7 l8 l9 l10 l11 l12 l13 l14 l15 l16 l17 l18 l19 l20 l21 l22 l23 l24 l25 l26 l27 l28 l29 l30 l31 => ?_) (fun E g f st hst h hF h306 l5 l6 l7 l8 l9 l10 l11 l12 l13 l14 l15 l16 l17 l18 l19 l20 l21 l22 l23 l24 l25 l26 l27 l28 l29 l30 l31 => ?_) _ _ _ _ rfl r2 ⟨f0_n.1, fun x _ _ _ => rfl, fun v w v1 w1 w2 => f0_z (by omega) (by omega) (by omega) (by omega), fun v hv => absurd hv (Nat.not_lt_zero _)⟩ (by decide) _ _ _ _ _ _ _ _ _ _ _ _ _ _ _ _ _ _ _ _ _ _ _ _ _ _ _
  · have k3 := h.1.1.2.1.1
    obtain ⟨y, y1, y2⟩ := s_cell (g := g) h.1.1.1.2.2.1 hN (k := 1 + t) (by omega)
    obtain ⟨U1, U2⟩ := hg_F_v (a := y % 3) (p := 1 + y / 8 % 99) (c := y / 1024 % 100) h.2.2.1 hF (by omega) (by omega) (by omega) (by omega) (by omega)
    obtain ⟨E3, g3, W3, st3, r3, s3⟩ := w_verse h (nI (y % 3)) (nI (1 + y / 8 % 99)) (nI (y / 1024 % 100))
    have h3 : (p_verse f (nI (y % 3)) (nI (1 + y / 8 % 99)) (nI (y / 1024 % 100))).2 306 = nI 3 := by
      have := U2.1
      unfold p_verse
      split
      · split
        · exact h306
        · have hsz := hF.1
          dsimp only
          rw [q_updn (by omega), q_updn (by omega), q_updn (by omega), q_updn (by omega)]
          exact h306
      · exact h306
    generalize p_verse f (nI (y % 3)) (nI (1 + y / 8 % 99)) (nI (y / 1024 % 100)) = p at *
    have hst3 : st3 = min (t + 1) 4 := by
      rcases s3 with ⟨s, -⟩ | ⟨-, s, -⟩
      · rw [U1] at s
        exact absurd s (q_er_n (by omega))
      · omega
    simp (disch := omega) only [x86_57, x86_59, x86_60, x86_63, x86_64, x86_67, x86_68, x86_69, x86_71, x86_72, x86_75, x86_77, x86_78, x86_80, x86_81, x86_82, x86_83, x86_85, x86_87, x86_88, x86_90, x86_91, x86_92, x86_94, x86_97, x86_98, x86_100, x86_101, x86_104, x86_106, x86_109, x86_110, x86_113, x86_114, x86_115, nI_add, pk_mul, q_cl31, q_vin, q_le, q_lt, q_eqn, q_b_0, q_b_t, q_b_f, q_nz, q_nz1, q_nz0, q_tl, q_tn, true_and, and_true, not_true_eq_false, not_false_eq_true, ite_true, ite_false, ↓reduceIte, true_or, or_true, and_self, ne_eq, q_or1, q_or2, Nat.add_eq_zero_iff, and_false, false_and, List.length_cons, List.length_nil, reduceCtorEq, q_toI, Nat.zero_add, Nat.le_refl, q_c0, q_c1, q_c2, q_c4, q_c9, q_c12, q_c30, q_c99, q_c100, q_c126, q_c32, q_c359, q_c999, k3, y2, pk_div, hg_rem, hg_nz, W3, U1, eq_self, show (m ≤ t) = False from eq_false (by omega)]
    simp only [x86_118]
    exact hP _ _ _ _ hst3 r3 U2 h3 _ _ _ _ _ _ _ _ _ _ _ _ _ _ _ _ _ _ _ _ _ _ _ _ _ _ _
  · simp (disch := omega) only [x86_57, x86_59, x86_60, nI_add, pk_mul, q_cl31, q_vin, q_le, q_lt, q_eqn, q_b_0, q_b_t, q_b_f, q_nz, q_nz1, q_nz0, q_tl, q_tn, true_and, and_true, not_true_eq_false, not_false_eq_true, ite_true, ite_false, ↓reduceIte, true_or, or_true, and_self, ne_eq, q_or1, q_or2, Nat.add_eq_zero_iff, and_false, false_and, List.length_cons, List.length_nil, reduceCtorEq, q_toI, Nat.zero_add, Nat.le_refl, q_c0, q_c1, q_c2, q_c4, q_c9, q_c12, q_c30, q_c99, q_c100, q_c126, q_c32, q_c359, q_c999]
    exact hg_set hN (by omega) (by omega) HH hst h hF h306
end
