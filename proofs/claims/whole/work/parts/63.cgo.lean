/-! the orders of a text, done on a State -/
theorem q_Bes_f {E : q_E} {g g' : q_G} (h : q_BesB E g) (hf : q_Tf g g') : q_BesB E g' := ⟨h.1, fun i hi => by rw [hf.1 2 (by decide) (by decide)]; exact h.2 i hi⟩
theorem q_V_o {g g' : q_G} {B : Nat} {f : q_St} (hV : q_Vsta g B f) (h : ∀ b, B ≤ b → b < B + 23 → g' b = g b) : q_Vsta g' B f := by
  refine q_V_mk (fun o j i hl => ?_) (fun i j hi hj => ?_) ⟨?_, ?_⟩
  · rw [← q_V_get hV hl]
    unfold q_lc at hl
    rw [h _ (by omega) (by omega)]
  · rw [h _ (by omega) (by omega)]; exact hV.2.2.2.1 i j hi hj
  · rw [h _ (by omega) (by omega)]; exact hV.2.2.2.2.2.1
  · rw [← hV.2.2.2.2.2.2]
    unfold q_ol
    rw [h _ (by omega) (by omega), h _ (by omega) (by omega), h _ (by omega) (by omega)]
section
variable {E : q_E} {t : Nat → Int32} {n : Nat}
theorem c_perform {g : q_G} {f : q_St} {B : Nat} (hX : q_TexB E) (hB : q_BesB E g) (hB2 : 2 < B) (hS : q_StaB E B) (hV : q_Vsta g B f) (hI : q_In f) {s : Int32} (h3 : g 142 3 = s) : q_Cop E g B 144 [.ref 142, .ref B, .null, .null, .null] (p_does f s (g 144 0) (g 144 1) (g 144 2)) := by
  obtain ⟨x1, x2, x3, x4, x5⟩ := id hX
  have ks0 := hS.1
  unfold p_does
  by_cases c1 : s = nI 108
  · rw [if_pos c1]
    obtain ⟨g', i1, i2, i3⟩ := k_lay hS hV hI (g 144 0) (g 144 1) (g 144 2)
    refine ⟨g', fun Q => ?_, i2, i3⟩
    subst c1
    simp (disch := omega) only [x144_0, x144_1, x144_4, x144_5, x144_6, x144_7, x144_8, x144_11, x144_12, x144_13, x144_14, x144_15, x144_18, x144_19, x144_20, x144_22, x144_23, x144_26, x144_68, x144_69, x144_70, x144_71, x144_73, x144_76, x144_77, x144_78, x144_79, x144_80, x144_83, x144_84, x144_85, x144_86, x144_87, x144_89, x144_92, x144_93, x144_94, x144_95, x144_98, x144_99, x144_100, x144_101, x144_104, nI_add, pk_mul, q_cl31, q_vin, q_le, q_lt, q_eqn, q_b_0, q_b_t, q_b_f, q_nz, q_nz1, q_nz0, q_tl, q_tn, true_and, and_true, not_true_eq_false, not_false_eq_true, ite_true, ite_false, ↓reduceIte, true_or, or_true, and_self, ne_eq, q_or1, q_or2, Nat.add_eq_zero_iff, and_false, false_and, List.length_cons, List.length_nil, reduceCtorEq, q_toI, Nat.zero_add, Nat.le_refl, q_c0, q_c1, q_c2, q_c4, q_c9, q_c12, q_c30, q_c99, q_c100, q_c126, q_c32, q_c359, q_c999, x1, x2, x3, x4, x5, ks0, h3, i1]
  rw [if_neg c1]
  by_cases c2 : s = nI 111
  · rw [if_pos c2]
    obtain ⟨g', i1, i2, i3⟩ := k_order hS hV hI (g 144 0) (g 144 1)
    refine ⟨g', fun Q => ?_, i2, i3⟩
    subst c2
    simp (disch := omega) only [x144_0, x144_1, x144_4, x144_5, x144_6, x144_7, x144_8, x144_11, x144_12, x144_13, x144_14, x144_15, x144_18, x144_19, x144_20, x144_22, x144_23, x144_26, x144_68, x144_69, x144_70, x144_71, x144_73, x144_76, x144_77, x144_78, x144_79, x144_80, x144_83, x144_84, x144_85, x144_86, x144_87, x144_89, x144_92, x144_93, x144_94, x144_95, x144_98, x144_99, x144_100, x144_101, x144_104, nI_add, pk_mul, q_cl31, q_vin, q_le, q_lt, q_eqn, q_b_0, q_b_t, q_b_f, q_nz, q_nz1, q_nz0, q_tl, q_tn, true_and, and_true, not_true_eq_false, not_false_eq_true, ite_true, ite_false, ↓reduceIte, true_or, or_true, and_self, ne_eq, q_or1, q_or2, Nat.add_eq_zero_iff, and_false, false_and, List.length_cons, List.length_nil, reduceCtorEq, q_toI, Nat.zero_add, Nat.le_refl, q_c0, q_c1, q_c2, q_c4, q_c9, q_c12, q_c30, q_c99, q_c100, q_c126, q_c32, q_c359, q_c999, x1, x2, x3, x4, x5, ks0, h3, i1, Nat.reduceEqDiff]
  rw [if_neg c2]
  by_cases c3 : s = nI 115
  · rw [if_pos c3]
    obtain ⟨g', i1, i2, i3⟩ := k_sell hB hB2 hS hV hI (g 144 0)
    refine ⟨g', fun Q => ?_, i2, i3⟩
    subst c3
    simp (disch := omega) only [x144_0, x144_1, x144_4, x144_5, x144_6, x144_7, x144_8, x144_11, x144_12, x144_13, x144_14, x144_15, x144_18, x144_19, x144_20, x144_22, x144_23, x144_26, x144_68, x144_69, x144_70, x144_71, x144_73, x144_76, x144_77, x144_78, x144_79, x144_80, x144_83, x144_84, x144_85, x144_86, x144_87, x144_89, x144_92, x144_93, x144_94, x144_95, x144_98, x144_99, x144_100, x144_101, x144_104, nI_add, pk_mul, q_cl31, q_vin, q_le, q_lt, q_eqn, q_b_0, q_b_t, q_b_f, q_nz, q_nz1, q_nz0, q_tl, q_tn, true_and, and_true, not_true_eq_false, not_false_eq_true, ite_true, ite_false, ↓reduceIte, true_or, or_true, and_self, ne_eq, q_or1, q_or2, Nat.add_eq_zero_iff, and_false, false_and, List.length_cons, List.length_nil, reduceCtorEq, q_toI, Nat.zero_add, Nat.le_refl, q_c0, q_c1, q_c2, q_c4, q_c9, q_c12, q_c30, q_c99, q_c100, q_c126, q_c32, q_c359, q_c999, x1, x2, x3, x4, x5, ks0, h3, i1, Nat.reduceEqDiff]
  rw [if_neg c3]
  by_cases c4 : s = nI 118
  · rw [if_pos c4]
    obtain ⟨g', i1, i2, i3⟩ := k_verse hS hV hI (g 144 0) (g 144 1) (g 144 2)
    refine ⟨g', fun Q => ?_, i2, i3⟩
    subst c4
    simp (disch := omega) only [x144_0, x144_1, x144_4, x144_5, x144_6, x144_7, x144_8, x144_11, x144_12, x144_13, x144_14, x144_15, x144_18, x144_19, x144_20, x144_22, x144_23, x144_26, x144_68, x144_69, x144_70, x144_71, x144_73, x144_76, x144_77, x144_78, x144_79, x144_80, x144_83, x144_84, x144_85, x144_86, x144_87, x144_89, x144_92, x144_93, x144_94, x144_95, x144_98, x144_99, x144_100, x144_101, x144_104, nI_add, pk_mul, q_cl31, q_vin, q_le, q_lt, q_eqn, q_b_0, q_b_t, q_b_f, q_nz, q_nz1, q_nz0, q_tl, q_tn, true_and, and_true, not_true_eq_false, not_false_eq_true, ite_true, ite_false, ↓reduceIte, true_or, or_true, and_self, ne_eq, q_or1, q_or2, Nat.add_eq_zero_iff, and_false, false_and, List.length_cons, List.length_nil, reduceCtorEq, q_toI, Nat.zero_add, Nat.le_refl, q_c0, q_c1, q_c2, q_c4, q_c9, q_c12, q_c30, q_c99, q_c100, q_c126, q_c32, q_c359, q_c999, x1, x2, x3, x4, x5, ks0, h3, i1, Nat.reduceEqDiff]
  rw [if_neg c4]
  obtain ⟨g', i1, i2, i3⟩ := k_pass hS hV hI (g 144 0)
  refine ⟨g', fun Q => ?_, i2, i3⟩
  simp (disch := omega) only [x144_0, x144_1, x144_4, x144_5, x144_6, x144_7, x144_8, x144_11, x144_12, x144_13, x144_14, x144_15, x144_18, x144_19, x144_20, x144_22, x144_23, x144_26, x144_68, x144_69, x144_70, x144_71, x144_73, x144_76, x144_77, x144_78, x144_79, x144_80, x144_83, x144_84, x144_85, x144_86, x144_87, x144_89, x144_92, x144_93, x144_94, x144_95, x144_98, x144_99, x144_100, x144_101, x144_104, nI_add, pk_mul, q_cl31, q_vin, q_le, q_lt, q_eqn, q_b_0, q_b_t, q_b_f, q_nz, q_nz1, q_nz0, q_tl, q_tn, true_and, and_true, not_true_eq_false, not_false_eq_true, ite_true, ite_false, ↓reduceIte, true_or, or_true, and_self, ne_eq, q_or1, q_or2, Nat.add_eq_zero_iff, and_false, false_and, List.length_cons, List.length_nil, reduceCtorEq, q_toI, Nat.zero_add, Nat.le_refl, q_c0, q_c1, q_c2, q_c4, q_c9, q_c12, q_c30, q_c99, q_c100, q_c126, q_c32, q_c359, q_c999, x1, x2, x3, x4, x5, ks0, h3, i1, c1, c2, c3, c4]
/-- what a rehearsal may change: its own marks, the text's, the State at B -/
def q_Rf (B : Nat) (g g' : q_G) : Prop := (∀ b, (b < B ∨ B + 23 ≤ b) → b ≠ 142 → b ≠ 144 → b ≠ 145 → g' b = g b) ∧ (∀ i, i ≠ 3 → i ≠ 4 → g' 142 i = g 142 i)
theorem q_Rf_r (B : Nat) (g : q_G) : q_Rf B g g := ⟨fun _ _ _ _ _ => rfl, fun _ _ _ => rfl⟩
theorem q_Rf_t {B : Nat} {g g' g'' : q_G} (h : q_Rf B g g') (h2 : q_Rf B g' g'') : q_Rf B g g'' := ⟨fun b b0 b1 b2 b3 => (h2.1 b b0 b1 b2 b3).trans (h.1 b b0 b1 b2 b3), fun i i1 i2 => (h2.2 i i1 i2).trans (h.2 i i1 i2)⟩
theorem q_Rf_f {B : Nat} {g g' : q_G} (h : q_Tf g g') : q_Rf B g g' := ⟨fun b _ b1 b2 _ => h.1 b b1 b2, h.2⟩
theorem q_Rf_o {B : Nat} {g g' : q_G} (h : q_Out B g g') (hb : B + 23 ≤ 142) : q_Rf B g g' := ⟨fun b b0 _ _ _ => h b b0, fun i _ _ => by rw [h 142 (Or.inr hb)]⟩
theorem q_Rf_5 {B : Nat} (g : q_G) (i : Nat) (x : Int32) : q_Rf B g (q_up g 145 i x) := ⟨fun b _ _ _ b3 => q_upf b3, fun i _ _ => q_upn (by decide)⟩
theorem q_Vtx_r {B : Nat} {g g' : q_G} (h : q_Vtx g t n) (hf : q_Rf B g g') (hb : B + 23 ≤ 142) : q_Vtx g' t n := ⟨⟨(hf.2 1 (by decide) (by decide)).trans h.1.1, h.1.2⟩, fun i hi => by rw [hf.1 143 (Or.inr (by omega)) (by decide) (by decide) (by decide)]; exact h.2.1 i hi, h.2.2⟩
theorem q_Bes_r {B : Nat} {g g' : q_G} (h : q_BesB E g) (hf : q_Rf B g g') (hb : 2 < B) : q_BesB E g' := ⟨h.1, fun i hi => by rw [hf.1 2 (Or.inl hb) (by decide) (by decide) (by decide)]; exact h.2 i hi⟩
/-- what a rehearsal tells -/
def q_Rt (g : q_G) (B : Nat) (r : Option (Nat × Nat × Int32) × Nat × q_St) : Prop := (r.1 = none → g 145 1 = nI 0 ∧ g 145 3 = nI r.2.1 ∧ q_Vsta g B r.2.2) ∧ (∀ q w x, r.1 = some (q, w, x) → g 145 0 = nI q ∧ g 145 1 = nI w ∧ g 145 2 = x ∧ (w = 1 ∨ w = 2))
theorem c_gol (hX : q_TexB E) (hR : q_kd E 145 = (8, 4)) {B : Nat} (hB2 : 2 < B) (hB3 : B + 23 ≤ 142) (hS : q_StaB E B) : ∀ k p c (g : q_G) (f : q_St) (L4 L5 : Value), k ≤ 60 → q_BesB E g → q_Vtx g t n → q_Vsta g B f → q_In f → n ≤ p + k → p ≤ 60 + 13 → c ≤ p → g 145 0 = nI p → g 145 1 = nI 0 → g 145 3 = nI c →
    ∃ g' : q_G, (∀ Q : Option Value → q_E → q_G → Prop, q_X 157 22 [.ref 145, .ref 142, .ref B, .int (nI (60 - k)), L4, L5] [] E g Q = Q none E g') ∧ q_Rf B g g' ∧ q_Rt g' B (p_go t n k p c f) := by
  obtain ⟨x1, x2, x3, x4, x5⟩ := id hX
  have ks0 := hS.1
  intro k
  induction k with
  | zero =>
    intro p c g f L4 L5 _ hB hT hV hI hk hp hc h0 h1 h3
    refine ⟨g, fun Q => ?_, q_Rf_r B g, fun _ => ⟨h1, h3, hV⟩, fun q w x h => (by cases h)⟩
    simp (disch := omega) only [x157_0, x157_1, x157_2, x157_5, x157_6, x157_7, x157_10, x157_11, x157_12, x157_15, x157_16, x157_17, x157_20, x157_21, x157_22, x157_23, x157_25, x157_28, x157_29, x157_32, x157_35, x157_36, x157_39, x157_40, x157_43, x157_46, x157_47, x157_48, x157_51, x157_54, x157_56, x157_58, x157_61, x157_62, x157_63, x157_66, x157_69, x157_71, x157_73, x157_75, x157_78, x157_79, x157_80, x157_81, x157_84, x157_85, x157_88, x157_89, x157_92, x157_95, x157_97, x157_100, x157_101, x157_102, x157_104, x157_107, x157_110, x157_111, x157_112, x157_115, x157_118, x157_119, x157_120, x157_123, x157_124, x157_125, x157_128, x157_134, nI_add, pk_mul, q_cl31, q_vin, q_le, q_lt, q_eqn, q_b_0, q_b_t, q_b_f, q_nz, q_nz1, q_nz0, q_tl, q_tn, true_and, and_true, not_true_eq_false, not_false_eq_true, ite_true, ite_false, ↓reduceIte, true_or, or_true, and_self, ne_eq, q_or1, q_or2, Nat.add_eq_zero_iff, and_false, false_and, List.length_cons, List.length_nil, reduceCtorEq, q_toI, Nat.zero_add, Nat.le_refl, q_c0, q_c1, q_c2, q_c4, q_c9, q_c12, q_c30, q_c99, q_c100, q_c126, q_c32, q_c359, q_c999, Nat.sub_zero]
  | succ k ih =>
    intro p c g f L4 L5 hk60 hB hT hV hI hk hp hc h0 h1 h3
    have l1 := hT.1.1
    have hn := hT.1.2
    have ek : (60 ≤ 60 - (k + 1)) = False := eq_false (by omega)
    by_cases hpn : p < n
    · obtain ⟨g1, t1, t2, t3, t4, t5⟩ := c_rorder hX hT (p := p) (by omega)
      obtain ⟨e1, e2, e3⟩ := q_ro_ge t n p
      have go : p_go t n (k + 1) p c f = if (q_ro t n p).1 = true then (if (p_at t n p f).1 < nI 0 then (some (p, 2, (p_at t n p f).1), c, (p_at t n p f).2) else p_go t n k (q_ro t n p).2 (c + 1) (p_at t n p f).2) else (some (p, 1, nI ((q_ro t n p).2 - p)), c, f) := if_pos hpn
      rw [go]
      have hB1 := q_Bes_f hB t2
      have hV1 : q_Vsta g1 B f := q_V_o hV fun b b1 b2 => t2.1 b (by omega) (by omega)
      have h145 : g1 145 = g 145 := t2.1 145 (by decide) (by decide)
      have a0 : g1 145 0 = nI p := by rw [h145]; exact h0
      have a3 : g1 145 3 = nI c := by rw [h145]; exact h3
      have np : (n ≤ p) = False := eq_false (by omega)
      cases hr : (q_ro t n p).1
      · simp only [Bool.false_eq_true, ↓reduceIte]
        have m1 : ((-1000001 : Int32) < nI 0) = True := by decide
        have X : ∃ L5', ∀ Q : Option Value → q_E → q_G → Prop, q_X 157 22 [.ref 145, .ref 142, .ref B, .int (nI (60 - (k + 1))), L4, L5] [] E g Q = q_X 157 22 [.ref 145, .ref 142, .ref B, .int (nI (60 - (k + 1) + 1)), .int (nI 0), L5'] [] E (q_up (q_up g1 145 1 (nI 1)) 145 2 (nI ((q_ro t n p).2 - p))) Q := by
          apply Exists.intro
          intro Q
          conv => lhs; simp (disch := omega) only [x157_0, x157_1, x157_2, x157_5, x157_6, x157_7, x157_10, x157_11, x157_12, x157_15, x157_16, x157_17, x157_20, x157_21, x157_22, x157_23, x157_25, x157_28, x157_29, x157_32, x157_35, x157_36, x157_39, x157_40, x157_43, x157_46, x157_47, x157_48, x157_51, x157_54, x157_56, x157_58, x157_61, x157_62, x157_63, x157_66, x157_69, x157_71, x157_73, x157_75, x157_78, x157_79, x157_80, x157_81, x157_84, x157_85, x157_88, x157_89, x157_92, x157_95, x157_97, x157_100, x157_101, x157_102, x157_104, x157_107, x157_110, x157_111, x157_112, x157_115, x157_118, x157_119, x157_120, x157_123, x157_124, x157_125, x157_128, x157_134, x15_0, x15_1, x15_2, x15_5, x15_6, x15_7, x15_10, nI_add, pk_mul, q_cl31, q_vin, q_le, q_lt, q_eqn, q_b_0, q_b_t, q_b_f, q_nz, q_nz1, q_nz0, q_tl, q_tn, true_and, and_true, not_true_eq_false, not_false_eq_true, ite_true, ite_false, ↓reduceIte, true_or, or_true, and_self, ne_eq, q_or1, q_or2, Nat.add_eq_zero_iff, and_false, false_and, List.length_cons, List.length_nil, reduceCtorEq, q_toI, Nat.zero_add, Nat.le_refl, q_c0, q_c1, q_c2, q_c4, q_c9, q_c12, q_c30, q_c99, q_c100, q_c126, q_c32, q_c359, q_c999, x1, hR, ek, h0, h1, l1, np, t1, hr, Bool.false_eq_true, a0, t4, pk_sub]
          simp only [x157_131]
          try exact rfl
        obtain ⟨L5', X⟩ := X
        have hf : q_Rf B g (q_up (q_up g1 145 1 (nI 1)) 145 2 (nI ((q_ro t n p).2 - p))) := q_Rf_t (q_Rf_f t2) (q_Rf_t (q_Rf_5 _ _ _) (q_Rf_5 _ _ _))
        refine ⟨_, fun Q => ?_, hf, fun h => (by cases h), fun q w x h => ?_⟩
        · rw [X Q]
          by_cases z : 60 ≤ 60 - (k + 1) + 1
          · simp (disch := omega) only [x157_0, x157_1, x157_2, x157_5, x157_6, x157_7, x157_10, x157_11, x157_12, x157_15, x157_16, x157_17, x157_20, x157_21, x157_22, x157_23, x157_25, x157_28, x157_29, x157_32, x157_35, x157_36, x157_39, x157_40, x157_43, x157_46, x157_47, x157_48, x157_51, x157_54, x157_56, x157_58, x157_61, x157_62, x157_63, x157_66, x157_69, x157_71, x157_73, x157_75, x157_78, x157_79, x157_80, x157_81, x157_84, x157_85, x157_88, x157_89, x157_92, x157_95, x157_97, x157_100, x157_101, x157_102, x157_104, x157_107, x157_110, x157_111, x157_112, x157_115, x157_118, x157_119, x157_120, x157_123, x157_124, x157_125, x157_128, x157_134, nI_add, pk_mul, q_cl31, q_vin, q_le, q_lt, q_eqn, q_b_0, q_b_t, q_b_f, q_nz, q_nz1, q_nz0, q_tl, q_tn, true_and, and_true, not_true_eq_false, not_false_eq_true, ite_true, ite_false, ↓reduceIte, true_or, or_true, and_self, ne_eq, q_or1, q_or2, Nat.add_eq_zero_iff, and_false, false_and, List.length_cons, List.length_nil, reduceCtorEq, q_toI, Nat.zero_add, Nat.le_refl, q_c0, q_c1, q_c2, q_c4, q_c9, q_c12, q_c30, q_c99, q_c100, q_c126, q_c32, q_c359, q_c999, z]
          · simp (disch := omega) only [x157_0, x157_1, x157_2, x157_5, x157_6, x157_7, x157_10, x157_11, x157_12, x157_15, x157_16, x157_17, x157_20, x157_21, x157_22, x157_23, x157_25, x157_28, x157_29, x157_32, x157_35, x157_36, x157_39, x157_40, x157_43, x157_46, x157_47, x157_48, x157_51, x157_54, x157_56, x157_58, x157_61, x157_62, x157_63, x157_66, x157_69, x157_71, x157_73, x157_75, x157_78, x157_79, x157_80, x157_81, x157_84, x157_85, x157_88, x157_89, x157_92, x157_95, x157_97, x157_100, x157_101, x157_102, x157_104, x157_107, x157_110, x157_111, x157_112, x157_115, x157_118, x157_119, x157_120, x157_123, x157_124, x157_125, x157_128, x157_134, nI_add, pk_mul, q_cl31, q_vin, q_le, q_lt, q_eqn, q_b_0, q_b_t, q_b_f, q_nz, q_nz1, q_nz0, q_tl, q_tn, true_and, and_true, not_true_eq_false, not_false_eq_true, ite_true, ite_false, ↓reduceIte, true_or, or_true, and_self, ne_eq, q_or1, q_or2, Nat.add_eq_zero_iff, and_false, false_and, List.length_cons, List.length_nil, reduceCtorEq, q_toI, Nat.zero_add, Nat.le_refl, q_c0, q_c1, q_c2, q_c4, q_c9, q_c12, q_c30, q_c99, q_c100, q_c126, q_c32, q_c359, q_c999, z, hR, q_upm, q_upe]
        · cases h
          exact ⟨by rw [q_upm (by decide), q_upm (by decide)]; exact a0, by rw [q_upm (by decide)]; exact q_upe rfl rfl, q_upe rfl rfl, Or.inl rfl⟩
      · simp only [↓reduceIte]
        obtain ⟨t6, t7, t8⟩ := t5 hr
        obtain ⟨g2, d1, d2, d3⟩ := c_perform hX hB1 hB2 hS hV1 hI t3
        have pa : p_does f (q_sg t n p) (g1 144 0) (g1 144 1) (g1 144 2) = p_at t n p f := p_does_c t6 t7 t8
        rw [pa] at d1 d3
        have ok := q_pt_ok (t := t) (n := n) (p := p) hI
        have hf2 : q_Rf B g g2 := q_Rf_t (q_Rf_f t2) (q_Rf_o d2 hB3)
        have b145 : g2 145 = g1 145 := d2 145 (Or.inr (by omega))
        have b142 : g2 142 = g1 142 := d2 142 (Or.inr (by omega))
        have c0 : g2 145 0 = nI p := by rw [b145]; exact a0
        have c3 : g2 145 3 = nI c := by rw [b145]; exact a3
        have c1 : g2 145 1 = nI 0 := by rw [b145, h145]; exact h1
        have c4 : g2 142 4 = nI (q_ro t n p).2 := by rw [b142]; exact t4
        generalize p_at t n p f = r at *
        obtain ⟨r1, r2⟩ := r
        dsimp only at d1 d3 ok ⊢
        rcases ok with ⟨ok1, ok2⟩ | ⟨v, v1, ok1, ok2⟩
        · dsimp only at ok1 ok2
          rw [if_pos (q_er_lt ok1)]
          have er : (nI 0 ≤ r1) = False := eq_false (Int32.not_le.mpr (q_er_lt ok1))
          have X : ∃ L5', ∀ Q : Option Value → q_E → q_G → Prop, q_X 157 22 [.ref 145, .ref 142, .ref B, .int (nI (60 - (k + 1))), L4, L5] [] E g Q = q_X 157 22 [.ref 145, .ref 142, .ref B, .int (nI (60 - (k + 1) + 1)), .int (nI 1), L5'] [] E (q_up (q_up g2 145 1 (nI 2)) 145 2 r1) Q := by
            apply Exists.intro
            intro Q
            conv => lhs; simp (disch := omega) only [x157_0, x157_1, x157_2, x157_5, x157_6, x157_7, x157_10, x157_11, x157_12, x157_15, x157_16, x157_17, x157_20, x157_21, x157_22, x157_23, x157_25, x157_28, x157_29, x157_32, x157_35, x157_36, x157_39, x157_40, x157_43, x157_46, x157_47, x157_48, x157_51, x157_54, x157_56, x157_58, x157_61, x157_62, x157_63, x157_66, x157_69, x157_71, x157_73, x157_75, x157_78, x157_79, x157_80, x157_81, x157_84, x157_85, x157_88, x157_89, x157_92, x157_95, x157_97, x157_100, x157_101, x157_102, x157_104, x157_107, x157_110, x157_111, x157_112, x157_115, x157_118, x157_119, x157_120, x157_123, x157_124, x157_125, x157_128, x157_134, x15_0, x15_1, x15_2, x15_5, x15_6, x15_7, x15_10, nI_add, pk_mul, q_cl31, q_vin, q_le, q_lt, q_eqn, q_b_0, q_b_t, q_b_f, q_nz, q_nz1, q_nz0, q_tl, q_tn, true_and, and_true, not_true_eq_false, not_false_eq_true, ite_true, ite_false, ↓reduceIte, true_or, or_true, and_self, ne_eq, q_or1, q_or2, Nat.add_eq_zero_iff, and_false, false_and, List.length_cons, List.length_nil, reduceCtorEq, q_toI, Nat.zero_add, Nat.le_refl, q_c0, q_c1, q_c2, q_c4, q_c9, q_c12, q_c30, q_c99, q_c100, q_c126, q_c32, q_c359, q_c999, x1, hR, ek, h0, h1, l1, np, t1, hr, Bool.true_eq_false, d1, er]
            simp only [x157_131]
            try exact rfl
          obtain ⟨L5', X⟩ := X
          have hf4 : q_Rf B g (q_up (q_up g2 145 1 (nI 2)) 145 2 r1) := q_Rf_t hf2 (q_Rf_t (q_Rf_5 _ _ _) (q_Rf_5 _ _ _))
          refine ⟨_, fun Q => ?_, hf4, fun h => (by cases h), fun q w x h => ?_⟩
          · rw [X Q]
            by_cases z : 60 ≤ 60 - (k + 1) + 1
            · simp (disch := omega) only [x157_0, x157_1, x157_2, x157_5, x157_6, x157_7, x157_10, x157_11, x157_12, x157_15, x157_16, x157_17, x157_20, x157_21, x157_22, x157_23, x157_25, x157_28, x157_29, x157_32, x157_35, x157_36, x157_39, x157_40, x157_43, x157_46, x157_47, x157_48, x157_51, x157_54, x157_56, x157_58, x157_61, x157_62, x157_63, x157_66, x157_69, x157_71, x157_73, x157_75, x157_78, x157_79, x157_80, x157_81, x157_84, x157_85, x157_88, x157_89, x157_92, x157_95, x157_97, x157_100, x157_101, x157_102, x157_104, x157_107, x157_110, x157_111, x157_112, x157_115, x157_118, x157_119, x157_120, x157_123, x157_124, x157_125, x157_128, x157_134, nI_add, pk_mul, q_cl31, q_vin, q_le, q_lt, q_eqn, q_b_0, q_b_t, q_b_f, q_nz, q_nz1, q_nz0, q_tl, q_tn, true_and, and_true, not_true_eq_false, not_false_eq_true, ite_true, ite_false, ↓reduceIte, true_or, or_true, and_self, ne_eq, q_or1, q_or2, Nat.add_eq_zero_iff, and_false, false_and, List.length_cons, List.length_nil, reduceCtorEq, q_toI, Nat.zero_add, Nat.le_refl, q_c0, q_c1, q_c2, q_c4, q_c9, q_c12, q_c30, q_c99, q_c100, q_c126, q_c32, q_c359, q_c999, z]
            · simp (disch := omega) only [x157_0, x157_1, x157_2, x157_5, x157_6, x157_7, x157_10, x157_11, x157_12, x157_15, x157_16, x157_17, x157_20, x157_21, x157_22, x157_23, x157_25, x157_28, x157_29, x157_32, x157_35, x157_36, x157_39, x157_40, x157_43, x157_46, x157_47, x157_48, x157_51, x157_54, x157_56, x157_58, x157_61, x157_62, x157_63, x157_66, x157_69, x157_71, x157_73, x157_75, x157_78, x157_79, x157_80, x157_81, x157_84, x157_85, x157_88, x157_89, x157_92, x157_95, x157_97, x157_100, x157_101, x157_102, x157_104, x157_107, x157_110, x157_111, x157_112, x157_115, x157_118, x157_119, x157_120, x157_123, x157_124, x157_125, x157_128, x157_134, nI_add, pk_mul, q_cl31, q_vin, q_le, q_lt, q_eqn, q_b_0, q_b_t, q_b_f, q_nz, q_nz1, q_nz0, q_tl, q_tn, true_and, and_true, not_true_eq_false, not_false_eq_true, ite_true, ite_false, ↓reduceIte, true_or, or_true, and_self, ne_eq, q_or1, q_or2, Nat.add_eq_zero_iff, and_false, false_and, List.length_cons, List.length_nil, reduceCtorEq, q_toI, Nat.zero_add, Nat.le_refl, q_c0, q_c1, q_c2, q_c4, q_c9, q_c12, q_c30, q_c99, q_c100, q_c126, q_c32, q_c359, q_c999, z, hR, q_upm, q_upe]
          · cases h
            exact ⟨by rw [q_upm (by decide), q_upm (by decide)]; exact c0, by rw [q_upm (by decide)]; exact q_upe rfl rfl, q_upe rfl rfl, Or.inr rfl⟩
        · dsimp only at ok1 ok2
          subst ok1
          rw [if_neg (q_nI_nlt (by omega))]
          have hf3 : q_Rf B g (q_up (q_up g2 145 0 (nI (q_ro t n p).2)) 145 3 (nI (c + 1))) := q_Rf_t hf2 (q_Rf_t (q_Rf_5 _ _ _) (q_Rf_5 _ _ _))
          have hV3 : q_Vsta (q_up (q_up g2 145 0 (nI (q_ro t n p).2)) 145 3 (nI (c + 1))) B r2 := q_V_o (d3 (q_er_n v1)) fun b b1 b2 => by rw [q_upf (by omega), q_upf (by omega)]
          obtain ⟨g', i1, i2, i3⟩ := ih (q_ro t n p).2 (c + 1) (q_up (q_up g2 145 0 (nI (q_ro t n p).2)) 145 3 (nI (c + 1))) r2 (.int (nI 1)) (.int (nI v)) (by omega) (q_Bes_r hB hf3 hB2) (q_Vtx_r hT hf3 hB3) hV3 ok2 (by have := e2 hr; omega) (by omega) (by have := e2 hr; omega) (by rw [q_upm (by decide)]; exact q_upe rfl rfl) (by rw [q_upm (by decide), q_upm (by decide)]; exact c1) (q_upe rfl rfl)
          refine ⟨g', fun Q => ?_, q_Rf_t hf3 i2, i3⟩
          rw [← i1 Q, show 60 - k = 60 - (k + 1) + 1 by omega]
          conv => lhs; simp (disch := omega) only [x157_0, x157_1, x157_2, x157_5, x157_6, x157_7, x157_10, x157_11, x157_12, x157_15, x157_16, x157_17, x157_20, x157_21, x157_22, x157_23, x157_25, x157_28, x157_29, x157_32, x157_35, x157_36, x157_39, x157_40, x157_43, x157_46, x157_47, x157_48, x157_51, x157_54, x157_56, x157_58, x157_61, x157_62, x157_63, x157_66, x157_69, x157_71, x157_73, x157_75, x157_78, x157_79, x157_80, x157_81, x157_84, x157_85, x157_88, x157_89, x157_92, x157_95, x157_97, x157_100, x157_101, x157_102, x157_104, x157_107, x157_110, x157_111, x157_112, x157_115, x157_118, x157_119, x157_120, x157_123, x157_124, x157_125, x157_128, x157_134, nI_add, pk_mul, q_cl31, q_vin, q_le, q_lt, q_eqn, q_b_0, q_b_t, q_b_f, q_nz, q_nz1, q_nz0, q_tl, q_tn, true_and, and_true, not_true_eq_false, not_false_eq_true, ite_true, ite_false, ↓reduceIte, true_or, or_true, and_self, ne_eq, q_or1, q_or2, Nat.add_eq_zero_iff, and_false, false_and, List.length_cons, List.length_nil, reduceCtorEq, q_toI, Nat.zero_add, Nat.le_refl, q_c0, q_c1, q_c2, q_c4, q_c9, q_c12, q_c30, q_c99, q_c100, q_c126, q_c32, q_c359, q_c999, x1, hR, ek, h0, h1, l1, np, t1, hr, Bool.true_eq_false, d1, Nat.zero_le, c4, c3, q_upm]
          simp only [x157_131]
    · have go : p_go t n (k + 1) p c f = (none, c, f) := if_neg hpn
      rw [go]
      refine ⟨g, fun Q => ?_, q_Rf_r B g, fun _ => ⟨h1, h3, hV⟩, fun q w x h => (by cases h)⟩
      simp (disch := omega) only [x157_0, x157_1, x157_2, x157_5, x157_6, x157_7, x157_10, x157_11, x157_12, x157_15, x157_16, x157_17, x157_20, x157_21, x157_22, x157_23, x157_25, x157_28, x157_29, x157_32, x157_35, x157_36, x157_39, x157_40, x157_43, x157_46, x157_47, x157_48, x157_51, x157_54, x157_56, x157_58, x157_61, x157_62, x157_63, x157_66, x157_69, x157_71, x157_73, x157_75, x157_78, x157_79, x157_80, x157_81, x157_84, x157_85, x157_88, x157_89, x157_92, x157_95, x157_97, x157_100, x157_101, x157_102, x157_104, x157_107, x157_110, x157_111, x157_112, x157_115, x157_118, x157_119, x157_120, x157_123, x157_124, x157_125, x157_128, x157_134, nI_add, pk_mul, q_cl31, q_vin, q_le, q_lt, q_eqn, q_b_0, q_b_t, q_b_f, q_nz, q_nz1, q_nz0, q_tl, q_tn, true_and, and_true, not_true_eq_false, not_false_eq_true, ite_true, ite_false, ↓reduceIte, true_or, or_true, and_self, ne_eq, q_or1, q_or2, Nat.add_eq_zero_iff, and_false, false_and, List.length_cons, List.length_nil, reduceCtorEq, q_toI, Nat.zero_add, Nat.le_refl, q_c0, q_c1, q_c2, q_c4, q_c9, q_c12, q_c30, q_c99, q_c100, q_c126, q_c32, q_c359, q_c999, x1, hR, ek, h0, h1, l1, show (n ≤ p) = True from eq_true (by omega)]
theorem c_go (hX : q_TexB E) (hR : q_kd E 145 = (8, 4)) {B : Nat} (hB2 : 2 < B) (hB3 : B + 23 ≤ 142) (hS : q_StaB E B) {g : q_G} {f : q_St} (hB : q_BesB E g) (hT : q_Vtx g t n) (hV : q_Vsta g B f) (hI : q_In f) : ∃ g' : q_G, (∀ Q : Option Value → q_E → q_G → Prop, q_X 157 0 [.ref 145, .ref 142, .ref B, .null, .null, .null] [] E g Q = Q none E g') ∧ q_Rf B g g' ∧ q_Rt g' B (p_go t n 60 0 0 f) := by
  have hf : q_Rf B g (q_up (q_up (q_up (q_up g 145 0 (nI 0)) 145 1 (nI 0)) 145 2 (nI 0)) 145 3 (nI 0)) := q_Rf_t (q_Rf_5 _ _ _) (q_Rf_t (q_Rf_5 _ _ _) (q_Rf_t (q_Rf_5 _ _ _) (q_Rf_5 _ _ _)))
  obtain ⟨g', i1, i2, i3⟩ := c_gol hX hR hB2 hB3 hS 60 0 0 _ f .null .null (by omega) (q_Bes_r hB hf hB2) (q_Vtx_r hT hf hB3) (q_V_o hV fun b b1 b2 => by rw [q_upf (by omega), q_upf (by omega), q_upf (by omega), q_upf (by omega)]) hI (by have := hT.1.2; omega) (by omega) (by omega) (by rw [q_upm (by decide), q_upm (by decide), q_upm (by decide)]; exact q_upe rfl rfl) (by rw [q_upm (by decide), q_upm (by decide)]; exact q_upe rfl rfl) (q_upe rfl rfl)
  refine ⟨g', fun Q => ?_, q_Rf_t hf i2, i3⟩
  rw [← i1 Q]
  simp (disch := omega) only [x157_0, x157_1, x157_2, x157_5, x157_6, x157_7, x157_10, x157_11, x157_12, x157_15, x157_16, x157_17, x157_20, x157_21, nI_add, pk_mul, q_cl31, q_vin, q_le, q_lt, q_eqn, q_b_0, q_b_t, q_b_f, q_nz, q_nz1, q_nz0, q_tl, q_tn, true_and, and_true, not_true_eq_false, not_false_eq_true, ite_true, ite_false, ↓reduceIte, true_or, or_true, and_self, ne_eq, q_or1, q_or2, Nat.add_eq_zero_iff, and_false, false_and, List.length_cons, List.length_nil, reduceCtorEq, q_toI, Nat.zero_add, Nat.le_refl, q_c0, q_c1, q_c2, q_c4, q_c9, q_c12, q_c30, q_c99, q_c100, q_c126, q_c32, q_c359, q_c999, hR, Nat.sub_self]
end
