/-- the first n orders looked at: how many are left, and the row -/
def p_co (f : q_St) : Nat → Nat × q_St
  | 0 => (0, f)
  | n + 1 => if f (138 + 3 * n + 2) ≤ f 308 then ((p_co f n).1, upd (p_co f n).2 (11 + 8 * (f (138 + 3 * n)).toNatClampNeg + 3) ((p_co f n).2 (11 + 8 * (f (138 + 3 * n)).toNatClampNeg + 3) + f (138 + 3 * n + 1)))
    else ((p_co f n).1 + 1, upd (upd (upd (p_co f n).2 (138 + 3 * (p_co f n).1) (f (138 + 3 * n))) (138 + 3 * (p_co f n).1 + 1) (f (138 + 3 * n + 1))) (138 + 3 * (p_co f n).1 + 2) (f (138 + 3 * n + 2)))
def p_comes (f : q_St) : Int32 × q_St := (nI (q_no f - (p_co f (q_no f)).1), upd (p_co f (q_no f)).2 137 (nI (p_co f (q_no f)).1))
/-- what comes needs -/
def q_Io (f : q_St) : Prop := (q_no f ≤ 8 ∧ f 137 = nI (q_no f)) ∧ (∀ k, k < q_no f → ∃ v : Nat, v < 12 ∧ f (138 + 3 * k) = nI v)
theorem p_co_i {f : q_St} (hI : q_Io f) : ∀ n, n ≤ q_no f → (p_co f n).1 ≤ n ∧ ∀ i, (∀ v, v < 12 → i ≠ 11 + 8 * v + 3) → (i < 138 ∨ 138 + 3 * (p_co f n).1 ≤ i) → (p_co f n).2 i = f i := by
  intro n
  induction n with
  | zero => intro _; exact ⟨Nat.le_refl _, fun i _ _ => rfl⟩
  | succ n ih =>
    intro hn
    obtain ⟨h1, h2⟩ := ih (by omega)
    obtain ⟨v, hv, hv2⟩ := hI.2 n (by omega)
    unfold p_co
    by_cases c : f (138 + 3 * n + 2) ≤ f 308
    · rw [if_pos c]
      refine ⟨by dsimp only; omega, fun i hi hi2 => ?_⟩
      dsimp only at hi2 ⊢
      rw [hv2, nI_clamp (by omega), q_updn (hi v hv)]
      exact h2 i hi hi2
    · rw [if_neg c]
      refine ⟨by dsimp only; omega, fun i hi hi2 => ?_⟩
      dsimp only at hi2 ⊢
      rw [q_updn (by omega), q_updn (by omega), q_updn (by omega)]
      exact h2 i hi (by omega)
section
variable {E : q_E} {g : q_G} {Q : Option Value → q_E → q_G → Prop}
theorem s_comes (hM : q_ModB E) (hI : q_Io (g 147)) : q_X 70 0 [.ref 146, .null, .null, .null, .null] [] E g Q = Q (some (.int (p_comes (g 147)).1)) E (q_upA g 147 (p_comes (g 147)).2) := by
  obtain ⟨⟨hq, hq2⟩, hv⟩ := id hI
  unfold p_comes
  generalize hqe : q_no (g 147) = q at *
  have key : ∃ L3 L4, q_X 70 4 [.ref 146, .int (nI 0), .int (nI 0), .null, .null] [] E g Q = q_X 70 4 [.ref 146, .int (nI (p_co (g 147) q).1), .int (nI q), L3, L4] [] E (q_upA g 147 (p_co (g 147) q).2) Q := by
    have z : q_X 70 4 [.ref 146, .int (nI 0), .int (nI 0), .null, .null] [] E g Q = q_X 70 4 [.ref 146, .int (nI (p_co (g 147) 0).1), .int (nI 0), .null, .null] [] E (q_upA g 147 (p_co (g 147) 0).2) Q := by
      show _ = q_X _ _ _ _ _ (q_upA g 147 (g 147)) _
      rw [q_upAid]
      rfl
    rw [z]
    refine q_loop2 (P := fun j L3 L4 => q_X 70 4 [.ref 146, .int (nI (p_co (g 147) j).1), .int (nI j), L3, L4] [] E (q_upA g 147 (p_co (g 147) j).2) Q) (fun j hj L5 L6 => ?_)
    try dsimp only
    obtain ⟨i1, i2⟩ := p_co_i hI j (by omega)
    obtain ⟨u, hu, hu2⟩ := hv j hj
    have r0 : (p_co (g 147) j).2 (138 + 3 * j) = nI u := (i2 _ (by omega) (by omega)).trans hu2
    have r1 : (p_co (g 147) j).2 (138 + 3 * j + 1) = g 147 (138 + 3 * j + 1) := i2 _ (by omega) (by omega)
    have r2 : (p_co (g 147) j).2 (138 + 3 * j + 2) = g 147 (138 + 3 * j + 2) := i2 _ (by omega) (by omega)
    have r3 : (p_co (g 147) j).2 137 = nI q := (i2 _ (by omega) (by omega)).trans hq2
    have r4 : (p_co (g 147) j).2 308 = g 147 308 := i2 _ (by omega) (by omega)
    have r5 : (p_co (g 147) (j + 1)) = if g 147 (138 + 3 * j + 2) ≤ g 147 308 then ((p_co (g 147) j).1, upd (p_co (g 147) j).2 (11 + 8 * (g 147 (138 + 3 * j)).toNatClampNeg + 3) ((p_co (g 147) j).2 (11 + 8 * (g 147 (138 + 3 * j)).toNatClampNeg + 3) + g 147 (138 + 3 * j + 1))) else ((p_co (g 147) j).1 + 1, upd (upd (upd (p_co (g 147) j).2 (138 + 3 * (p_co (g 147) j).1) (g 147 (138 + 3 * j))) (138 + 3 * (p_co (g 147) j).1 + 1) (g 147 (138 + 3 * j + 1))) (138 + 3 * (p_co (g 147) j).1 + 2) (g 147 (138 + 3 * j + 2))) := rfl
    rw [r5]
    clear r5
    generalize p_co (g 147) j = lh at *
    obtain ⟨l, h⟩ := lh
    dsimp only at i1 r0 r1 r2 r3 r4 ⊢
    by_cases c : g 147 (138 + 3 * j + 2) ≤ g 147 308
    all_goals
      simp (disch := omega) only [c, ↓reduceIte, hu2, q_cl31]
      apply Exists.intro
      apply Exists.intro
      conv => lhs; simp (disch := omega) only [x70_0, x70_1, x70_2, x70_3, x70_4, x70_5, x70_6, x70_9, x70_12, x70_13, x70_16, x70_19, x70_20, x70_21, x70_22, x70_23, x70_24, x70_25, x70_28, x70_29, x70_30, x70_31, x70_32, x70_33, x70_36, x70_39, x70_40, x70_43, x70_44, x70_45, x70_48, x70_49, x70_50, x70_51, x70_52, x70_55, x70_56, x70_57, x70_58, x70_59, x70_62, x70_65, x70_68, x70_69, x70_70, x70_71, x70_72, x70_74, x70_75, x70_78, x70_80, x70_81, x70_84, x70_85, x70_86, x70_87, x70_88, x70_91, x70_93, x70_94, x70_95, x70_96, x70_99, x70_100, x70_101, x70_102, x70_103, x70_104, x70_105, x70_108, x70_110, x70_111, x70_112, x70_113, x70_116, x70_117, x70_118, x70_119, x70_120, x70_121, x70_124, x70_130, x70_131, x70_134, x70_137, x70_138, x70_139, x70_140, x70_141, x70_142, x70_145, x70_148, x70_149, x70_150, x70_151, nI_add, pk_mul, q_cl31, q_vin, q_le, q_lt, q_eqn, q_b_0, q_b_t, q_b_f, q_nz, q_nz1, q_nz0, q_tl, q_tn, true_and, and_true, not_true_eq_false, not_false_eq_true, ite_true, ite_false, ↓reduceIte, true_or, or_true, and_self, ne_eq, q_or1, q_or2, Nat.add_eq_zero_iff, and_false, false_and, List.length_cons, List.length_nil, reduceCtorEq, q_toI, Nat.zero_add, Nat.le_refl, q_c0, q_c1, q_c2, q_c4, q_c9, q_c12, q_c30, q_c99, q_c100, q_c126, q_c32, q_c359, q_c999, hM.1, hM.2.1, hM.2.2.1, hM.2.2.2.1, hM.2.2.2.2.1, hM.2.2.2.2.2.1, hM.2.2.2.2.2.2, s_adds hM, q_upD, q_upAA, q_upA_s, q_updn, q_upds, Nat.add_zero, r0, r1, r2, r3, r4, ← Int32.not_le, c, not_true_eq_false, show (q ≤ j) = False from eq_false (by omega)]
      simp only [x70_127]
      exact rfl
  obtain ⟨L3, L4, key⟩ := key
  obtain ⟨i1, i2⟩ := p_co_i hI q (by omega)
  simp (disch := omega) only [x70_0, x70_1, x70_2, x70_3, nI_add, pk_mul, q_cl31, q_vin, q_le, q_lt, q_eqn, q_b_0, q_b_t, q_b_f, q_nz, q_nz1, q_nz0, q_tl, q_tn, true_and, and_true, not_true_eq_false, not_false_eq_true, ite_true, ite_false, ↓reduceIte, true_or, or_true, and_self, ne_eq, q_or1, q_or2, Nat.add_eq_zero_iff, and_false, false_and, List.length_cons, List.length_nil, reduceCtorEq, q_toI, Nat.zero_add, Nat.le_refl, q_c0, q_c1, q_c2, q_c4, q_c9, q_c12, q_c30, q_c99, q_c100, q_c126, q_c32, q_c359, q_c999]
  rw [key]
  have r3 : (p_co (g 147) q).2 137 = nI q := (i2 _ (by omega) (by omega)).trans hq2
  generalize p_co (g 147) q = lh at *
  obtain ⟨l, h⟩ := lh
  dsimp only at i1 r3 ⊢
  simp (disch := omega) only [x70_0, x70_1, x70_2, x70_3, x70_4, x70_5, x70_6, x70_9, x70_12, x70_13, x70_16, x70_19, x70_20, x70_21, x70_22, x70_23, x70_24, x70_25, x70_28, x70_29, x70_30, x70_31, x70_32, x70_33, x70_36, x70_39, x70_40, x70_43, x70_44, x70_45, x70_48, x70_49, x70_50, x70_51, x70_52, x70_55, x70_56, x70_57, x70_58, x70_59, x70_62, x70_65, x70_68, x70_69, x70_70, x70_71, x70_72, x70_74, x70_75, x70_78, x70_80, x70_81, x70_84, x70_85, x70_86, x70_87, x70_88, x70_91, x70_93, x70_94, x70_95, x70_96, x70_99, x70_100, x70_101, x70_102, x70_103, x70_104, x70_105, x70_108, x70_110, x70_111, x70_112, x70_113, x70_116, x70_117, x70_118, x70_119, x70_120, x70_121, x70_124, x70_130, x70_131, x70_134, x70_137, x70_138, x70_139, x70_140, x70_141, x70_142, x70_145, x70_148, x70_149, x70_150, x70_151, nI_add, pk_mul, q_cl31, q_vin, q_le, q_lt, q_eqn, q_b_0, q_b_t, q_b_f, q_nz, q_nz1, q_nz0, q_tl, q_tn, true_and, and_true, not_true_eq_false, not_false_eq_true, ite_true, ite_false, ↓reduceIte, true_or, or_true, and_self, ne_eq, q_or1, q_or2, Nat.add_eq_zero_iff, and_false, false_and, List.length_cons, List.length_nil, reduceCtorEq, q_toI, Nat.zero_add, Nat.le_refl, q_c0, q_c1, q_c2, q_c4, q_c9, q_c12, q_c30, q_c99, q_c100, q_c126, q_c32, q_c359, q_c999, hM.1, hM.2.1, hM.2.2.1, hM.2.2.2.1, hM.2.2.2.2.1, hM.2.2.2.2.2.1, hM.2.2.2.2.2.2, q_upD, q_upAA, q_upA_s, q_updn, q_upds, Nat.add_zero, r3, pk_sub]
end
