section
variable {E : q_E} {g : q_G} {st : Nat}
theorem m_give (hM : q_ModB E) (hI : q_In (g 147)) (hs : st ≤ 4) (h : g 146 1 = nI st) : q_Mop E g st 112 [.ref 146, .null, .null, .null, .null] (p_give (q_k1 (g 147))) := by
  have hI1 := q_In_k1 hI
  have ok := p_give_ok hI1
  have h12 := hI1.1.1
  obtain ⟨⟨a1, a2⟩, c, a3, a4, a5⟩ := p_gb_In hI1 (q_sz (q_k1 (g 147))) (Nat.le_refl _)
  have key := fun Q => s_gb (Q := Q) (E := E) (g := q_upA g 147 (q_k1 (g 147))) hM (by rw [q_upA_s]; exact hI1) (Nat.le_refl _)
  rw [q_upA_s, q_upAA] at key
  have b2 : (p_gb (q_k1 (g 147)) (q_sz (q_k1 (g 147)))).2 10 = nI (q_sz (q_k1 (g 147))) := a1.1.2.trans (congrArg nI a2)
  have beg : ∀ Q : Option Value → q_E → q_G → Prop, q_X 112 0 [.ref 146, .null, .null, .null, .null] [] E g Q = q_X 112 8 [.ref 146, .int (nI 0), .int (nI 0), .null, .null] [] E (q_upA g 147 (q_k1 (g 147))) Q := by
    intro Q
    simp (disch := omega) only [x112_0, x112_1, x112_4, x112_5, x112_6, x112_7, nI_add, pk_mul, q_cl31, q_vin, q_le, q_lt, q_eqn, q_b_0, q_b_t, q_b_f, q_nz, q_nz1, q_nz0, q_tl, q_tn, true_and, and_true, not_true_eq_false, not_false_eq_true, ite_true, ite_false, ↓reduceIte, true_or, or_true, and_self, ne_eq, q_or1, q_or2, Nat.add_eq_zero_iff, and_false, false_and, List.length_cons, List.length_nil, reduceCtorEq, q_toI, Nat.zero_add, Nat.le_refl, q_c0, q_c1, q_c2, q_c4, q_c9, q_c12, q_c30, q_c99, q_c100, q_c126, q_c32, q_c359, q_c999, hM.1, hM.2.1, hM.2.2.1, hM.2.2.2.1, hM.2.2.2.2.1, hM.2.2.2.2.2.1, hM.2.2.2.2.2.2, s_keeps hM, ← q_k1.eq_1]
  unfold p_give at ok ⊢
  generalize q_sz (q_k1 (g 147)) = m at *
  generalize p_gb (q_k1 (g 147)) m = mh at *
  obtain ⟨n, f'⟩ := mh
  dsimp only at a1 a2 a4 a5 key b2 ok ⊢
  subst a4
  by_cases e : c = 0
  · subst e
    rw [if_pos rfl]
    refine ⟨fun _ => ⟨upd f' 309 (f' 309 + nI 0), fun i hi => ?_, fun Q => ?_⟩, fun r hr h => absurd (show q_Er (nI r) from h ▸ Or.inr (Or.inl rfl)) (q_er_n hr)⟩
    · rw [q_a0]
      have : upd f' 309 (f' 309) i = f' i := by
        unfold upd
        split
        · rename_i q; rw [q]
        · rfl
      rw [this, a5 rfl i, q_k1_n hi]
    · rw [beg Q]
      obtain ⟨L3, L4, k⟩ := key Q
      rw [k]
      simp (disch := omega) only [x112_0, x112_1, x112_4, x112_5, x112_6, x112_7, x112_8, x112_9, x112_10, x112_13, x112_15, x112_16, x112_19, x112_20, x112_21, x112_22, x112_23, x112_26, x112_29, x112_32, x112_33, x112_34, x112_35, x112_38, x112_39, x112_40, x112_43, x112_44, x112_45, x112_46, x112_47, x112_48, x112_49, x112_50, x112_53, x112_56, x112_57, x112_58, x112_59, x112_60, x112_63, x112_66, x112_67, x112_68, x112_69, x112_70, x112_73, x112_74, x112_76, x112_77, x112_78, x112_79, x112_80, x112_81, x112_82, x112_83, x112_84, x112_85, x112_86, x112_89, x112_90, x112_93, x112_94, x112_96, x112_98, x112_100, x112_103, x112_104, x112_107, x112_109, x112_110, x112_112, x112_113, x112_114, x112_115, x112_116, x112_117, x112_119, x112_122, x112_123, x112_126, x112_127, x112_130, x112_131, x112_133, x112_136, x112_137, x112_143, x112_149, x112_150, x112_153, x112_156, x112_157, x112_158, x112_159, x112_160, x112_161, x112_162, x112_165, x112_167, x112_170, x112_171, x112_172, x112_175, nI_add, pk_mul, q_cl31, q_vin, q_le, q_lt, q_eqn, q_b_0, q_b_t, q_b_f, q_nz, q_nz1, q_nz0, q_tl, q_tn, true_and, and_true, not_true_eq_false, not_false_eq_true, ite_true, ite_false, ↓reduceIte, true_or, or_true, and_self, ne_eq, q_or1, q_or2, Nat.add_eq_zero_iff, and_false, false_and, List.length_cons, List.length_nil, reduceCtorEq, q_toI, Nat.zero_add, Nat.le_refl, q_c0, q_c1, q_c2, q_c4, q_c9, q_c12, q_c30, q_c99, q_c100, q_c126, q_c32, q_c359, q_c999, hM.1, hM.2.1, hM.2.2.1, hM.2.2.2.1, hM.2.2.2.2.1, hM.2.2.2.2.2.1, hM.2.2.2.2.2.2, q_upD, q_upAA, q_upA_s, q_updn, q_upds, Nat.add_zero, b2]
  · rw [if_neg (by rw [q_eqn (by omega) (by omega)]; exact e)] at ok ⊢
    refine q_Mop_of hM hs h ok fun Q => ?_
    rw [beg Q]
    obtain ⟨L3, L4, k⟩ := key Q
    rw [k]
    apply Exists.intro
    constructor
    · simp (disch := omega) only [x112_0, x112_1, x112_4, x112_5, x112_6, x112_7, x112_8, x112_9, x112_10, x112_13, x112_15, x112_16, x112_19, x112_20, x112_21, x112_22, x112_23, x112_26, x112_29, x112_32, x112_33, x112_34, x112_35, x112_38, x112_39, x112_40, x112_43, x112_44, x112_45, x112_46, x112_47, x112_48, x112_49, x112_50, x112_53, x112_56, x112_57, x112_58, x112_59, x112_60, x112_63, x112_66, x112_67, x112_68, x112_69, x112_70, x112_73, x112_74, x112_76, x112_77, x112_78, x112_79, x112_80, x112_81, x112_82, x112_83, x112_84, x112_85, x112_86, x112_89, x112_90, x112_93, x112_94, x112_96, x112_98, x112_100, x112_103, x112_104, x112_107, x112_109, x112_110, x112_112, x112_113, x112_114, x112_115, x112_116, x112_117, x112_119, x112_122, x112_123, x112_126, x112_127, x112_130, x112_131, x112_133, x112_136, x112_137, x112_143, x112_149, x112_150, x112_153, x112_156, x112_157, x112_158, x112_159, x112_160, x112_161, x112_162, x112_165, x112_167, x112_170, x112_171, x112_172, x112_175, nI_add, pk_mul, q_cl31, q_vin, q_le, q_lt, q_eqn, q_b_0, q_b_t, q_b_f, q_nz, q_nz1, q_nz0, q_tl, q_tn, true_and, and_true, not_true_eq_false, not_false_eq_true, ite_true, ite_false, ↓reduceIte, true_or, or_true, and_self, ne_eq, q_or1, q_or2, Nat.add_eq_zero_iff, and_false, false_and, List.length_cons, List.length_nil, reduceCtorEq, q_toI, Nat.zero_add, Nat.le_refl, q_c0, q_c1, q_c2, q_c4, q_c9, q_c12, q_c30, q_c99, q_c100, q_c126, q_c32, q_c359, q_c999, hM.1, hM.2.1, hM.2.2.1, hM.2.2.2.1, hM.2.2.2.2.1, hM.2.2.2.2.2.1, hM.2.2.2.2.2.2, q_upD, q_upAA, q_upA_s, q_updn, q_upds, Nat.add_zero, b2, e]
      exact rfl
    · intro r E' g'
      simp only [x112_0, x112_1, x112_4, x112_5, x112_6, x112_7, x112_8, x112_9, x112_10, x112_13, x112_15, x112_16, x112_19, x112_20, x112_21, x112_22, x112_23, x112_26, x112_29, x112_32, x112_33, x112_34, x112_35, x112_38, x112_39, x112_40, x112_43, x112_44, x112_45, x112_46, x112_47, x112_48, x112_49, x112_50, x112_53, x112_56, x112_57, x112_58, x112_59, x112_60, x112_63, x112_66, x112_67, x112_68, x112_69, x112_70, x112_73, x112_74, x112_76, x112_77, x112_78, x112_79, x112_80, x112_81, x112_82, x112_83, x112_84, x112_85, x112_86, x112_89, x112_90, x112_93, x112_94, x112_96, x112_98, x112_100, x112_103, x112_104, x112_107, x112_109, x112_110, x112_112, x112_113, x112_114, x112_115, x112_116, x112_117, x112_119, x112_122, x112_123, x112_126, x112_127, x112_130, x112_131, x112_133, x112_136, x112_137, x112_143, x112_149, x112_150, x112_153, x112_156, x112_157, x112_158, x112_159, x112_160, x112_161, x112_162, x112_165, x112_167, x112_170, x112_171, x112_172, x112_175, nI_add, pk_mul, q_cl31, q_vin, q_le, q_lt, q_eqn, q_b_0, q_b_t, q_b_f, q_nz, q_nz1, q_nz0, q_tl, q_tn, true_and, and_true, not_true_eq_false, not_false_eq_true, ite_true, ite_false, ↓reduceIte, true_or, or_true, and_self, ne_eq, q_or1, q_or2, Nat.add_eq_zero_iff, and_false, false_and, List.length_cons, List.length_nil, reduceCtorEq, q_toI, Nat.zero_add, Nat.le_refl, q_c0, q_c1, q_c2, q_c4, q_c9, q_c12, q_c30, q_c99, q_c100, q_c126, q_c32, q_c359, q_c999]
end
theorem q_loop1 {N : Nat} {P : Nat → Value → Prop} (h : ∀ j, j < N → ∀ a, ∃ a', P j a = P (j + 1) a') : ∀ {a}, ∃ a', P 0 a = P N a' := by
  intro a
  induction N generalizing a with
  | zero => exact ⟨a, rfl⟩
  | succ n ih =>
    obtain ⟨a1, h1⟩ := ih (fun j hj => h j (by omega)) (a := a)
    obtain ⟨a2, h2⟩ := h n (by omega) a1
    exact ⟨a2, h1.trans h2⟩
/-! what the model tells -/
def q_rk (f : q_St) (q k : Nat) : Int32 := q_sum (fun j => if f (138 + 3 * j + 2) < f (138 + 3 * k + 2) ∨ (f (138 + 3 * j + 2) = f (138 + 3 * k + 2) ∧ j < k) then nI 1 else nI 0) q
def q_nf (x : Int32) : Int32 := if x = -1 then -1000004 else x
theorem q_mx_b (p : Nat → Bool) (w : Nat → Int32) (m : Int32) : ∀ n, n < 1000 → (q_mx p w (-1000004) m n).2 = (q_mx p w (-1) m n).2 ∧ (q_mx p w (-1000004) m n).1 = q_nf (q_mx p w (-1) m n).1 := by
  intro n
  induction n with
  | zero => intro _; exact ⟨rfl, by show (-1000004 : Int32) = q_nf (-1); decide⟩
  | succ n ih =>
    intro hn
    obtain ⟨i1, i2⟩ := ih (by omega)
    unfold q_mx
    rw [i1]
    by_cases h : p n = true ∧ (q_mx p w (-1) m n).2 < w n
    · rw [if_pos h, if_pos h]
      refine ⟨rfl, ?_⟩
      unfold q_nf
      rw [if_neg]
      intro q
      have := congrArg Int32.toInt q
      rw [nI_toInt (by omega)] at this
      have e : (-1 : Int32).toInt = -1 := by decide
      omega
    · rw [if_neg h, if_neg h]
      exact ⟨i1, i2⟩
def a_order (f : q_St) (x : Int32) (w : Nat) : Int32 := if nI 0 ≤ q_fi (fun k => decide (q_rk f (q_no f) k = x)) (q_no f) 0 then f (138 + 3 * (q_fi (fun k => decide (q_rk f (q_no f) k = x)) (q_no f) 0).toNatClampNeg + w) - (if w = 2 then f 308 else nI 0) else -1000004
def a_partner (f : q_St) (v : Nat) : Int32 := q_nf (q_mx (fun k => decide (k ≠ v)) (fun k => f (q_pr k v)) (-1) (nI 0) (q_sz f)).1
def q_tg (f : q_St) (k v : Nat) : Int32 := q_sum (fun j => if q_bs k j = true ∧ nI 0 ≤ f (107 + 3 * j) then f (q_pr (q_hd f j) v) else nI 0) 10
def a_best (f : q_St) (v : Nat) : Int32 := q_nf (q_mx (fun k => decide (f (107 + 3 * k) < nI 0 ∨ (f (107 + 3 * k) = nI v ∧ f (107 + 3 * k + 1) < nI 12))) (fun k => q_tg f k v) (-1) (-1) 10).1
section
variable {E : q_E} {g : q_G} {Q : Option Value → q_E → q_G → Prop}
theorem q_ahd {f : q_St} (hI : q_In f) {k : Nat} (hk : k < 10) : (f (107 + 3 * k) = -1) ∨ (q_hd f k < 12 ∧ f (107 + 3 * k) = nI (q_hd f k)) := by
  have := hI.1.1
  rcases hI.2.2.2.2.2.2.2.1 k hk with h | h
  · exact Or.inl h.1
  · exact Or.inr ⟨by omega, h.2⟩
theorem s_together (hM : q_ModB E) (hI : q_In (g 147)) (x y : Int32) : q_X 121 0 [.ref 146, .int x, .int y] [] E g Q = Q (some (.int (if (q_isv (g 147) x && q_isv (g 147) y) = true then g 147 (q_pr x.toNatClampNeg y.toNatClampNeg) else -1000001))) E g := by
  have h12 := hI.1.1
  cases e1 : q_isv (g 147) x
  · simp (disch := omega) only [x121_0, x121_1, x121_2, x121_5, x121_8, x121_9, x121_10, x121_13, x121_16, x121_17, x121_20, x121_21, x121_22, x121_25, x121_26, x121_29, x121_31, nI_add, pk_mul, q_cl31, q_vin, q_le, q_lt, q_eqn, q_b_0, q_b_t, q_b_f, q_nz, q_nz1, q_nz0, q_tl, q_tn, true_and, and_true, not_true_eq_false, not_false_eq_true, ite_true, ite_false, ↓reduceIte, true_or, or_true, and_self, ne_eq, q_or1, q_or2, Nat.add_eq_zero_iff, and_false, false_and, List.length_cons, List.length_nil, reduceCtorEq, q_toI, Nat.zero_add, Nat.le_refl, q_c0, q_c1, q_c2, q_c4, q_c9, q_c12, q_c30, q_c99, q_c100, q_c126, q_c32, q_c359, q_c999, hM.1, hM.2.1, hM.2.2.1, hM.2.2.2.1, hM.2.2.2.2.1, hM.2.2.2.2.2.1, hM.2.2.2.2.2.2, s_isv hM hI, e1, Bool.false_and, Bool.false_eq_true]
  cases e2 : q_isv (g 147) y
  · simp (disch := omega) only [x121_0, x121_1, x121_2, x121_5, x121_8, x121_9, x121_10, x121_13, x121_16, x121_17, x121_20, x121_21, x121_22, x121_25, x121_26, x121_29, x121_31, nI_add, pk_mul, q_cl31, q_vin, q_le, q_lt, q_eqn, q_b_0, q_b_t, q_b_f, q_nz, q_nz1, q_nz0, q_tl, q_tn, true_and, and_true, not_true_eq_false, not_false_eq_true, ite_true, ite_false, ↓reduceIte, true_or, or_true, and_self, ne_eq, q_or1, q_or2, Nat.add_eq_zero_iff, and_false, false_and, List.length_cons, List.length_nil, reduceCtorEq, q_toI, Nat.zero_add, Nat.le_refl, q_c0, q_c1, q_c2, q_c4, q_c9, q_c12, q_c30, q_c99, q_c100, q_c126, q_c32, q_c359, q_c999, hM.1, hM.2.1, hM.2.2.1, hM.2.2.2.1, hM.2.2.2.2.1, hM.2.2.2.2.2.1, hM.2.2.2.2.2.2, s_isv hM hI, e1, e2, Bool.and_false, Bool.false_eq_true]
  obtain ⟨v, v1, rfl, v4⟩ := q_isv_lo hI e1
  obtain ⟨w, w1, rfl, w4⟩ := q_isv_lo hI e2
  simp (disch := omega) only [x121_0, x121_1, x121_2, x121_5, x121_8, x121_9, x121_10, x121_13, x121_16, x121_17, x121_20, x121_21, x121_22, x121_25, x121_26, x121_29, x121_31, nI_add, pk_mul, q_cl31, q_vin, q_le, q_lt, q_eqn, q_b_0, q_b_t, q_b_f, q_nz, q_nz1, q_nz0, q_tl, q_tn, true_and, and_true, not_true_eq_false, not_false_eq_true, ite_true, ite_false, ↓reduceIte, true_or, or_true, and_self, ne_eq, q_or1, q_or2, Nat.add_eq_zero_iff, and_false, false_and, List.length_cons, List.length_nil, reduceCtorEq, q_toI, Nat.zero_add, Nat.le_refl, q_c0, q_c1, q_c2, q_c4, q_c9, q_c12, q_c30, q_c99, q_c100, q_c126, q_c32, q_c359, q_c999, hM.1, hM.2.1, hM.2.2.1, hM.2.2.2.1, hM.2.2.2.2.1, hM.2.2.2.2.2.1, hM.2.2.2.2.2.2, s_isv hM hI, e1, e2, v4, w4, s_pair, q_pv, q_pc, Bool.and_self]
theorem s_would (hM : q_ModB E) (hI : q_In (g 147)) (x y : Int32) : q_X 136 0 [.ref 146, .int x, .int y, .null] [] E g Q = Q (some (.int (if (q_isv (g 147) x && q_ir 0 1 y) = true then (if q_sp (g 147) x.toNatClampNeg < nI 0 then -1000004 else if y = nI 0 then g 147 (107 + 3 * (q_sp (g 147) x.toNatClampNeg).toNatClampNeg) else q_sp (g 147) x.toNatClampNeg) else -1000001))) E g := by
  have h12 := hI.1.1
  cases e1 : q_isv (g 147) x
  · simp (disch := omega) only [x136_0, x136_1, x136_2, x136_5, x136_8, x136_9, x136_10, x136_11, x136_14, x136_17, x136_19, x136_20, x136_21, x136_22, x136_25, x136_26, x136_27, x136_30, x136_32, x136_35, x136_36, x136_39, x136_40, x136_41, x136_44, x136_47, x136_48, nI_add, pk_mul, q_cl31, q_vin, q_le, q_lt, q_eqn, q_b_0, q_b_t, q_b_f, q_nz, q_nz1, q_nz0, q_tl, q_tn, true_and, and_true, not_true_eq_false, not_false_eq_true, ite_true, ite_false, ↓reduceIte, true_or, or_true, and_self, ne_eq, q_or1, q_or2, Nat.add_eq_zero_iff, and_false, false_and, List.length_cons, List.length_nil, reduceCtorEq, q_toI, Nat.zero_add, Nat.le_refl, q_c0, q_c1, q_c2, q_c4, q_c9, q_c12, q_c30, q_c99, q_c100, q_c126, q_c32, q_c359, q_c999, hM.1, hM.2.1, hM.2.2.1, hM.2.2.2.1, hM.2.2.2.2.1, hM.2.2.2.2.2.1, hM.2.2.2.2.2.2, s_isv hM hI, e1, Bool.false_and, Bool.false_eq_true]
  cases e2 : q_ir 0 1 y
  · simp (disch := omega) only [x136_0, x136_1, x136_2, x136_5, x136_8, x136_9, x136_10, x136_11, x136_14, x136_17, x136_19, x136_20, x136_21, x136_22, x136_25, x136_26, x136_27, x136_30, x136_32, x136_35, x136_36, x136_39, x136_40, x136_41, x136_44, x136_47, x136_48, nI_add, pk_mul, q_cl31, q_vin, q_le, q_lt, q_eqn, q_b_0, q_b_t, q_b_f, q_nz, q_nz1, q_nz0, q_tl, q_tn, true_and, and_true, not_true_eq_false, not_false_eq_true, ite_true, ite_false, ↓reduceIte, true_or, or_true, and_self, ne_eq, q_or1, q_or2, Nat.add_eq_zero_iff, and_false, false_and, List.length_cons, List.length_nil, reduceCtorEq, q_toI, Nat.zero_add, Nat.le_refl, q_c0, q_c1, q_c2, q_c4, q_c9, q_c12, q_c30, q_c99, q_c100, q_c126, q_c32, q_c359, q_c999, hM.1, hM.2.1, hM.2.2.1, hM.2.2.2.1, hM.2.2.2.2.1, hM.2.2.2.2.2.1, hM.2.2.2.2.2.2, s_isv hM hI, s_in, e1, e2, Bool.and_false, Bool.false_eq_true]
  obtain ⟨v, v1, rfl, v4⟩ := q_isv_lo hI e1
  obtain ⟨w, -, w1, rfl, w4⟩ := q_lo (lo := 0) (n := 1) e2 (by omega)
  rcases q_sp_c (g 147) v with h | ⟨k, hk, h, -⟩
  · simp (disch := omega) only [x136_0, x136_1, x136_2, x136_5, x136_8, x136_9, x136_10, x136_11, x136_14, x136_17, x136_19, x136_20, x136_21, x136_22, x136_25, x136_26, x136_27, x136_30, x136_32, x136_35, x136_36, x136_39, x136_40, x136_41, x136_44, x136_47, x136_48, nI_add, pk_mul, q_cl31, q_vin, q_le, q_lt, q_eqn, q_b_0, q_b_t, q_b_f, q_nz, q_nz1, q_nz0, q_tl, q_tn, true_and, and_true, not_true_eq_false, not_false_eq_true, ite_true, ite_false, ↓reduceIte, true_or, or_true, and_self, ne_eq, q_or1, q_or2, Nat.add_eq_zero_iff, and_false, false_and, List.length_cons, List.length_nil, reduceCtorEq, q_toI, Nat.zero_add, Nat.le_refl, q_c0, q_c1, q_c2, q_c4, q_c9, q_c12, q_c30, q_c99, q_c100, q_c126, q_c32, q_c359, q_c999, hM.1, hM.2.1, hM.2.2.1, hM.2.2.2.1, hM.2.2.2.2.1, hM.2.2.2.2.2.1, hM.2.2.2.2.2.2, s_isv hM hI, s_in, e1, e2, v4, s_slotFor hM hI v1, h, Bool.and_self, show ((-1 : Int32) < nI 0) = True from by decide, show (nI 0 ≤ (-1 : Int32)) = False from by decide]
  · simp (disch := omega) only [x136_0, x136_1, x136_2, x136_5, x136_8, x136_9, x136_10, x136_11, x136_14, x136_17, x136_19, x136_20, x136_21, x136_22, x136_25, x136_26, x136_27, x136_30, x136_32, x136_35, x136_36, x136_39, x136_40, x136_41, x136_44, x136_47, x136_48, nI_add, pk_mul, q_cl31, q_vin, q_le, q_lt, q_eqn, q_b_0, q_b_t, q_b_f, q_nz, q_nz1, q_nz0, q_tl, q_tn, true_and, and_true, not_true_eq_false, not_false_eq_true, ite_true, ite_false, ↓reduceIte, true_or, or_true, and_self, ne_eq, q_or1, q_or2, Nat.add_eq_zero_iff, and_false, false_and, List.length_cons, List.length_nil, reduceCtorEq, q_toI, Nat.zero_add, Nat.le_refl, q_c0, q_c1, q_c2, q_c4, q_c9, q_c12, q_c30, q_c99, q_c100, q_c126, q_c32, q_c359, q_c999, hM.1, hM.2.1, hM.2.2.1, hM.2.2.2.1, hM.2.2.2.2.1, hM.2.2.2.2.2.1, hM.2.2.2.2.2.2, s_isv hM hI, s_in, e1, e2, v4, s_slotFor hM hI v1, h, s_held hM, Bool.and_self, Nat.not_lt_zero, Nat.zero_le]
    by_cases w0 : w = 0 <;> simp [w0]
theorem s_partner (hM : q_ModB E) (hI : q_In (g 147)) (x : Int32) : q_X 116 0 [.ref 146, .int x, .null, .null, .null, .null] [] E g Q = Q (some (.int (if q_isv (g 147) x = true then a_partner (g 147) x.toNatClampNeg else -1000001))) E g := by
  have h12 := hI.1.1
  cases e1 : q_isv (g 147) x
  · simp (disch := omega) only [x116_0, x116_1, x116_2, x116_5, x116_8, x116_10, x116_11, x116_13, x116_14, x116_15, x116_16, x116_17, x116_19, x116_21, x116_22, x116_25, x116_27, x116_28, x116_31, x116_33, x116_34, x116_37, x116_38, x116_41, x116_42, x116_45, x116_47, x116_48, x116_51, x116_52, x116_54, x116_56, x116_57, x116_60, x116_62, x116_65, x116_66, x116_67, x116_69, x116_70, x116_73, x116_75, x116_78, x116_79, x116_80, x116_86, x116_87, nI_add, pk_mul, q_cl31, q_vin, q_le, q_lt, q_eqn, q_b_0, q_b_t, q_b_f, q_nz, q_nz1, q_nz0, q_tl, q_tn, true_and, and_true, not_true_eq_false, not_false_eq_true, ite_true, ite_false, ↓reduceIte, true_or, or_true, and_self, ne_eq, q_or1, q_or2, Nat.add_eq_zero_iff, and_false, false_and, List.length_cons, List.length_nil, reduceCtorEq, q_toI, Nat.zero_add, Nat.le_refl, q_c0, q_c1, q_c2, q_c4, q_c9, q_c12, q_c30, q_c99, q_c100, q_c126, q_c32, q_c359, q_c999, hM.1, hM.2.1, hM.2.2.1, hM.2.2.2.1, hM.2.2.2.2.1, hM.2.2.2.2.2.1, hM.2.2.2.2.2.2, s_isv hM hI, e1, Bool.false_and, Bool.false_eq_true]
  obtain ⟨v, v1, rfl, v4⟩ := q_isv_lo hI e1
  simp (disch := omega) only [x116_0, x116_1, x116_2, x116_5, x116_8, x116_10, x116_11, x116_13, x116_14, x116_15, x116_16, x116_17, nI_add, pk_mul, q_cl31, q_vin, q_le, q_lt, q_eqn, q_b_0, q_b_t, q_b_f, q_nz, q_nz1, q_nz0, q_tl, q_tn, true_and, and_true, not_true_eq_false, not_false_eq_true, ite_true, ite_false, ↓reduceIte, true_or, or_true, and_self, ne_eq, q_or1, q_or2, Nat.add_eq_zero_iff, and_false, false_and, List.length_cons, List.length_nil, reduceCtorEq, q_toI, Nat.zero_add, Nat.le_refl, q_c0, q_c1, q_c2, q_c4, q_c9, q_c12, q_c30, q_c99, q_c100, q_c126, q_c32, q_c359, q_c999, hM.1, hM.2.1, hM.2.2.1, hM.2.2.2.1, hM.2.2.2.2.1, hM.2.2.2.2.2.1, hM.2.2.2.2.2.2, s_isv hM hI, e1, v4]
  have key : ∃ L5, q_X 116 19 [.ref 146, .int (nI v), .int (-1000004), .int (nI 0), .int (nI 0), .null] [] E g Q = q_X 116 19 [.ref 146, .int (nI v), .int (q_mx (fun k => decide (k ≠ v)) (fun k => g 147 (q_pr k v)) (-1000004) (nI 0) (q_sz (g 147))).1, .int (q_mx (fun k => decide (k ≠ v)) (fun k => g 147 (q_pr k v)) (-1000004) (nI 0) (q_sz (g 147))).2, .int (nI (q_sz (g 147))), L5] [] E g Q := by
    refine q_loop1 (P := fun j L5 => q_X 116 19 [.ref 146, .int (nI v), .int (q_mx (fun k => decide (k ≠ v)) (fun k => g 147 (q_pr k v)) (-1000004) (nI 0) j).1, .int (q_mx (fun k => decide (k ≠ v)) (fun k => g 147 (q_pr k v)) (-1000004) (nI 0) j).2, .int (nI j), L5] [] E g Q) (fun j hj L5 => ?_)
    try dsimp only
    have hm := q_mx_ge (fun k => decide (k ≠ v)) (fun k => g 147 (q_pr k v)) (-1000004) (nI 0) j
    have hmx : q_mx (fun k => decide (k ≠ v)) (fun k => g 147 (q_pr k v)) (-1000004) (nI 0) (j + 1) = if decide (j ≠ v) = true ∧ (q_mx (fun k => decide (k ≠ v)) (fun k => g 147 (q_pr k v)) (-1000004) (nI 0) j).2 < g 147 (q_pr j v) then (nI j, g 147 (q_pr j v)) else q_mx (fun k => decide (k ≠ v)) (fun k => g 147 (q_pr k v)) (-1000004) (nI 0) j := rfl
    rw [hmx]
    clear hmx
    generalize q_mx (fun k => decide (k ≠ v)) (fun k => g 147 (q_pr k v)) (-1000004) (nI 0) j = bm at *
    obtain ⟨b, m⟩ := bm
    dsimp only at hm ⊢
    by_cases x1 : j = v
    · subst x1
      simp only [ne_eq, not_true_eq_false, decide_false, Bool.false_eq_true, false_and, ↓reduceIte]
      apply Exists.intro
      conv => lhs; simp (disch := omega) only [x116_0, x116_1, x116_2, x116_5, x116_8, x116_10, x116_11, x116_13, x116_14, x116_15, x116_16, x116_17, x116_19, x116_21, x116_22, x116_25, x116_27, x116_28, x116_31, x116_33, x116_34, x116_37, x116_38, x116_41, x116_42, x116_45, x116_47, x116_48, x116_51, x116_52, x116_54, x116_56, x116_57, x116_60, x116_62, x116_65, x116_66, x116_67, x116_69, x116_70, x116_73, x116_75, x116_78, x116_79, x116_80, x116_86, x116_87, nI_add, pk_mul, q_cl31, q_vin, q_le, q_lt, q_eqn, q_b_0, q_b_t, q_b_f, q_nz, q_nz1, q_nz0, q_tl, q_tn, true_and, and_true, not_true_eq_false, not_false_eq_true, ite_true, ite_false, ↓reduceIte, true_or, or_true, and_self, ne_eq, q_or1, q_or2, Nat.add_eq_zero_iff, and_false, false_and, List.length_cons, List.length_nil, reduceCtorEq, q_toI, Nat.zero_add, Nat.le_refl, q_c0, q_c1, q_c2, q_c4, q_c9, q_c12, q_c30, q_c99, q_c100, q_c126, q_c32, q_c359, q_c999, hM.1, hM.2.1, hM.2.2.1, hM.2.2.2.1, hM.2.2.2.2.1, hM.2.2.2.2.2.1, hM.2.2.2.2.2.2, hI.1.2, hm, show (q_sz (g 147) ≤ j) = False from eq_false (by omega)]
      simp only [x116_83]
      exact rfl
    · by_cases x2 : m < g 147 (q_pr j v)
      · simp only [ne_eq, x1, x2, not_false_eq_true, decide_true, and_self, ↓reduceIte]
        apply Exists.intro
        conv => lhs; simp (disch := omega) only [x116_0, x116_1, x116_2, x116_5, x116_8, x116_10, x116_11, x116_13, x116_14, x116_15, x116_16, x116_17, x116_19, x116_21, x116_22, x116_25, x116_27, x116_28, x116_31, x116_33, x116_34, x116_37, x116_38, x116_41, x116_42, x116_45, x116_47, x116_48, x116_51, x116_52, x116_54, x116_56, x116_57, x116_60, x116_62, x116_65, x116_66, x116_67, x116_69, x116_70, x116_73, x116_75, x116_78, x116_79, x116_80, x116_86, x116_87, nI_add, pk_mul, q_cl31, q_vin, q_le, q_lt, q_eqn, q_b_0, q_b_t, q_b_f, q_nz, q_nz1, q_nz0, q_tl, q_tn, true_and, and_true, not_true_eq_false, not_false_eq_true, ite_true, ite_false, ↓reduceIte, true_or, or_true, and_self, ne_eq, q_or1, q_or2, Nat.add_eq_zero_iff, and_false, false_and, List.length_cons, List.length_nil, reduceCtorEq, q_toI, Nat.zero_add, Nat.le_refl, q_c0, q_c1, q_c2, q_c4, q_c9, q_c12, q_c30, q_c99, q_c100, q_c126, q_c32, q_c359, q_c999, hM.1, hM.2.1, hM.2.2.1, hM.2.2.2.1, hM.2.2.2.2.1, hM.2.2.2.2.2.1, hM.2.2.2.2.2.2, hI.1.2, s_pair, q_pv, q_pc, x1, x2, ← Int32.not_lt, hj, show (q_sz (g 147) ≤ j) = False from eq_false (by omega)]
        simp only [x116_83]
        exact rfl
      · simp only [x2, and_false, ↓reduceIte]
        apply Exists.intro
        conv => lhs; simp (disch := omega) only [x116_0, x116_1, x116_2, x116_5, x116_8, x116_10, x116_11, x116_13, x116_14, x116_15, x116_16, x116_17, x116_19, x116_21, x116_22, x116_25, x116_27, x116_28, x116_31, x116_33, x116_34, x116_37, x116_38, x116_41, x116_42, x116_45, x116_47, x116_48, x116_51, x116_52, x116_54, x116_56, x116_57, x116_60, x116_62, x116_65, x116_66, x116_67, x116_69, x116_70, x116_73, x116_75, x116_78, x116_79, x116_80, x116_86, x116_87, nI_add, pk_mul, q_cl31, q_vin, q_le, q_lt, q_eqn, q_b_0, q_b_t, q_b_f, q_nz, q_nz1, q_nz0, q_tl, q_tn, true_and, and_true, not_true_eq_false, not_false_eq_true, ite_true, ite_false, ↓reduceIte, true_or, or_true, and_self, ne_eq, q_or1, q_or2, Nat.add_eq_zero_iff, and_false, false_and, List.length_cons, List.length_nil, reduceCtorEq, q_toI, Nat.zero_add, Nat.le_refl, q_c0, q_c1, q_c2, q_c4, q_c9, q_c12, q_c30, q_c99, q_c100, q_c126, q_c32, q_c359, q_c999, hM.1, hM.2.1, hM.2.2.1, hM.2.2.2.1, hM.2.2.2.2.1, hM.2.2.2.2.2.1, hM.2.2.2.2.2.2, hI.1.2, s_pair, q_pv, q_pc, x1, x2, ← Int32.not_lt, hj, show (q_sz (g 147) ≤ j) = False from eq_false (by omega)]
        simp only [x116_83]
        exact rfl
  obtain ⟨L5, key⟩ := key
  rw [key]
  simp (disch := omega) only [x116_0, x116_1, x116_2, x116_5, x116_8, x116_10, x116_11, x116_13, x116_14, x116_15, x116_16, x116_17, x116_19, x116_21, x116_22, x116_25, x116_27, x116_28, x116_31, x116_33, x116_34, x116_37, x116_38, x116_41, x116_42, x116_45, x116_47, x116_48, x116_51, x116_52, x116_54, x116_56, x116_57, x116_60, x116_62, x116_65, x116_66, x116_67, x116_69, x116_70, x116_73, x116_75, x116_78, x116_79, x116_80, x116_83, x116_86, x116_87, nI_add, pk_mul, q_cl31, q_vin, q_le, q_lt, q_eqn, q_b_0, q_b_t, q_b_f, q_nz, q_nz1, q_nz0, q_tl, q_tn, true_and, and_true, not_true_eq_false, not_false_eq_true, ite_true, ite_false, ↓reduceIte, true_or, or_true, and_self, ne_eq, q_or1, q_or2, Nat.add_eq_zero_iff, and_false, false_and, List.length_cons, List.length_nil, reduceCtorEq, q_toI, Nat.zero_add, Nat.le_refl, q_c0, q_c1, q_c2, q_c4, q_c9, q_c12, q_c30, q_c99, q_c100, q_c126, q_c32, q_c359, q_c999, hM.1, hM.2.1, hM.2.2.1, hM.2.2.2.1, hM.2.2.2.2.1, hM.2.2.2.2.2.1, hM.2.2.2.2.2.2, hI.1.2]
  unfold a_partner
  rw [(q_mx_b _ _ _ (q_sz (g 147)) (by omega)).2]
end
