/-- a change leaves the kept blocks alone -/
def q_Hi (f h : q_St) : Prop := ∀ i, 312 ≤ i → h i = f i
theorem q_Hi_t {f h k : q_St} (a : q_Hi f h) (b : q_Hi h k) : q_Hi f k := fun i hi => (b i hi).trans (a i hi)
theorem q_Hi_u {f h : q_St} (a : q_Hi f h) {i : Nat} (hi : i < 312) (x : Int32) : q_Hi f (upd h i x) := fun j hj => (q_updn (by omega)).trans (a j hj)
theorem q_Hi_r (f : q_St) : q_Hi f f := fun _ _ => rfl
theorem p_take_hi {f : q_St} (hI : q_In f) {v k : Nat} (hk : k < 10) (hc : nI 0 < f (107 + 3 * k + 1)) : q_Hi f (p_take f v k) := by
  have h1 := (q_hd_lt hI hk hc).1
  have h12 := hI.1.1
  unfold p_take
  exact q_Hi_u (q_Hi_u (q_Hi_u (q_Hi_u (q_Hi_u (q_Hi_r f) (by omega) _) (by omega) _) (by omega) _) (by omega) _) (by omega) _
theorem p_sells_hi {f : q_St} (hI : q_In f) {v : Nat} (hv : v < q_sz f) : q_Hi f (p_sells f v).2 := by
  have h12 := hI.1.1
  have hI2 := q_In_want hI hv (show 7 < 8 by decide) (by decide) (by decide) (f (11 + 8 * v + 7) + nI 1)
  have hu := q_Hi_u (q_Hi_r f) (show 11 + 8 * v + 7 < 312 by omega) (f (11 + 8 * v + 7) + nI 1)
  unfold p_sells
  rcases q_sp_c (upd f (11 + 8 * v + 7) (f (11 + 8 * v + 7) + nI 1)) v with hs | ⟨k, hk, hs, hc⟩
  · rw [hs, if_pos (by decide)]
    exact q_Hi_u hu (by omega) _
  · rw [hs, nI_clamp (by omega), if_neg (by rw [q_lt (by omega) (by omega)]; omega)]
    exact q_Hi_t hu (p_take_hi hI2 hk hc)
theorem p_sell_hi {f : q_St} (hI : q_In f) (x : Int32) : q_Hi f (p_sell f x).2 := by
  unfold p_sell
  cases e : q_isv f x
  · exact q_Hi_r f
  · obtain ⟨v, hv, rfl, h3⟩ := q_isv_lo hI e
    simp only [h3, ↓reduceIte]
    exact p_sells_hi hI hv
theorem p_verse_hi {f : q_St} (hI : q_In f) (o p c : Int32) : q_Hi f (p_verse f o p c).2 := by
  have h12 := hI.1.1
  unfold p_verse
  split
  · split
    · exact q_Hi_r f
    · exact q_Hi_u (q_Hi_u (q_Hi_u (q_Hi_u (q_Hi_r f) (by omega) _) (by omega) _) (by omega) _) (by omega) _
  · exact q_Hi_r f
theorem p_order_hi {f : q_St} (hI : q_In f) (x y : Int32) : q_Hi f (p_order f x y).2 := by
  have h12 := hI.1.1
  have h8 := hI.2.1.1
  unfold p_order
  split
  · rename_i e
    simp only [Bool.and_eq_true] at e
    obtain ⟨v, v1, rfl, v4⟩ := q_isv_lo hI e.1
    rw [v4]
    split
    · exact q_Hi_r f
    · dsimp only
      rename_i z
      split
      · exact q_Hi_u (q_Hi_u (q_Hi_r f) (by omega) _) (by omega) _
      · have : q_no f < 8 := by omega
        exact q_Hi_u (q_Hi_u (q_Hi_u (q_Hi_u (q_Hi_u (q_Hi_r f) (by omega) _) (by omega) _) (by omega) _) (by omega) _) (by omega) _
  · exact q_Hi_r f
theorem p_lay_hi {f : q_St} (hI : q_In f) (s x y : Int32) : q_Hi f (p_lay f s x y).2 := by
  have h12 := hI.1.1
  unfold p_lay
  split
  · rename_i e
    simp only [Bool.and_eq_true] at e
    obtain ⟨j, -, j2, rfl, j4⟩ := q_lo (lo := 0) (n := 9) e.1 (by omega)
    obtain ⟨v, v1, rfl, v4⟩ := q_isv_lo hI e.2.1
    rw [j4, v4]
    split
    · exact q_Hi_r f
    · split
      · exact q_Hi_r f
      · exact q_Hi_u (q_Hi_u (q_Hi_u (q_Hi_r f) (by omega) _) (by omega) _) (by omega) _
  · exact q_Hi_r f
theorem p_clear_hi {f : q_St} (hI : q_In f) (s : Int32) : q_Hi f (p_clear f s).2 := by
  have h12 := hI.1.1
  unfold p_clear
  split
  · rename_i e
    obtain ⟨j, -, j2, rfl, j4⟩ := q_lo (lo := 0) (n := 9) e (by omega)
    rw [j4]
    split
    · exact q_Hi_r f
    · rename_i z
      split
      · exact q_Hi_r f
      · rcases hI.2.2.2.2.2.2.2.1 j (by omega) with h | ⟨v1, v2⟩
        · rw [h.1] at z
          exact absurd (by decide) z
        · exact q_Hi_u (q_Hi_u (q_Hi_u (q_Hi_r f) (by omega) _) (by omega) _) (by omega) _
  · exact q_Hi_r f
theorem p_season_hi (f : q_St) (o a b : Int32) : q_Hi f (p_season f o a b).2 := by
  unfold p_season
  split
  · rename_i e
    simp only [Bool.and_eq_true] at e
    obtain ⟨j, -, j2, rfl, j4⟩ := q_lo (lo := 0) (n := 4) e.1 (by omega)
    rw [j4]
    exact q_Hi_u (q_Hi_u (q_Hi_r f) (by omega) _) (by omega) _
  · exact q_Hi_r f
theorem p_set_hi (f : q_St) (w x : Int32) : q_Hi f (p_set f w x).2 := by
  unfold p_set
  by_cases e : (q_ir 0 1 w && q_ir 0 (if w = nI 0 then 30 else 100) x) = true
  · rw [if_pos e]
    simp only [Bool.and_eq_true] at e
    obtain ⟨j, -, j2, rfl, j4⟩ := q_lo (lo := 0) (n := 1) e.1 (by omega)
    rw [j4]
    exact q_Hi_u (q_Hi_r f) (by omega) _
  · rw [if_neg e]
    exact q_Hi_r f
theorem p_two_hi {f : q_St} (hI : q_In f) (x y : Int32) : q_Hi f (p_two f x y).2 := by
  have h12 := hI.1.1
  unfold p_two
  split
  · rename_i e
    simp only [Bool.and_eq_true] at e
    obtain ⟨v, v1, rfl, v4⟩ := q_isv_lo hI e.1
    obtain ⟨w, w1, rfl, w4⟩ := q_isv_lo hI e.2
    rw [v4, w4]
    obtain ⟨a1, a2, a3⟩ := p_sells_In hI v1
    obtain ⟨b1, b2, b3⟩ := p_sells_In a1 (v := w) (by omega)
    have c1 := p_sells_hi hI v1
    have c2 := q_Hi_t c1 (p_sells_hi a1 (v := w) (by omega))
    generalize p_sells f v = q1 at *
    generalize p_sells q1.2 w = q2 at *
    dsimp only
    split
    · exact c2
    · rename_i z
      rw [not_or] at z
      rcases a3 with h1 | ⟨u1, hu1, h1⟩
      · rw [h1] at z
        exact absurd (by decide) z.1
      · rcases b3 with h2 | ⟨u2, hu2, h2⟩
        · rw [h2] at z
          exact absurd (by decide) z.2
        · rw [h1, h2, nI_clamp (by omega), nI_clamp (by omega)]
          exact q_Hi_u c2 (q_pr_lt (by omega) (by omega)) _
  · exact q_Hi_r f
theorem p_pass_hi {f : q_St} (hI : q_In f) (x : Int32) : q_Hi f (p_pass f x).2 := by
  unfold p_pass
  split
  · rename_i e
    obtain ⟨n, n1, n2, rfl, n4⟩ := q_lo (lo := 1) (n := 99) e (by omega)
    have hd := hI.2.2.2.1
    split
    · exact q_Hi_r f
    · rename_i c
      rw [hd.2, nI_add, q_lt (by omega) (by omega)] at c
      rw [n4]
      obtain ⟨b1, b2, b3, b4, b5, b6, b7⟩ := p_days_l (q_In_Io hI) hd.2 n (by omega)
      exact fun i hi => b4 i (by omega) (by omega) (by omega)
  · exact q_Hi_r f
theorem p_gb_hi {f : q_St} (hI : q_In f) : ∀ n, n ≤ q_sz f → q_Hi f (p_gb f n).2 := by
  intro n
  have h12 := hI.1.1
  induction n with
  | zero => intro _; exact q_Hi_r f
  | succ n ih =>
    intro hn
    refine q_Hi_t (ih (by omega)) ?_
    show q_Hi _ (p_gb1 (p_gb f n).2 n).2
    generalize (p_gb f n).2 = h
    unfold p_gb1
    split
    · exact q_Hi_r h
    · intro i hi
      dsimp only [q_emp]
      rw [if_neg (by omega), q_updn (by omega), q_updn (by omega)]
theorem p_give_hi {f : q_St} (hI : q_In f) : q_Hi f (p_give f).2 := by
  unfold p_give
  split
  · exact q_Hi_r f
  · exact q_Hi_u (p_gb_hi hI _ (Nat.le_refl _)) (by omega) _
/-- an order of a text, done -/
def p_does (f : q_St) (s a b c : Int32) : Int32 × q_St := if s = nI 108 then p_lay f a b c else if s = nI 111 then p_order f a b else if s = nI 115 then p_sell f a else if s = nI 118 then p_verse f a b c else p_pass f a
theorem p_does_ok {f : q_St} (hI : q_In f) (s a b c : Int32) : q_Ok f (p_does f s a b c) := by
  unfold p_does
  split
  · exact p_lay_ok hI a b c
  · split
    · exact p_order_ok hI a b
    · split
      · exact p_sell_ok hI a
      · split
        · exact p_verse_ok hI a b c
        · exact p_pass_ok hI a
theorem p_does_hi {f : q_St} (hI : q_In f) (s a b c : Int32) : q_Hi f (p_does f s a b c).2 := by
  unfold p_does
  split
  · exact p_lay_hi hI a b c
  · split
    · exact p_order_hi hI a b
    · split
      · exact p_sell_hi hI a
      · split
        · exact p_verse_hi hI a b c
        · exact p_pass_hi hI a
theorem p_does_c {f : q_St} {s a b c a' b' c' : Int32} (ha : a = a') (hb : 2 ≤ q_pt s → b = b') (hc : 3 ≤ q_pt s → c = c') : p_does f s a b c = p_does f s a' b' c' := by
  subst ha
  unfold p_does
  by_cases c1 : s = nI 118
  · have : q_pt s = 3 := by unfold q_pt; rw [if_pos (Or.inl c1)]
    rw [hb (by omega), hc (by omega)]
  · by_cases c2 : s = nI 108
    · have : q_pt s = 3 := by unfold q_pt; rw [if_pos (Or.inr c2)]
      rw [hb (by omega), hc (by omega)]
    · by_cases c3 : s = nI 111
      · have : q_pt s = 2 := by unfold q_pt; rw [if_neg (fun q => q.elim c1 c2), if_pos c3]
        rw [hb (by omega)]
        rw [if_neg c2, if_neg c2, if_pos c3, if_pos c3]
      · rw [if_neg c2, if_neg c2, if_neg c3, if_neg c3, if_neg c1, if_neg c1]
section
variable {E : q_E} {g : q_G} {Q : Option Value → q_E → q_G → Prop}
theorem s_does (hM : q_ModB E) (hI : q_In (g 147)) (s : Int32) : q_X 155 0 [.ref 146, .int s] [] E g Q = Q (some (.int (p_does (g 147) s (g 149 0) (g 149 1) (g 149 2)).1)) E (q_upA g 147 (p_does (g 147) s (g 149 0) (g 149 1) (g 149 2)).2) := by
  have d1 := fun Q x y z => s_doLay (Q := Q) (s := x) (x := y) (y := z) hM hI.1.1 hI.1.2
  have d2 := fun Q x y => s_doOrder (Q := Q) (x := x) (y := y) hM hI.1.1 hI.1.2 hI.2.1.1 hI.2.1.2 hI.2.2.1.1 hI.2.2.1.2 hI.2.2.2.1.1 hI.2.2.2.1.2
  have d3 := fun Q x => s_doSell (Q := Q) hM hI x
  have d4 := fun Q x y z => s_doVerse (Q := Q) (o := x) (p := y) (c := z) hM hI.1.1 hI.1.2 (fun w hw hm => hI.2.2.2.2.2.2.1 _ (Nat.le_refl _) hm w hw)
  have d5 := fun Q x => s_doPass (Q := Q) hM (q_In_Io hI) hI.2.2.2.1.1 hI.2.2.2.1.2 x
  unfold p_does
  by_cases c1 : s = nI 108
  · subst c1
    simp (disch := omega) only [x155_0, x155_1, x155_44, x155_45, x155_46, x155_49, x155_50, x155_51, x155_52, x155_55, x155_56, x155_57, x155_58, x155_61, x155_62, x155_63, x155_66, x155_67, x155_68, x155_69, x155_72, x155_73, x155_74, x155_75, x155_78, x155_79, x155_80, x155_83, x155_84, x155_85, x155_86, x155_89, x155_90, x155_91, x155_92, x155_95, x155_96, x155_97, x155_98, x155_101, x155_102, x155_103, x155_106, x155_107, x155_108, x155_109, x155_112, x155_113, x155_114, x155_117, x155_118, x155_119, x155_120, x155_123, x155_124, x155_125, x155_128, nI_add, pk_mul, q_cl31, q_vin, q_le, q_lt, q_eqn, q_b_0, q_b_t, q_b_f, q_nz, q_nz1, q_nz0, q_tl, q_tn, true_and, and_true, not_true_eq_false, not_false_eq_true, ite_true, ite_false, ↓reduceIte, true_or, or_true, and_self, ne_eq, q_or1, q_or2, Nat.add_eq_zero_iff, and_false, false_and, List.length_cons, List.length_nil, reduceCtorEq, q_toI, Nat.zero_add, Nat.le_refl, q_c0, q_c1, q_c2, q_c4, q_c9, q_c12, q_c30, q_c99, q_c100, q_c126, q_c32, q_c359, q_c999, hM.1, hM.2.1, hM.2.2.1, hM.2.2.2.1, hM.2.2.2.2.1, hM.2.2.2.2.2.1, hM.2.2.2.2.2.2, d1]
  by_cases c2 : s = nI 111
  · subst c2
    simp (disch := omega) only [x155_0, x155_1, x155_44, x155_45, x155_46, x155_49, x155_50, x155_51, x155_52, x155_55, x155_56, x155_57, x155_58, x155_61, x155_62, x155_63, x155_66, x155_67, x155_68, x155_69, x155_72, x155_73, x155_74, x155_75, x155_78, x155_79, x155_80, x155_83, x155_84, x155_85, x155_86, x155_89, x155_90, x155_91, x155_92, x155_95, x155_96, x155_97, x155_98, x155_101, x155_102, x155_103, x155_106, x155_107, x155_108, x155_109, x155_112, x155_113, x155_114, x155_117, x155_118, x155_119, x155_120, x155_123, x155_124, x155_125, x155_128, nI_add, pk_mul, q_cl31, q_vin, q_le, q_lt, q_eqn, q_b_0, q_b_t, q_b_f, q_nz, q_nz1, q_nz0, q_tl, q_tn, true_and, and_true, not_true_eq_false, not_false_eq_true, ite_true, ite_false, ↓reduceIte, true_or, or_true, and_self, ne_eq, q_or1, q_or2, Nat.add_eq_zero_iff, and_false, false_and, List.length_cons, List.length_nil, reduceCtorEq, q_toI, Nat.zero_add, Nat.le_refl, q_c0, q_c1, q_c2, q_c4, q_c9, q_c12, q_c30, q_c99, q_c100, q_c126, q_c32, q_c359, q_c999, hM.1, hM.2.1, hM.2.2.1, hM.2.2.2.1, hM.2.2.2.2.1, hM.2.2.2.2.2.1, hM.2.2.2.2.2.2, d2, c1]
  by_cases c3 : s = nI 115
  · subst c3
    simp (disch := omega) only [x155_0, x155_1, x155_44, x155_45, x155_46, x155_49, x155_50, x155_51, x155_52, x155_55, x155_56, x155_57, x155_58, x155_61, x155_62, x155_63, x155_66, x155_67, x155_68, x155_69, x155_72, x155_73, x155_74, x155_75, x155_78, x155_79, x155_80, x155_83, x155_84, x155_85, x155_86, x155_89, x155_90, x155_91, x155_92, x155_95, x155_96, x155_97, x155_98, x155_101, x155_102, x155_103, x155_106, x155_107, x155_108, x155_109, x155_112, x155_113, x155_114, x155_117, x155_118, x155_119, x155_120, x155_123, x155_124, x155_125, x155_128, nI_add, pk_mul, q_cl31, q_vin, q_le, q_lt, q_eqn, q_b_0, q_b_t, q_b_f, q_nz, q_nz1, q_nz0, q_tl, q_tn, true_and, and_true, not_true_eq_false, not_false_eq_true, ite_true, ite_false, ↓reduceIte, true_or, or_true, and_self, ne_eq, q_or1, q_or2, Nat.add_eq_zero_iff, and_false, false_and, List.length_cons, List.length_nil, reduceCtorEq, q_toI, Nat.zero_add, Nat.le_refl, q_c0, q_c1, q_c2, q_c4, q_c9, q_c12, q_c30, q_c99, q_c100, q_c126, q_c32, q_c359, q_c999, hM.1, hM.2.1, hM.2.2.1, hM.2.2.2.1, hM.2.2.2.2.1, hM.2.2.2.2.2.1, hM.2.2.2.2.2.2, d3, c1, c2]
  by_cases c4 : s = nI 118
  · subst c4
    simp (disch := omega) only [x155_0, x155_1, x155_44, x155_45, x155_46, x155_49, x155_50, x155_51, x155_52, x155_55, x155_56, x155_57, x155_58, x155_61, x155_62, x155_63, x155_66, x155_67, x155_68, x155_69, x155_72, x155_73, x155_74, x155_75, x155_78, x155_79, x155_80, x155_83, x155_84, x155_85, x155_86, x155_89, x155_90, x155_91, x155_92, x155_95, x155_96, x155_97, x155_98, x155_101, x155_102, x155_103, x155_106, x155_107, x155_108, x155_109, x155_112, x155_113, x155_114, x155_117, x155_118, x155_119, x155_120, x155_123, x155_124, x155_125, x155_128, nI_add, pk_mul, q_cl31, q_vin, q_le, q_lt, q_eqn, q_b_0, q_b_t, q_b_f, q_nz, q_nz1, q_nz0, q_tl, q_tn, true_and, and_true, not_true_eq_false, not_false_eq_true, ite_true, ite_false, ↓reduceIte, true_or, or_true, and_self, ne_eq, q_or1, q_or2, Nat.add_eq_zero_iff, and_false, false_and, List.length_cons, List.length_nil, reduceCtorEq, q_toI, Nat.zero_add, Nat.le_refl, q_c0, q_c1, q_c2, q_c4, q_c9, q_c12, q_c30, q_c99, q_c100, q_c126, q_c32, q_c359, q_c999, hM.1, hM.2.1, hM.2.2.1, hM.2.2.2.1, hM.2.2.2.2.1, hM.2.2.2.2.2.1, hM.2.2.2.2.2.2, d4, c1, c2, c3]
  · simp (disch := omega) only [x155_0, x155_1, x155_44, x155_45, x155_46, x155_49, x155_50, x155_51, x155_52, x155_55, x155_56, x155_57, x155_58, x155_61, x155_62, x155_63, x155_66, x155_67, x155_68, x155_69, x155_72, x155_73, x155_74, x155_75, x155_78, x155_79, x155_80, x155_83, x155_84, x155_85, x155_86, x155_89, x155_90, x155_91, x155_92, x155_95, x155_96, x155_97, x155_98, x155_101, x155_102, x155_103, x155_106, x155_107, x155_108, x155_109, x155_112, x155_113, x155_114, x155_117, x155_118, x155_119, x155_120, x155_123, x155_124, x155_125, x155_128, nI_add, pk_mul, q_cl31, q_vin, q_le, q_lt, q_eqn, q_b_0, q_b_t, q_b_f, q_nz, q_nz1, q_nz0, q_tl, q_tn, true_and, and_true, not_true_eq_false, not_false_eq_true, ite_true, ite_false, ↓reduceIte, true_or, or_true, and_self, ne_eq, q_or1, q_or2, Nat.add_eq_zero_iff, and_false, false_and, List.length_cons, List.length_nil, reduceCtorEq, q_toI, Nat.zero_add, Nat.le_refl, q_c0, q_c1, q_c2, q_c4, q_c9, q_c12, q_c30, q_c99, q_c100, q_c126, q_c32, q_c359, q_c999, hM.1, hM.2.1, hM.2.2.1, hM.2.2.2.1, hM.2.2.2.2.1, hM.2.2.2.2.2.1, hM.2.2.2.2.2.2, d5, c1, c2, c3, c4]
end
