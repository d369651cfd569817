/-! orders and days -/
theorem q_ins_all {t : q_T} {m : List q_T} (h : ∀ u, u ∈ m → t.2.2 < u.2.2) : q_ins t m = t :: m := by
  cases m with
  | nil => rfl
  | cons u l => exact if_pos (h u (List.mem_cons_self ..))
theorem q_ins_f (p : q_T → Bool) {t : q_T} : ∀ {l : List q_T}, q_sd l → (q_ins t l).filter p = if p t = true then q_ins t (l.filter p) else l.filter p := by
  intro l
  induction l with
  | nil =>
    intro _
    show [t].filter p = _
    rw [List.filter_cons]
    split <;> rfl
  | cons u l ih =>
    intro h
    have h1 := List.pairwise_cons.mp h
    by_cases c : t.2.2 < u.2.2
    · rw [show q_ins t (u :: l) = t :: u :: l from if_pos c, List.filter_cons]
      split
      · refine (q_ins_all fun w hw => ?_).symm
        have hw := (List.mem_filter.mp hw).1
        rcases List.mem_cons.mp hw with rfl | hw
        · exact c
        · exact Int32.lt_of_lt_of_le c (h1.1 w hw)
      · rfl
    · rw [show q_ins t (u :: l) = u :: q_ins t l from if_neg c, List.filter_cons, ih h1.2, List.filter_cons]
      by_cases pu : p u = true
      · rw [if_pos pu, if_pos pu]
        split
        · rw [show q_ins t (u :: l.filter p) = u :: q_ins t (l.filter p) from if_neg c]
        · rfl
      · rw [if_neg pu, if_neg pu]
theorem q_srt_sd (l : List q_T) : q_sd (q_srt l) := by
  have k : ∀ (l a : List q_T), q_sd a → q_sd (l.foldl (fun a t => q_ins t a) a) := by
    intro l
    induction l with
    | nil => intro a h; exact h
    | cons t l ih => intro a h; exact ih _ (q_ins_sd h)
  exact k l [] List.Pairwise.nil
theorem q_srt_f (p : q_T → Bool) (l : List q_T) : (q_srt l).filter p = q_srt (l.filter p) := by
  have k : ∀ (l a : List q_T), q_sd a → (l.foldl (fun a t => q_ins t a) a).filter p = (l.filter p).foldl (fun a t => q_ins t a) (a.filter p) := by
    intro l
    induction l with
    | nil => intro a h; rfl
    | cons t l ih =>
      intro a h
      show (l.foldl _ (q_ins t a)).filter p = _
      rw [ih _ (q_ins_sd h), q_ins_f p h, List.filter_cons]
      split
      · rfl
      · rfl
  exact k l [] List.Pairwise.nil
theorem q_srt_len (l : List q_T) : (q_srt l).length = l.length := by
  have k : ∀ (l a : List q_T), (l.foldl (fun a t => q_ins t a) a).length = a.length + l.length := by
    intro l
    induction l with
    | nil => intro a; rfl
    | cons t l ih =>
      intro a
      show (l.foldl _ (q_ins t a)).length = _
      rw [ih, q_ins_len, List.length_cons]; omega
  rw [q_srt, k]; simp
theorem q_srt_mem {l : List q_T} {u : q_T} : u ∈ q_srt l ↔ u ∈ l := by
  have k : ∀ (l a : List q_T), u ∈ l.foldl (fun a t => q_ins t a) a ↔ u ∈ a ∨ u ∈ l := by
    intro l
    induction l with
    | nil => intro a; simp
    | cons t l ih =>
      intro a
      show u ∈ l.foldl _ (q_ins t a) ↔ _
      rw [ih, q_ins_mem, List.mem_cons]
      constructor
      · rintro ((h | h) | h)
        · exact Or.inr (Or.inl h)
        · exact Or.inl h
        · exact Or.inr (Or.inr h)
      · rintro (h | h | h)
        · exact Or.inl (Or.inr h)
        · exact Or.inl (Or.inl h)
        · exact Or.inr h
  rw [q_srt, k]; simp
theorem q_due_len (d : Int32) (l : List q_T) : (l.filter (q_due d)).length + (l.filter (q_nod d)).length = l.length := by
  induction l with
  | nil => rfl
  | cons u l ih =>
    rw [List.filter_cons, List.filter_cons, List.length_cons]
    unfold q_nod
    cases h : q_due d u
    · simp only [Bool.false_eq_true, ↓reduceIte, Bool.not_false, List.length_cons]
      unfold q_nod at ih; omega
    · simp only [↓reduceIte, Bool.not_true, Bool.false_eq_true, List.length_cons]
      unfold q_nod at ih; omega
section
variable {E : q_E} {g : q_G} {f : q_St} {B : Nat}
theorem c_due {d : Nat} (hD : q_DelB E d) {q : Nat} (hq : q ≤ 8) (h0 : g d 0 = nI q) (y : Int32) {Q : Option Value → q_E → q_G → Prop} : q_X 6 0 [.ref d, .int y] [] E g Q = Q (some (.int (q_b (decide (0 < q ∧ g (d + 3) 0 ≤ y))))) E g := by
  obtain ⟨d1, d2, d3, d4, d5, d6, d7⟩ := id hD
  by_cases c : 0 < q
  · by_cases e : g (d + 3) 0 ≤ y
    · have e' : ¬ y < g (d + 3) 0 := Int32.not_lt.mpr e
      rw [decide_eq_true ⟨c, e⟩]
      simp (disch := omega) only [x6_0, x6_1, x6_4, x6_7, x6_8, x6_11, x6_12, x6_13, x6_14, x6_17, x6_18, x6_21, x6_22, nI_add, pk_mul, q_cl31, q_vin, q_le, q_lt, q_eqn, q_b_0, q_b_t, q_b_f, q_nz, q_nz1, q_nz0, q_tl, q_tn, true_and, and_true, not_true_eq_false, not_false_eq_true, ite_true, ite_false, ↓reduceIte, true_or, or_true, and_self, ne_eq, q_or1, q_or2, Nat.add_eq_zero_iff, and_false, false_and, List.length_cons, List.length_nil, reduceCtorEq, q_toI, Nat.zero_add, Nat.le_refl, q_c0, q_c1, q_c2, q_c4, q_c9, q_c12, q_c30, q_c99, q_c100, q_c126, q_c32, q_c359, q_c999, d1, d4, d7, h0, show (q ≤ 0) = False from eq_false (by omega), e']
    · have e' : y < g (d + 3) 0 := Int32.not_le.mp e
      rw [decide_eq_false (fun q => e q.2)]
      simp (disch := omega) only [x6_0, x6_1, x6_4, x6_7, x6_8, x6_11, x6_12, x6_13, x6_14, x6_17, x6_18, x6_21, x6_22, nI_add, pk_mul, q_cl31, q_vin, q_le, q_lt, q_eqn, q_b_0, q_b_t, q_b_f, q_nz, q_nz1, q_nz0, q_tl, q_tn, true_and, and_true, not_true_eq_false, not_false_eq_true, ite_true, ite_false, ↓reduceIte, true_or, or_true, and_self, ne_eq, q_or1, q_or2, Nat.add_eq_zero_iff, and_false, false_and, List.length_cons, List.length_nil, reduceCtorEq, q_toI, Nat.zero_add, Nat.le_refl, q_c0, q_c1, q_c2, q_c4, q_c9, q_c12, q_c30, q_c99, q_c100, q_c126, q_c32, q_c359, q_c999, d1, d4, d7, h0, show (q ≤ 0) = False from eq_false (by omega), e']
  · rw [decide_eq_false (fun q => c q.1)]
    simp (disch := omega) only [x6_0, x6_1, x6_4, x6_7, x6_8, x6_11, x6_12, x6_13, x6_14, x6_17, x6_18, x6_21, x6_22, nI_add, pk_mul, q_cl31, q_vin, q_le, q_lt, q_eqn, q_b_0, q_b_t, q_b_f, q_nz, q_nz1, q_nz0, q_tl, q_tn, true_and, and_true, not_true_eq_false, not_false_eq_true, ite_true, ite_false, ↓reduceIte, true_or, or_true, and_self, ne_eq, q_or1, q_or2, Nat.add_eq_zero_iff, and_false, false_and, List.length_cons, List.length_nil, reduceCtorEq, q_toI, Nat.zero_add, Nat.le_refl, q_c0, q_c1, q_c2, q_c4, q_c9, q_c12, q_c30, q_c99, q_c100, q_c126, q_c32, q_c359, q_c999, d1, h0, show (q ≤ 0) = True from eq_true (by omega)]
/-- ids that takeIn doesn't touch -/
def q_Tut (B : Nat) (g g' : q_G) : Prop := ∀ c, ¬ c = B + 8 → ¬ c = B + 19 → ¬ c = B + 20 → ¬ c = B + 21 → ¬ c = B + 22 → g' c = g c
theorem c_takeIn (hS : q_StaB E B) {y : Int32} {m : Nat} (hm : m ≤ 12) : ∀ (L : List q_T) (g : q_G) (k : Nat) (L2 : Value), q_sd L → (∀ t, t ∈ L → ∃ v : Nat, v < m ∧ t.1 = nI v) → g (B + 19) 0 = nI L.length → q_ol g (B + 19) L.length = L → k + L.length ≤ 8 → g (B + 1) 0 = y → g (B + 4) 0 = nI m →
    ∃ g' : q_G, (∀ Q : Option Value → q_E → q_G → Prop, q_X 58 2 [.ref B, .int (nI k), L2] [] E g Q = Q (some (.int (nI (k + (L.filter (q_due y)).length)))) E g') ∧ q_Tut B g g' ∧ g' (B + 19) 0 = nI (L.filter (q_nod y)).length ∧ q_ol g' (B + 19) (L.filter (q_nod y)).length = L.filter (q_nod y) ∧ ∀ v, v < 12 → g' (B + 8) v = g (B + 8) v + q_ls (nI v) (L.filter (q_due y)) := by
  obtain ⟨ks0, -, hC, hN, hP, hR, hD⟩ := id hS
  obtain ⟨kn0, -, km1, km2, km3, km4, km5, km6, km7, km8⟩ := id hN
  obtain ⟨kd0, -, -, -, kd5, kd6, kd7⟩ := id hD
  intro L
  induction L with
  | nil =>
    intro g k L2 _ _ h0 hl hk hy hz
    refine ⟨g, fun Q => ?_, fun _ _ _ _ _ _ => rfl, h0, hl, fun v _ => (q_a0 _).symm⟩
    have h0 : g (B + 19) 0 = nI 0 := h0
    have hk : k ≤ 8 := hk
    have e : q_b (decide (0 < 0 ∧ g (B + 19 + 3) 0 ≤ y)) = nI 0 := by rw [decide_eq_false (fun q => absurd q.1 (by decide))]; rfl
    show _ = Q (some (.int (nI k))) E g
    by_cases c : 8 ≤ k
    · simp (disch := omega) only [x58_0, x58_1, x58_2, x58_3, x58_5, x58_8, x58_9, x58_12, x58_13, x58_16, x58_19, x58_22, x58_25, x58_26, x58_29, x58_32, x58_33, x58_34, x58_35, x58_36, x58_39, x58_40, x58_43, x58_46, x58_47, x58_50, x58_53, x58_54, x58_55, x58_56, x58_57, x58_60, x58_63, x58_64, x58_65, x58_66, x58_67, x58_68, x58_71, x58_74, x58_80, x58_81, nI_add, pk_mul, q_cl31, q_vin, q_le, q_lt, q_eqn, q_b_0, q_b_t, q_b_f, q_nz, q_nz1, q_nz0, q_tl, q_tn, true_and, and_true, not_true_eq_false, not_false_eq_true, ite_true, ite_false, ↓reduceIte, true_or, or_true, and_self, ne_eq, q_or1, q_or2, Nat.add_eq_zero_iff, and_false, false_and, List.length_cons, List.length_nil, reduceCtorEq, q_toI, Nat.zero_add, Nat.le_refl, q_c0, q_c1, q_c2, q_c4, q_c9, q_c12, q_c30, q_c99, q_c100, q_c126, q_c32, q_c359, q_c999, c]
    · simp (disch := omega) only [x58_0, x58_1, x58_2, x58_3, x58_5, x58_8, x58_9, x58_12, x58_13, x58_16, x58_19, x58_22, x58_25, x58_26, x58_29, x58_32, x58_33, x58_34, x58_35, x58_36, x58_39, x58_40, x58_43, x58_46, x58_47, x58_50, x58_53, x58_54, x58_55, x58_56, x58_57, x58_60, x58_63, x58_64, x58_65, x58_66, x58_67, x58_68, x58_71, x58_74, x58_80, x58_81, nI_add, pk_mul, q_cl31, q_vin, q_le, q_lt, q_eqn, q_b_0, q_b_t, q_b_f, q_nz, q_nz1, q_nz0, q_tl, q_tn, true_and, and_true, not_true_eq_false, not_false_eq_true, ite_true, ite_false, ↓reduceIte, true_or, or_true, and_self, ne_eq, q_or1, q_or2, Nat.add_eq_zero_iff, and_false, false_and, List.length_cons, List.length_nil, reduceCtorEq, q_toI, Nat.zero_add, Nat.le_refl, q_c0, q_c1, q_c2, q_c4, q_c9, q_c12, q_c30, q_c99, q_c100, q_c126, q_c32, q_c359, q_c999, c, ks0, hS.2.1.1, hS.2.1.2.2.2.2, kd0, hC.1, hy, c_due hD (show 0 ≤ 8 by omega) h0, e]
  | cons u l ih =>
    intro g k L2 hs hv h0 hl hk hy hz
    have h1 := List.pairwise_cons.mp hs
    have hk : k + (l.length + 1) ≤ 8 := hk
    have h0 : g (B + 19) 0 = nI (l.length + 1) := h0
    have hl : q_ol g (B + 19) (l.length + 1) = u :: l := hl
    have hu : q_t3 g (B + 19) 0 = u := by
      have := q_ol_get (g := g) (d := B + 19) (n := l.length + 1) (i := 0) (by omega)
      rw [hl] at this
      exact this.symm
    have u3 : g (B + 19 + 3) 0 = u.2.2 := congrArg (fun t => t.2.2) hu
    have u2 : g (B + 19 + 2) 0 = u.2.1 := congrArg (fun t => t.2.1) hu
    have u1 : g (B + 19 + 1) 0 = u.1 := congrArg (fun t => t.1) hu
    by_cases c : u.2.2 ≤ y
    · have d1 : q_due y u = true := decide_eq_true c
      have d2 : q_nod y u = false := by unfold q_nod; rw [d1]; rfl
      obtain ⟨v, v1, v2⟩ := hv u (List.mem_cons_self ..)
      have e : q_b (decide (0 < l.length + 1 ∧ g (B + 19 + 3) 0 ≤ y)) = nI 1 := by rw [decide_eq_true ⟨by omega, by rw [u3]; exact c⟩]; rfl
      obtain ⟨g2, i1, i2, i3, i4⟩ := c_remove (E := E) (g := q_up g (B + 8) v (g (B + 8) v + u.2.1)) hD (n := l.length) (by omega) (by rw [q_upf (by omega)]; exact h0)
      have t3 : ∀ i, q_t3 (q_up g (B + 8) v (g (B + 8) v + u.2.1)) (B + 19) i = q_t3 g (B + 19) i := by
        intro i
        unfold q_t3
        rw [q_upf (by omega), q_upf (by omega), q_upf (by omega)]
      have hl2 : q_ol g2 (B + 19) l.length = l := q_ol_e rfl fun i hi => by
        rw [i4 i hi, t3]
        have := q_ol_get (g := g) (d := B + 19) (n := l.length + 1) (i := i + 1) (by omega)
        rw [hl, List.getD_cons_succ] at this
        exact this.symm
      obtain ⟨g', j1, j2, j3, j4, j5⟩ := ih g2 (k + 1) (.int (nI v)) h1.2 (fun t ht => hv t (List.mem_cons_of_mem _ ht)) i3 hl2 (by omega) (by rw [i2 _ (by omega) (by omega) (by omega) (by omega), q_upf (by omega)]; exact hy) (by rw [i2 _ (by omega) (by omega) (by omega) (by omega), q_upf (by omega)]; exact hz)
      rw [List.filter_cons, List.filter_cons, if_pos d1, if_neg (by rw [d2]; decide)]
      refine ⟨g', fun Q => ?_, fun b b1 b2 b3 b4 b5 => ?_, j3, j4, fun w hw => ?_⟩
      · rw [show k + (u :: l.filter (q_due y)).length = k + 1 + (l.filter (q_due y)).length by rw [List.length_cons]; omega, ← j1 Q]
        have hh := fun Q => s_has (Q := Q) (g := g) hN (nI v) (m := m) (by omega) hz
        have hr : q_ir 0 ((m : Int) - 1) (nI v) = true := by rw [q_ir_nI (by omega), decide_eq_true (show (0 : Int) ≤ v by omega), decide_eq_true (show (v : Int) ≤ (m : Int) - 1 by omega)]; rfl
        conv => lhs; simp (disch := omega) only [x58_0, x58_1, x58_2, x58_3, x58_5, x58_8, x58_9, x58_12, x58_13, x58_16, x58_19, x58_22, x58_25, x58_26, x58_29, x58_32, x58_33, x58_34, x58_35, x58_36, x58_39, x58_40, x58_43, x58_46, x58_47, x58_50, x58_53, x58_54, x58_55, x58_56, x58_57, x58_60, x58_63, x58_64, x58_65, x58_66, x58_67, x58_68, x58_71, x58_74, x58_80, x58_81, nI_add, pk_mul, q_cl31, q_vin, q_le, q_lt, q_eqn, q_b_0, q_b_t, q_b_f, q_nz, q_nz1, q_nz0, q_tl, q_tn, true_and, and_true, not_true_eq_false, not_false_eq_true, ite_true, ite_false, ↓reduceIte, true_or, or_true, and_self, ne_eq, q_or1, q_or2, Nat.add_eq_zero_iff, and_false, false_and, List.length_cons, List.length_nil, reduceCtorEq, q_toI, Nat.zero_add, Nat.le_refl, q_c0, q_c1, q_c2, q_c4, q_c9, q_c12, q_c30, q_c99, q_c100, q_c126, q_c32, q_c359, q_c999, show (8 ≤ k) = False from eq_false (by omega), ks0, hS.2.1.1, hS.2.1.2.1, hS.2.1.2.2.2.2, kn0, hN.2.1.2.2.2.1, km4, kd0, hD.2.1, hD.2.2.1, kd5, kd6, hC.1, hy, c_due hD (show l.length + 1 ≤ 8 by omega) h0, e, u1, u2, v2, hh, hr, i1]
        simp only [x58_77]
      · rw [j2 b b1 b2 b3 b4 b5, i2 b b2 b3 b4 b5, q_upf b1]
      · rw [j5 w hw, i2 _ (by omega) (by omega) (by omega) (by omega), q_ups]
        show _ = g (B + 8) w + ((if u.1 = nI w then u.2.1 else nI 0) + _)
        rw [v2]
        by_cases e : w = v
        · subst e
          rw [if_pos rfl, if_pos rfl, Int32.add_assoc]
        · have ne : ¬ nI v = nI w := by rw [q_eqn (by omega) (by omega)]; exact fun q => e q.symm
          rw [if_neg e, if_neg ne, nI_0, Int32.zero_add]
    · have all : ∀ t, t ∈ u :: l → q_due y t = false := by
        intro t ht
        refine decide_eq_false fun q => c ?_
        rcases List.mem_cons.mp ht with rfl | ht
        · exact q
        · exact Int32.le_trans (h1.1 t ht) q
      have f1 : (u :: l).filter (q_due y) = [] := List.filter_eq_nil_iff.mpr fun t ht => by rw [all t ht]; decide
      have f2 : (u :: l).filter (q_nod y) = u :: l := List.filter_eq_self.mpr fun t ht => by unfold q_nod; rw [all t ht]; rfl
      have e : q_b (decide (0 < l.length + 1 ∧ g (B + 19 + 3) 0 ≤ y)) = nI 0 := by rw [decide_eq_false (fun q => c (by rw [← u3]; exact q.2))]; rfl
      rw [f1, f2]
      refine ⟨g, fun Q => ?_, fun _ _ _ _ _ _ => rfl, h0, hl, fun v _ => (q_a0 _).symm⟩
      show _ = Q (some (.int (nI k))) E g
      simp (disch := omega) only [x58_0, x58_1, x58_2, x58_3, x58_5, x58_8, x58_9, x58_12, x58_13, x58_16, x58_19, x58_22, x58_25, x58_26, x58_29, x58_32, x58_33, x58_34, x58_35, x58_36, x58_39, x58_40, x58_43, x58_46, x58_47, x58_50, x58_53, x58_54, x58_55, x58_56, x58_57, x58_60, x58_63, x58_64, x58_65, x58_66, x58_67, x58_68, x58_71, x58_74, x58_80, x58_81, nI_add, pk_mul, q_cl31, q_vin, q_le, q_lt, q_eqn, q_b_0, q_b_t, q_b_f, q_nz, q_nz1, q_nz0, q_tl, q_tn, true_and, and_true, not_true_eq_false, not_false_eq_true, ite_true, ite_false, ↓reduceIte, true_or, or_true, and_self, ne_eq, q_or1, q_or2, Nat.add_eq_zero_iff, and_false, false_and, List.length_cons, List.length_nil, reduceCtorEq, q_toI, Nat.zero_add, Nat.le_refl, q_c0, q_c1, q_c2, q_c4, q_c9, q_c12, q_c30, q_c99, q_c100, q_c126, q_c32, q_c359, q_c999, show (8 ≤ k) = False from eq_false (by omega), ks0, hS.2.1.1, hS.2.1.2.2.2.2, kd0, hC.1, hy, c_due hD (show l.length + 1 ≤ 8 by omega) h0, e]
set_option maxHeartbeats 3000000 in
theorem k_pass (hS : q_StaB E B) (hV : q_Vsta g B f) (hI : q_In f) (x : Int32) : q_Cop E g B 66 [.ref B, .int x] (p_pass f x) := by
  obtain ⟨ks0, -, hC, hN, hP, hR, hD⟩ := id hS
  obtain ⟨kn0, -, km1, km2, km3, km4, km5, km6, km7, km8⟩ := id hN
  obtain ⟨kr0, -, -, -, kr5, kr6, kr7⟩ := id hR
  obtain ⟨kd0, -, -, -, kd5, kd6, kd7⟩ := id hD
  obtain ⟨⟨kw5, kw6, kw7, kw8⟩, vC, vN, vP, vR, vD⟩ := id hV
  obtain ⟨ko0, ko1, ko2, ko3, ko4, ko5, ko6, ko7, ko8⟩ := id vN
  obtain ⟨kx1, kx2, kx3⟩ := id vR
  have h12 := hI.1.1
  have h8 := hI.2.1.1
  have hd := hI.2.2.2.1
  have hd0 := vC.1.trans hd.2
  unfold p_pass
  by_cases e1 : q_ir 1 99 x = true
  · rw [if_pos e1]
    obtain ⟨n, n0, n1, rfl, n3⟩ := q_lo (lo := 1) (n := 99) e1 (by omega)
    rw [n3, hd.2, nI_add]
    by_cases c : 1999 < q_dy f + n
    · rw [if_pos (show nI 1999 < nI (q_dy f + n) by rw [q_lt (by omega) (by omega)]; exact c)]
      refine q_Cop_er (Or.inr (Or.inr rfl)) fun Q => ?_
      simp (disch := omega) only [x66_0, x66_1, x66_2, x66_4, x66_7, x66_10, x66_12, x66_13, x66_14, x66_17, x66_20, x66_21, x66_22, x66_25, x66_28, x66_30, x66_31, x66_32, x66_35, x66_36, x66_39, x66_40, x66_41, x66_44, x66_45, x66_48, nI_add, pk_mul, q_cl31, q_vin, q_le, q_lt, q_eqn, q_b_0, q_b_t, q_b_f, q_nz, q_nz1, q_nz0, q_tl, q_tn, true_and, and_true, not_true_eq_false, not_false_eq_true, ite_true, ite_false, ↓reduceIte, true_or, or_true, and_self, ne_eq, q_or1, q_or2, Nat.add_eq_zero_iff, and_false, false_and, List.length_cons, List.length_nil, reduceCtorEq, q_toI, Nat.zero_add, Nat.le_refl, q_c0, q_c1, q_c2, q_c4, q_c9, q_c12, q_c30, q_c99, q_c100, q_c126, q_c32, q_c359, q_c999, ks0, kd0, hD.2.1, hD.2.2.1, hD.2.2.2.1, kd5, kd6, kd7, hC.1, hP.1, hS.2.1.1, hS.2.1.2.1, hS.2.1.2.2.1, hS.2.1.2.2.2.1, hS.2.1.2.2.2.2, kn0, hN.2.1.1, hN.2.1.2.1, hN.2.1.2.2.1, hN.2.1.2.2.2.1, hN.2.1.2.2.2.2.1, hN.2.1.2.2.2.2.2.1, hN.2.1.2.2.2.2.2.2.1, hN.2.1.2.2.2.2.2.2.2, km1, km2, km3, km4, km5, km6, km7, km8, kr0, hR.2.1, hR.2.2.1, hR.2.2.2.1, kr5, kr6, kr7, kw5, kw6, kw7, kw8, ko0, ko1, ko2, ko3, ko4, ko5, ko6, ko7, ko8, kx1, kx2, kx3, s_isWithin, e1, hd0, show (q_dy f + n ≤ 1999) = False from eq_false (by omega), Bool.true_eq_false]
    · rw [if_neg (show ¬ nI 1999 < nI (q_dy f + n) by rw [q_lt (by omega) (by omega)]; exact c)]
      obtain ⟨p1, p2, p3, p4, p5, p6, p7⟩ := p_days_l (q_In_Io hI) hd.2 n (by omega)
      rw [if_neg (by omega)] at p2
      have p3 : ∀ v, v < 12 → (p_days f n).2 (11 + 8 * v + 3) = f (11 + 8 * v + 3) + q_ls (nI v) ((q_os f (q_no f)).filter (q_due (nI (q_dy f + n)))) := fun v hv => by rw [p3 v hv, if_neg (by omega)]
      have len : (q_srt (q_os f (q_no f))).length = q_no f := by rw [q_srt_len, q_os_len]
      obtain ⟨g', i1, i2, i3, i4, i5⟩ := c_takeIn (E := E) hS (y := nI (q_dy f + n)) (m := q_sz f) h12 (q_srt (q_os f (q_no f))) (q_up g (B + 1) 0 (nI (q_dy f + n))) 0 .null (q_srt_sd _) (fun t ht => by
        have := (q_In_os hI (q_srt_mem.mp ht)).1
        exact this) (by rw [len, q_upf (by omega)]; exact vD.1.trans hI.2.1.2) (by rw [len]; unfold q_ol; rw [q_upf (by omega), q_upf (by omega), q_upf (by omega)]; exact vD.2) (by rw [len]; omega) (q_upe rfl rfl) (by rw [q_upf (by omega)]; exact vN.1.trans hI.1.2)
      have L := q_due_len (nI (q_dy f + n)) (q_srt (q_os f (q_no f)))
      rw [len] at L
      have hq : q_no (p_days f n).2 = ((q_srt (q_os f (q_no f))).filter (q_nod (nI (q_dy f + n)))).length := by
        rw [q_srt_f, q_srt_len, ← p2, q_os_len]
      refine ⟨g', fun Q => ?_, fun b hb => ?_, fun _ => q_V_mk (fun o j i hl => ?_) (fun i j hi hj => ?_) ⟨?_, ?_⟩⟩
      · rw [p5, show q_no f - q_no (p_days f n).2 = ((q_srt (q_os f (q_no f))).filter (q_due (nI (q_dy f + n)))).length by rw [hq]; omega]
        conv => lhs; simp (disch := omega) only [x66_0, x66_1, x66_2, x66_4, x66_7, x66_10, x66_12, x66_13, x66_14, x66_17, x66_20, x66_21, x66_22, x66_25, x66_28, x66_30, x66_31, x66_32, x66_35, x66_36, x66_39, x66_40, x66_41, x66_44, x66_45, x66_48, x58_0, x58_1, nI_add, pk_mul, q_cl31, q_vin, q_le, q_lt, q_eqn, q_b_0, q_b_t, q_b_f, q_nz, q_nz1, q_nz0, q_tl, q_tn, true_and, and_true, not_true_eq_false, not_false_eq_true, ite_true, ite_false, ↓reduceIte, true_or, or_true, and_self, ne_eq, q_or1, q_or2, Nat.add_eq_zero_iff, and_false, false_and, List.length_cons, List.length_nil, reduceCtorEq, q_toI, Nat.zero_add, Nat.le_refl, q_c0, q_c1, q_c2, q_c4, q_c9, q_c12, q_c30, q_c99, q_c100, q_c126, q_c32, q_c359, q_c999, ks0, kd0, hD.2.1, hD.2.2.1, hD.2.2.2.1, kd5, kd6, kd7, hC.1, hP.1, hS.2.1.1, hS.2.1.2.1, hS.2.1.2.2.1, hS.2.1.2.2.2.1, hS.2.1.2.2.2.2, kn0, hN.2.1.1, hN.2.1.2.1, hN.2.1.2.2.1, hN.2.1.2.2.2.1, hN.2.1.2.2.2.2.1, hN.2.1.2.2.2.2.2.1, hN.2.1.2.2.2.2.2.2.1, hN.2.1.2.2.2.2.2.2.2, km1, km2, km3, km4, km5, km6, km7, km8, kr0, hR.2.1, hR.2.2.1, hR.2.2.2.1, kr5, kr6, kr7, kw5, kw6, kw7, kw8, ko0, ko1, ko2, ko3, ko4, ko5, ko6, ko7, ko8, kx1, kx2, kx3, s_isWithin, e1, hd0, show (q_dy f + n ≤ 1999) = True from eq_true (by omega), Bool.true_eq_false, i1]
      · rw [i2 b (by omega) (by omega) (by omega) (by omega) (by omega), q_upf (by omega)]
      · by_cases c1 : i = 308
        · subst c1
          unfold q_lc at hl
          obtain ⟨rfl, rfl⟩ : o = 1 ∧ j = 0 := by omega
          rw [p7, i2 _ (by omega) (by omega) (by omega) (by omega) (by omega)]
          exact q_upe rfl rfl
        · by_cases c2 : o = 8
          · subst c2
            unfold q_lc at hl
            obtain ⟨j1, rfl⟩ : j < 12 ∧ i = 11 + 8 * j + 3 := by omega
            rw [i5 j j1, p3 j j1, q_srt_f, q_ls_srt, q_upf (by omega)]
            exact congrArg (· + _) (q_V_get hV (o := 8) (j := j) (i := 11 + 8 * j + 3) (Or.inr (Or.inr (Or.inr (Or.inr (Or.inr (Or.inl ⟨by decide, by decide, by omega, rfl⟩)))))))
          · have e := q_V_get hV hl
            unfold q_lc at hl
            rw [i2 _ (by omega) (by omega) (by omega) (by omega) (by omega), p4 i (by omega) c1 (by omega), q_upn (by omega)]
            exact e
      · have := q_pr_b hi hj
        rw [i2 _ (by omega) (by omega) (by omega) (by omega) (by omega), p4 _ (by omega) (by omega) (by omega), q_upn (by omega)]
        exact vP i j hi hj
      · rw [i3, p1.1.2, hq]
      · rw [p2, ← q_srt_f, hq]
        exact i4
  · rw [if_neg e1]
    refine q_Cop_er (Or.inl rfl) fun Q => ?_
    have e1' : q_ir 1 99 x = false := by simpa using e1
    simp (disch := omega) only [x66_0, x66_1, x66_2, x66_4, x66_7, x66_10, x66_12, x66_13, x66_14, x66_17, x66_20, x66_21, x66_22, x66_25, x66_28, x66_30, x66_31, x66_32, x66_35, x66_36, x66_39, x66_40, x66_41, x66_44, x66_45, x66_48, nI_add, pk_mul, q_cl31, q_vin, q_le, q_lt, q_eqn, q_b_0, q_b_t, q_b_f, q_nz, q_nz1, q_nz0, q_tl, q_tn, true_and, and_true, not_true_eq_false, not_false_eq_true, ite_true, ite_false, ↓reduceIte, true_or, or_true, and_self, ne_eq, q_or1, q_or2, Nat.add_eq_zero_iff, and_false, false_and, List.length_cons, List.length_nil, reduceCtorEq, q_toI, Nat.zero_add, Nat.le_refl, q_c0, q_c1, q_c2, q_c4, q_c9, q_c12, q_c30, q_c99, q_c100, q_c126, q_c32, q_c359, q_c999, ks0, kd0, hD.2.1, hD.2.2.1, hD.2.2.2.1, kd5, kd6, kd7, hC.1, hP.1, hS.2.1.1, hS.2.1.2.1, hS.2.1.2.2.1, hS.2.1.2.2.2.1, hS.2.1.2.2.2.2, kn0, hN.2.1.1, hN.2.1.2.1, hN.2.1.2.2.1, hN.2.1.2.2.2.1, hN.2.1.2.2.2.2.1, hN.2.1.2.2.2.2.2.1, hN.2.1.2.2.2.2.2.2.1, hN.2.1.2.2.2.2.2.2.2, km1, km2, km3, km4, km5, km6, km7, km8, kr0, hR.2.1, hR.2.2.1, hR.2.2.2.1, kr5, kr6, kr7, kw5, kw6, kw7, kw8, ko0, ko1, ko2, ko3, ko4, ko5, ko6, ko7, ko8, kx1, kx2, kx3, s_isWithin, e1']
set_option maxHeartbeats 3000000 in
theorem k_order (hS : q_StaB E B) (hV : q_Vsta g B f) (hI : q_In f) (x y : Int32) : q_Cop E g B 55 [.ref B, .int x, .int y, .null] (p_order f x y) := by
  obtain ⟨ks0, -, hC, hN, hP, hR, hD⟩ := id hS
  obtain ⟨kn0, -, km1, km2, km3, km4, km5, km6, km7, km8⟩ := id hN
  obtain ⟨kr0, -, -, -, kr5, kr6, kr7⟩ := id hR
  obtain ⟨kd0, -, -, -, kd5, kd6, kd7⟩ := id hD
  obtain ⟨⟨kw5, kw6, kw7, kw8⟩, vC, vN, vP, vR, vD⟩ := id hV
  obtain ⟨ko0, ko1, ko2, ko3, ko4, ko5, ko6, ko7, ko8⟩ := id vN
  obtain ⟨kx1, kx2, kx3⟩ := id vR
  have h12 := hI.1.1
  have hq := hI.2.1
  have hl := hI.2.2.1
  have hd := hI.2.2.2.1
  have hd0 := vC.1.trans hd.2
  have hl0 := hl.2
  have hq0 := vD.1.trans hq.2
  have cf := fun Q => c_full (Q := Q) (E := E) hD hq.1 hq0
  unfold p_order
  by_cases hc : (q_isv f x && q_ir 1 999 y) = true
  · rw [if_pos hc]
    obtain ⟨e1, e2⟩ : q_isv f x = true ∧ q_ir 1 999 y = true := by simpa only [Bool.and_eq_true] using hc
    obtain ⟨v, v1, rfl, v3⟩ := q_isv_lo hI e1
    obtain ⟨a, a0, a1, rfl, a3⟩ := q_lo (lo := 1) (n := 999) e2 (by omega)
    rw [v3, Int32.mul_comm (nI a)]
    have rm := fun Q => c_room2 (Q := Q) hS hV hI (v := v) (by omega) (nI a)
    by_cases hn : (0 < q_dl f ∧ q_no f = 8) ∨ nI 9999 < f (11 + 8 * v + 3) + q_ow f (q_no f) (nI v) + nI a
    · rw [if_pos hn]
      refine q_Cop_er (Or.inr (Or.inr rfl)) fun Q => ?_
      by_cases x1 : q_dl f = 0 <;> by_cases x2 : q_no f = 8 <;> by_cases x3 : f (11 + 8 * v + 3) + q_ow f (q_no f) (nI v) + nI a ≤ nI 9999
      all_goals first
        | (exfalso; rcases hn with ⟨n1, n2⟩ | n1 <;> first | omega | exact absurd n1 (Int32.not_lt.mpr x3))
        | (rw [show decide (q_no f = 8) = false from decide_eq_false x2] at cf; simp (disch := omega) only [x55_0, x55_1, x55_4, x55_5, x55_8, x55_11, x55_12, x55_13, x55_16, x55_19, x55_22, x55_24, x55_25, x55_26, x55_29, x55_32, x55_33, x55_36, x55_37, x55_38, x55_39, x55_42, x55_43, x55_46, x55_49, x55_52, x55_53, x55_54, x55_55, x55_58, x55_61, x55_63, x55_64, x55_65, x55_66, x55_69, x55_70, x55_73, x55_76, x55_77, x55_78, x55_79, x55_80, x55_81, x55_84, x55_85, x55_88, x55_89, x55_92, x55_95, x55_96, x55_97, x55_98, x55_99, x55_100, x55_101, x55_104, x55_105, x55_108, x55_109, x55_110, x55_111, x55_114, x55_117, x55_118, x55_121, x55_122, x55_125, x55_126, x55_129, x55_132, x55_133, x55_136, x55_137, nI_add, pk_mul, q_cl31, q_vin, q_le, q_lt, q_eqn, q_b_0, q_b_t, q_b_f, q_nz, q_nz1, q_nz0, q_tl, q_tn, true_and, and_true, not_true_eq_false, not_false_eq_true, ite_true, ite_false, ↓reduceIte, true_or, or_true, and_self, ne_eq, q_or1, q_or2, Nat.add_eq_zero_iff, and_false, false_and, List.length_cons, List.length_nil, reduceCtorEq, q_toI, Nat.zero_add, Nat.le_refl, q_c0, q_c1, q_c2, q_c4, q_c9, q_c12, q_c30, q_c99, q_c100, q_c126, q_c32, q_c359, q_c999, ks0, kd0, hD.2.1, hD.2.2.1, hD.2.2.2.1, kd5, kd6, kd7, hC.1, hP.1, hS.2.1.1, hS.2.1.2.1, hS.2.1.2.2.1, hS.2.1.2.2.2.1, hS.2.1.2.2.2.2, kn0, hN.2.1.1, hN.2.1.2.1, hN.2.1.2.2.1, hN.2.1.2.2.2.1, hN.2.1.2.2.2.2.1, hN.2.1.2.2.2.2.2.1, hN.2.1.2.2.2.2.2.2.1, hN.2.1.2.2.2.2.2.2.2, km1, km2, km3, km4, km5, km6, km7, km8, kr0, hR.2.1, hR.2.2.1, hR.2.2.2.1, kr5, kr6, kr7, kw5, kw6, kw7, kw8, ko0, ko1, ko2, ko3, ko4, ko5, ko6, ko7, ko8, kx1, kx2, kx3, c_hasv hN vN hI, s_isWithin, e1, e2, hl0, cf, rm, x1, x3, decide_true, decide_false])
        | (rw [show decide (q_no f = 8) = true from decide_eq_true x2] at cf; simp (disch := omega) only [x55_0, x55_1, x55_4, x55_5, x55_8, x55_11, x55_12, x55_13, x55_16, x55_19, x55_22, x55_24, x55_25, x55_26, x55_29, x55_32, x55_33, x55_36, x55_37, x55_38, x55_39, x55_42, x55_43, x55_46, x55_49, x55_52, x55_53, x55_54, x55_55, x55_58, x55_61, x55_63, x55_64, x55_65, x55_66, x55_69, x55_70, x55_73, x55_76, x55_77, x55_78, x55_79, x55_80, x55_81, x55_84, x55_85, x55_88, x55_89, x55_92, x55_95, x55_96, x55_97, x55_98, x55_99, x55_100, x55_101, x55_104, x55_105, x55_108, x55_109, x55_110, x55_111, x55_114, x55_117, x55_118, x55_121, x55_122, x55_125, x55_126, x55_129, x55_132, x55_133, x55_136, x55_137, nI_add, pk_mul, q_cl31, q_vin, q_le, q_lt, q_eqn, q_b_0, q_b_t, q_b_f, q_nz, q_nz1, q_nz0, q_tl, q_tn, true_and, and_true, not_true_eq_false, not_false_eq_true, ite_true, ite_false, ↓reduceIte, true_or, or_true, and_self, ne_eq, q_or1, q_or2, Nat.add_eq_zero_iff, and_false, false_and, List.length_cons, List.length_nil, reduceCtorEq, q_toI, Nat.zero_add, Nat.le_refl, q_c0, q_c1, q_c2, q_c4, q_c9, q_c12, q_c30, q_c99, q_c100, q_c126, q_c32, q_c359, q_c999, ks0, kd0, hD.2.1, hD.2.2.1, hD.2.2.2.1, kd5, kd6, kd7, hC.1, hP.1, hS.2.1.1, hS.2.1.2.1, hS.2.1.2.2.1, hS.2.1.2.2.2.1, hS.2.1.2.2.2.2, kn0, hN.2.1.1, hN.2.1.2.1, hN.2.1.2.2.1, hN.2.1.2.2.2.1, hN.2.1.2.2.2.2.1, hN.2.1.2.2.2.2.2.1, hN.2.1.2.2.2.2.2.2.1, hN.2.1.2.2.2.2.2.2.2, km1, km2, km3, km4, km5, km6, km7, km8, kr0, hR.2.1, hR.2.2.1, hR.2.2.2.1, kr5, kr6, kr7, kw5, kw6, kw7, kw8, ko0, ko1, ko2, ko3, ko4, ko5, ko6, ko7, ko8, kx1, kx2, kx3, c_hasv hN vN hI, s_isWithin, e1, e2, hl0, cf, rm, x1, x3, decide_true, decide_false])
    · rw [if_neg hn]
      have x3 : f (11 + 8 * v + 3) + q_ow f (q_no f) (nI v) + nI a ≤ nI 9999 := Int32.not_lt.mp fun q => hn (Or.inr q)
      have hW := q_W_up (o := 0) (hl := (Or.inl ⟨rfl, by decide⟩)) (j := 8) (i := 310) (x := f 310 - f (11 + 8 * v + 2) * nI a) (q_W_i hV hI)
      by_cases x1 : q_dl f = 0
      · rw [if_pos x1]
        apply Exists.intro
        refine ⟨fun Q => ?_, ?_, ?_⟩
        · conv => lhs; simp (disch := omega) only [x55_0, x55_1, x55_4, x55_5, x55_8, x55_11, x55_12, x55_13, x55_16, x55_19, x55_22, x55_24, x55_25, x55_26, x55_29, x55_32, x55_33, x55_36, x55_37, x55_38, x55_39, x55_42, x55_43, x55_46, x55_49, x55_52, x55_53, x55_54, x55_55, x55_58, x55_61, x55_63, x55_64, x55_65, x55_66, x55_69, x55_70, x55_73, x55_76, x55_77, x55_78, x55_79, x55_80, x55_81, x55_84, x55_85, x55_88, x55_89, x55_92, x55_95, x55_96, x55_97, x55_98, x55_99, x55_100, x55_101, x55_104, x55_105, x55_108, x55_109, x55_110, x55_111, x55_114, x55_117, x55_118, x55_121, x55_122, x55_125, x55_126, x55_129, x55_132, x55_133, x55_136, x55_137, nI_add, pk_mul, q_cl31, q_vin, q_le, q_lt, q_eqn, q_b_0, q_b_t, q_b_f, q_nz, q_nz1, q_nz0, q_tl, q_tn, true_and, and_true, not_true_eq_false, not_false_eq_true, ite_true, ite_false, ↓reduceIte, true_or, or_true, and_self, ne_eq, q_or1, q_or2, Nat.add_eq_zero_iff, and_false, false_and, List.length_cons, List.length_nil, reduceCtorEq, q_toI, Nat.zero_add, Nat.le_refl, q_c0, q_c1, q_c2, q_c4, q_c9, q_c12, q_c30, q_c99, q_c100, q_c126, q_c32, q_c359, q_c999, ks0, kd0, hD.2.1, hD.2.2.1, hD.2.2.2.1, kd5, kd6, kd7, hC.1, hP.1, hS.2.1.1, hS.2.1.2.1, hS.2.1.2.2.1, hS.2.1.2.2.2.1, hS.2.1.2.2.2.2, kn0, hN.2.1.1, hN.2.1.2.1, hN.2.1.2.2.1, hN.2.1.2.2.2.1, hN.2.1.2.2.2.2.1, hN.2.1.2.2.2.2.2.1, hN.2.1.2.2.2.2.2.2.1, hN.2.1.2.2.2.2.2.2.2, km1, km2, km3, km4, km5, km6, km7, km8, kr0, hR.2.1, hR.2.2.1, hR.2.2.2.1, kr5, kr6, kr7, kw5, kw6, kw7, kw8, ko0, ko1, ko2, ko3, ko4, ko5, ko6, ko7, ko8, kx1, kx2, kx3, c_hasv hN vN hI, s_isWithin, e1, e2, hl0, hd0, rm, x1, x3, decide_true, q_upn, q_upm]
          rw [x1]
          try exact rfl
        · exact q_Out_u (q_Out_u (q_Out_r B g) (by omega)) (by omega)
        · intro _
          exact (q_W_up (o := 8) (hl := (Or.inr (Or.inr (Or.inr (Or.inr (Or.inr (Or.inl ⟨by decide, by decide, by omega, rfl⟩))))))) (j := v) (i := 11 + 8 * v + 3) hW).1
      · rw [if_neg x1]
        have x2 : q_no f < 8 := by omega
        have cf8 : q_b (decide (q_no f = 8)) = nI 0 := by rw [decide_eq_false (by omega)]; rfl
        rw [cf8] at cf
        have olg : q_ol (q_up g B 8 (f 310 - f (11 + 8 * v + 2) * nI a)) (B + 19) (q_no f) = q_srt (q_os f (q_no f)) := by
          unfold q_ol; rw [q_upf (by omega), q_upf (by omega), q_upf (by omega)]; exact vD.2
        obtain ⟨g', i1, i2, i3, i4⟩ := c_add (E := E) (g := q_up g B 8 (f 310 - f (11 + 8 * v + 2) * nI a)) hD x2 (by rw [q_upf (by omega)]; exact hq0) (by rw [olg]; exact q_srt_sd _) (nI v) (nI a) (nI (q_dy f + q_dl f))
        have s1 : g' (B + 1) 0 = nI (q_dy f) := by rw [i2 _ (by omega) (by omega) (by omega) (by omega), q_upf (by omega)]; exact hd0
        have s2 : g' B 5 = nI (q_dl f) := by rw [i2 _ (by omega) (by omega) (by omega) (by omega), q_upm (by omega)]; exact kw5.trans hl.2
        refine ⟨g', fun Q => ?_, fun b hb => ?_, fun _ => ?_⟩
        · conv => lhs; simp (disch := omega) only [x55_0, x55_1, x55_4, x55_5, x55_8, x55_11, x55_12, x55_13, x55_16, x55_19, x55_22, x55_24, x55_25, x55_26, x55_29, x55_32, x55_33, x55_36, x55_37, x55_38, x55_39, x55_42, x55_43, x55_46, x55_49, x55_52, x55_53, x55_54, x55_55, x55_58, x55_61, x55_63, x55_64, x55_65, x55_66, x55_69, x55_70, x55_73, x55_76, x55_77, x55_78, x55_79, x55_80, x55_81, x55_84, x55_85, x55_88, x55_89, x55_92, x55_95, x55_96, x55_97, x55_98, x55_99, x55_100, x55_101, x55_104, x55_105, x55_108, x55_109, x55_110, x55_111, x55_114, x55_117, x55_118, x55_121, x55_122, x55_125, x55_126, x55_129, x55_132, x55_133, x55_136, x55_137, nI_add, pk_mul, q_cl31, q_vin, q_le, q_lt, q_eqn, q_b_0, q_b_t, q_b_f, q_nz, q_nz1, q_nz0, q_tl, q_tn, true_and, and_true, not_true_eq_false, not_false_eq_true, ite_true, ite_false, ↓reduceIte, true_or, or_true, and_self, ne_eq, q_or1, q_or2, Nat.add_eq_zero_iff, and_false, false_and, List.length_cons, List.length_nil, reduceCtorEq, q_toI, Nat.zero_add, Nat.le_refl, q_c0, q_c1, q_c2, q_c4, q_c9, q_c12, q_c30, q_c99, q_c100, q_c126, q_c32, q_c359, q_c999, ks0, kd0, hD.2.1, hD.2.2.1, hD.2.2.2.1, kd5, kd6, kd7, hC.1, hP.1, hS.2.1.1, hS.2.1.2.1, hS.2.1.2.2.1, hS.2.1.2.2.2.1, hS.2.1.2.2.2.2, kn0, hN.2.1.1, hN.2.1.2.1, hN.2.1.2.2.1, hN.2.1.2.2.2.1, hN.2.1.2.2.2.2.1, hN.2.1.2.2.2.2.2.1, hN.2.1.2.2.2.2.2.2.1, hN.2.1.2.2.2.2.2.2.2, km1, km2, km3, km4, km5, km6, km7, km8, kr0, hR.2.1, hR.2.2.1, hR.2.2.2.1, kr5, kr6, kr7, kw5, kw6, kw7, kw8, ko0, ko1, ko2, ko3, ko4, ko5, ko6, ko7, ko8, kx1, kx2, kx3, c_hasv hN vN hI, s_isWithin, e1, e2, hl0, hd0, cf, rm, x1, x3, decide_true, q_upn, q_upm, i1, s1, s2]
        · rw [i2 _ (by omega) (by omega) (by omega) (by omega), q_upf (by omega)]
        · dsimp only
          refine q_V_de hW.1 (fun c c1 c2 c3 c4 => i2 c c1 c2 c3 c4) (fun i hi h => ?_) ⟨?_, ?_⟩
          · rw [q_updn (by omega), q_updn (by omega), q_updn (by omega), q_updn (by omega)]
          · rw [i3, q_upds rfl]
          · have e : q_no (upd (upd (upd (upd (upd f 310 (f 310 - f (11 + 8 * v + 2) * nI a)) (138 + 3 * q_no f) (nI v)) (138 + 3 * q_no f + 1) (nI a)) (138 + 3 * q_no f + 2) (nI (q_dy f + q_dl f))) 137 (nI (q_no f + 1))) = q_no f + 1 := by
              show (upd _ 137 _ 137).toNatClampNeg = _
              rw [q_upds rfl, nI_clamp (by omega)]
            have e2 : q_os (upd (upd (upd (upd (upd f 310 (f 310 - f (11 + 8 * v + 2) * nI a)) (138 + 3 * q_no f) (nI v)) (138 + 3 * q_no f + 1) (nI a)) (138 + 3 * q_no f + 2) (nI (q_dy f + q_dl f))) 137 (nI (q_no f + 1))) (q_no f) = q_os f (q_no f) := q_os_c (f := f) (q_no f) (fun i h1 h2 => by rw [q_updn (by omega), q_updn (by omega), q_updn (by omega), q_updn (by omega), q_updn (by omega)])
            rw [e, i4, olg, q_os_s, q_srt_s, e2]
            congr 1
            unfold q_or
            rw [q_updn (show ¬ 138 + 3 * q_no f = 137 by omega), q_updn (show ¬ 138 + 3 * q_no f = 138 + 3 * q_no f + 2 by omega), q_updn (show ¬ 138 + 3 * q_no f = 138 + 3 * q_no f + 1 by omega), q_upds rfl, q_updn (show ¬ 138 + 3 * q_no f + 1 = 137 by omega), q_updn (show ¬ 138 + 3 * q_no f + 1 = 138 + 3 * q_no f + 2 by omega), q_upds rfl, q_updn (show ¬ 138 + 3 * q_no f + 2 = 137 by omega), q_upds rfl]
  · rw [if_neg hc]
    refine q_Cop_er (Or.inl rfl) fun Q => ?_
    rcases Bool.eq_false_or_eq_true (q_isv f x) with e1 | e1 <;> rcases Bool.eq_false_or_eq_true (q_ir 1 999 y) with e2 | e2
    all_goals first
      | exact absurd (by rw [e1, e2]; rfl) hc
      | simp (disch := omega) only [x55_0, x55_1, x55_4, x55_5, x55_8, x55_11, x55_12, x55_13, x55_16, x55_19, x55_22, x55_24, x55_25, x55_26, x55_29, x55_32, x55_33, x55_36, x55_37, x55_38, x55_39, x55_42, x55_43, x55_46, x55_49, x55_52, x55_53, x55_54, x55_55, x55_58, x55_61, x55_63, x55_64, x55_65, x55_66, x55_69, x55_70, x55_73, x55_76, x55_77, x55_78, x55_79, x55_80, x55_81, x55_84, x55_85, x55_88, x55_89, x55_92, x55_95, x55_96, x55_97, x55_98, x55_99, x55_100, x55_101, x55_104, x55_105, x55_108, x55_109, x55_110, x55_111, x55_114, x55_117, x55_118, x55_121, x55_122, x55_125, x55_126, x55_129, x55_132, x55_133, x55_136, x55_137, nI_add, pk_mul, q_cl31, q_vin, q_le, q_lt, q_eqn, q_b_0, q_b_t, q_b_f, q_nz, q_nz1, q_nz0, q_tl, q_tn, true_and, and_true, not_true_eq_false, not_false_eq_true, ite_true, ite_false, ↓reduceIte, true_or, or_true, and_self, ne_eq, q_or1, q_or2, Nat.add_eq_zero_iff, and_false, false_and, List.length_cons, List.length_nil, reduceCtorEq, q_toI, Nat.zero_add, Nat.le_refl, q_c0, q_c1, q_c2, q_c4, q_c9, q_c12, q_c30, q_c99, q_c100, q_c126, q_c32, q_c359, q_c999, ks0, kd0, hD.2.1, hD.2.2.1, hD.2.2.2.1, kd5, kd6, kd7, hC.1, hP.1, hS.2.1.1, hS.2.1.2.1, hS.2.1.2.2.1, hS.2.1.2.2.2.1, hS.2.1.2.2.2.2, kn0, hN.2.1.1, hN.2.1.2.1, hN.2.1.2.2.1, hN.2.1.2.2.2.1, hN.2.1.2.2.2.2.1, hN.2.1.2.2.2.2.2.1, hN.2.1.2.2.2.2.2.2.1, hN.2.1.2.2.2.2.2.2.2, km1, km2, km3, km4, km5, km6, km7, km8, kr0, hR.2.1, hR.2.2.1, hR.2.2.2.1, kr5, kr6, kr7, kw5, kw6, kw7, kw8, ko0, ko1, ko2, ko3, ko4, ko5, ko6, ko7, ko8, kx1, kx2, kx3, c_hasv hN vN hI, s_isWithin, e1, e2, Bool.false_eq_true, Bool.true_eq_false]
end
