/-- rack and stock changed, the rest as it was -/
theorem q_In_r {f f' : q_St} (hI : q_In f) (h : ∀ i, i < 312 → i ≠ 309 → i ≠ 310 → (i < 107 ∨ 137 ≤ i) → (∀ v w, v < q_sz f → w < 8 → w ≠ 0 → i ≠ 11 + 8 * v + w) → f' i = f i)
    (h8 : ∀ k, k < 10 → (f' (107 + 3 * k) = -1 ∧ f' (107 + 3 * k + 1) = nI 0) ∨ (q_hd f' k < q_sz f ∧ f' (107 + 3 * k) = nI (q_hd f' k)))
    (h9 : ∀ k, k < 10 → ∃ c : Nat, c ≤ 12 ∧ f' (107 + 3 * k + 1) = nI c)
    (h14 : ∀ v, v < q_sz f → ∃ s : Nat, f' (11 + 8 * v + 3) = nI s ∧ s + q_owN f v (q_no f) ≤ 9999) : q_In f' ∧ q_sz f' = q_sz f := by
  obtain ⟨⟨a1, a1'⟩, ⟨a2, a2'⟩, ⟨a3, a3'⟩, ⟨a4, a4'⟩, a5, a6, a7, a8, a9, a10, a11, a12, a13, a14, a15⟩ := hI
  have k10 : f' 10 = f 10 := h 10 (by omega) (by omega) (by omega) (by omega) (fun v w _ _ _ => by omega)
  have k137 : f' 137 = f 137 := h 137 (by omega) (by omega) (by omega) (by omega) (fun v w _ _ _ => by omega)
  have k306 : f' 306 = f 306 := h 306 (by omega) (by omega) (by omega) (by omega) (fun v w _ _ _ => by omega)
  have k307 : f' 307 = f 307 := h 307 (by omega) (by omega) (by omega) (by omega) (fun v w _ _ _ => by omega)
  have k308 : f' 308 = f 308 := h 308 (by omega) (by omega) (by omega) (by omega) (fun v w _ _ _ => by omega)
  have kS : ∀ i, i < 10 → f' i = f i := fun i hi => h i (by omega) (by omega) (by omega) (by omega) (fun v w _ _ _ => by omega)
  have kO : ∀ v, v < 12 → f' (11 + 8 * v) = f (11 + 8 * v) := fun u hu => h _ (by omega) (by omega) (by omega) (by omega) (fun v w _ _ _ => by omega)
  have kZ : ∀ v, q_sz f ≤ v → v < 12 → ∀ w, w < 8 → f' (11 + 8 * v + w) = f (11 + 8 * v + w) := fun u hu hu2 x hx => h _ (by omega) (by omega) (by omega) (by omega) (fun v w _ _ _ => by omega)
  have kR : ∀ i, 138 ≤ i → i < 306 → f' i = f i := fun i hi hi2 => h _ (by omega) (by omega) (by omega) (by omega) (fun v w _ _ _ => by omega)
  have e1 : q_sz f' = q_sz f := by unfold q_sz; rw [k10]
  have e2 : q_no f' = q_no f := by unfold q_no; rw [k137]
  have e3 : q_dl f' = q_dl f := by unfold q_dl; rw [k306]
  have e4 : q_dy f' = q_dy f := by unfold q_dy; rw [k308]
  have e5 : ∀ v, v < 12 → q_occ f' v = q_occ f v := by intro v hv; unfold q_occ; rw [kO v hv]
  refine ⟨?_, e1⟩
  unfold q_In
  rw [e1, e2, e3, e4, k10, k137, k306, k307, k308]
  refine ⟨⟨a1, a1'⟩, ⟨a2, a2'⟩, ⟨a3, a3'⟩, ⟨a4, a4'⟩, ?_, ?_, ?_, h8, h9, ?_, ?_, ?_, ?_, ?_, a15⟩
  · intro o ho; rw [kS (2 * o) (by omega), kS (2 * o + 1) (by omega)]; exact a5 o ho
  · intro v hv; rw [e5 v (by omega), kO v (by omega)]; exact a6 v hv
  · intro v hv hv2 w hw; rw [kZ v hv hv2 w hw]; exact a7 v hv hv2 w hw
  · intro k hk; rw [kR _ (by omega) (by omega)]; exact a10 k hk
  · intro k hk; rw [kR _ (by omega) (by omega)]; exact a11 k hk
  · intro i j hi hj h; rw [kR _ (by omega) (by omega)]; exact a12 i j hi hj h
  · intro k hk; rw [kR _ (by omega) (by omega)]; exact a13 k hk
  · intro v hv
    rw [q_owN_c _ (fun i h1 h2 => kR i h1 (by omega))]
    by_cases e : v < q_sz f
    · exact h14 v e
    · rw [kZ v (by omega) hv 3 (by omega)]
      exact a14 v hv
theorem q_sum_N {F : Nat → Int32} : ∀ n, (∀ k, k < n → ∃ c : Nat, c ≤ 12 ∧ F k = nI c) → ∃ c : Nat, c ≤ 12 * n ∧ q_sum F n = nI c := by
  intro n
  induction n with
  | zero => intro _; exact ⟨0, by omega, rfl⟩
  | succ n ih =>
    intro h
    obtain ⟨c, h1, h2⟩ := ih (fun k hk => h k (by omega))
    obtain ⟨d, h3, h4⟩ := h n (by omega)
    refine ⟨c + d, by omega, ?_⟩
    show q_sum F n + F n = _
    rw [h2, h4, nI_add]
theorem q_ik_N {f : q_St} (hI : q_In f) (x : Int32) : ∃ c : Nat, c ≤ 120 ∧ q_ik f x = nI c := by
  refine q_sum_N 10 fun k hk => ?_
  try dsimp only
  split
  · exact hI.2.2.2.2.2.2.2.2.1 k hk
  · exact ⟨0, by omega, rfl⟩
theorem q_sum_z {F : Nat → Int32} : ∀ n, n ≤ 100 → (∀ k, k < n → ∃ c : Nat, c ≤ 12 ∧ F k = nI c) → q_sum F n = nI 0 → ∀ k, k < n → F k = nI 0 := by
  intro n
  induction n with
  | zero => intro _ _ _ k hk; omega
  | succ n ih =>
    intro h100 h hz k hk
    obtain ⟨c, h1, h2⟩ := q_sum_N n (fun k hk => h k (by omega))
    obtain ⟨d, h3, h4⟩ := h n (by omega)
    have e : nI (c + d) = nI 0 := by rw [← nI_add, ← h2, ← h4]; exact hz
    rw [q_eqn (by omega) (by omega)] at e
    by_cases x : k = n
    · subst x; rw [h4]; congr 1; omega
    · refine ih (by omega) (fun k hk => h k (by omega)) ?_ k (by omega)
      rw [h2]; congr 1; omega
theorem q_ik_z {f : q_St} (hI : q_In f) {x : Int32} (hz : q_ik f x = nI 0) {k : Nat} (hk : k < 10) (h : f (107 + 3 * k) = x) : f (107 + 3 * k + 1) = nI 0 := by
  have := q_sum_z 10 (by omega) (fun k hk => ?_) hz k hk
  · rw [if_pos h] at this
    exact this
  · try dsimp only
    split
    · exact hI.2.2.2.2.2.2.2.2.1 k hk
    · exact ⟨0, by omega, rfl⟩
/-- v's cards out of the rack, up to slot j -/
def q_emp (h : q_St) (n j : Nat) : q_St := fun i => if 107 ≤ i ∧ i < 107 + 3 * j ∧ i % 3 = 0 ∧ h (i - 1) = nI n then nI 0 else h i
def q_hav (h : q_St) (n : Nat) : Int32 := h (11 + 8 * n + 3) + q_ik h (nI n)
def p_gb1 (h : q_St) (n : Nat) : Int32 × q_St := if q_onf h (q_occ h n) = true then (nI 0, h) else (q_hav h n, q_emp (upd (upd h 310 (h 310 + q_hav h n * (h 307 * h (11 + 8 * n + 2) / nI 100))) (11 + 8 * n + 3) (nI 0)) n 10)
def p_gb (f : q_St) : Nat → Int32 × q_St
  | 0 => (nI 0, f)
  | n + 1 => ((p_gb f n).1 + (p_gb1 (p_gb f n).2 n).1, (p_gb1 (p_gb f n).2 n).2)
def p_give (f : q_St) : Int32 × q_St := if (p_gb f (q_sz f)).1 = nI 0 then (-1000002, f) else ((p_gb f (q_sz f)).1, upd (p_gb f (q_sz f)).2 309 ((p_gb f (q_sz f)).2 309 + (p_gb f (q_sz f)).1))
theorem p_gb1_In {f : q_St} (hI : q_In f) {n : Nat} (hn : n < q_sz f) : (q_In (p_gb1 f n).2 ∧ q_sz (p_gb1 f n).2 = q_sz f) ∧ (∃ c : Nat, c ≤ 10119 ∧ (p_gb1 f n).1 = nI c ∧ (c = 0 → ∀ i, (p_gb1 f n).2 i = f i)) := by
  have h12 := hI.1.1
  unfold p_gb1
  by_cases e : q_onf f (q_occ f n) = true
  · rw [if_pos e]
    exact ⟨⟨hI, rfl⟩, 0, by omega, rfl, fun _ _ => rfl⟩
  · rw [if_neg e]
    obtain ⟨s, hs, hs2⟩ := hI.2.2.2.2.2.2.2.2.2.2.2.2.2.1 n (by omega)
    obtain ⟨c, hc, hc2⟩ := q_ik_N hI (nI n)
    refine ⟨q_In_r hI ?_ ?_ ?_ ?_, s + c, by omega, ?_, ?_⟩
    · intro i h1 h2 h3 h4 h5
      dsimp only [q_emp]
      have := h5 n 3 hn (by omega) (by omega)
      rw [if_neg (by omega), q_updn this, q_updn h3]
    · intro k hk
      have e1 : q_emp (upd (upd f 310 (f 310 + q_hav f n * (f 307 * f (11 + 8 * n + 2) / nI 100))) (11 + 8 * n + 3) (nI 0)) n 10 (107 + 3 * k) = f (107 + 3 * k) := by
        dsimp only [q_emp]
        rw [if_neg (by omega), q_updn (by omega), q_updn (by omega)]
      have e2 : q_hd (q_emp (upd (upd f 310 (f 310 + q_hav f n * (f 307 * f (11 + 8 * n + 2) / nI 100))) (11 + 8 * n + 3) (nI 0)) n 10) k = q_hd f k := by unfold q_hd; rw [e1]
      dsimp only
      rw [e1, e2]
      rcases hI.2.2.2.2.2.2.2.1 k hk with ⟨h1, h2⟩ | h
      · refine Or.inl ⟨h1, ?_⟩
        dsimp only [q_emp]
        split
        · rfl
        · rw [q_updn (by omega), q_updn (by omega)]; exact h2
      · exact Or.inr h
    · intro k hk
      dsimp only [q_emp]
      split
      · exact ⟨0, by omega, rfl⟩
      · rw [q_updn (by omega), q_updn (by omega)]; exact hI.2.2.2.2.2.2.2.2.1 k hk
    · intro v hv
      dsimp only [q_emp]
      rw [if_neg (by omega)]
      obtain ⟨t, ht, ht2⟩ := hI.2.2.2.2.2.2.2.2.2.2.2.2.2.1 v (by omega)
      by_cases x : v = n
      · subst x
        exact ⟨0, q_upds rfl, by omega⟩
      · rw [q_updn (by omega), q_updn (by omega)]
        exact ⟨t, ht, ht2⟩
    · dsimp only [q_hav]
      rw [hs, hc2, nI_add]
    · intro z i
      dsimp only [q_emp]
      by_cases x : i = 11 + 8 * n + 3
      · subst x
        rw [if_neg (by omega), q_upds rfl, hs]
        congr 1
        omega
      · by_cases y : 107 ≤ i ∧ i < 107 + 3 * 10 ∧ i % 3 = 0 ∧ upd (upd f 310 (f 310 + q_hav f n * (f 307 * f (11 + 8 * n + 2) / nI 100))) (11 + 8 * n + 3) (nI 0) (i - 1) = nI n
        · rw [if_pos y]
          obtain ⟨y1, y2, y3, y4⟩ := y
          rw [q_updn (by omega), q_updn (by omega)] at y4
          obtain ⟨k, rfl⟩ : ∃ k, i = 107 + 3 * k + 1 := ⟨(i - 108) / 3, by omega⟩
          exact (q_ik_z hI (x := nI n) (by rw [hc2]; congr 1; omega) (show k < 10 by omega) y4).symm
        · rw [if_neg y, q_updn x]
          by_cases w : i = 310
          · subst w
            rw [q_upds rfl]
            unfold q_hav
            rw [hs, hc2, nI_add, z, nI_0, Int32.zero_mul, Int32.add_zero]
          · rw [q_updn w]

theorem p_gb_In {f : q_St} (hI : q_In f) : ∀ n, n ≤ q_sz f → (q_In (p_gb f n).2 ∧ q_sz (p_gb f n).2 = q_sz f) ∧ (∃ c : Nat, c ≤ 10119 * n ∧ (p_gb f n).1 = nI c ∧ (c = 0 → ∀ i, (p_gb f n).2 i = f i)) := by
  intro n
  have h12 := hI.1.1
  induction n with
  | zero => intro _; exact ⟨⟨hI, rfl⟩, 0, by omega, rfl, fun _ _ => rfl⟩
  | succ n ih =>
    intro hn
    obtain ⟨⟨a1, a2⟩, c, a3, a4, a5⟩ := ih (by omega)
    obtain ⟨⟨b1, b2⟩, d, b3, b4, b5⟩ := p_gb1_In a1 (n := n) (by omega)
    refine ⟨⟨b1, b2.trans a2⟩, c + d, by omega, ?_, fun z i => ?_⟩
    · show _ + _ = _
      rw [a4, b4, nI_add]
    · exact (b5 (by omega) i).trans (a5 (by omega) i)
theorem q_nn (x : Int32) : x + -x = nI 0 := by rw [nI_0]; exact Int32.add_right_neg x
section
variable {E : q_E} {g : q_G} {Q : Option Value → q_E → q_G → Prop}
/-- the rack's inner loop of giveBack -/
theorem s_gbin (hM : q_ModB E) {n : Nat} (hn : n < 12) (a : Int32) (b : Value) : q_X 112 96 [.ref 146, .int a, .int (nI n), b, .int (nI 0)] [] E g Q = q_X 112 143 [.ref 146, .int a, .int (nI n), b, .int (nI 10)] [] E (q_upA g 147 (q_emp (g 147) n 10)) Q := by
  have z : q_emp (g 147) n 0 = g 147 := by funext i; exact if_neg (by omega)
  have e0 : g = q_upA g 147 (q_emp (g 147) n 0) := by rw [z, q_upAid]
  conv => lhs; rw [e0]
  refine (q_loop (N := 10) (P := fun j => q_X 112 96 [.ref 146, .int a, .int (nI n), b, .int (nI j)] [] E (q_upA g 147 (q_emp (g 147) n j)) Q) (fun j hj => ?_)).trans ?_
  · try dsimp only
    have r1 : q_emp (g 147) n j (107 + 3 * j) = g 147 (107 + 3 * j) := if_neg (by omega)
    have r2 : q_emp (g 147) n j (107 + 3 * j + 1) = g 147 (107 + 3 * j + 1) := if_neg (by omega)
    have r3 : ∀ x : Int32, (g 147 (107 + 3 * j) = nI n → x = nI 0) → (¬ g 147 (107 + 3 * j) = nI n → x = g 147 (107 + 3 * j + 1)) → upd (q_emp (g 147) n j) (107 + 3 * j + 1) x = q_emp (g 147) n (j + 1) := by
      intro x x1 x2
      funext i
      unfold upd
      by_cases h1 : i = 107 + 3 * j + 1
      · subst h1
        rw [if_pos rfl]
        by_cases h2 : g 147 (107 + 3 * j) = nI n
        · rw [x1 h2]; exact (if_pos ⟨by omega, by omega, by omega, h2⟩).symm
        · rw [x2 h2]; exact (if_neg (fun q => h2 q.2.2.2)).symm
      · rw [if_neg h1]
        unfold q_emp
        by_cases h3 : 107 ≤ i ∧ i < 107 + 3 * j ∧ i % 3 = 0 ∧ g 147 (i - 1) = nI n
        · rw [if_pos h3, if_pos ⟨h3.1, by omega, h3.2.2⟩]
        · rw [if_neg h3, if_neg (fun q => h3 ⟨q.1, by omega, q.2.2⟩)]
    by_cases c : g 147 (107 + 3 * j) = nI n
    all_goals
      conv => lhs; simp (disch := omega) only [x112_0, x112_1, x112_4, x112_5, x112_6, x112_7, x112_8, x112_9, x112_10, x112_13, x112_15, x112_16, x112_19, x112_20, x112_21, x112_22, x112_23, x112_26, x112_29, x112_32, x112_33, x112_34, x112_35, x112_38, x112_39, x112_40, x112_43, x112_44, x112_45, x112_46, x112_47, x112_48, x112_49, x112_50, x112_53, x112_56, x112_57, x112_58, x112_59, x112_60, x112_63, x112_66, x112_67, x112_68, x112_69, x112_70, x112_73, x112_74, x112_76, x112_77, x112_78, x112_79, x112_80, x112_81, x112_82, x112_83, x112_84, x112_85, x112_86, x112_89, x112_90, x112_93, x112_94, x112_96, x112_98, x112_100, x112_103, x112_104, x112_107, x112_109, x112_110, x112_112, x112_113, x112_114, x112_115, x112_116, x112_117, x112_119, x112_122, x112_123, x112_126, x112_127, x112_130, x112_131, x112_133, x112_136, x112_137, x112_149, x112_150, x112_153, x112_156, x112_157, x112_158, x112_159, x112_160, x112_161, x112_162, x112_165, x112_167, x112_170, x112_171, x112_172, x112_175, nI_add, pk_mul, q_cl31, q_vin, q_le, q_lt, q_eqn, q_b_0, q_b_t, q_b_f, q_nz, q_nz1, q_nz0, q_tl, q_tn, true_and, and_true, not_true_eq_false, not_false_eq_true, ite_true, ite_false, ↓reduceIte, true_or, or_true, and_self, ne_eq, q_or1, q_or2, Nat.add_eq_zero_iff, and_false, false_and, List.length_cons, List.length_nil, reduceCtorEq, q_toI, Nat.zero_add, Nat.le_refl, q_c0, q_c1, q_c2, q_c4, q_c9, q_c12, q_c30, q_c99, q_c100, q_c126, q_c32, q_c359, q_c999, hM.1, hM.2.1, hM.2.2.1, hM.2.2.2.1, hM.2.2.2.2.1, hM.2.2.2.2.2.1, hM.2.2.2.2.2.2, s_held hM, s_cards hM, q_upD, q_upAA, q_upA_s, q_updn, q_upds, Nat.add_zero, r1, r2, c, show (10 ≤ j) = False from eq_false (by omega)]
      simp only [x112_140]
      rw [r3 _ (fun q => by first | rfl | exact absurd q c) (fun q => by first | rfl | exact absurd c q)]
  · simp (disch := omega) only [x112_96, x112_98, x112_100, nI_add, pk_mul, q_cl31, q_vin, q_le, q_lt, q_eqn, q_b_0, q_b_t, q_b_f, q_nz, q_nz1, q_nz0, q_tl, q_tn, true_and, and_true, not_true_eq_false, not_false_eq_true, ite_true, ite_false, ↓reduceIte, true_or, or_true, and_self, ne_eq, q_or1, q_or2, Nat.add_eq_zero_iff, and_false, false_and, List.length_cons, List.length_nil, reduceCtorEq, q_toI, Nat.zero_add, Nat.le_refl, q_c0, q_c1, q_c2, q_c4, q_c9, q_c12, q_c30, q_c99, q_c100, q_c126, q_c32, q_c359, q_c999]
theorem s_gb (hM : q_ModB E) (hI : q_In (g 147)) {m : Nat} (hm : m ≤ q_sz (g 147)) : ∃ L3 L4, q_X 112 8 [.ref 146, .int (nI 0), .int (nI 0), .null, .null] [] E g Q = q_X 112 8 [.ref 146, .int (p_gb (g 147) m).1, .int (nI m), L3, L4] [] E (q_upA g 147 (p_gb (g 147) m).2) Q := by
  have h12 := hI.1.1
  have z : q_X 112 8 [.ref 146, .int (nI 0), .int (nI 0), .null, .null] [] E g Q = q_X 112 8 [.ref 146, .int (p_gb (g 147) 0).1, .int (nI 0), .null, .null] [] E (q_upA g 147 (p_gb (g 147) 0).2) Q := by
    show _ = q_X _ _ _ _ _ (q_upA g 147 (g 147)) _
    rw [q_upAid]
    rfl
  rw [z]
  refine q_loop2 (P := fun j L3 L4 => q_X 112 8 [.ref 146, .int (p_gb (g 147) j).1, .int (nI j), L3, L4] [] E (q_upA g 147 (p_gb (g 147) j).2) Q) (fun j hj L5 L6 => ?_)
  try dsimp only
  obtain ⟨⟨a1, a2⟩, -⟩ := p_gb_In hI j (by omega)
  have r5 : p_gb (g 147) (j + 1) = ((p_gb (g 147) j).1 + (p_gb1 (p_gb (g 147) j).2 j).1, (p_gb1 (p_gb (g 147) j).2 j).2) := rfl
  rw [r5]
  clear r5
  generalize p_gb (g 147) j = mh at *
  obtain ⟨m1, h⟩ := mh
  dsimp only at a1 a2 ⊢
  have b1 : q_In (q_upA g 147 h 147) := by rw [q_upA_s]; exact a1
  have b2 : h 10 = nI (q_sz (g 147)) := by rw [← a2]; exact a1.1.2
  have b3 := a1.2.2.2.2.2.1 j (by omega)
  unfold p_gb1
  cases c : q_onf h (q_occ h j)
  · simp only [↓reduceIte, Bool.false_eq_true]
    apply Exists.intro
    apply Exists.intro
    conv => lhs; simp (disch := omega) only [x112_0, x112_1, x112_4, x112_5, x112_6, x112_7, x112_8, x112_9, x112_10, x112_13, x112_15, x112_16, x112_19, x112_20, x112_21, x112_22, x112_23, x112_26, x112_29, x112_32, x112_33, x112_34, x112_35, x112_38, x112_39, x112_40, x112_43, x112_44, x112_45, x112_46, x112_47, x112_48, x112_49, x112_50, x112_53, x112_56, x112_57, x112_58, x112_59, x112_60, x112_63, x112_66, x112_67, x112_68, x112_69, x112_70, x112_73, x112_74, x112_76, x112_77, x112_78, x112_79, x112_80, x112_81, x112_82, x112_83, x112_84, x112_85, x112_86, x112_89, x112_90, x112_93, x112_94, x112_98, x112_100, x112_103, x112_104, x112_107, x112_109, x112_110, x112_112, x112_113, x112_114, x112_115, x112_116, x112_117, x112_119, x112_122, x112_123, x112_126, x112_127, x112_130, x112_131, x112_133, x112_136, x112_137, x112_143, x112_149, x112_150, x112_153, x112_156, x112_157, x112_158, x112_159, x112_160, x112_161, x112_162, x112_165, x112_167, x112_170, x112_171, x112_172, x112_175, nI_add, pk_mul, q_cl31, q_vin, q_le, q_lt, q_eqn, q_b_0, q_b_t, q_b_f, q_nz, q_nz1, q_nz0, q_tl, q_tn, true_and, and_true, not_true_eq_false, not_false_eq_true, ite_true, ite_false, ↓reduceIte, true_or, or_true, and_self, ne_eq, q_or1, q_or2, Nat.add_eq_zero_iff, and_false, false_and, List.length_cons, List.length_nil, reduceCtorEq, q_toI, Nat.zero_add, Nat.le_refl, q_c0, q_c1, q_c2, q_c4, q_c9, q_c12, q_c30, q_c99, q_c100, q_c126, q_c32, q_c359, q_c999, hM.1, hM.2.1, hM.2.2.1, hM.2.2.2.1, hM.2.2.2.2.1, hM.2.2.2.2.2.1, hM.2.2.2.2.2.2, s_of hM, s_adds hM, s_inRack hM, s_isOnf hM b1, q_upD, q_upAA, q_upA_s, q_updn, q_upds, Nat.add_zero, b2, b3.2, c, q_nn, show (q_sz (g 147) ≤ j) = False from eq_false (by omega)]
    rw [s_gbin hM (by omega)]
    simp (disch := omega) only [x112_143, x112_146, nI_add, pk_mul, q_cl31, q_vin, q_le, q_lt, q_eqn, q_b_0, q_b_t, q_b_f, q_nz, q_nz1, q_nz0, q_tl, q_tn, true_and, and_true, not_true_eq_false, not_false_eq_true, ite_true, ite_false, ↓reduceIte, true_or, or_true, and_self, ne_eq, q_or1, q_or2, Nat.add_eq_zero_iff, and_false, false_and, List.length_cons, List.length_nil, reduceCtorEq, q_toI, Nat.zero_add, Nat.le_refl, q_c0, q_c1, q_c2, q_c4, q_c9, q_c12, q_c30, q_c99, q_c100, q_c126, q_c32, q_c359, q_c999, q_upD, q_upAA, q_upA_s, q_updn, q_upds, Nat.add_zero, show (nI 100 = 0) = False from by decide, q_hav]
    exact rfl
  · simp only [↓reduceIte]
    apply Exists.intro
    apply Exists.intro
    conv => lhs; simp (disch := omega) only [x112_0, x112_1, x112_4, x112_5, x112_6, x112_7, x112_8, x112_9, x112_10, x112_13, x112_15, x112_16, x112_19, x112_20, x112_21, x112_22, x112_23, x112_26, x112_29, x112_32, x112_33, x112_34, x112_35, x112_38, x112_39, x112_40, x112_43, x112_44, x112_45, x112_46, x112_47, x112_48, x112_49, x112_50, x112_53, x112_56, x112_57, x112_58, x112_59, x112_60, x112_63, x112_66, x112_67, x112_68, x112_69, x112_70, x112_73, x112_74, x112_76, x112_77, x112_78, x112_79, x112_80, x112_81, x112_82, x112_83, x112_84, x112_85, x112_86, x112_89, x112_90, x112_93, x112_94, x112_98, x112_100, x112_103, x112_104, x112_107, x112_109, x112_110, x112_112, x112_113, x112_114, x112_115, x112_116, x112_117, x112_119, x112_122, x112_123, x112_126, x112_127, x112_130, x112_131, x112_133, x112_136, x112_137, x112_143, x112_149, x112_150, x112_153, x112_156, x112_157, x112_158, x112_159, x112_160, x112_161, x112_162, x112_165, x112_167, x112_170, x112_171, x112_172, x112_175, nI_add, pk_mul, q_cl31, q_vin, q_le, q_lt, q_eqn, q_b_0, q_b_t, q_b_f, q_nz, q_nz1, q_nz0, q_tl, q_tn, true_and, and_true, not_true_eq_false, not_false_eq_true, ite_true, ite_false, ↓reduceIte, true_or, or_true, and_self, ne_eq, q_or1, q_or2, Nat.add_eq_zero_iff, and_false, false_and, List.length_cons, List.length_nil, reduceCtorEq, q_toI, Nat.zero_add, Nat.le_refl, q_c0, q_c1, q_c2, q_c4, q_c9, q_c12, q_c30, q_c99, q_c100, q_c126, q_c32, q_c359, q_c999, hM.1, hM.2.1, hM.2.2.1, hM.2.2.2.1, hM.2.2.2.2.1, hM.2.2.2.2.2.1, hM.2.2.2.2.2.2, s_of hM, s_isOnf hM b1, q_upD, q_upAA, q_upA_s, q_updn, q_upds, Nat.add_zero, b2, b3.2, c, show (q_sz (g 147) ≤ j) = False from eq_false (by omega)]
    simp only [x112_140, x112_146, q_a0]
    exact rfl
end
