/-! p28: what the class's object holds: the row f; st changes can be undone -/
def q_Rc (L : Nat) (xs : Nat → Int32) (E : q_E) (g : q_G) (f : q_St) (st : Nat) : Prop := (q_EB L E ∧ q_Slo E ∧ g 1 = xs ∧ q_BesB E g) ∧ (st ≤ 4 ∧ g 3 6 = nI st) ∧ q_In f ∧ q_Vsta g (q_rf E 3 0) f
theorem q_Rf_b {T : Nat} {g g' : q_G} (h : q_Rf T g g') {B : Nat} (hT : q_okb T) (hB : q_okb B) (hn : B ≠ T) : ∀ b, B ≤ b → b < B + 23 → g' b = g b := fun b b1 b2 => h.1 b (by unfold q_okb at *; omega) (by unfold q_okb at *; omega) (by unfold q_okb at *; omega) (by unfold q_okb at *; omega)
section
variable {L st : Nat} {xs : Nat → Int32} {E E' : q_E} {g g' : q_G} {f f1 : q_St}
/-- after a change: refused, or done and the row before is the latest -/
theorem q_Rc_chg (h : q_Rc L xs E g f st) {p : Int32 × q_St} (ok : q_Ok f p) (hc : q_Cend E g st p E' g') : ∃ st', q_Rc L xs E' g' p.2 st' ∧ ((q_Er p.1 ∧ st' = st) ∨ ((∃ r : Nat, r < 1000000 ∧ p.1 = nI r) ∧ st' = min (st + 1) 4 ∧ q_Vsta g' (q_rf E' 3 2) f)) := by
  obtain ⟨⟨hE, hO, h1, hB⟩, ⟨s1, s2⟩, hI, hV⟩ := h
  obtain ⟨⟨o0, o1, o2, o3, o4, o5⟩, ⟨n1, -⟩, -⟩ := q_Slo_g hO
  have ob := o1
  unfold q_okb at ob
  rcases hc with ⟨c1, rfl, cf⟩ | ⟨⟨r, r1, r2⟩, rfl, g2, cf, cV, rfl⟩
  · have hp : p.2 = f := by
      rcases ok with ⟨-, h⟩ | ⟨r, r1, r2, -⟩
      · exact h
      · exact absurd (by rw [← r2]; exact c1) (q_er_n r1)
    refine ⟨st, ⟨⟨hE, hO, ?_, hB.1, fun i hi => ?_⟩, ⟨s1, ?_⟩, ?_, ?_⟩, Or.inl ⟨c1, rfl⟩⟩
    · rw [cf.1 1 (by omega) (by decide) (by decide) (by decide)]; exact h1
    · rw [cf.1 2 (by omega) (by decide) (by decide) (by decide)]; exact hB.2 i hi
    · rw [cf.1 3 (by omega) (by decide) (by decide) (by decide)]; exact s2
    · rw [hp]; exact hI
    · rw [hp]; exact q_V_o hV fun b b1 b2 => q_Rf_b cf o1 o0 n1 b b1 b2
  · obtain ⟨x0, x1, x2, x3, x4, x5⟩ := q_kt_r E
    have hIp : q_In p.2 := by
      rcases ok with ⟨q1, -⟩ | ⟨-, -, -, q⟩
      · exact absurd (by rw [← r2]; exact q1) (q_er_n r1)
      · exact q
    refine ⟨min (st + 1) 4, ⟨⟨q_EB_kt hE, q_Slo_kt hO, ?_, hB.1, fun i hi => ?_⟩, ⟨by omega, q_upe rfl rfl⟩, hIp, ?_⟩, Or.inr ⟨⟨r, r1, r2⟩, rfl, ?_⟩⟩
    · rw [q_upf (by decide), cf.1 1 (by omega) (by decide) (by decide) (by decide)]; exact h1
    · rw [q_upf (by decide), cf.1 2 (by omega) (by decide) (by decide) (by decide)]; exact hB.2 i hi
    · rw [x0]
      exact q_V_o cV fun b c1 c2 => q_upf (by omega)
    · rw [x2]
      refine q_V_o hV fun b b1 b2 => ?_
      rw [q_upf (by unfold q_okb at o0; omega)]
      exact q_Rf_b cf o1 o0 n1 b b1 b2
theorem hg_isv (hI : q_In f) {v : Nat} (hv : v < q_sz f) : q_isv f (nI v) = true := by
  have := hI.1.1
  unfold q_isv
  rw [q_ir_nI (by omega)]
  simp only [Bool.and_eq_true, decide_eq_true_eq]
  omega
theorem q_ir_t {lo hi n : Nat} (h1 : lo ≤ n) (h2 : n ≤ hi) (h3 : n < 2147483648) : q_ir lo hi (nI n) = true := by
  rw [q_ir_nI h3]
  simp only [Bool.and_eq_true, decide_eq_true_eq]
  omega
end
section
variable {L st : Nat} {xs : Nat → Int32} {E : q_E} {g : q_G} {f : q_St}
theorem w_verse (h : q_Rc L xs E g f st) (x y z : Int32) : ∃ E' g', (∀ Q : Option Value → q_E → q_G → Prop, q_X 84 0 [.ref 3, .int x, .int y, .int z] [] E g Q = Q (some (.int (p_verse f x y z).1)) E' g') ∧ ∃ st', q_Rc L xs E' g' (p_verse f x y z).2 st' ∧ ((q_Er (p_verse f x y z).1 ∧ st' = st) ∨ ((∃ r : Nat, r < 1000000 ∧ (p_verse f x y z).1 = nI r) ∧ st' = min (st + 1) 4 ∧ q_Vsta g' (q_rf E' 3 2) f)) := by
  obtain ⟨E', g', h1, h2⟩ := j_verse h.1.1 h.1.2.1 h.1.2.2.2 h.2.1.1 h.2.1.2 h.2.2.1 h.2.2.2 x y z
  exact ⟨E', g', h1, q_Rc_chg h (p_verse_ok h.2.2.1 x y z) h2⟩
theorem w_season (h : q_Rc L xs E g f st) (x y z : Int32) : ∃ E' g', (∀ Q : Option Value → q_E → q_G → Prop, q_X 81 0 [.ref 3, .int x, .int y, .int z] [] E g Q = Q (some (.int (p_season f x y z).1)) E' g') ∧ ∃ st', q_Rc L xs E' g' (p_season f x y z).2 st' ∧ ((q_Er (p_season f x y z).1 ∧ st' = st) ∨ ((∃ r : Nat, r < 1000000 ∧ (p_season f x y z).1 = nI r) ∧ st' = min (st + 1) 4 ∧ q_Vsta g' (q_rf E' 3 2) f)) := by
  obtain ⟨E', g', h1, h2⟩ := j_season h.1.1 h.1.2.1 h.1.2.2.2 h.2.1.1 h.2.1.2 h.2.2.1 h.2.2.2 x y z
  exact ⟨E', g', h1, q_Rc_chg h (p_season_ok h.2.2.1 x y z) h2⟩
theorem w_order (h : q_Rc L xs E g f st) (x y : Int32) : ∃ E' g', (∀ Q : Option Value → q_E → q_G → Prop, q_X 79 0 [.ref 3, .int x, .int y] [] E g Q = Q (some (.int (p_order f x y).1)) E' g') ∧ ∃ st', q_Rc L xs E' g' (p_order f x y).2 st' ∧ ((q_Er (p_order f x y).1 ∧ st' = st) ∨ ((∃ r : Nat, r < 1000000 ∧ (p_order f x y).1 = nI r) ∧ st' = min (st + 1) 4 ∧ q_Vsta g' (q_rf E' 3 2) f)) := by
  obtain ⟨E', g', h1, h2⟩ := j_order h.1.1 h.1.2.1 h.1.2.2.2 h.2.1.1 h.2.1.2 h.2.2.1 h.2.2.2 x y
  exact ⟨E', g', h1, q_Rc_chg h (p_order_ok h.2.2.1 x y) h2⟩
theorem w_lay (h : q_Rc L xs E g f st) (x y z : Int32) : ∃ E' g', (∀ Q : Option Value → q_E → q_G → Prop, q_X 78 0 [.ref 3, .int x, .int y, .int z] [] E g Q = Q (some (.int (p_lay f x y z).1)) E' g') ∧ ∃ st', q_Rc L xs E' g' (p_lay f x y z).2 st' ∧ ((q_Er (p_lay f x y z).1 ∧ st' = st) ∨ ((∃ r : Nat, r < 1000000 ∧ (p_lay f x y z).1 = nI r) ∧ st' = min (st + 1) 4 ∧ q_Vsta g' (q_rf E' 3 2) f)) := by
  obtain ⟨E', g', h1, h2⟩ := j_lay h.1.1 h.1.2.1 h.1.2.2.2 h.2.1.1 h.2.1.2 h.2.2.1 h.2.2.2 x y z
  exact ⟨E', g', h1, q_Rc_chg h (p_lay_ok h.2.2.1 x y z) h2⟩
theorem w_clear (h : q_Rc L xs E g f st) (x : Int32) : ∃ E' g', (∀ Q : Option Value → q_E → q_G → Prop, q_X 76 0 [.ref 3, .int x] [] E g Q = Q (some (.int (p_clear f x).1)) E' g') ∧ ∃ st', q_Rc L xs E' g' (p_clear f x).2 st' ∧ ((q_Er (p_clear f x).1 ∧ st' = st) ∨ ((∃ r : Nat, r < 1000000 ∧ (p_clear f x).1 = nI r) ∧ st' = min (st + 1) 4 ∧ q_Vsta g' (q_rf E' 3 2) f)) := by
  obtain ⟨E', g', h1, h2⟩ := j_clear h.1.1 h.1.2.1 h.1.2.2.2 h.2.1.1 h.2.1.2 h.2.2.1 h.2.2.2 x
  exact ⟨E', g', h1, q_Rc_chg h (p_clear_ok h.2.2.1 x) h2⟩
theorem w_sell (h : q_Rc L xs E g f st) (x : Int32) : ∃ E' g', (∀ Q : Option Value → q_E → q_G → Prop, q_X 82 0 [.ref 3, .int x] [] E g Q = Q (some (.int (p_sell f x).1)) E' g') ∧ ∃ st', q_Rc L xs E' g' (p_sell f x).2 st' ∧ ((q_Er (p_sell f x).1 ∧ st' = st) ∨ ((∃ r : Nat, r < 1000000 ∧ (p_sell f x).1 = nI r) ∧ st' = min (st + 1) 4 ∧ q_Vsta g' (q_rf E' 3 2) f)) := by
  obtain ⟨E', g', h1, h2⟩ := j_sell h.1.1 h.1.2.1 h.1.2.2.2 h.2.1.1 h.2.1.2 h.2.2.1 h.2.2.2 x
  exact ⟨E', g', h1, q_Rc_chg h (p_sell_ok h.2.2.1 x) h2⟩
theorem w_sellTwo (h : q_Rc L xs E g f st) (x y : Int32) : ∃ E' g', (∀ Q : Option Value → q_E → q_G → Prop, q_X 85 0 [.ref 3, .int x, .int y] [] E g Q = Q (some (.int (p_two f x y).1)) E' g') ∧ ∃ st', q_Rc L xs E' g' (p_two f x y).2 st' ∧ ((q_Er (p_two f x y).1 ∧ st' = st) ∨ ((∃ r : Nat, r < 1000000 ∧ (p_two f x y).1 = nI r) ∧ st' = min (st + 1) 4 ∧ q_Vsta g' (q_rf E' 3 2) f)) := by
  obtain ⟨E', g', h1, h2⟩ := j_sellTwo h.1.1 h.1.2.1 h.1.2.2.2 h.2.1.1 h.2.1.2 h.2.2.1 h.2.2.2 x y
  exact ⟨E', g', h1, q_Rc_chg h (p_two_ok h.2.2.1 x y) h2⟩
theorem w_giveBack (h : q_Rc L xs E g f st)  : ∃ E' g', (∀ Q : Option Value → q_E → q_G → Prop, q_X 77 0 [.ref 3] [] E g Q = Q (some (.int (p_give f).1)) E' g') ∧ ∃ st', q_Rc L xs E' g' (p_give f).2 st' ∧ ((q_Er (p_give f).1 ∧ st' = st) ∨ ((∃ r : Nat, r < 1000000 ∧ (p_give f).1 = nI r) ∧ st' = min (st + 1) 4 ∧ q_Vsta g' (q_rf E' 3 2) f)) := by
  obtain ⟨E', g', h1, h2⟩ := j_giveBack h.1.1 h.1.2.1 h.1.2.2.2 h.2.1.1 h.2.1.2 h.2.2.1 h.2.2.2 
  exact ⟨E', g', h1, q_Rc_chg h (p_give_ok h.2.2.1 ) h2⟩
theorem w_pass (h : q_Rc L xs E g f st) (x : Int32) : ∃ E' g', (∀ Q : Option Value → q_E → q_G → Prop, q_X 80 0 [.ref 3, .int x] [] E g Q = Q (some (.int (p_pass f x).1)) E' g') ∧ ∃ st', q_Rc L xs E' g' (p_pass f x).2 st' ∧ ((q_Er (p_pass f x).1 ∧ st' = st) ∨ ((∃ r : Nat, r < 1000000 ∧ (p_pass f x).1 = nI r) ∧ st' = min (st + 1) 4 ∧ q_Vsta g' (q_rf E' 3 2) f)) := by
  obtain ⟨E', g', h1, h2⟩ := j_pass h.1.1 h.1.2.1 h.1.2.2.2 h.2.1.1 h.2.1.2 h.2.2.1 h.2.2.2 x
  exact ⟨E', g', h1, q_Rc_chg h (p_pass_ok h.2.2.1 x) h2⟩
theorem w_set (h : q_Rc L xs E g f st) (x y : Int32) : ∃ E' g', (∀ Q : Option Value → q_E → q_G → Prop, q_X 83 0 [.ref 3, .int x, .int y] [] E g Q = Q (some (.int (p_set f x y).1)) E' g') ∧ ∃ st', q_Rc L xs E' g' (p_set f x y).2 st' ∧ ((q_Er (p_set f x y).1 ∧ st' = st) ∨ ((∃ r : Nat, r < 1000000 ∧ (p_set f x y).1 = nI r) ∧ st' = min (st + 1) 4 ∧ q_Vsta g' (q_rf E' 3 2) f)) := by
  obtain ⟨E', g', h1, h2⟩ := j_set h.1.1 h.1.2.1 h.1.2.2.2 h.2.1.1 h.2.1.2 h.2.2.1 h.2.2.2 x y
  exact ⟨E', g', h1, q_Rc_chg h (p_set_ok h.2.2.1 x y) h2⟩
theorem w_undo (h : q_Rc L xs E g f st) {f1 : q_St} (hs : 1 ≤ st) (hI1 : q_In f1) (hV1 : q_Vsta g (q_rf E 3 2) f1) : ∃ E' g', (∀ Q : Option Value → q_E → q_G → Prop, q_X 19 0 [.ref 3, .null] [] E g Q = Q (some (.int (nI (st - 1)))) E' g') ∧ q_Rc L xs E' g' f1 (st - 1) := by
  obtain ⟨⟨hE, hO, h1, hB⟩, ⟨s1, s2⟩, hI, hV⟩ := h
  obtain ⟨⟨o0, o1, o2, o3, o4, o5⟩, -⟩ := q_Slo_g hO
  obtain ⟨x0, x1, x2, x3, x4, x5⟩ := q_ut_r E
  refine ⟨q_ut E, q_up g 3 6 (nI (st - 1)), fun Q => ?_, ⟨q_EB_ut hE, q_Slo_ut hO, ?_, hB.1, fun i hi => ?_⟩, ⟨by omega, q_upe rfl rfl⟩, hI1, ?_⟩
  · rw [c_undo8 hE hO s1 s2, if_neg (by omega)]
  · rw [q_upf (by decide)]; exact h1
  · rw [q_upf (by decide)]; exact hB.2 i hi
  · rw [x0]
    exact q_V_o hV1 fun b c1 c2 => q_upf (by unfold q_okb at o2; omega)
end
section
variable {L st : Nat} {xs : Nat → Int32} {E : q_E} {g : q_G} {f : q_St} {Q : Option Value → q_E → q_G → Prop}
theorem r_verse (h : q_Rc L xs E g f st) {v j : Nat} (hv : v < q_sz f) (hj : j ≤ 9) : q_X 62 0 [.ref 3, .int (nI v), .int (nI j)] [] E g Q = Q (some (.int (a_verse f v j))) E g := by
  have h12 := h.2.2.1.1.1
  have t := q_ir_t (lo := 0) (hi := 9) (Nat.zero_le j) hj (by omega)
  simp only [q_c0, q_c9] at t
  rw [j_verseOf h.1.1 h.1.2.1 h.2.2.1 h.2.2.2, hg_isv h.2.2.1 hv, t, Bool.and_self, if_pos rfl, q_cl31 (by omega), q_cl31 (by omega)]
theorem r_slot (h : q_Rc L xs E g f st) {k j : Nat} (hk : k < 10) (hj : j ≤ 4) : q_X 72 0 [.ref 3, .int (nI k), .int (nI j)] [] E g Q = Q (some (.int (a_slot f k j))) E g := by
  have t1 := q_ir_t (lo := 0) (hi := 9) (Nat.zero_le k) (by omega) (by omega)
  have t2 := q_ir_t (lo := 0) (hi := 4) (Nat.zero_le j) hj (by omega)
  simp only [q_c0, q_c4, q_c9] at t1 t2
  rw [j_slotOf h.1.1 h.1.2.1 h.1.2.2.2 h.2.2.1 h.2.2.2, t1, t2, Bool.and_self, if_pos rfl, q_cl31 (by omega), q_cl31 (by omega)]
theorem r_order (h : q_Rc L xs E g f st) {k j : Nat} (hk : k < 100) (hj : j ≤ 2) : q_X 41 0 [.ref 3, .int (nI k), .int (nI j)] [] E g Q = Q (some (.int (a_order f (nI k) j))) E g := by
  have t2 := q_ir_t (lo := 0) (hi := 2) (Nat.zero_le j) hj (by omega)
  simp only [q_c0, q_c2] at t2
  rw [j_orderOf h.1.1 h.1.2.1 h.2.2.1 h.2.2.2, t2, if_neg (by rw [q_lt (by omega) (by omega)]; simp), q_cl31 (by omega)]
theorem r_occ (h : q_Rc L xs E g f st) {k j : Nat} (hk : k < 5) (hj : j ≤ 4) : q_X 71 0 [.ref 3, .int (nI k), .int (nI j)] [] E g Q = Q (some (.int (a_occ f k j))) E g := by
  have t1 := q_ir_t (lo := 0) (hi := 4) (Nat.zero_le k) (by omega) (by omega)
  have t2 := q_ir_t (lo := 0) (hi := 4) (Nat.zero_le j) hj (by omega)
  simp only [q_c0, q_c4] at t1 t2
  rw [j_occasionOf h.1.1 h.1.2.1 h.2.2.1 h.2.2.2, t1, t2, Bool.and_self, if_pos rfl, q_cl31 (by omega), q_cl31 (by omega)]
theorem r_tog (h : q_Rc L xs E g f st) {a b : Nat} (ha : a < q_sz f) (hb : b < q_sz f) : q_X 42 0 [.ref 3, .int (nI a), .int (nI b)] [] E g Q = Q (some (.int (f (q_pr a b)))) E g := by
  have h12 := h.2.2.1.1.1
  rw [j_together h.1.1 h.1.2.1 h.2.2.1 h.2.2.2, hg_isv h.2.2.1 ha, hg_isv h.2.2.1 hb, Bool.and_self, if_pos rfl, q_cl31 (by omega), q_cl31 (by omega)]
theorem r_would0 (h : q_Rc L xs E g f st) {v : Nat} (hv : v < q_sz f) : q_X 73 0 [.ref 3, .int (nI v), .int (nI 0), .null] [] E g Q = Q (some (.int (if q_sp f v < nI 0 then -1000004 else f (107 + 3 * (q_sp f v).toNatClampNeg)))) E g := by
  have h12 := h.2.2.1.1.1
  have t : q_ir 0 1 (nI 0) = true := by decide
  rw [j_would h.1.1 h.1.2.1 h.1.2.2.2 h.2.2.1 h.2.2.2, hg_isv h.2.2.1 hv, t, Bool.and_self, if_pos rfl, q_cl31 (by omega), if_pos rfl]
theorem r_would1 (h : q_Rc L xs E g f st) {v : Nat} (hv : v < q_sz f) : q_X 73 0 [.ref 3, .int (nI v), .int (nI 1), .null] [] E g Q = Q (some (.int (if q_sp f v < nI 0 then -1000004 else q_sp f v))) E g := by
  have h12 := h.2.2.1.1.1
  have t : q_ir 0 1 (nI 1) = true := by decide
  rw [j_would h.1.1 h.1.2.1 h.1.2.2.2 h.2.2.1 h.2.2.2, hg_isv h.2.2.1 hv, t, Bool.and_self, if_pos rfl, q_cl31 (by omega), if_neg (by decide : ¬ nI 1 = nI 0)]
theorem r_count (h : q_Rc L xs E g f st) {j : Nat} (hj : j ≤ 21) (h1 : j ≠ 10) (h2 : j ≠ 11) : q_X 60 0 [.ref 3, .int (nI j)] [] E g Q = Q (some (.int (a_count f j))) E g := by
  have t := q_ir_t (lo := 0) (hi := 21) (Nat.zero_le j) hj (by omega)
  rw [show ((0 : Nat) : Int) = 0 from rfl, show ((21 : Nat) : Int) = 21 from rfl] at t
  rw [j_count h.1.1 h.1.2.1 h.2.2.1 h.2.2.2, t, if_pos rfl, if_neg (by rw [q_eqn (by omega) (by omega)]; exact h1), if_neg (by rw [q_eqn (by omega) (by omega)]; exact h2), q_cl31 (by omega)]
theorem av_0 {v : Nat} : a_verse f v 0 = f (11 + 8 * v) := rfl
theorem av_1 {v : Nat} : a_verse f v 1 = f (11 + 8 * v + 1) := rfl
theorem av_2 {v : Nat} : a_verse f v 2 = f (11 + 8 * v + 2) := rfl
theorem av_3 {v : Nat} : a_verse f v 3 = f (11 + 8 * v + 3) := rfl
theorem av_4 {v : Nat} : a_verse f v 4 = q_ik f (nI v) := rfl
theorem av_5 {v : Nat} : a_verse f v 5 = q_ow f (q_no f) (nI v) := rfl
theorem av_6 {v : Nat} : a_verse f v 6 = f (11 + 8 * v + 4) := rfl
theorem av_7 {v : Nat} : a_verse f v 7 = f (11 + 8 * v + 5) := rfl
theorem av_8 {v : Nat} : a_verse f v 8 = f (11 + 8 * v + 6) := rfl
theorem av_9 {v : Nat} : a_verse f v 9 = f (11 + 8 * v + 7) := rfl
theorem as_1 {k : Nat} : a_slot f k 1 = f (107 + 3 * k + 1) := if_neg fun h => by rcases h.2 with h | h <;> cases h
theorem as_2 {k : Nat} : a_slot f k 2 = f (107 + 3 * k + 2) := if_neg fun h => by rcases h.2 with h | h <;> cases h
theorem as_0 {k : Nat} : a_slot f k 0 = if f (107 + 3 * k) < nI 0 then -1000004 else f (107 + 3 * k) := by
  unfold a_slot
  by_cases h : f (107 + 3 * k) < nI 0
  · rw [if_pos ⟨h, Or.inl rfl⟩, if_pos h]
  · rw [if_neg (fun q => h q.1), if_neg h]; rfl
theorem ac_0 : a_count f 0 = f 10 := rfl
theorem ac_1 : a_count f 1 = f 308 := rfl
theorem ac_2 : a_count f 2 = a_rack f := rfl
theorem ac_3 : a_count f 3 = a_sum f 3 := rfl
theorem ac_4 : a_count f 4 = f 137 := rfl
theorem ac_5 : a_count f 5 = a_sum f 4 := rfl
theorem ac_6 : a_count f 6 = a_sum f 6 := rfl
theorem ac_7 : a_count f 7 = f 309 := rfl
theorem ac_8 : a_count f 8 = f 310 + nI 100000000 := rfl
theorem ac_20 : a_count f 20 = f 306 := rfl
theorem ac_21 : a_count f 21 = f 307 := rfl
end
