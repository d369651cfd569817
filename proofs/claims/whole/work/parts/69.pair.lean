/-! each call of the law, class and model side by side -/
def q_Pair (L : Nat) (xs : Nat → Int32) (w : Nat) (E : q_E) (g : q_G) (k8 : Nat) (A8 : List Value) (k9 : Nat) (A9 : List Value) : Prop :=
  ∃ (r : Int32) (E1 : q_E) (g1 g2 : q_G), (∀ Q : Option Value → q_E → q_G → Prop, q_X k8 0 A8 [] E g Q = Q (some (.int r)) E1 g1) ∧ (∀ Q : Option Value → q_E → q_G → Prop, q_X k9 0 A9 [] E1 g1 Q = Q (some (.int r)) E1 g2) ∧ (g1 1 = xs ∧ q_kd E1 1 = (1, L) ∧ q_kd E1 146 = (13, 8)) ∧ q_Rel L xs (w + 60) E1 g2
section
variable {L w : Nat} {xs : Nat → Int32} {E : q_E} {g : q_G}
theorem q_Pair_q (hR : q_Rel L xs w E g) {k8 k9 : Nat} {A8 A9 : List Value} {r : Int32} (h8 : ∀ Q : Option Value → q_E → q_G → Prop, q_X k8 0 A8 [] E g Q = Q (some (.int r)) E g) (h9 : ∀ Q : Option Value → q_E → q_G → Prop, q_X k9 0 A9 [] E g Q = Q (some (.int r)) E g) : q_Pair L xs w E g k8 A8 k9 A9 :=
  ⟨r, E, g, g, h8, h9, ⟨hR.1.2.2.1, hR.1.1.1.2.2.1, hR.1.1.2.2.2.1.1⟩, q_Rel_l hR (by omega)⟩
theorem q_Cend_e {E' : q_E} {g' : q_G} {st : Nat} {p : Int32 × q_St} (hE : q_EB L E) (hO : q_Slo E) (hc : q_Cend E g st p E' g') : q_EB L E' ∧ g' 147 = g 147 ∧ g' 146 = g 146 ∧ g' 1 = g 1 ∧ g' 148 = g 148 := by
  obtain ⟨⟨o0, o1, -⟩, -⟩ := q_Slo_g hO
  unfold q_okb at o1
  rcases hc with ⟨c1, rfl, cf⟩ | ⟨-, rfl, g2, cf, -, rfl⟩
  · exact ⟨hE, cf.1 147 (by omega) (by decide) (by decide) (by decide), cf.1 146 (by omega) (by decide) (by decide) (by decide), cf.1 1 (by omega) (by decide) (by decide) (by decide), cf.1 148 (by omega) (by decide) (by decide) (by decide)⟩
  · exact ⟨q_EB_kt hE, (q_upf (by decide)).trans (cf.1 147 (by omega) (by decide) (by decide) (by decide)), (q_upf (by decide)).trans (cf.1 146 (by omega) (by decide) (by decide) (by decide)), (q_upf (by decide)).trans (cf.1 1 (by omega) (by decide) (by decide) (by decide)), (q_upf (by decide)).trans (cf.1 148 (by omega) (by decide) (by decide) (by decide))⟩
theorem tt_verse (hR : q_Rel L xs w E g) (x y z : Int32) : q_Pair L xs w E g 154 [.ref 3, .int x, .int y, .int z] 122 [.ref 146, .int x, .int y, .int z] := by
  obtain ⟨⟨hE, hO, h1, hB⟩, st, n, hR0⟩ := id hR
  obtain ⟨⟨s1, s2, s3⟩, ⟨t1, t2⟩, hI, hV, hH⟩ := id hR0
  have I0 : q_In (g 147) := (hI 0 (Nat.zero_le _)).1
  have hIk := q_In_k1 I0
  have hVk : q_Vsta g (q_rf E 3 0) (q_k1 (g 147)) := q_V_c hV I0.2.1.1 (fun i hi => q_k1_n (by omega))
  obtain ⟨E', g', c1, c2⟩ := j_verse hE hO hB s1 s2 hIk hVk x y z
  obtain ⟨hE', e147, e146, e1, e148⟩ := q_Cend_e hE hO c2
  have mv := m_verse (g := g') hE'.2.2.2.1 (by rw [e147]; exact I0) s1 (by rw [e146]; exact s3) x y z
  rw [e147] at mv
  obtain ⟨g'', m0, m1, m2, m3⟩ := q_Mop_2 (p_verse_ok hIk x y z) mv
  exact ⟨_, E', g', g'', c1, m0, ⟨e1.trans h1, hE'.1.2.2.1, hE'.2.2.2.1.1⟩, q_Rel_chg hE hO h1 hB hR0 (p_verse_ok hIk x y z) (p_verse_hi hIk x y z) (w_l (w_verse _ x y z) (by omega)) c2 m1 m2 m3⟩
theorem tt_season (hR : q_Rel L xs w E g) (x y z : Int32) : q_Pair L xs w E g 151 [.ref 3, .int x, .int y, .int z] 117 [.ref 146, .int x, .int y, .int z] := by
  obtain ⟨⟨hE, hO, h1, hB⟩, st, n, hR0⟩ := id hR
  obtain ⟨⟨s1, s2, s3⟩, ⟨t1, t2⟩, hI, hV, hH⟩ := id hR0
  have I0 : q_In (g 147) := (hI 0 (Nat.zero_le _)).1
  have hIk := q_In_k1 I0
  have hVk : q_Vsta g (q_rf E 3 0) (q_k1 (g 147)) := q_V_c hV I0.2.1.1 (fun i hi => q_k1_n (by omega))
  obtain ⟨E', g', c1, c2⟩ := j_season hE hO hB s1 s2 hIk hVk x y z
  obtain ⟨hE', e147, e146, e1, e148⟩ := q_Cend_e hE hO c2
  have mv := m_season (g := g') hE'.2.2.2.1 (by rw [e147]; exact I0) s1 (by rw [e146]; exact s3) x y z
  rw [e147] at mv
  obtain ⟨g'', m0, m1, m2, m3⟩ := q_Mop_2 (p_season_ok hIk x y z) mv
  exact ⟨_, E', g', g'', c1, m0, ⟨e1.trans h1, hE'.1.2.2.1, hE'.2.2.2.1.1⟩, q_Rel_chg hE hO h1 hB hR0 (p_season_ok hIk x y z) (p_season_hi _ x y z) (w_l (w_season _ x y z) (by omega)) c2 m1 m2 m3⟩
theorem tt_order (hR : q_Rel L xs w E g) (x y : Int32) : q_Pair L xs w E g 149 [.ref 3, .int x, .int y] 133 [.ref 146, .int x, .int y] := by
  obtain ⟨⟨hE, hO, h1, hB⟩, st, n, hR0⟩ := id hR
  obtain ⟨⟨s1, s2, s3⟩, ⟨t1, t2⟩, hI, hV, hH⟩ := id hR0
  have I0 : q_In (g 147) := (hI 0 (Nat.zero_le _)).1
  have hIk := q_In_k1 I0
  have hVk : q_Vsta g (q_rf E 3 0) (q_k1 (g 147)) := q_V_c hV I0.2.1.1 (fun i hi => q_k1_n (by omega))
  obtain ⟨E', g', c1, c2⟩ := j_order hE hO hB s1 s2 hIk hVk x y
  obtain ⟨hE', e147, e146, e1, e148⟩ := q_Cend_e hE hO c2
  have mv := m_order (g := g') hE'.2.2.2.1 (by rw [e147]; exact I0) s1 (by rw [e146]; exact s3) x y
  rw [e147] at mv
  obtain ⟨g'', m0, m1, m2, m3⟩ := q_Mop_2 (p_order_ok hIk x y) mv
  exact ⟨_, E', g', g'', c1, m0, ⟨e1.trans h1, hE'.1.2.2.1, hE'.2.2.2.1.1⟩, q_Rel_chg hE hO h1 hB hR0 (p_order_ok hIk x y) (p_order_hi hIk x y) (w_l (w_order _ x y) (by omega)) c2 m1 m2 m3⟩
theorem tt_lay (hR : q_Rel L xs w E g) (x y z : Int32) : q_Pair L xs w E g 148 [.ref 3, .int x, .int y, .int z] 132 [.ref 146, .int x, .int y, .int z] := by
  obtain ⟨⟨hE, hO, h1, hB⟩, st, n, hR0⟩ := id hR
  obtain ⟨⟨s1, s2, s3⟩, ⟨t1, t2⟩, hI, hV, hH⟩ := id hR0
  have I0 : q_In (g 147) := (hI 0 (Nat.zero_le _)).1
  have hIk := q_In_k1 I0
  have hVk : q_Vsta g (q_rf E 3 0) (q_k1 (g 147)) := q_V_c hV I0.2.1.1 (fun i hi => q_k1_n (by omega))
  obtain ⟨E', g', c1, c2⟩ := j_lay hE hO hB s1 s2 hIk hVk x y z
  obtain ⟨hE', e147, e146, e1, e148⟩ := q_Cend_e hE hO c2
  have mv := m_lay (g := g') hE'.2.2.2.1 (by rw [e147]; exact I0) s1 (by rw [e146]; exact s3) x y z
  rw [e147] at mv
  obtain ⟨g'', m0, m1, m2, m3⟩ := q_Mop_2 (p_lay_ok hIk x y z) mv
  exact ⟨_, E', g', g'', c1, m0, ⟨e1.trans h1, hE'.1.2.2.1, hE'.2.2.2.1.1⟩, q_Rel_chg hE hO h1 hB hR0 (p_lay_ok hIk x y z) (p_lay_hi hIk x y z) (w_l (w_lay _ x y z) (by omega)) c2 m1 m2 m3⟩
theorem tt_clear (hR : q_Rel L xs w E g) (x : Int32) : q_Pair L xs w E g 146 [.ref 3, .int x] 108 [.ref 146, .int x, .null, .null] := by
  obtain ⟨⟨hE, hO, h1, hB⟩, st, n, hR0⟩ := id hR
  obtain ⟨⟨s1, s2, s3⟩, ⟨t1, t2⟩, hI, hV, hH⟩ := id hR0
  have I0 : q_In (g 147) := (hI 0 (Nat.zero_le _)).1
  have hIk := q_In_k1 I0
  have hVk : q_Vsta g (q_rf E 3 0) (q_k1 (g 147)) := q_V_c hV I0.2.1.1 (fun i hi => q_k1_n (by omega))
  obtain ⟨E', g', c1, c2⟩ := j_clear hE hO hB s1 s2 hIk hVk x
  obtain ⟨hE', e147, e146, e1, e148⟩ := q_Cend_e hE hO c2
  have mv := m_clear (g := g') hE'.2.2.2.1 (by rw [e147]; exact I0) s1 (by rw [e146]; exact s3) x
  rw [e147] at mv
  obtain ⟨g'', m0, m1, m2, m3⟩ := q_Mop_2 (p_clear_ok hIk x) mv
  exact ⟨_, E', g', g'', c1, m0, ⟨e1.trans h1, hE'.1.2.2.1, hE'.2.2.2.1.1⟩, q_Rel_chg hE hO h1 hB hR0 (p_clear_ok hIk x) (p_clear_hi hIk x) (w_l (w_clear _ x) (by omega)) c2 m1 m2 m3⟩
theorem tt_sell (hR : q_Rel L xs w E g) (x : Int32) : q_Pair L xs w E g 152 [.ref 3, .int x] 156 [.ref 146, .int x] := by
  obtain ⟨⟨hE, hO, h1, hB⟩, st, n, hR0⟩ := id hR
  obtain ⟨⟨s1, s2, s3⟩, ⟨t1, t2⟩, hI, hV, hH⟩ := id hR0
  have I0 : q_In (g 147) := (hI 0 (Nat.zero_le _)).1
  have hIk := q_In_k1 I0
  have hVk : q_Vsta g (q_rf E 3 0) (q_k1 (g 147)) := q_V_c hV I0.2.1.1 (fun i hi => q_k1_n (by omega))
  obtain ⟨E', g', c1, c2⟩ := j_sell hE hO hB s1 s2 hIk hVk x
  obtain ⟨hE', e147, e146, e1, e148⟩ := q_Cend_e hE hO c2
  have mv := m_sell (g := g') hE'.2.2.2.1 (by rw [e147]; exact I0) s1 (by rw [e146]; exact s3) x
  rw [e147] at mv
  obtain ⟨g'', m0, m1, m2, m3⟩ := q_Mop_2 (p_sell_ok hIk x) mv
  exact ⟨_, E', g', g'', c1, m0, ⟨e1.trans h1, hE'.1.2.2.1, hE'.2.2.2.1.1⟩, q_Rel_chg hE hO h1 hB hR0 (p_sell_ok hIk x) (p_sell_hi hIk x) (w_l (w_sell _ x) (by omega)) c2 m1 m2 m3⟩
theorem tt_sellTwo (hR : q_Rel L xs w E g) (x y : Int32) : q_Pair L xs w E g 158 [.ref 3, .int x, .int y] 143 [.ref 146, .int x, .int y, .null, .null] := by
  obtain ⟨⟨hE, hO, h1, hB⟩, st, n, hR0⟩ := id hR
  obtain ⟨⟨s1, s2, s3⟩, ⟨t1, t2⟩, hI, hV, hH⟩ := id hR0
  have I0 : q_In (g 147) := (hI 0 (Nat.zero_le _)).1
  have hIk := q_In_k1 I0
  have hVk : q_Vsta g (q_rf E 3 0) (q_k1 (g 147)) := q_V_c hV I0.2.1.1 (fun i hi => q_k1_n (by omega))
  obtain ⟨E', g', c1, c2⟩ := j_sellTwo hE hO hB s1 s2 hIk hVk x y
  obtain ⟨hE', e147, e146, e1, e148⟩ := q_Cend_e hE hO c2
  have mv := m_two (g := g') hE'.2.2.2.1 (by rw [e147]; exact I0) s1 (by rw [e146]; exact s3) x y
  rw [e147] at mv
  obtain ⟨g'', m0, m1, m2, m3⟩ := q_Mop_2 (p_two_ok hIk x y) mv
  exact ⟨_, E', g', g'', c1, m0, ⟨e1.trans h1, hE'.1.2.2.1, hE'.2.2.2.1.1⟩, q_Rel_chg hE hO h1 hB hR0 (p_two_ok hIk x y) (p_two_hi hIk x y) (w_l (w_two hIk x y) (by omega)) c2 m1 m2 m3⟩
theorem tt_giveBack (hR : q_Rel L xs w E g) : q_Pair L xs w E g 147 [.ref 3] 112 [.ref 146, .null, .null, .null, .null] := by
  obtain ⟨⟨hE, hO, h1, hB⟩, st, n, hR0⟩ := id hR
  obtain ⟨⟨s1, s2, s3⟩, ⟨t1, t2⟩, hI, hV, hH⟩ := id hR0
  have I0 : q_In (g 147) := (hI 0 (Nat.zero_le _)).1
  have hIk := q_In_k1 I0
  have hVk : q_Vsta g (q_rf E 3 0) (q_k1 (g 147)) := q_V_c hV I0.2.1.1 (fun i hi => q_k1_n (by omega))
  obtain ⟨E', g', c1, c2⟩ := j_giveBack hE hO hB s1 s2 hIk hVk 
  obtain ⟨hE', e147, e146, e1, e148⟩ := q_Cend_e hE hO c2
  have mv := m_give (g := g') hE'.2.2.2.1 (by rw [e147]; exact I0) s1 (by rw [e146]; exact s3) 
  rw [e147] at mv
  obtain ⟨g'', m0, m1, m2, m3⟩ := q_Mop_2 (p_give_ok hIk) mv
  exact ⟨_, E', g', g'', c1, m0, ⟨e1.trans h1, hE'.1.2.2.1, hE'.2.2.2.1.1⟩, q_Rel_chg hE hO h1 hB hR0 (p_give_ok hIk) (p_give_hi hIk) (w_l (w_give _) (by omega)) c2 m1 m2 m3⟩
theorem tt_pass (hR : q_Rel L xs w E g) (x : Int32) : q_Pair L xs w E g 150 [.ref 3, .int x] 134 [.ref 146, .int x] := by
  obtain ⟨⟨hE, hO, h1, hB⟩, st, n, hR0⟩ := id hR
  obtain ⟨⟨s1, s2, s3⟩, ⟨t1, t2⟩, hI, hV, hH⟩ := id hR0
  have I0 : q_In (g 147) := (hI 0 (Nat.zero_le _)).1
  have hIk := q_In_k1 I0
  have hVk : q_Vsta g (q_rf E 3 0) (q_k1 (g 147)) := q_V_c hV I0.2.1.1 (fun i hi => q_k1_n (by omega))
  obtain ⟨E', g', c1, c2⟩ := j_pass hE hO hB s1 s2 hIk hVk x
  obtain ⟨hE', e147, e146, e1, e148⟩ := q_Cend_e hE hO c2
  have mv := m_pass (g := g') hE'.2.2.2.1 (by rw [e147]; exact I0) s1 (by rw [e146]; exact s3) x
  rw [e147] at mv
  obtain ⟨g'', m0, m1, m2, m3⟩ := q_Mop_2 (p_pass_ok hIk x) mv
  exact ⟨_, E', g', g'', c1, m0, ⟨e1.trans h1, hE'.1.2.2.1, hE'.2.2.2.1.1⟩, q_Rel_chg hE hO h1 hB hR0 (p_pass_ok hIk x) (p_pass_hi hIk x) (w_l (w_pass hIk x) (by omega)) c2 m1 m2 m3⟩
theorem tt_set (hR : q_Rel L xs w E g) (x y : Int32) : q_Pair L xs w E g 153 [.ref 3, .int x, .int y] 118 [.ref 146, .int x, .int y, .null] := by
  obtain ⟨⟨hE, hO, h1, hB⟩, st, n, hR0⟩ := id hR
  obtain ⟨⟨s1, s2, s3⟩, ⟨t1, t2⟩, hI, hV, hH⟩ := id hR0
  have I0 : q_In (g 147) := (hI 0 (Nat.zero_le _)).1
  have hIk := q_In_k1 I0
  have hVk : q_Vsta g (q_rf E 3 0) (q_k1 (g 147)) := q_V_c hV I0.2.1.1 (fun i hi => q_k1_n (by omega))
  obtain ⟨E', g', c1, c2⟩ := j_set hE hO hB s1 s2 hIk hVk x y
  obtain ⟨hE', e147, e146, e1, e148⟩ := q_Cend_e hE hO c2
  have mv := m_set (g := g') hE'.2.2.2.1 (by rw [e147]; exact I0) s1 (by rw [e146]; exact s3) x y
  rw [e147] at mv
  obtain ⟨g'', m0, m1, m2, m3⟩ := q_Mop_2 (p_set_ok hIk x y) mv
  exact ⟨_, E', g', g'', c1, m0, ⟨e1.trans h1, hE'.1.2.2.1, hE'.2.2.2.1.1⟩, q_Rel_chg hE hO h1 hB hR0 (p_set_ok hIk x y) (p_set_hi _ x y) (w_l (w_set _ x y) (by omega)) c2 m1 m2 m3⟩
theorem tt_play (hR : q_Rel L xs w E g) : q_Pair L xs w E g 161 [.ref 3] 163 [.ref 146, .null] := by
  obtain ⟨⟨hE, hO, h1, hB⟩, st, n, hR0⟩ := id hR
  obtain ⟨⟨s1, s2, s3⟩, ⟨t1, t2⟩, hI, hV, hH⟩ := id hR0
  have I0 : q_In (g 147) := (hI 0 (Nat.zero_le _)).1
  have hIk := q_In_k1 I0
  have hVk : q_Vsta g (q_rf E 3 0) (q_k1 (g 147)) := q_V_c hV I0.2.1.1 (fun i hi => q_k1_n (by omega))
  obtain ⟨E', g', c1, c2⟩ := j_play hE hO hB s1 s2 hIk hVk t1
  obtain ⟨hE', e147, e146, e1, e148⟩ := q_Cend_e hE hO c2
  have mv := m_play (g := g') hE'.2.2.2.1 (by rw [e147]; exact I0) s1 (by rw [e146]; exact s3) t1.1.2 (by rw [e146]; exact t2)
  rw [e147, e148] at mv
  obtain ⟨g'', m0, m1, m2, m3⟩ := mv
  exact ⟨_, E', g', g'', c1, m0, ⟨e1.trans h1, hE'.1.2.2.1, hE'.2.2.2.1.1⟩, q_Rel_chg hE hO h1 hB hR0 (p_play_ok t1.1.2 hIk) (p_play_hi t1.1.2 hIk) (w_play hIk _ _) c2 m1 m2 m3⟩
theorem tt_fault (hR : q_Rel L xs w E g) (x : Int32) : q_Pair L xs w E g 160 [.ref 3, .int x] 162 [.ref 146, .int x, .null] := by
  obtain ⟨⟨hE, hO, h1, hB⟩, st, n, hR0⟩ := id hR
  obtain ⟨⟨s1, s2, s3⟩, ⟨t1, t2⟩, hI, hV, hH⟩ := id hR0
  have I0 : q_In (g 147) := (hI 0 (Nat.zero_le _)).1
  have hIk := q_In_k1 I0
  have hVk : q_Vsta g (q_rf E 3 0) (q_k1 (g 147)) := q_V_c hV I0.2.1.1 (fun i hi => q_k1_n (by omega))
  obtain ⟨g', c1, c2⟩ := j_fault hE hO hB hIk hVk t1 x
  have hc : q_Cend E g st (-1000001, q_k1 (g 147)) E g' := Or.inl ⟨Or.inl rfl, rfl, c2⟩
  obtain ⟨hE', e147, e146, e1, e148⟩ := q_Cend_e hE hO hc
  obtain ⟨g'', m0, m1, m2, m3, m4⟩ := m_fault (g := g') hE'.2.2.2.1 (by rw [e147]; exact I0) t1.1.2 (by rw [e146]; exact t2) x
  rw [e147, e148] at m0
  exact ⟨_, E, g', g'', c1, m0, ⟨e1.trans h1, hE'.1.2.2.1, hE'.2.2.2.1.1⟩, q_Rel_chg hE hO h1 hB hR0 (Or.inl ⟨Or.inl rfl, rfl⟩) (q_Hi_r _) (w_l (w_r _) (by omega)) hc m1 m2 (Or.inl ⟨Or.inl rfl, m3, m4⟩)⟩
theorem tt_verseOf (hR : q_Rel L xs w E g) (x y : Int32) : q_Pair L xs w E g 106 [.ref 3, .int x, .int y] 123 [.ref 146, .int x, .int y] := by
  obtain ⟨⟨hE, hO, h1, hB⟩, st, n, hR0⟩ := id hR
  obtain ⟨⟨s1, s2, s3⟩, ⟨t1, t2⟩, hI, hV, hH⟩ := id hR0
  have I0 : q_In (g 147) := (hI 0 (Nat.zero_le _)).1
  have hIk := q_In_k1 I0
  have hVk : q_Vsta g (q_rf E 3 0) (q_k1 (g 147)) := q_V_c hV I0.2.1.1 (fun i hi => q_k1_n (by omega))
  exact q_Pair_q hR (fun Q => j_verseOf hE hO I0 hV x y) (fun Q => s_verseOf hE.2.2.2.1 I0 x y)
theorem tt_slotOf (hR : q_Rel L xs w E g) (x y : Int32) : q_Pair L xs w E g 140 [.ref 3, .int x, .int y] 79 [.ref 146, .int x, .int y, .null, .null, .null, .null] := by
  obtain ⟨⟨hE, hO, h1, hB⟩, st, n, hR0⟩ := id hR
  obtain ⟨⟨s1, s2, s3⟩, ⟨t1, t2⟩, hI, hV, hH⟩ := id hR0
  have I0 : q_In (g 147) := (hI 0 (Nat.zero_le _)).1
  have hIk := q_In_k1 I0
  have hVk : q_Vsta g (q_rf E 3 0) (q_k1 (g 147)) := q_V_c hV I0.2.1.1 (fun i hi => q_k1_n (by omega))
  exact q_Pair_q hR (fun Q => j_slotOf hE hO hB I0 hV x y) (fun Q => s_slotOf hE.2.2.2.1 I0 x y)
theorem tt_orderOf (hR : q_Rel L xs w E g) (x y : Int32) : q_Pair L xs w E g 65 [.ref 3, .int x, .int y] 78 [.ref 146, .int x, .int y, .null, .null, .null, .null, .null] := by
  obtain ⟨⟨hE, hO, h1, hB⟩, st, n, hR0⟩ := id hR
  obtain ⟨⟨s1, s2, s3⟩, ⟨t1, t2⟩, hI, hV, hH⟩ := id hR0
  have I0 : q_In (g 147) := (hI 0 (Nat.zero_le _)).1
  have hIk := q_In_k1 I0
  have hVk : q_Vsta g (q_rf E 3 0) (q_k1 (g 147)) := q_V_c hV I0.2.1.1 (fun i hi => q_k1_n (by omega))
  exact q_Pair_q hR (fun Q => j_orderOf hE hO I0 hV x y) (fun Q => s_orderOf hE.2.2.2.1 I0 x y)
theorem tt_occasionOf (hR : q_Rel L xs w E g) (x y : Int32) : q_Pair L xs w E g 139 [.ref 3, .int x, .int y] 115 [.ref 146, .int x, .int y, .null, .null, .null, .null] := by
  obtain ⟨⟨hE, hO, h1, hB⟩, st, n, hR0⟩ := id hR
  obtain ⟨⟨s1, s2, s3⟩, ⟨t1, t2⟩, hI, hV, hH⟩ := id hR0
  have I0 : q_In (g 147) := (hI 0 (Nat.zero_le _)).1
  have hIk := q_In_k1 I0
  have hVk : q_Vsta g (q_rf E 3 0) (q_k1 (g 147)) := q_V_c hV I0.2.1.1 (fun i hi => q_k1_n (by omega))
  exact q_Pair_q hR (fun Q => j_occasionOf hE hO I0 hV x y) (fun Q => s_occasionOf hE.2.2.2.1 I0 x y)
theorem tt_together (hR : q_Rel L xs w E g) (x y : Int32) : q_Pair L xs w E g 66 [.ref 3, .int x, .int y] 121 [.ref 146, .int x, .int y] := by
  obtain ⟨⟨hE, hO, h1, hB⟩, st, n, hR0⟩ := id hR
  obtain ⟨⟨s1, s2, s3⟩, ⟨t1, t2⟩, hI, hV, hH⟩ := id hR0
  have I0 : q_In (g 147) := (hI 0 (Nat.zero_le _)).1
  have hIk := q_In_k1 I0
  have hVk : q_Vsta g (q_rf E 3 0) (q_k1 (g 147)) := q_V_c hV I0.2.1.1 (fun i hi => q_k1_n (by omega))
  exact q_Pair_q hR (fun Q => j_together hE hO I0 hV x y) (fun Q => s_together hE.2.2.2.1 I0 x y)
theorem tt_would (hR : q_Rel L xs w E g) (x y : Int32) : q_Pair L xs w E g 141 [.ref 3, .int x, .int y, .null] 136 [.ref 146, .int x, .int y, .null] := by
  obtain ⟨⟨hE, hO, h1, hB⟩, st, n, hR0⟩ := id hR
  obtain ⟨⟨s1, s2, s3⟩, ⟨t1, t2⟩, hI, hV, hH⟩ := id hR0
  have I0 : q_In (g 147) := (hI 0 (Nat.zero_le _)).1
  have hIk := q_In_k1 I0
  have hVk : q_Vsta g (q_rf E 3 0) (q_k1 (g 147)) := q_V_c hV I0.2.1.1 (fun i hi => q_k1_n (by omega))
  exact q_Pair_q hR (fun Q => j_would hE hO hB I0 hV x y) (fun Q => s_would hE.2.2.2.1 I0 x y)
theorem tt_bestSlot (hR : q_Rel L xs w E g) (x : Int32) : q_Pair L xs w E g 129 [.ref 3, .int x, .null] 107 [.ref 146, .int x, .null, .null, .null, .null, .null] := by
  obtain ⟨⟨hE, hO, h1, hB⟩, st, n, hR0⟩ := id hR
  obtain ⟨⟨s1, s2, s3⟩, ⟨t1, t2⟩, hI, hV, hH⟩ := id hR0
  have I0 : q_In (g 147) := (hI 0 (Nat.zero_le _)).1
  have hIk := q_In_k1 I0
  have hVk : q_Vsta g (q_rf E 3 0) (q_k1 (g 147)) := q_V_c hV I0.2.1.1 (fun i hi => q_k1_n (by omega))
  exact q_Pair_q hR (fun Q => j_bestSlot hE hO hB I0 hV x) (fun Q => s_bestSlot hE.2.2.2.1 I0 x)
theorem tt_partner (hR : q_Rel L xs w E g) (x : Int32) : q_Pair L xs w E g 104 [.ref 3, .int x, .null] 116 [.ref 146, .int x, .null, .null, .null, .null] := by
  obtain ⟨⟨hE, hO, h1, hB⟩, st, n, hR0⟩ := id hR
  obtain ⟨⟨s1, s2, s3⟩, ⟨t1, t2⟩, hI, hV, hH⟩ := id hR0
  have I0 : q_In (g 147) := (hI 0 (Nat.zero_le _)).1
  have hIk := q_In_k1 I0
  have hVk : q_Vsta g (q_rf E 3 0) (q_k1 (g 147)) := q_V_c hV I0.2.1.1 (fun i hi => q_k1_n (by omega))
  exact q_Pair_q hR (fun Q => j_partner hE hO I0 hV x) (fun Q => s_partner hE.2.2.2.1 I0 x)
theorem tt_lasts (hR : q_Rel L xs w E g) (hw : w ≤ 1000000) (x : Int32) : q_Pair L xs w E g 103 [.ref 3, .int x, .null, .null, .null] 114 [.ref 146, .int x, .null, .null] := by
  obtain ⟨⟨hE, hO, h1, hB⟩, st, n, hR0⟩ := id hR
  obtain ⟨⟨s1, s2, s3⟩, ⟨t1, t2⟩, hI, hV, hH⟩ := id hR0
  have I0 : q_In (g 147) := (hI 0 (Nat.zero_le _)).1
  have hIk := q_In_k1 I0
  have hVk : q_Vsta g (q_rf E 3 0) (q_k1 (g 147)) := q_V_c hV I0.2.1.1 (fun i hi => q_k1_n (by omega))
  have W : ∀ v, v < 12 → ∃ w : Nat, w < 2147483648 ∧ g 147 (11 + 8 * v + 7) = nI w := fun v hv => by
    obtain ⟨x, x1, x2⟩ := (hI 0 (Nat.zero_le _)).2 v hv
    exact ⟨x, by omega, x2⟩
  exact q_Pair_q hR (fun Q => j_lasts hE hO I0 hV W x) (fun Q => s_lasts hE.2.2.2.1 I0 W x)
theorem tt_count (hR : q_Rel L xs w E g) (x : Int32) : q_Pair L xs w E g 102 [.ref 3, .int x] 131 [.ref 146, .int x] := by
  obtain ⟨⟨hE, hO, h1, hB⟩, st, n, hR0⟩ := id hR
  obtain ⟨⟨s1, s2, s3⟩, ⟨t1, t2⟩, hI, hV, hH⟩ := id hR0
  have I0 : q_In (g 147) := (hI 0 (Nat.zero_le _)).1
  have hIk := q_In_k1 I0
  have hVk : q_Vsta g (q_rf E 3 0) (q_k1 (g 147)) := q_V_c hV I0.2.1.1 (fun i hi => q_k1_n (by omega))
  refine q_Pair_q hR (fun Q => j_count hE hO I0 hV x) (fun Q => ?_)
  rw [s_count hE.2.2.2.1 I0 x, s2, s3, t1.1.1, t2]
theorem tt_clearText (hR : q_Rel L xs w E g) : q_Pair L xs w E g 23 [.ref 3, .null] 29 [.ref 146, .null] := by
  obtain ⟨⟨hE, hO, h1, hB⟩, st, n, hR0⟩ := id hR
  obtain ⟨⟨s1, s2, s3⟩, ⟨t1, t2⟩, hI, hV, hH⟩ := id hR0
  have I0 : q_In (g 147) := (hI 0 (Nat.zero_le _)).1
  have hIk := q_In_k1 I0
  have hVk : q_Vsta g (q_rf E 3 0) (q_k1 (g 147)) := q_V_c hV I0.2.1.1 (fun i hi => q_k1_n (by omega))
  refine ⟨nI n, E, q_up g 142 1 (nI 0), q_up (q_up g 142 1 (nI 0)) 146 3 (nI 0), fun Q => ?_, fun Q => ?_, ⟨(q_upf (by decide)).trans h1, hE.1.2.2.1, hE.2.2.2.1.1⟩, ⟨hE, hO, ?_, hB.1, fun i hi => ?_⟩, st, 0, ⟨s1, ?_, ?_⟩, ⟨?_, q_upe rfl rfl⟩, fun j hj => ?_, ?_, fun h a1 a2 => ?_⟩
  · rw [j_clearText hE, t1.1.1]
  · rw [s_clearText hE.2.2.2.1, q_upn (by decide), t2]
  · rw [q_upf (by decide), q_upf (by decide)]; exact h1
  · rw [q_upn (by decide), q_upn (by decide)]; exact hB.2 i hi
  · rw [q_upn (by decide), q_upn (by decide)]; exact s2
  · rw [q_upm (by decide), q_upn (by decide)]; exact s3
  · exact ⟨⟨by rw [q_upn (by decide)]; exact q_upe rfl rfl, by omega⟩, fun i hi => absurd hi (by omega), fun i hi => absurd hi (by omega)⟩
  · rw [q_upf (by decide), q_upf (by decide)]
    exact ⟨(hI j hj).1, q_Wb_l (hI j hj).2 (by omega)⟩
  · rw [q_upf (show ¬ 147 = 146 by decide), q_upf (show ¬ 147 = 142 by decide)]
    have ok := hO.1 0 (by omega)
    unfold q_okb at ok
    exact q_V_o hV fun b b1 b2 => by rw [q_upf (by omega), q_upf (by omega)]
  · rw [q_upf (show ¬ 147 = 146 by decide), q_upf (show ¬ 147 = 142 by decide)]
    have ok := hO.1 (h + 1) (by omega)
    unfold q_okb at ok
    exact q_V_o (hH h a1 a2) fun b b1 b2 => by rw [q_upf (by omega), q_upf (by omega)]
theorem tt_type (hR : q_Rel L xs w E g) (x : Int32) : q_Pair L xs w E g 67 [.ref 3, .int x] 81 [.ref 146, .int x] := by
  obtain ⟨⟨hE, hO, h1, hB⟩, st, n, hR0⟩ := id hR
  obtain ⟨⟨s1, s2, s3⟩, ⟨t1, t2⟩, hI, hV, hH⟩ := id hR0
  have I0 : q_In (g 147) := (hI 0 (Nat.zero_le _)).1
  have hIk := q_In_k1 I0
  have hVk : q_Vsta g (q_rf E 3 0) (q_k1 (g 147)) := q_V_c hV I0.2.1.1 (fun i hi => q_k1_n (by omega))
  cases e : q_ir 32 126 x
  · exact q_Pair_q hR (r := -1000001) (fun Q => by rw [j_type hE t1 x, if_neg (by rw [e]; decide)]) (fun Q => by rw [s_type hE.2.2.2.1 t1.1.2 t2 x, if_neg (by rw [e]; decide)])
  by_cases n60 : n = 60
  · exact q_Pair_q hR (r := -1000003) (fun Q => by rw [j_type hE t1 x, if_pos e, if_pos n60]) (fun Q => by rw [s_type hE.2.2.2.1 t1.1.2 t2 x, if_pos e, if_pos n60])
  have hn := t1.1.2
  have g6 : (q_up (q_up g 143 n x) 142 1 (nI (n + 1))) 146 3 = nI n := by rw [q_upn (by decide), q_upn (by decide)]; exact t2
  refine ⟨nI (n + 1), E, q_up (q_up g 143 n x) 142 1 (nI (n + 1)), q_up (q_up (q_up (q_up g 143 n x) 142 1 (nI (n + 1))) 148 n x) 146 3 (nI (n + 1)), fun Q => ?_, fun Q => ?_, ⟨?_, hE.1.2.2.1, hE.2.2.2.1.1⟩, ⟨hE, hO, ?_, hB.1, fun i hi => ?_⟩, st, n + 1, ⟨s1, ?_, ?_⟩, ⟨⟨⟨?_, by omega⟩, fun i hi => ?_, fun i hi => ?_⟩, q_upe rfl rfl⟩, fun j hj => ?_, ?_, fun h a1 a2 => ?_⟩
  · rw [j_type hE t1 x, if_pos e, if_neg n60]
  · rw [s_type hE.2.2.2.1 hn g6 x, if_pos e, if_neg n60]
  · rw [q_upf (by decide), q_upf (by decide)]; exact h1
  · rw [q_upf (by decide), q_upf (by decide), q_upf (by decide), q_upf (by decide)]; exact h1
  · rw [q_upn (by decide), q_upn (by decide), q_upn (by decide), q_upn (by decide)]; exact hB.2 i hi
  · rw [q_upn (by decide), q_upn (by decide), q_upn (by decide), q_upn (by decide)]; exact s2
  · rw [q_upm (by decide), q_upn (by decide), q_upn (by decide), q_upn (by decide)]; exact s3
  · rw [q_upn (by decide), q_upn (by decide)]; exact q_upe rfl rfl
  · rw [q_upn (show ¬ 143 = 146 by decide), q_upn (show ¬ 143 = 148 by decide), q_upn (show ¬ 143 = 142 by decide), q_upf (show ¬ 148 = 146 by decide), q_ups, q_ups]
    by_cases c : i = n
    · rw [if_pos c, if_pos c]
    · rw [if_neg c, if_neg c, q_upf (show ¬ 148 = 142 by decide), q_upf (show ¬ 148 = 143 by decide)]
      exact t1.2.1 i (by omega)
  · rw [q_upf (show ¬ 148 = 146 by decide), q_ups]
    by_cases c : i = n
    · rw [if_pos c]; exact e
    · rw [if_neg c, q_upf (show ¬ 148 = 142 by decide), q_upf (show ¬ 148 = 143 by decide)]
      exact t1.2.2 i (by omega)
  · rw [q_upf (by decide), q_upf (by decide), q_upf (by decide), q_upf (by decide)]
    exact ⟨(hI j hj).1, q_Wb_l (hI j hj).2 (by omega)⟩
  · rw [q_upf (show ¬ 147 = 146 by decide), q_upf (show ¬ 147 = 148 by decide), q_upf (show ¬ 147 = 142 by decide), q_upf (show ¬ 147 = 143 by decide)]
    have ok := hO.1 0 (by omega)
    unfold q_okb at ok
    exact q_V_o hV fun b b1 b2 => by rw [q_upf (by omega), q_upf (by omega), q_upf (by omega), q_upf (by omega)]
  · rw [q_upf (show ¬ 147 = 146 by decide), q_upf (show ¬ 147 = 148 by decide), q_upf (show ¬ 147 = 142 by decide), q_upf (show ¬ 147 = 143 by decide)]
    have ok := hO.1 (h + 1) (by omega)
    unfold q_okb at ok
    exact q_V_o (hH h a1 a2) fun b b1 b2 => by rw [q_upf (by omega), q_upf (by omega), q_upf (by omega), q_upf (by omega)]
theorem tt_undo (hR : q_Rel L xs w E g) : q_Pair L xs w E g 26 [.ref 3, .null] 82 [.ref 146] := by
  obtain ⟨⟨hE, hO, h1, hB⟩, st, n, hR0⟩ := id hR
  obtain ⟨⟨s1, s2, s3⟩, ⟨t1, t2⟩, hI, hV, hH⟩ := id hR0
  have I0 : q_In (g 147) := (hI 0 (Nat.zero_le _)).1
  have hIk := q_In_k1 I0
  have hVk : q_Vsta g (q_rf E 3 0) (q_k1 (g 147)) := q_V_c hV I0.2.1.1 (fun i hi => q_k1_n (by omega))
  by_cases z : st = 0
  · exact q_Pair_q hR (r := -1000002) (fun Q => by rw [c_undo8 hE hO s1 s2, if_pos z]) (fun Q => by rw [s_undo9 hE.2.2.2.1 s1 s3, if_pos z])
  have hE' := q_EB_ut hE
  have g61 : (q_up g 3 6 (nI (st - 1))) 146 1 = nI st := by rw [q_upn (by decide)]; exact s3
  have g147 : (q_up g 3 6 (nI (st - 1))) 147 = g 147 := q_upf (by decide)
  have cp0 : ∀ i, i < 312 → q_cp (g 147) st 0 i = g 147 (i + 312 * st) := fun i hi => by
    unfold q_cp
    rw [if_pos (by omega)]
    exact congrArg (g 147) (by omega)
  have cpj : ∀ i, 312 ≤ i → q_cp (g 147) st 0 i = g 147 i := fun i hi => by
    unfold q_cp
    rw [if_neg (by omega)]
  obtain ⟨x0, x1, x2, x3, x4, x5⟩ := q_ut_r E
  have oh : ∀ h, h < 6 → q_okb (q_rf E 3 h) := hO.1
  have vw : ∀ B f f', q_okb B → q_no f ≤ 8 → (∀ i, i < 312 → f' i = f i) → q_Vsta g B f → q_Vsta (q_up (q_upA (q_up g 3 6 (nI (st - 1))) 147 (q_cp (g 147) st 0)) 146 1 (nI (st - 1))) B f' := by
    intro B f f' b1 b2 b3 b4
    unfold q_okb at b1
    exact q_V_c (q_V_o b4 fun b c1 c2 => by rw [q_upf (by omega), q_upA_n _ _ (by omega), q_upf (by omega)]) b2 b3
  have f147 : (q_up (q_upA (q_up g 3 6 (nI (st - 1))) 147 (q_cp (g 147) st 0)) 146 1 (nI (st - 1))) 147 = q_cp (g 147) st 0 := by rw [q_upf (by decide), q_upA_s]
  refine ⟨nI (st - 1), q_ut E, q_up g 3 6 (nI (st - 1)), q_up (q_upA (q_up g 3 6 (nI (st - 1))) 147 (q_cp (g 147) st 0)) 146 1 (nI (st - 1)), fun Q => ?_, fun Q => ?_, ⟨(q_upf (by decide)).trans h1, hE'.1.2.2.1, hE'.2.2.2.1.1⟩, ⟨hE', q_Slo_ut hO, ?_, hB.1, fun i hi => ?_⟩, st - 1, n, ⟨by omega, ?_, q_upe rfl rfl⟩, ⟨?_, ?_⟩, fun j hj => ?_, ?_, fun h a1 a2 => ?_⟩
  · rw [c_undo8 hE hO s1 s2, if_neg z]
  · rw [s_undo9 hE'.2.2.2.1 s1 g61, if_neg z, g147]
  · rw [q_upf (by decide), q_upA_n _ _ (by decide), q_upf (by decide)]; exact h1
  · rw [q_upn (by decide), q_upA_n _ _ (by decide), q_upn (by decide)]; exact hB.2 i hi
  · rw [q_upn (by decide), q_upA_n _ _ (by decide)]; exact q_upe rfl rfl
  · rw [q_upf (show ¬ 148 = 146 by decide), q_upA_n _ _ (show ¬ 148 = 147 by decide), q_upf (show ¬ 148 = 3 by decide)]
    exact q_Vtx_n t1 (by rw [q_upn (by decide), q_upA_n _ _ (by decide), q_upn (by decide)]) (by rw [q_upf (by decide), q_upA_n _ _ (by decide), q_upf (by decide)])
  · rw [q_upm (by decide), q_upA_n _ _ (by decide), q_upn (by decide)]; exact t2
  · rw [f147]
    by_cases j0 : j = 0
    · subst j0
      exact ⟨q_In_k (hI st (Nat.le_refl _)).1 cp0, q_Wb_l (q_Wb_c (hI st (Nat.le_refl _)).2 cp0) (by omega)⟩
    · have e : ∀ i, i < 312 → q_cp (g 147) st 0 (i + 312 * j) = g 147 (i + 312 * j) := fun i hi => cpj _ (by omega)
      exact ⟨q_In_bk (hI j (by omega)).1 e, q_Wb_l (q_Wb_c (hI j (by omega)).2 e) (by omega)⟩
  · rw [f147, x0]
    refine vw _ _ _ (oh 2 (by omega)) (hI (st + 1 - 1) (by omega)).1.2.1.1 (fun i hi => ?_) (hH 1 (by omega) (by omega))
    rw [cp0 i hi]
    show g 147 _ = g 147 _
    congr 2
  · have hx : q_rf (q_ut E) 3 (h + 1) = q_rf E 3 (h + 1 + 1) := by
      rcases (by omega : h = 1 ∨ h = 2 ∨ h = 3) with rfl | rfl | rfl
      · exact x2
      · exact x3
      · exact x4
    rw [f147, hx]
    refine vw _ _ _ (oh _ (by omega)) (hI _ (by omega)).1.2.1.1 (fun i hi => ?_) (hH (h + 1) (by omega) (by omega))
    show q_cp (g 147) st 0 (i + 312 * (st - 1 + 1 - h)) = g 147 (i + 312 * (st + 1 - (h + 1)))
    rw [cpj _ (by omega)]
    congr 2
    omega
end
