/-! the class's object holds what the model's row holds -/
def q_bk (F : q_St) (j : Nat) : q_St := fun i => F (i + 312 * j)
theorem q_bk_0 (F : q_St) : q_bk F 0 = F := rfl
/-- the relation of the two objects -/
def q_R0 (w : Nat) (E : q_E) (g : q_G) (st n : Nat) : Prop := (st ≤ 4 ∧ g 3 6 = nI st ∧ g 146 1 = nI st) ∧ (q_Vtx g (g 148) n ∧ g 146 3 = nI n) ∧ (∀ j, j ≤ st → q_In (q_bk (g 147) j) ∧ q_Wb w (q_bk (g 147) j)) ∧ q_Vsta g (q_rf E 3 0) (g 147) ∧ ∀ h, 1 ≤ h → h ≤ st → q_Vsta g (q_rf E 3 (h + 1)) (q_bk (g 147) (st + 1 - h))
def q_Rel (L : Nat) (xs : Nat → Int32) (w : Nat) (E : q_E) (g : q_G) : Prop := (q_EB L E ∧ q_Slo E ∧ g 1 = xs ∧ q_BesB E g) ∧ ∃ st n, q_R0 w E g st n
theorem q_Wb_l {a b : Nat} {f : q_St} (h : q_Wb a f) (hab : a ≤ b) : q_Wb b f := fun v hv => by
  obtain ⟨x, x1, x2⟩ := h v hv
  exact ⟨x, by omega, x2⟩
theorem q_Wb_c {w : Nat} {f f' : q_St} (h : q_Wb w f) (he : ∀ i, i < 312 → f' i = f i) : q_Wb w f' := fun v hv => by
  obtain ⟨x, x1, x2⟩ := h v hv
  exact ⟨x, x1, by rw [he _ (by omega)]; exact x2⟩
theorem q_Rel_l {L w w' : Nat} {xs : Nat → Int32} {E : q_E} {g : q_G} (h : q_Rel L xs w E g) (hw : w ≤ w') : q_Rel L xs w' E g := by
  obtain ⟨a, st, n, b, c, d, e, i⟩ := h
  exact ⟨a, st, n, b, c, fun j hj => ⟨(d j hj).1, q_Wb_l (d j hj).2 hw⟩, e, i⟩
theorem q_ac_0 {f : q_St} {st i : Nat} (hs : st ≤ 4) (hi : i < 312) : q_ac f st i = f i := by
  unfold q_ac
  by_cases h : st = 4
  · rw [if_pos h]
    unfold q_cp
    rw [if_neg (by omega), if_neg (by omega), if_neg (by omega), if_neg (by omega)]
  · rw [if_neg h]
    unfold q_cp
    rw [if_neg (by omega)]
theorem q_ac_t {f : q_St} {st i : Nat} (hs : st ≤ 4) (hi : i < 312) : q_ac f st (i + 312 * min (st + 1) 4) = f (i + 1560) := by
  unfold q_ac
  by_cases h : st = 4
  · rw [if_pos h, show min (st + 1) 4 = 4 by omega]
    unfold q_cp
    rw [if_pos (by omega), if_neg (by omega), if_neg (by omega), if_neg (by omega)]
    exact congrArg f (by omega)
  · rw [if_neg h, show min (st + 1) 4 = st + 1 by omega]
    unfold q_cp
    rw [if_pos (by omega)]
    exact congrArg f (by omega)
theorem q_ac_m {f : q_St} {st i j : Nat} (hs : st ≤ 4) (hi : i < 312) (hj : 1 ≤ j) (hj2 : j < min (st + 1) 4) : q_ac f st (i + 312 * j) = f (i + 312 * (if st = 4 then j + 1 else j)) := by
  unfold q_ac
  by_cases h : st = 4
  · rw [if_pos h, if_pos h]
    rcases (by omega : j = 1 ∨ j = 2 ∨ j = 3) with rfl | rfl | rfl
    · unfold q_cp
      rw [if_neg (by omega), if_neg (by omega), if_neg (by omega), if_pos (by omega)]
      exact congrArg f (by omega)
    · unfold q_cp
      rw [if_neg (by omega), if_neg (by omega), if_pos (by omega), if_neg (by omega)]
      exact congrArg f (by omega)
    · unfold q_cp
      rw [if_neg (by omega), if_pos (by omega), if_neg (by omega), if_neg (by omega)]
      exact congrArg f (by omega)
  · rw [if_neg h, if_neg h]
    unfold q_cp
    rw [if_neg (by omega)]
/-- what is outside a trial and the small marks is as it was -/
theorem q_Rf_b {T : Nat} {g g' : q_G} (h : q_Rf T g g') {B : Nat} (hT : q_okb T) (hB : q_okb B) (hn : B ≠ T) : ∀ b, B ≤ b → b < B + 23 → g' b = g b := fun b b1 b2 => h.1 b (by unfold q_okb at *; omega) (by unfold q_okb at *; omega) (by unfold q_okb at *; omega) (by unfold q_okb at *; omega)
theorem q_In_bk {F F' : q_St} {j j' : Nat} (h : q_In (q_bk F j)) (he : ∀ i, i < 312 → F' (i + 312 * j') = F (i + 312 * j)) : q_In (q_bk F' j') := q_In_k h fun i hi => he i hi
theorem q_Vtx_n {g g' : q_G} {t : Nat → Int32} {n : Nat} (h : q_Vtx g t n) (h1 : g' 142 1 = g 142 1) (h2 : g' 143 = g 143) : q_Vtx g' t n := ⟨⟨h1.trans h.1.1, h.1.2⟩, fun i hi => by rw [h2]; exact h.2.1 i hi, h.2.2⟩
section
variable {L w : Nat} {xs : Nat → Int32} {E E' : q_E} {g g' g'' : q_G} {st n : Nat}
theorem q_Rel_chg (hE : q_EB L E) (hO : q_Slo E) (h1 : g 1 = xs) (hB : q_BesB E g) (hR : q_R0 w E g st n) {p : Int32 × q_St} (hok : q_Ok (q_k1 (g 147)) p) (hhi : q_Hi (q_k1 (g 147)) p.2) (hw : q_Wn 60 (q_k1 (g 147)) p.2) (hc : q_Cend E g st p E' g')
    (m1 : ∀ b, b ≠ 146 → b ≠ 147 → b ≠ 149 → g'' b = g' b) (m2 : g'' 146 3 = g' 146 3) (m3 : (q_Er p.1 ∧ (∀ i, i < 1560 → g'' 147 i = g' 147 i) ∧ g'' 146 1 = g' 146 1) ∨ ((∃ r : Nat, r < 1000000 ∧ p.1 = nI r) ∧ g'' 147 = q_ac p.2 st ∧ g'' 146 1 = nI (min (st + 1) 4))) : q_Rel L xs (w + 60) E' g'' := by
  obtain ⟨⟨s1, s2, s3⟩, ⟨t1, t2⟩, hI, hV, hH⟩ := hR
  obtain ⟨⟨o0, o1, o2, o3, o4, o5⟩, ⟨n1, -⟩, ⟨e2, e3, e4, e5⟩, -⟩ := q_Slo_g hO
  have ob := o1
  unfold q_okb at ob
  have oh : ∀ h, h < 6 → q_okb (q_rf E 3 h) := hO.1
  have ne : ∀ h, h < 6 → h ≠ 1 → q_rf E 3 h ≠ q_rf E 3 1 := fun h h1 h2 => hO.2 h 1 h1 (by omega) h2
  rcases hc with ⟨c1, rfl, cf⟩ | ⟨⟨r, r1, r2⟩, rfl, g2, cf, cV, rfl⟩
  · -- refused
    obtain ⟨-, k1, k2⟩ := m3.resolve_right (fun q => by
      obtain ⟨⟨r, r1, r2⟩, -⟩ := q
      exact absurd (by rw [← r2]; exact c1) (q_er_n r1))
    have fr : ∀ b, (b < q_rf E' 3 1 ∨ q_rf E' 3 1 + 23 ≤ b) → b ≠ 142 → b ≠ 144 → b ≠ 145 → b ≠ 146 → b ≠ 147 → b ≠ 149 → g'' b = g b := fun b b0 b1 b2 b3 b4 b5 b6 => (m1 b b4 b5 b6).trans (cf.1 b b0 b1 b2 b3)
    have f147 : ∀ i, i < 1560 → g'' 147 i = g 147 i := fun i hi => by rw [k1 i hi, cf.1 147 (by omega) (by decide) (by decide) (by decide)]
    have g146 : g' 146 = g 146 := cf.1 146 (by omega) (by decide) (by decide) (by decide)
    have f148 : g'' 148 = g 148 := fr 148 (by omega) (by decide) (by decide) (by decide) (by decide) (by decide) (by decide)
    have vw : ∀ B f f', q_okb B → B ≠ q_rf E' 3 1 → q_no f ≤ 8 → (∀ i, i < 312 → f' i = f i) → q_Vsta g B f → q_Vsta g'' B f' := by
      intro B f f' b1 b2 b3 b4 b5
      refine q_V_c (q_V_o b5 fun b c1 c2 => ?_) b3 b4
      have := q_Rf_b cf o1 b1 b2 b c1 c2
      rw [← this]
      unfold q_okb at b1
      exact m1 b (by omega) (by omega) (by omega)
    refine ⟨⟨hE, hO, ?_, hB.1, fun i hi => ?_⟩, st, n, ⟨s1, ?_, ?_⟩, ⟨?_, ?_⟩, fun j hj => ⟨?_, ?_⟩, ?_, fun h a1 a2 => ?_⟩
    · rw [fr 1 (by omega) (by decide) (by decide) (by decide) (by decide) (by decide) (by decide)]; exact h1
    · rw [fr 2 (by omega) (by decide) (by decide) (by decide) (by decide) (by decide) (by decide)]; exact hB.2 i hi
    · rw [fr 3 (by omega) (by decide) (by decide) (by decide) (by decide) (by decide) (by decide)]; exact s2
    · rw [k2, g146]; exact s3
    · rw [f148]
      exact q_Vtx_n t1 (by rw [m1 142 (by decide) (by decide) (by decide)]; exact cf.2 1 (by decide) (by decide)) (fr 143 (by omega) (by decide) (by decide) (by decide) (by decide) (by decide) (by decide))
    · rw [m2, g146]; exact t2
    · exact q_In_bk (hI j hj).1 fun i hi => f147 _ (by omega)
    · exact q_Wb_l (q_Wb_c (hI j hj).2 fun i hi => f147 _ (by omega)) (by omega)
    · exact vw _ _ _ o0 n1 (hI 0 (by omega)).1.2.1.1 (fun i hi => f147 i (by omega)) hV
    · exact vw _ _ _ (oh _ (by omega)) (ne _ (by omega) (by omega)) (hI _ (by omega)).1.2.1.1 (fun i hi => f147 _ (by omega)) (hH h a1 a2)
  · -- done
    rcases m3 with ⟨k0, -⟩ | ⟨-, k1, k2⟩
    · exact absurd (by rw [← r2]; exact k0) (q_er_n r1)
    obtain ⟨x0, x1, x2, x3, x4, x5⟩ := q_kt_r E
    have hIp : q_In p.2 := by
      rcases hok with ⟨q1, -⟩ | ⟨-, -, -, q⟩
      · exact absurd (by rw [← r2]; exact q1) (q_er_n r1)
      · exact q
    have fr : ∀ b, (b < q_rf E 3 1 ∨ q_rf E 3 1 + 23 ≤ b) → b ≠ 142 → b ≠ 144 → b ≠ 145 → b ≠ 146 → b ≠ 147 → b ≠ 149 → b ≠ 3 → g'' b = g b := fun b b0 b1 b2 b3 b4 b5 b6 b7 => by rw [m1 b b4 b5 b6, q_upf b7]; exact cf.1 b b0 b1 b2 b3
    have g146 : g2 146 = g 146 := cf.1 146 (by omega) (by decide) (by decide) (by decide)
    have f148 : g'' 148 = g 148 := fr 148 (by omega) (by decide) (by decide) (by decide) (by decide) (by decide) (by decide) (by decide)
    have vw : ∀ B f f', q_okb B → B ≠ q_rf E 3 1 → q_no f ≤ 8 → (∀ i, i < 312 → f' i = f i) → q_Vsta g B f → q_Vsta g'' B f' := by
      intro B f f' b1 b2 b3 b4 b5
      refine q_V_c (q_V_o b5 fun b c1 c2 => ?_) b3 b4
      have := q_Rf_b cf o1 b1 b2 b c1 c2
      rw [← this]
      unfold q_okb at b1
      rw [m1 b (by omega) (by omega) (by omega), q_upf (by omega)]
    have p0 : ∀ i, 312 ≤ i → i < 1560 → p.2 i = g 147 i := fun i h1 h2 => by rw [hhi i h1, q_k1_n h2]
    have p5 : ∀ i, i < 312 → p.2 (i + 1560) = g 147 i := fun i hi => by rw [hhi _ (by omega), q_k1_b hi]
    have a0 : ∀ i, i < 312 → g'' 147 i = p.2 i := fun i hi => by rw [k1, q_ac_0 s1 hi]
    have at_ : ∀ i, i < 312 → g'' 147 (i + 312 * min (st + 1) 4) = g 147 i := fun i hi => by rw [k1, q_ac_t s1 hi, p5 i hi]
    have am : ∀ j, 1 ≤ j → j < min (st + 1) 4 → ∀ i, i < 312 → g'' 147 (i + 312 * j) = g 147 (i + 312 * (if st = 4 then j + 1 else j)) := fun j j1 j2 i hi => by
      rw [k1, q_ac_m s1 hi j1 j2]
      split
      · exact p0 _ (by omega) (by omega)
      · exact p0 _ (by omega) (by omega)
    have wk : q_Wb w (q_k1 (g 147)) := q_Wb_c (hI 0 (by omega)).2 fun i hi => q_k1_n (by omega)
    refine ⟨⟨q_EB_kt hE, q_Slo_kt hO, ?_, hB.1, fun i hi => ?_⟩, min (st + 1) 4, n, ⟨by omega, ?_, k2⟩, ⟨?_, ?_⟩, fun j hj => ?_, ?_, fun h a1 a2 => ?_⟩
    · rw [fr 1 (by omega) (by decide) (by decide) (by decide) (by decide) (by decide) (by decide) (by decide)]; exact h1
    · rw [fr 2 (by omega) (by decide) (by decide) (by decide) (by decide) (by decide) (by decide) (by decide)]; exact hB.2 i hi
    · rw [m1 3 (by decide) (by decide) (by decide)]; exact q_upe rfl rfl
    · rw [f148]
      exact q_Vtx_n t1 (by rw [m1 142 (by decide) (by decide) (by decide), q_upf (by decide)]; exact cf.2 1 (by decide) (by decide)) (fr 143 (by omega) (by decide) (by decide) (by decide) (by decide) (by decide) (by decide) (by decide))
    · rw [m2, q_upf (by decide), g146]; exact t2
    · by_cases j0 : j = 0
      · subst j0
        exact ⟨q_In_k hIp a0, q_Wb_c (w_b wk hw) a0⟩
      · by_cases jt : j = min (st + 1) 4
        · subst jt
          exact ⟨q_In_k (hI 0 (by omega)).1 at_, q_Wb_l (q_Wb_c (hI 0 (by omega)).2 at_) (by omega)⟩
        · have am := am j (by omega) (by omega)
          by_cases s4 : st = 4
          · rw [if_pos s4] at am
            exact ⟨q_In_bk (hI (j + 1) (by omega)).1 am, q_Wb_l (q_Wb_c (hI (j + 1) (by omega)).2 am) (by omega)⟩
          · rw [if_neg s4] at am
            exact ⟨q_In_bk (hI j (by omega)).1 am, q_Wb_l (q_Wb_c (hI j (by omega)).2 am) (by omega)⟩
    · rw [x0]
      refine q_V_c (q_V_o cV fun b c1 c2 => ?_) hIp.2.1.1 a0
      rw [m1 b (by omega) (by omega) (by omega), q_upf (by omega)]
    · by_cases hh : h = 1
      · subst hh
        rw [show 1 + 1 = 2 from rfl, x2, show min (st + 1) 4 + 1 - 1 = min (st + 1) 4 by omega]
        exact vw _ _ _ o0 n1 (hI 0 (by omega)).1.2.1.1 at_ hV
      · have hx : q_rf (q_kt E) 3 (h + 1) = q_rf E 3 (h - 1 + 1) := by
          rcases (by omega : h = 2 ∨ h = 3 ∨ h = 4) with rfl | rfl | rfl
          · exact x3
          · exact x4
          · exact x5
        rw [hx]
        refine vw _ _ _ (oh _ (by omega)) (ne _ (by omega) (by omega)) (hI _ (by omega)).1.2.1.1 (fun i hi => ?_) (hH (h - 1) (by omega) (by omega))
        refine (am (min (st + 1) 4 + 1 - h) (by omega) (by omega) i hi).trans ?_
        show g 147 _ = g 147 _
        congr 2
        split <;> omega
end
