/-! p28: sales -/
theorem q_sp_w {f : q_St} (hI : q_In f) {v : Nat} (hv : v < q_sz f) (x : Int32) : q_sp (upd f (11 + 8 * v + 7) x) v = q_sp f v := by
  have h12 := hI.1.1
  have o5 := (hI.2.2.2.2.2.1 v hv).1
  have e1 : q_onf (upd f (11 + 8 * v + 7) x) (q_occ (upd f (11 + 8 * v + 7) x) v) = q_onf f (q_occ f v) := by
    rw [q_occ_u (by omega)]
    unfold q_onf
    rw [q_dy_u (by omega), q_updn (by omega), q_updn (by omega)]
  have e2 : q_ph (upd f (11 + 8 * v + 7) x) v = q_ph f v := by
    funext k
    unfold q_ph
    rw [q_updn (by omega), q_updn (by omega)]
  have e3 : q_po (upd f (11 + 8 * v + 7) x) v = q_po f v := by
    funext k
    unfold q_po
    rw [q_hd_u (by omega), q_updn (by omega), q_updn (by omega), q_updn (by omega)]
  have e4 : (fun k => q_be (upd f (11 + 8 * v + 7) x) k (nI v)) = fun k => q_be f k (nI v) := by
    funext k
    unfold q_be
    exact q_sum_c fun j hj => by rw [q_updn (by omega)]
  unfold q_sp
  rw [e1, e2, e3, e4]
section
variable {m i j : Nat} {ord acc : Int32} {f : q_St}
theorem hg_sells (hI : q_In f) (hL : hg_Le m i j ord acc f) (hi : i ≤ 36) (hj : j < 100) {v : Nat} (hv : v < m) : ((∀ x, 162 ≤ x → x < 306 → (p_sells f v).2 x = f x) ∧ q_In (p_sells f v).2) ∧ ((q_sp f v = -1 ∧ (p_sells f v).1 = -1 ∧ a_sum (p_sells f v).2 4 = a_sum f 4 ∧ hg_Le m i (j + 1) ord acc (p_sells f v).2) ∨ (∃ k u c p : Nat, k < 10 ∧ u < m ∧ 1 ≤ c ∧ c ≤ 12 ∧ p ≤ 99 ∧ q_sp f v = nI k ∧ f (107 + 3 * k) = nI u ∧ f (107 + 3 * k + 1) = nI c ∧ f (11 + 8 * u + 1) = nI p ∧ (p_sells f v).1 = nI u ∧ (p_sells f v).2 (107 + 3 * k + 1) = nI (c - 1) ∧ a_sum (p_sells f v).2 4 = a_sum f 4 + nI 1 ∧ hg_Le m i (j + 1) ord (acc + nI p) (p_sells f v).2)) := by
  have hsz := hL.1.1
  have h6 := hL.1.2.2
  have hno := hI.2.1.1
  have hIn := (p_sells_In hI (v := v) (by omega)).1
  have hsw := q_sp_w hI (v := v) (by omega) (f (11 + 8 * v + 7) + nI 1)
  obtain ⟨⟨a1, a2, a3⟩, b, c', d, e, p, sd, ⟨r, r1, r2⟩, o, y, z1, z2⟩ := hL
  refine ⟨⟨?_, hIn⟩, ?_⟩
  · intro x x1 x2
    unfold p_sells
    rw [hsw]
    rcases q_sp_c f v with hs | ⟨k, hk, hs, hc⟩
    · rw [hs, if_pos (by decide)]
      dsimp only
      rw [q_updn (by omega), q_updn (by omega)]
    · obtain ⟨h1, h2⟩ := q_hd_lt hI hk hc
      rw [hs, nI_clamp (by omega), if_neg (by rw [q_lt (by omega) (by omega)]; omega)]
      dsimp only
      unfold p_take
      rw [q_hd_u (by omega)]
      simp (disch := omega) only [q_updn]
  · unfold p_sells
    rw [hsw]
    rcases q_sp_c f v with hs | ⟨k, hk, hs, hc⟩
    · left
      rw [hs, if_pos (by decide)]
      dsimp only
      have hz : q_sz (upd (upd f (11 + 8 * v + 7) (f (11 + 8 * v + 7) + nI 1)) (11 + 8 * v + 6) (f (11 + 8 * v + 6) + nI 1)) = q_sz f := by simp (disch := omega) only [q_sz_u]
      have s4 : a_sum (upd (upd f (11 + 8 * v + 7) (f (11 + 8 * v + 7) + nI 1)) (11 + 8 * v + 6) (f (11 + 8 * v + 6) + nI 1)) 4 = a_sum f 4 := hg_sc hz (fun k hk => by simp (disch := omega) only [q_updn])
      refine ⟨rfl, rfl, s4, ⟨hz.trans a1, a2, a3⟩, ?_, ?_, ?_, ?_, fun u hu => ?_, fun u hu => ?_, ⟨r, ?_, r2⟩, o, ?_, ?_⟩
      · rw [s4, hg_oc (f := f) (fun k hk => by simp (disch := omega) only [q_updn])]
        exact b
      · rw [s4, hg_su hz (u := v) (d := nI 1) (by omega) (fun k hk hne => by simp (disch := omega) only [q_updn]) (by simp (disch := omega) only [q_updn, q_upds]), hg_su hz (u := v) (d := nI 1) (by omega) (fun k hk hne => by simp (disch := omega) only [q_updn]) (by simp (disch := omega) only [q_updn, q_upds]), c', Int32.add_assoc]
      · rw [s4, hg_cc (f := f) (fun k hk => by simp (disch := omega) only [q_updn]), hg_sc hz (fun k hk => by simp (disch := omega) only [q_updn]), hg_mc (f := f) (by simp (disch := omega) only [q_no_u]) (fun k hk => by simp (disch := omega) only [q_updn]), q_updn (by omega), q_updn (by omega)]
        exact d
      · simp (disch := omega) only [q_updn]; exact e
      · simp (disch := omega) only [q_updn]; exact p u hu
      · obtain ⟨x1, x2, y1, y2, y3⟩ := sd u hu
        simp (disch := omega) only [q_updn]; exact ⟨x1, x2, y1, by omega, y3⟩
      · simp (disch := omega) only [q_updn]; exact r1
      · simp (disch := omega) only [q_dy_u]; exact y
      · simp (disch := omega) only [q_updn]; omega
    · right
      obtain ⟨h1, h2⟩ := q_hd_lt hI hk hc
      obtain ⟨c, c1, c2⟩ := hI.2.2.2.2.2.2.2.2.1 k hk
      rw [hsz] at h1
      rw [hs, nI_clamp (by omega), if_neg (by rw [q_lt (by omega) (by omega)]; omega)]
      dsimp only
      generalize q_hd f k = u at *
      rw [c2, q_lt (by omega) (by omega)] at hc
      obtain ⟨pp, pc, p1, p2, p3, p4, p5⟩ := p u h1
      have hfe : ∀ f', f' = p_take (upd f (11 + 8 * v + 7) (f (11 + 8 * v + 7) + nI 1)) v k → (∀ x, x ≠ 11 + 8 * v + 7 → x ≠ 107 + 3 * k + 1 → x ≠ 107 + 3 * k + 2 → x ≠ 11 + 8 * u + 4 → x ≠ 11 + 8 * u + 5 → x ≠ 310 → f' x = f x) ∧ f' (11 + 8 * v + 7) = f (11 + 8 * v + 7) + nI 1 ∧ f' (107 + 3 * k + 1) = f (107 + 3 * k + 1) - nI 1 ∧ f' (107 + 3 * k + 2) = f (107 + 3 * k + 2) + nI 1 ∧ f' (11 + 8 * u + 4) = f (11 + 8 * u + 4) + nI 1 ∧ f' (11 + 8 * u + 5) = f (11 + 8 * u + 5) + (if u = v then nI 0 else nI 1) ∧ f' 310 = f 310 + f (11 + 8 * u + 1) := by
        intro f' hf
        have hh : q_hd (upd f (11 + 8 * v + 7) (f (11 + 8 * v + 7) + nI 1)) k = u := by
          rw [q_hd_u (by omega)]
          unfold q_hd
          rw [h2, nI_clamp (by omega)]
        unfold p_take at hf
        rw [hh] at hf
        subst hf
        refine ⟨fun x n1 n2 n3 n4 n5 n6 => ?_, ?_, ?_, ?_, ?_, ?_, ?_⟩ <;> simp (disch := omega) only [q_updn, q_upds]
      generalize p_take (upd f (11 + 8 * v + 7) (f (11 + 8 * v + 7) + nI 1)) v k = f' at *
      obtain ⟨g, gw, gc, go, gs, gi, ga⟩ := hfe f' rfl
      have hz : q_sz f' = q_sz f := by unfold q_sz; rw [g 10 (by omega) (by omega) (by omega) (by omega) (by omega) (by omega)]
      have hn : q_no f' = q_no f := by unfold q_no; rw [g 137 (by omega) (by omega) (by omega) (by omega) (by omega) (by omega)]
      have s4 : a_sum f' 4 = a_sum f 4 + nI 1 := hg_su hz (u := u) (by omega) (fun k hk hne => g _ (by omega) (by omega) (by omega) (by omega) (by omega) (by omega)) gs
      refine ⟨k, u, c, pp, hk, h1, hc, c1, p2, rfl, h2, c2, p4, rfl, ?_, s4, ⟨hz.trans a1, a2, a3⟩, ?_, ?_, ?_, ?_, fun t ht => ?_, fun t ht => ?_, ⟨r, ?_, r2⟩, o, ?_, ?_, ?_⟩
      · rw [gc, c2, pk_sub hc]
      · rw [s4, hg_ou (f := f) hk (fun j hj hne => g _ (by omega) (by omega) (by omega) (by omega) (by omega) (by omega)) go, b]
      · rw [s4, hg_su hz (u := v) (by omega) (fun k hk hne => g _ (by omega) (by omega) (by omega) (by omega) (by omega) (by omega)) gw, hg_sc hz (fun k hk => g _ (by omega) (by omega) (by omega) (by omega) (by omega) (by omega)), c']
        have : ∀ x y z : Int32, x + y + z = x + z + y := by intro x y z; grind
        exact this _ _ _
      · rw [s4, hg_cu (f := f) hk (d := -nI 1) (fun j hj hne => g _ (by omega) (by omega) (by omega) (by omega) (by omega) (by omega)) (by rw [gc, Int32.sub_eq_add_neg]), hg_sc hz (fun k hk => g _ (by omega) (by omega) (by omega) (by omega) (by omega) (by omega)), hg_mc hn (fun k hk => g _ (by omega) (by omega) (by omega) (by omega) (by omega) (by omega)), g 309 (by omega) (by omega) (by omega) (by omega) (by omega) (by omega), d]
        have : ∀ x y z w t n : Int32, x + y + z + w + t = x + -n + y + z + (w + n) + t := by intro x y z w t n; grind
        exact this _ _ _ _ _ _
      · rw [ga, e, p4]
        have : ∀ x y z : Int32, x + y + z = x + z + y := by intro x y z; grind
        exact this _ _ _
      · rw [g _ (by omega) (by omega) (by omega) (by omega) (by omega) (by omega), g _ (by omega) (by omega) (by omega) (by omega) (by omega) (by omega)]
        exact p t ht
      · obtain ⟨x1, x2, y1, y2, y3, y4⟩ := sd t ht
        by_cases tu : t = u
        · subst tu
          rw [gi, gs, y3, y4, nI_add]
          by_cases tv : t = v
          · rw [if_pos tv, nI_add]; exact ⟨_, _, by omega, by omega, rfl, rfl⟩
          · rw [if_neg tv, nI_add]; exact ⟨_, _, by omega, by omega, rfl, rfl⟩
        · rw [g _ (by omega) (by omega) (by omega) (by omega) (by omega) (by omega), g _ (by omega) (by omega) (by omega) (by omega) (by omega) (by omega)]
          exact ⟨x1, x2, y1, by omega, y3, y4⟩
      · rw [g _ (by omega) (by omega) (by omega) (by omega) (by omega) (by omega)]; exact r1
      · unfold q_dy at *; rw [g _ (by omega) (by omega) (by omega) (by omega) (by omega) (by omega)]; exact y
      · rw [ga, p4, hg_addI (by omega) (by omega) (by omega)]; omega
      · rw [ga, p4, hg_addI (by omega) (by omega) (by omega)]; omega
/-- the pairs, summed -/
def hg_prs (m : Nat) (f : q_St) : Int32 := q_sum (fun a => q_sum (fun d => f (q_pr a (a + d))) (m - a)) m
theorem hg_prs_c {f f' : q_St} (h6 : m ≤ 6) (h : ∀ x, 162 ≤ x → x < 306 → f' x = f x) : hg_prs m f' = hg_prs m f := by
  unfold hg_prs
  refine q_sum_c fun a ha => q_sum_c fun d hd => h _ ?_ ?_
  · unfold q_pr; omega
  · unfold q_pr; split <;> omega
theorem hg_prs_u1 {f : q_St} (h6 : m ≤ 6) {a b : Nat} (ha : a ≤ b) (hb : b < m) : hg_prs m (upd f (q_pr a b) (f (q_pr a b) + nI 1)) = hg_prs m f + nI 1 := by
  have e : ∀ x y, x ≤ y → q_pr x y = 162 + (12 * x + y) := by
    intro x y h
    unfold q_pr
    split <;> omega
  unfold hg_prs
  refine hg_sumu (u := a) (by omega) (fun x hx hne => ?_) ?_
  · refine q_sum_c fun d hd => q_updn ?_
    rw [e _ _ (by omega), e _ _ ha]
    omega
  · refine hg_sumu (u := b - a) (by omega) (fun x hx hne => q_updn ?_) ?_
    · rw [e _ _ (by omega), e _ _ ha]
      omega
    · rw [show a + (b - a) = b by omega]
      exact q_upds rfl
theorem hg_prs_u {f : q_St} (h6 : m ≤ 6) {a b : Nat} (ha : a < m) (hb : b < m) : hg_prs m (upd f (q_pr a b) (f (q_pr a b) + nI 1)) = hg_prs m f + nI 1 := by
  rcases Nat.le_total a b with h | h
  · exact hg_prs_u1 h6 h hb
  · rw [q_pr_c a b]
    exact hg_prs_u1 h6 h ha
/-- a pair more changes nothing of the ledger -/
theorem hg_Le_p {f f' : q_St} (hI : q_In f) (h : hg_Le m i j ord acc f) (hf : ∀ x, (x < 162 ∨ 306 ≤ x) → f' x = f x) : hg_Le m i j ord acc f' := by
  have hno := hI.2.1.1
  obtain ⟨⟨a1, a2, a3⟩, b, c, d, e, p, sd, r, o, y, z1, z2⟩ := h
  have hz : q_sz f' = q_sz f := by unfold q_sz; rw [hf 10 (by omega)]
  have hn : q_no f' = q_no f := by unfold q_no; rw [hf 137 (by omega)]
  refine ⟨⟨hz.trans a1, a2, a3⟩, ?_, ?_, ?_, ?_, fun u hu => ?_, fun u hu => ?_, ?_, o, ?_, ?_⟩
  · rw [hg_oc (fun k hk => hf _ (by omega)), hg_sc hz (fun k hk => hf _ (by omega))]; exact b
  · rw [hg_sc hz (fun k hk => hf _ (by omega)), hg_sc hz (fun k hk => hf _ (by omega)), hg_sc hz (fun k hk => hf _ (by omega))]; exact c
  · rw [hg_cc (fun k hk => hf _ (by omega)), hg_sc hz (fun k hk => hf _ (by omega)), hg_sc hz (fun k hk => hf _ (by omega)), hg_mc hn (fun k hk => hf _ (by omega)), hf 309 (by omega)]; exact d
  · rw [hf 310 (by omega)]; exact e
  · rw [hf _ (by omega), hf _ (by omega)]; exact p u hu
  · rw [hf _ (by omega), hf _ (by omega)]; exact sd u hu
  · rw [hf _ (by omega)]; exact r
  · unfold q_dy at *; rw [hf _ (by omega)]; exact y
  · rw [hf _ (by omega)]; exact ⟨z1, z2⟩
theorem hg_sell (hI : q_In f) (hL : hg_Le m i j ord acc f) (hi : i ≤ 36) (hj : j < 100) {v : Nat} (hv : v < m) : (q_sp f v = -1 ∧ (p_sell f (nI v)).1 = nI 100 ∧ hg_Le m i (j + 1) ord acc (p_sell f (nI v)).2) ∨ (∃ k u c p : Nat, k < 10 ∧ u < m ∧ 1 ≤ c ∧ c ≤ 12 ∧ p ≤ 99 ∧ q_sp f v = nI k ∧ f (107 + 3 * k) = nI u ∧ f (107 + 3 * k + 1) = nI c ∧ f (11 + 8 * u + 1) = nI p ∧ (p_sell f (nI v)).1 = nI u ∧ (p_sell f (nI v)).2 (107 + 3 * k + 1) = nI (c - 1) ∧ hg_Le m i (j + 1) ord (acc + nI p) (p_sell f (nI v)).2) := by
  have hsz := hL.1.1
  have h6 := hL.1.2.2
  unfold p_sell
  rw [hg_isv hI (by omega), if_pos rfl, q_cl31 (by omega)]
  dsimp only
  rcases (hg_sells hI hL hi hj hv).2 with ⟨h1, h2, -, h4⟩ | ⟨k, u, c, p, k1, k2, k3, k4, k5, k6, k7, k8, k9, k10, k11, -, k13⟩
  · left
    refine ⟨h1, ?_, h4⟩
    rw [h2, if_pos (by decide)]
  · right
    refine ⟨k, u, c, p, k1, k2, k3, k4, k5, k6, k7, k8, k9, ?_, k11, k13⟩
    rw [k10, if_neg (by rw [q_lt (by omega) (by omega)]; omega)]
theorem hg_accI (hL : hg_Le m i j ord acc f) (hi : i ≤ 36) (hj : j ≤ 100) : acc.toInt = (f 310).toInt + 100000000 ∧ -1000000000 ≤ acc.toInt ∧ acc.toInt ≤ 1000000000 := by
  obtain ⟨-, -, -, -, e, -, -, -, -, -, z1, z2⟩ := hL
  rw [e, hg_addI (by omega) (by omega) (by omega)]
  omega
/-- two who buy -/
theorem hg_two (hI : q_In f) (hL : hg_Le m i j ord acc f) (hi : i ≤ 36) (hj : j < 90) {v w : Nat} (hv : v < m) (hw : w < m) : ∃ many e : Nat, many ≤ 2 ∧ (p_two f (nI v) (nI w)).1 = nI many ∧ a_sum (p_two f (nI v) (nI w)).2 4 = a_sum f 4 + nI many ∧ hg_prs m (p_two f (nI v) (nI w)).2 = (if many = 2 then hg_prs m f + nI 1 else hg_prs m f) ∧ ((q_sp f v = -1 ∧ e = 0) ∨ (∃ k u : Nat, k < 10 ∧ u < m ∧ q_sp f v = nI k ∧ f (107 + 3 * k) = nI u ∧ f (11 + 8 * u + 1) = nI e ∧ 1 ≤ many)) ∧ ∃ acc', hg_Le m i (j + 2) ord acc' (p_two f (nI v) (nI w)).2 ∧ acc + nI e ≤ acc' := by
  have hsz := hL.1.1
  have h6 := hL.1.2.2
  unfold p_two
  rw [hg_isv hI (v := v) (by omega), hg_isv hI (v := w) (by omega), if_pos (by rfl), q_cl31 (by omega), q_cl31 (by omega)]
  obtain ⟨⟨x1, x2⟩, y1⟩ := hg_sells hI hL hi (by omega) hv
  have le1 : ∀ {x y : Int32}, x.toInt ≤ y.toInt → x ≤ y := fun h => Int32.le_iff_toInt_le.mpr h
  have m1 : ((-1 : Int32) < nI 0) = True := by decide
  generalize p_sells f v = q1 at *
  rcases y1 with ⟨h1, h2, h3, h4⟩ | ⟨k, u, c, p, k1, k2, k3, k4, k5, k6, k7, k8, k9, k10, k11, k12, k13⟩
  · obtain ⟨⟨x3, x4⟩, y2⟩ := hg_sells x2 h4 hi (by omega) hw
    generalize p_sells q1.2 w = q2 at *
    have pr : hg_prs m q2.2 = hg_prs m f := (hg_prs_c h6 x3).trans (hg_prs_c h6 x1)
    rcases y2 with ⟨i1, i2, i3, i4⟩ | ⟨k', u', c', p', l1, l2, l3, l4, l5, l6, l7, l8, l9, l10, l11, l12, l13⟩
    · refine ⟨0, 0, by omega, ?_, ?_, ?_, Or.inl ⟨h1, rfl⟩, acc, ?_, ?_⟩
      · rw [h2, i2]; simp only [m1, ite_true]; decide
      · rw [h2, i2]; simp only [m1, or_self, ite_true]; rw [i3, h3, q_a0]
      · rw [h2, i2]; simp only [m1, or_self, ite_true]; rw [if_neg (by decide)]; exact pr
      · rw [h2, i2]; simp only [m1, or_self, ite_true]; exact i4
      · rw [q_a0]; exact Int32.le_refl _
    · have n1 : (nI u' < nI 0) = False := by rw [q_lt (by omega) (by omega)]; exact eq_false (by omega)
      refine ⟨1, 0, by omega, ?_, ?_, ?_, Or.inl ⟨h1, rfl⟩, acc + nI p', ?_, ?_⟩
      · rw [h2, l10]; simp only [m1, n1, ite_true, ite_false]; decide
      · rw [h2, l10]; simp only [m1, n1, true_or, ite_true]; rw [l12, h3]
      · rw [h2, l10]; simp only [m1, n1, true_or, ite_true]; rw [if_neg (by decide)]; exact pr
      · rw [h2, l10]; simp only [m1, n1, true_or, ite_true]; exact l13
      · obtain ⟨b1, b2, b3⟩ := hg_accI h4 hi (by omega)
        rw [q_a0]
        refine le1 ?_
        rw [hg_addI (by omega) (by omega) (by omega)]
        omega
  · have n1 : (nI u < nI 0) = False := by rw [q_lt (by omega) (by omega)]; exact eq_false (by omega)
    obtain ⟨⟨x3, x4⟩, y2⟩ := hg_sells x2 k13 hi (by omega) hw
    generalize p_sells q1.2 w = q2 at *
    have pr : hg_prs m q2.2 = hg_prs m f := (hg_prs_c h6 x3).trans (hg_prs_c h6 x1)
    rcases y2 with ⟨i1, i2, i3, i4⟩ | ⟨k', u', c', p', l1, l2, l3, l4, l5, l6, l7, l8, l9, l10, l11, l12, l13⟩
    · refine ⟨1, p, by omega, ?_, ?_, ?_, Or.inr ⟨k, u, k1, k2, k6, k7, k9, by omega⟩, acc + nI p, ?_, ?_⟩
      · rw [k10, i2]; simp only [m1, n1, ite_true, ite_false]; decide
      · rw [k10, i2]; simp only [m1, n1, or_true, ite_true]; rw [i3, k12]
      · rw [k10, i2]; simp only [m1, n1, or_true, ite_true]; rw [if_neg (by decide)]; exact pr
      · rw [k10, i2]; simp only [m1, n1, or_true, ite_true]; exact i4
      · exact Int32.le_refl _
    · have n2 : (nI u' < nI 0) = False := by rw [q_lt (by omega) (by omega)]; exact eq_false (by omega)
      have pl : ∀ x, (x < 162 ∨ 306 ≤ x) → upd q2.2 (q_pr u u') (q2.2 (q_pr u u') + nI 1) x = q2.2 x := fun x hx => q_updn (by unfold q_pr; split <;> omega)
      have L2 := hg_Le_p x4 l13 pl
      have z4 : q_sz q2.2 = m := l13.1.1
      refine ⟨2, p, by omega, ?_, ?_, ?_, Or.inr ⟨k, u, k1, k2, k6, k7, k9, by omega⟩, acc + nI p + nI p', ?_, ?_⟩
      · rw [k10, l10]; simp only [n1, n2, ite_false]; decide
      · rw [k10, l10]; simp only [n1, n2, or_self, ite_false]; rw [q_cl31 (by omega), q_cl31 (by omega), hg_sc (by unfold q_sz; rw [pl 10 (by omega)]) (fun t ht => pl _ (by omega)), l12, k12, Int32.add_assoc]; rfl
      · rw [k10, l10]; simp only [n1, n2, or_self, ite_false]; rw [q_cl31 (by omega), q_cl31 (by omega), if_pos trivial, hg_prs_u h6 k2 l2, pr]
      · rw [k10, l10]; simp only [n1, n2, or_self, ite_false]; rw [q_cl31 (by omega), q_cl31 (by omega)]; exact L2
      · obtain ⟨b1, b2, b3⟩ := hg_accI k13 hi (by omega)
        refine le1 ?_
        have b4 := hg_addI (x := acc + nI p) (t := p') (by omega) (by omega) (by omega)
        omega
end
