/-! how often verses are wanted: no call adds more than 60 -/
def q_Wn (d : Nat) (f f' : q_St) : Prop := ∀ v, v < 12 → ∃ e : Nat, e ≤ d ∧ f' (11 + 8 * v + 7) = f (11 + 8 * v + 7) + nI e
def q_Wb (w : Nat) (f : q_St) : Prop := ∀ v, v < 12 → ∃ x : Nat, x ≤ w ∧ f (11 + 8 * v + 7) = nI x
theorem w_r (f : q_St) : q_Wn 0 f f := fun v _ => ⟨0, Nat.le_refl _, (q_a0 _).symm⟩
theorem w_e {f f' : q_St} (h : ∀ v, v < 12 → f' (11 + 8 * v + 7) = f (11 + 8 * v + 7)) : q_Wn 0 f f' := fun v hv => ⟨0, Nat.le_refl _, by rw [q_a0]; exact h v hv⟩
theorem w_t {a b : Nat} {f g h : q_St} (h1 : q_Wn a f g) (h2 : q_Wn b g h) : q_Wn (a + b) f h := fun v hv => by
  obtain ⟨e, e1, e2⟩ := h1 v hv
  obtain ⟨k, k1, k2⟩ := h2 v hv
  exact ⟨e + k, by omega, by rw [k2, e2, Int32.add_assoc, nI_add]⟩
theorem w_l {a b : Nat} {f g : q_St} (h : q_Wn a f g) (hab : a ≤ b) : q_Wn b f g := fun v hv => by
  obtain ⟨e, e1, e2⟩ := h v hv
  exact ⟨e, by omega, e2⟩
theorem w_u {d : Nat} {f g : q_St} (h : q_Wn d f g) {i : Nat} (x : Int32) (hi : ∀ v, v < 12 → 11 + 8 * v + 7 ≠ i) : q_Wn d f (upd g i x) := fun v hv => by
  obtain ⟨e, e1, e2⟩ := h v hv
  exact ⟨e, e1, by rw [q_updn (hi v hv)]; exact e2⟩
theorem w_b {w d : Nat} {f f' : q_St} (h : q_Wb w f) (hn : q_Wn d f f') : q_Wb (w + d) f' := fun v hv => by
  obtain ⟨x, x1, x2⟩ := h v hv
  obtain ⟨e, e1, e2⟩ := hn v hv
  exact ⟨x + e, by omega, by rw [e2, x2, nI_add]⟩
theorem w_take (f : q_St) (v k : Nat) : q_Wn 0 f (p_take f v k) := by
  unfold p_take
  exact w_u (w_u (w_u (w_u (w_u (w_r f) _ (by intro v hv; omega)) _ (by intro v hv; omega)) _ (by intro v hv; omega)) _ (by intro v hv; omega)) _ (by intro v hv; omega)
theorem w_want (f : q_St) (v : Nat) : q_Wn 1 f (upd f (11 + 8 * v + 7) (f (11 + 8 * v + 7) + nI 1)) := fun u hu => by
  by_cases c : u = v
  · subst c
    exact ⟨1, Nat.le_refl _, q_upds rfl⟩
  · exact ⟨0, by omega, by rw [q_updn (by omega), q_a0]⟩
theorem w_sells (f : q_St) (v : Nat) : q_Wn 1 f (p_sells f v).2 := by
  unfold p_sells
  split
  · exact w_u (w_want f v) _ (by intro v hv; omega)
  · exact w_t (w_want f v) (w_take _ _ _)
theorem w_sell (f : q_St) (x : Int32) : q_Wn 1 f (p_sell f x).2 := by
  unfold p_sell
  split
  · have h := w_sells f x.toNatClampNeg
    generalize p_sells f x.toNatClampNeg = s at *
    obtain ⟨s1, s2⟩ := s
    exact h
  · exact w_l (w_r f) (by omega)
theorem w_verse (f : q_St) (x y z : Int32) : q_Wn 0 f (p_verse f x y z).2 := by
  unfold p_verse
  split
  · split
    · exact w_r f
    · exact w_u (w_u (w_u (w_u (w_r f) _ (by intro v hv; omega)) _ (by intro v hv; omega)) _ (by intro v hv; omega)) _ (by intro v hv; omega)
  · exact w_r f
theorem w_order (f : q_St) (x y : Int32) : q_Wn 0 f (p_order f x y).2 := by
  unfold p_order
  split
  · split
    · exact w_r f
    · dsimp only
      split
      · exact w_u (w_u (w_r f) _ (by intro v hv; omega)) _ (by intro v hv; omega)
      · exact w_u (w_u (w_u (w_u (w_u (w_r f) _ (by intro v hv; omega)) _ (by intro v hv; omega)) _ (by intro v hv; omega)) _ (by intro v hv; omega)) _ (by intro v hv; omega)
  · exact w_r f
theorem w_lay (f : q_St) (x y z : Int32) : q_Wn 0 f (p_lay f x y z).2 := by
  unfold p_lay
  split
  · split
    · exact w_r f
    · split
      · exact w_r f
      · exact w_u (w_u (w_u (w_r f) _ (by intro v hv; omega)) _ (by intro v hv; omega)) _ (by intro v hv; omega)
  · exact w_r f
theorem w_clear (f : q_St) (x : Int32) : q_Wn 0 f (p_clear f x).2 := by
  unfold p_clear
  split
  · split
    · exact w_r f
    · split
      · exact w_r f
      · exact w_u (w_u (w_u (w_r f) _ (by intro v hv; omega)) _ (by intro v hv; omega)) _ (by intro v hv; omega)
  · exact w_r f
theorem w_season (f : q_St) (x y z : Int32) : q_Wn 0 f (p_season f x y z).2 := by
  unfold p_season
  split
  · rename_i hc
    have e1 : q_ir 0 4 x = true := by
      simp only [Bool.and_eq_true] at hc
      exact hc.1
    obtain ⟨o, -, o1, -, o3⟩ := q_lo (lo := 0) (n := 4) e1 (by omega)
    rw [o3]
    exact w_u (w_u (w_r f) _ (by intro v hv; omega)) _ (by intro v hv; omega)
  · exact w_r f
theorem w_set (f : q_St) (x y : Int32) : q_Wn 0 f (p_set f x y).2 := by
  unfold p_set
  by_cases hc : (q_ir 0 1 x && q_ir 0 (if x = nI 0 then 30 else 100) y) = true
  · rw [if_pos hc]
    exact w_u (w_r f) _ (by intro v hv; omega)
  · rw [if_neg hc]
    exact w_r f
theorem w_two {f : q_St} (hI : q_In f) (x y : Int32) : q_Wn 2 f (p_two f x y).2 := by
  unfold p_two
  split
  · rename_i hc
    obtain ⟨e1, e2⟩ : q_isv f x = true ∧ q_isv f y = true := by simpa only [Bool.and_eq_true] using hc
    obtain ⟨v, v1, -, v3⟩ := q_isv_lo hI e1
    obtain ⟨u, u1, -, u3⟩ := q_isv_lo hI e2
    rw [v3, u3]
    obtain ⟨I1, z1, r1⟩ := p_sells_In hI v1
    obtain ⟨I2, z2, r2⟩ := p_sells_In I1 (v := u) (by omega)
    have h12 := hI.1.1
    have w2 := w_t (w_sells f v) (w_sells (p_sells f v).2 u)
    dsimp only
    split
    · exact w2
    · rename_i hn
      refine w_u w2 _ fun k hk => ?_
      rcases r1 with h | ⟨a, a1, a2⟩
      · exact absurd (Or.inl (by rw [h]; decide)) hn
      · rcases r2 with h | ⟨b, b1, b2⟩
        · exact absurd (Or.inr (by rw [h]; decide)) hn
        · rw [a2, b2, nI_clamp (by omega), nI_clamp (by omega)]
          have := q_pr_b (i := a) (j := b) (by omega) (by omega)
          omega
  · exact w_l (w_r f) (by omega)
theorem w_gb (f : q_St) : ∀ n, q_Wn 0 f (p_gb f n).2 := by
  intro n
  induction n with
  | zero => exact w_r f
  | succ n ih =>
    refine w_t (b := 0) ih ?_
    show q_Wn 0 (p_gb f n).2 (p_gb1 (p_gb f n).2 n).2
    unfold p_gb1
    split
    · exact w_r _
    · refine w_e fun v hv => ?_
      dsimp only [q_emp]
      rw [if_neg (by omega), q_updn (by omega), q_updn (by omega)]
theorem w_give (f : q_St) : q_Wn 0 f (p_give f).2 := by
  unfold p_give
  split
  · exact w_r f
  · exact w_u (w_gb f _) _ (by intro v hv; omega)
theorem w_pass {f : q_St} (hI : q_In f) (x : Int32) : q_Wn 0 f (p_pass f x).2 := by
  have hd := hI.2.2.2.1
  unfold p_pass
  split
  · rename_i e1
    obtain ⟨n, n0, n1, rfl, n3⟩ := q_lo (lo := 1) (n := 99) e1 (by omega)
    split
    · exact w_r f
    · rename_i c
      rw [hd.2, nI_add, q_lt (by omega) (by omega)] at c
      obtain ⟨p1, p2, p3, p4, p5, p6, p7⟩ := p_days_l (q_In_Io hI) hd.2 n (by omega)
      rw [n3]
      refine w_e fun v hv => p4 _ (by intro u hu; omega) (by omega) (by omega)
  · exact w_r f
theorem w_does {f : q_St} (hI : q_In f) (s a b c : Int32) : q_Wn 1 f (p_does f s a b c).2 := by
  unfold p_does
  split
  · exact w_l (w_lay f a b c) (by omega)
  · split
    · exact w_l (w_order f a b) (by omega)
    · split
      · exact w_sell f a
      · split
        · exact w_l (w_verse f a b c) (by omega)
        · exact w_l (w_pass hI a) (by omega)
theorem w_go (t : Nat → Int32) (n : Nat) : ∀ k p c f, q_In f → q_Wn k f (p_go t n k p c f).2.2 := by
  intro k
  induction k with
  | zero => intro p c f _; exact w_r f
  | succ k ih =>
    intro p c f hI
    unfold p_go
    split
    · split
      · have w1 : q_Wn 1 f (p_at t n p f).2 := w_does hI _ _ _ _
        split
        · exact w_l w1 (by omega)
        · rename_i he
          rcases q_pt_ok (t := t) (n := n) (p := p) hI with ⟨ok1, -⟩ | ⟨v, v1, -, ok2⟩
          · exact absurd (q_er_lt ok1) he
          · rw [Nat.add_comm]
            exact w_t w1 (ih _ _ _ ok2)
      · exact w_l (w_r f) (by omega)
    · exact w_l (w_r f) (by omega)
theorem w_play {f : q_St} (hI : q_In f) (t : Nat → Int32) (n : Nat) : q_Wn 60 f (p_play t n f).2 := by
  unfold p_play
  split
  · exact w_go t n 60 0 0 f hI
  · exact w_l (w_r f) (by omega)
