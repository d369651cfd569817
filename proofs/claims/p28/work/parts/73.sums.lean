/-! p28: sums of the row -/
theorem hg_sumu {F F' : Nat → Int32} {n u : Nat} {d : Int32} (hu : u < n) (h : ∀ v, v < n → v ≠ u → F' v = F v) (hd : F' u = F u + d) : q_sum F' n = q_sum F n + d := by
  have e : q_sum F' n = q_sum (fun v => F v + (F' v - F v)) n := q_sum_c fun j _ => by
    have : ∀ x y : Int32, x = y + (x - y) := by intro x y; grind
    exact this _ _
  rw [e, q_sum_ad]
  congr 1
  rw [q_sum_1 (F := fun v => F' v - F v) hu (fun v hv hne => by rw [h v hv hne, Int32.sub_self, nI_0])]
  have : ∀ x y : Int32, x + y - x = y := by intro x y; grind
  rw [hd, this]
def hg_sN (G : Nat → Nat) : Nat → Nat
  | 0 => 0
  | n + 1 => hg_sN G n + G n
theorem hg_sumN {F : Nat → Int32} {G : Nat → Nat} {n : Nat} (h : ∀ k, k < n → F k = nI (G k)) : q_sum F n = nI (hg_sN G n) := by
  induction n with
  | zero => rfl
  | succ n ih =>
    show q_sum F n + F n = nI (hg_sN G n + G n)
    rw [ih (fun k hk => h k (by omega)), h n (by omega), nI_add]
theorem hg_sNm {G : Nat → Nat} {n k : Nat} (h : k < n) : G k ≤ hg_sN G n := by
  induction n with
  | zero => omega
  | succ n ih =>
    show G k ≤ hg_sN G n + G n
    by_cases e : k = n
    · subst e; omega
    · have := ih (by omega); omega
theorem hg_sNb {G : Nat → Nat} {n B : Nat} (h : ∀ k, k < n → G k ≤ B) : hg_sN G n ≤ B * n := by
  induction n with
  | zero => exact Nat.zero_le _
  | succ n ih =>
    show hg_sN G n + G n ≤ B * (n + 1)
    have h1 := ih (fun k hk => h k (by omega))
    have h2 := h n (by omega)
    rw [Nat.mul_add, Nat.mul_one]
    omega
theorem hg_cl {x : Int32} {c B : Nat} (h : x = nI c) (hc : c ≤ B) (hB : B < 2147483648) : x = nI x.toNatClampNeg ∧ x.toNatClampNeg ≤ B := by
  subst h
  rw [nI_clamp (by omega)]
  exact ⟨rfl, hc⟩
theorem hg_addI {x : Int32} {t : Nat} (h1 : -1500000000 ≤ x.toInt) (h2 : x.toInt + t < 2000000000) (h3 : t < 2147483648) : (x + nI t).toInt = x.toInt + t := by
  rw [Int32.toInt_add, nI_toInt (by omega)]
  exact Int.bmod_eq_of_le (by omega) (by omega)
theorem hg_subI {x : Int32} {t : Nat} (h1 : -1500000000 ≤ x.toInt - t) (h2 : x.toInt < 2000000000) (h3 : t < 2147483648) : (x - nI t).toInt = x.toInt - t := by
  rw [Int32.toInt_sub, nI_toInt (by omega)]
  exact Int.bmod_eq_of_le (by omega) (by omega)
def hg_card (f : q_St) : Int32 := q_sum (fun k => f (107 + 3 * k + 1)) 10
def hg_outs (f : q_St) : Int32 := q_sum (fun k => f (107 + 3 * k + 2)) 10
def hg_amts (f : q_St) : Int32 := q_sum (fun k => f (138 + 3 * k + 1)) (q_no f)
section
variable {f f' : q_St} {u k w : Nat} {d : Int32}
theorem hg_sc (hz : q_sz f' = q_sz f) (h : ∀ v, v < q_sz f → f' (11 + 8 * v + w) = f (11 + 8 * v + w)) : a_sum f' w = a_sum f w := by
  unfold a_sum
  rw [hz]
  exact q_sum_c h
theorem hg_su (hz : q_sz f' = q_sz f) (hu : u < q_sz f) (h : ∀ v, v < q_sz f → v ≠ u → f' (11 + 8 * v + w) = f (11 + 8 * v + w)) (hd : f' (11 + 8 * u + w) = f (11 + 8 * u + w) + d) : a_sum f' w = a_sum f w + d := by
  unfold a_sum
  rw [hz]
  exact hg_sumu hu h hd
theorem hg_cc (h : ∀ k, k < 10 → f' (107 + 3 * k + 1) = f (107 + 3 * k + 1)) : hg_card f' = hg_card f := q_sum_c h
theorem hg_cu (hk : k < 10) (h : ∀ j, j < 10 → j ≠ k → f' (107 + 3 * j + 1) = f (107 + 3 * j + 1)) (hd : f' (107 + 3 * k + 1) = f (107 + 3 * k + 1) + d) : hg_card f' = hg_card f + d := hg_sumu hk h hd
theorem hg_oc (h : ∀ k, k < 10 → f' (107 + 3 * k + 2) = f (107 + 3 * k + 2)) : hg_outs f' = hg_outs f := q_sum_c h
theorem hg_ou (hk : k < 10) (h : ∀ j, j < 10 → j ≠ k → f' (107 + 3 * j + 2) = f (107 + 3 * j + 2)) (hd : f' (107 + 3 * k + 2) = f (107 + 3 * k + 2) + d) : hg_outs f' = hg_outs f + d := hg_sumu hk h hd
theorem hg_mc (hz : q_no f' = q_no f) (h : ∀ k, k < q_no f → f' (138 + 3 * k + 1) = f (138 + 3 * k + 1)) : hg_amts f' = hg_amts f := by
  unfold hg_amts
  rw [hz]
  exact q_sum_c h
theorem hg_ms (hz : q_no f' = q_no f + 1) (h : ∀ k, k < q_no f → f' (138 + 3 * k + 1) = f (138 + 3 * k + 1)) (hd : f' (138 + 3 * q_no f + 1) = d) : hg_amts f' = hg_amts f + d := by
  unfold hg_amts
  rw [hz]
  show q_sum (fun k => f' (138 + 3 * k + 1)) (q_no f) + f' (138 + 3 * q_no f + 1) = _
  rw [q_sum_c h, hd]
end
/-- the prices -/
def hg_Pr (m : Nat) (f : q_St) : Prop := ∀ v, v < m → ∃ p c : Nat, 1 ≤ p ∧ p ≤ 99 ∧ c ≤ 99 ∧ f (11 + 8 * v + 1) = nI p ∧ f (11 + 8 * v + 2) = nI c
/-- what was sold, and instead of what was wanted -/
def hg_Sd (m j : Nat) (f : q_St) : Prop := ∀ v, v < m → ∃ a b : Nat, a ≤ b ∧ b ≤ j ∧ f (11 + 8 * v + 5) = nI a ∧ f (11 + 8 * v + 4) = nI b
/-- the ledger: m verses, i turns, j sales at most; ordered and account as told -/
def hg_Le (m i j : Nat) (ord acc : Int32) (f : q_St) : Prop := (q_sz f = m ∧ 2 ≤ m ∧ m ≤ 6) ∧ hg_outs f = a_sum f 4 ∧ a_sum f 7 = a_sum f 4 + a_sum f 6 ∧ ord = hg_card f + a_sum f 3 + hg_amts f + a_sum f 4 + f 309 ∧ acc = f 310 + nI 100000000 ∧ hg_Pr m f ∧ hg_Sd m j f ∧ (∃ r : Nat, f 309 = nI r ∧ r ≤ 65000 * i) ∧ (∃ o : Nat, ord = nI o ∧ o ≤ 60 * i) ∧ q_dy f ≤ 9 * i ∧ -(20000000 * (i : Int) + 100 * j) ≤ (f 310).toInt ∧ (f 310).toInt ≤ 20000000 * (i : Int) + 100 * j
theorem hg_Le_l {m i j i' j' : Nat} {ord acc : Int32} {f : q_St} (h : hg_Le m i j ord acc f) (hi : i ≤ i') (hj : j ≤ j') : hg_Le m i' j' ord acc f := by
  obtain ⟨a, b, c, d, e, p, s, ⟨r, r1, r2⟩, ⟨o, o1, o2⟩, y, z1, z2⟩ := h
  refine ⟨a, b, c, d, e, p, fun v hv => ?_, ⟨r, r1, by omega⟩, ⟨o, o1, by omega⟩, by omega, by omega, by omega⟩
  obtain ⟨x, w, h1, h2, h3⟩ := s v hv
  exact ⟨x, w, h1, by omega, h3⟩
theorem hg_ow_b {f : q_St} {v : Nat} : ∀ n, q_owN f v n ≤ hg_sN (fun k => (f (138 + 3 * k + 1)).toNatClampNeg) n := by
  intro n
  induction n with
  | zero => exact Nat.le_refl _
  | succ n ih =>
    show q_owN f v n + _ ≤ hg_sN _ n + (f (138 + 3 * n + 1)).toNatClampNeg
    split <;> omega
/-- no card is counted twice: what is in the back room, on its way and in a slot is no more than what was ordered -/
theorem hg_Bd {m i j : Nat} {ord acc : Int32} {f : q_St} (hI : q_In f) (hL : hg_Le m i j ord acc f) (hi : i ≤ 36) (hj : j ≤ 100) : ∀ v, v < m → ∃ s : Nat, f (11 + 8 * v + 3) = nI s ∧ s + q_owN f v (q_no f) ≤ 60 * i ∧ ∀ k, k < 10 → ∃ c : Nat, c ≤ 12 ∧ f (107 + 3 * k + 1) = nI c ∧ s + q_owN f v (q_no f) + c ≤ 60 * i := by
  obtain ⟨⟨a1, a2, a3⟩, -, -, d, -, -, s, ⟨r, r1, r2⟩, ⟨o, o1, o2⟩, -⟩ := hL
  have hno := hI.2.1.1
  have gc : ∀ k, k < 10 → f (107 + 3 * k + 1) = nI (f (107 + 3 * k + 1)).toNatClampNeg ∧ (f (107 + 3 * k + 1)).toNatClampNeg ≤ 12 := fun k hk => by
    obtain ⟨c, c1, c2⟩ := hI.2.2.2.2.2.2.2.2.1 k hk
    exact hg_cl c2 c1 (by omega)
  have gb : ∀ v, v < m → f (11 + 8 * v + 3) = nI (f (11 + 8 * v + 3)).toNatClampNeg ∧ (f (11 + 8 * v + 3)).toNatClampNeg ≤ 9999 := fun v hv => by
    obtain ⟨t, t1, t2⟩ := hI.2.2.2.2.2.2.2.2.2.2.2.2.2.1 v (by omega)
    exact hg_cl t1 (show t ≤ 9999 by omega) (by omega)
  have ga : ∀ k, k < q_no f → f (138 + 3 * k + 1) = nI (f (138 + 3 * k + 1)).toNatClampNeg ∧ (f (138 + 3 * k + 1)).toNatClampNeg ≤ 999 := fun k hk => by
    obtain ⟨c, -, c1, c2⟩ := hI.2.2.2.2.2.2.2.2.2.2.2.2.1 k hk
    exact hg_cl c2 c1 (by omega)
  have gs : ∀ v, v < m → f (11 + 8 * v + 4) = nI (f (11 + 8 * v + 4)).toNatClampNeg ∧ (f (11 + 8 * v + 4)).toNatClampNeg ≤ 100 := fun v hv => by
    obtain ⟨x, y, h1, h2, h3, h4⟩ := s v hv
    exact hg_cl h4 (show y ≤ 100 by omega) (by omega)
  have e1 : hg_card f = nI (hg_sN (fun k => (f (107 + 3 * k + 1)).toNatClampNeg) 10) := hg_sumN fun k hk => (gc k hk).1
  have e2 : a_sum f 3 = nI (hg_sN (fun v => (f (11 + 8 * v + 3)).toNatClampNeg) m) := by unfold a_sum; rw [a1]; exact hg_sumN fun k hk => (gb k hk).1
  have e3 : hg_amts f = nI (hg_sN (fun k => (f (138 + 3 * k + 1)).toNatClampNeg) (q_no f)) := hg_sumN fun k hk => (ga k hk).1
  have e4 : a_sum f 4 = nI (hg_sN (fun v => (f (11 + 8 * v + 4)).toNatClampNeg) m) := by unfold a_sum; rw [a1]; exact hg_sumN fun k hk => (gs k hk).1
  have b1 := hg_sNb (G := fun k => (f (107 + 3 * k + 1)).toNatClampNeg) (n := 10) (B := 12) fun k hk => (gc k hk).2
  have b2 := hg_sNb (G := fun v => (f (11 + 8 * v + 3)).toNatClampNeg) (n := m) (B := 9999) fun k hk => (gb k hk).2
  have b3 := hg_sNb (G := fun k => (f (138 + 3 * k + 1)).toNatClampNeg) (n := q_no f) (B := 999) fun k hk => (ga k hk).2
  have b4 := hg_sNb (G := fun v => (f (11 + 8 * v + 4)).toNatClampNeg) (n := m) (B := 100) fun k hk => (gs k hk).2
  rw [o1, e1, e2, e3, e4, r1, nI_add, nI_add, nI_add, nI_add, q_eqn (by omega) (by omega)] at d
  intro v hv
  have v1 := hg_sNm (G := fun v => (f (11 + 8 * v + 3)).toNatClampNeg) hv
  have v2 := hg_ow_b (f := f) (v := v) (q_no f)
  try dsimp only at v1
  refine ⟨_, (gb v hv).1, by omega, fun k hk => ⟨_, (gc k hk).2, (gc k hk).1, ?_⟩⟩
  have v3 := hg_sNm (G := fun k => (f (107 + 3 * k + 1)).toNatClampNeg) hk
  try dsimp only at v3
  omega
