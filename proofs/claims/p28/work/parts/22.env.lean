/-! rows that simp takes while it runs code -/
theorem q_cl31 {n : Nat} (h : n < 2147483648) : (nI n).toNatClampNeg = n := nI_clamp h
theorem q_vin {n N : Nat} (h : n < N) (hN : N < 2147483648) : vp_in (nI n) N = True := eq_true (vp_in_nI h hN)
theorem q_le {a b : Nat} (ha : a < 2147483648) (hb : b < 2147483648) : (nI a ≤ nI b) = (a ≤ b) := propext (nI_leI ha hb)
theorem q_lt {a b : Nat} (ha : a < 2147483648) (hb : b < 2147483648) : (nI a < nI b) = (a < b) := propext (nI_ltI ha hb)
theorem q_eqn {a b : Nat} (ha : a < 2147483648) (hb : b < 2147483648) : (nI a = nI b) = (a = b) := propext (nI_eq ha hb)
theorem q_or1 : ((2 : Nat) = 1 ∨ (2 : Nat) = 2) = True := eq_true (Or.inr rfl)
theorem q_or2 : ((1 : Nat) = 1 ∨ (1 : Nat) = 2) = True := eq_true (Or.inl rfl)
theorem q_upg (g : q_G) (a i : Nat) (v : Int32) (b j : Nat) : q_up g a i v b j = if b = a ∧ j = i then v else g b j := by
  unfold q_up q_upA upd
  by_cases h : b = a
  · subst h; by_cases h2 : j = i <;> simp [h2]
  · simp [h]
/-- in a range -/
def q_ir (lo hi : Int) (x : Int32) : Bool := decide (lo ≤ x.toInt) && decide (x.toInt ≤ hi)
theorem q_ir_n {lo hi : Int} {x : Int32} (h : q_ir lo hi x = true) : lo ≤ x.toInt ∧ x.toInt ≤ hi := by
  unfold q_ir at h
  simpa using h
theorem q_ir_j {lo n : Nat} {x : Int32} (h : q_ir lo n x = true) (hn : n < 2147483648) : ∃ j : Nat, lo ≤ j ∧ j ≤ n ∧ x = nI j := by
  have h := q_ir_n h
  refine ⟨x.toInt.toNat, by omega, by omega, ?_⟩
  apply Int32.toInt_inj.mp
  rw [nI_toInt (by omega)]
  omega
theorem q_ir_nI {lo hi : Int} {n : Nat} (h : n < 2147483648) : q_ir lo hi (nI n) = (decide (lo ≤ (n : Int)) && decide ((n : Int) ≤ hi)) := by
  unfold q_ir
  rw [nI_toInt h]
/-! the objects of a State, one behind the other -/
def q_CalB (E : q_E) (c : Nat) : Prop := q_kd E c = (4, 3) ∧ q_rf E c 1 = c + 1 ∧ q_rf E c 2 = c + 2 ∧ q_kd E (c + 1) = (2, 5) ∧ q_kd E (c + 2) = (2, 5)
def q_VerB (E : q_E) (v : Nat) : Prop := q_kd E v = (11, 9) ∧ (q_rf E v 1 = v + 1 ∧ q_rf E v 2 = v + 2 ∧ q_rf E v 3 = v + 3 ∧ q_rf E v 4 = v + 4 ∧ q_rf E v 5 = v + 5 ∧ q_rf E v 6 = v + 6 ∧ q_rf E v 7 = v + 7 ∧ q_rf E v 8 = v + 8) ∧ q_kd E (v + 1) = (2, 12) ∧ q_kd E (v + 2) = (2, 12) ∧ q_kd E (v + 3) = (2, 12) ∧ q_kd E (v + 4) = (2, 12) ∧ q_kd E (v + 5) = (2, 12) ∧ q_kd E (v + 6) = (2, 12) ∧ q_kd E (v + 7) = (2, 12) ∧ q_kd E (v + 8) = (2, 12)
def q_PaiB (E : q_E) (p : Nat) : Prop := q_kd E p = (6, 1) ∧ q_rf E p 0 = p + 1 ∧ q_kd E (p + 1) = (2, 144)
def q_RacB (E : q_E) (r : Nat) : Prop := q_kd E r = (7, 3) ∧ q_rf E r 0 = r + 1 ∧ q_rf E r 1 = r + 2 ∧ q_rf E r 2 = r + 3 ∧ q_kd E (r + 1) = (2, 10) ∧ q_kd E (r + 2) = (2, 10) ∧ q_kd E (r + 3) = (2, 10)
def q_DelB (E : q_E) (d : Nat) : Prop := q_kd E d = (5, 4) ∧ q_rf E d 1 = d + 1 ∧ q_rf E d 2 = d + 2 ∧ q_rf E d 3 = d + 3 ∧ q_kd E (d + 1) = (2, 8) ∧ q_kd E (d + 2) = (2, 8) ∧ q_kd E (d + 3) = (2, 8)
def q_StaB (E : q_E) (B : Nat) : Prop := q_kd E B = (9, 9) ∧ (q_rf E B 0 = B + 1 ∧ q_rf E B 1 = B + 4 ∧ q_rf E B 2 = B + 13 ∧ q_rf E B 3 = B + 15 ∧ q_rf E B 4 = B + 19) ∧ q_CalB E (B + 1) ∧ q_VerB E (B + 4) ∧ q_PaiB E (B + 13) ∧ q_RacB E (B + 15) ∧ q_DelB E (B + 19)
theorem q_toI {n : Nat} (h : n < 2147483648) : (nI n).toInt = (n : Int) := nI_toInt h
theorem q_ups (g : q_G) (a i : Nat) (v : Int32) (j : Nat) : q_up g a i v a j = if j = i then v else g a j := by rw [q_upg]; simp
theorem q_upn {g : q_G} {a i : Nat} {v : Int32} {b j : Nat} (h : ¬ b = a) : q_up g a i v b j = g b j := by rw [q_upg]; simp [h]
theorem q_upm {g : q_G} {a i : Nat} {v : Int32} {b j : Nat} (h : ¬ j = i) : q_up g a i v b j = g b j := by rw [q_upg]; simp [h]
theorem q_upe {g : q_G} {a i : Nat} {v : Int32} {b j : Nat} (h : b = a) (h2 : j = i) : q_up g a i v b j = v := by rw [q_upg]; simp [h, h2]
theorem q_upf {g : q_G} {a i : Nat} {v : Int32} {b : Nat} (h : ¬ b = a) : q_up g a i v b = g b := funext fun j => q_upn h
theorem q_updn {f : Nat → Int32} {k : Nat} {x : Int32} {j : Nat} (h : ¬ j = k) : upd f k x j = f j := if_neg h
theorem q_upds {f : Nat → Int32} {k : Nat} {x : Int32} {j : Nat} (h : j = k) : upd f k x j = x := if_pos h
theorem q_irQ {F : Int32 → Prop} {v lo hi : Int32} : (if v < lo then F (nI 0) else if hi < v then F (nI 0) else F (nI 1)) = F (q_b (q_ir lo.toInt hi.toInt v)) := by
  unfold q_ir
  simp only [Int32.lt_iff_toInt_lt]
  by_cases h1 : v.toInt < lo.toInt
  · rw [if_pos h1, show decide (lo.toInt ≤ v.toInt) = false from decide_eq_false (by omega)]; rfl
  · rw [if_neg h1, show decide (lo.toInt ≤ v.toInt) = true from decide_eq_true (by omega)]
    by_cases h2 : hi.toInt < v.toInt
    · rw [if_pos h2, show decide (v.toInt ≤ hi.toInt) = false from decide_eq_false (by omega)]; rfl
    · rw [if_neg h2, show decide (v.toInt ≤ hi.toInt) = true from decide_eq_true (by omega)]; rfl
theorem q_irR {F : Int32 → Prop} {v : Int32} {m : Nat} (hm : m < 2147483648) : (if v < nI 0 then F (nI 0) else if nI m ≤ v then F (nI 0) else F (nI 1)) = F (q_b (q_ir 0 ((m : Int) - 1) v)) := by
  unfold q_ir
  simp only [Int32.lt_iff_toInt_lt, Int32.le_iff_toInt_le, q_toI hm, q_toI (show 0 < 2147483648 by decide)]
  by_cases h1 : v.toInt < ((0 : Nat) : Int)
  · rw [if_pos h1, show decide ((0 : Int) ≤ v.toInt) = false from decide_eq_false (by omega)]; rfl
  · rw [if_neg h1, show decide ((0 : Int) ≤ v.toInt) = true from decide_eq_true (by omega)]
    by_cases h2 : (m : Int) ≤ v.toInt
    · rw [if_pos h2, show decide (v.toInt ≤ (m : Int) - 1) = false from decide_eq_false (by omega)]; rfl
    · rw [if_neg h2, show decide (v.toInt ≤ (m : Int) - 1) = true from decide_eq_true (by omega)]; rfl
/-- a loop: what holds at one turn's head is what holds at the next -/
theorem q_loop {N : Nat} {P : Nat → Prop} (h : ∀ j, j < N → P j = P (j + 1)) : P 0 = P N := by
  induction N with
  | zero => rfl
  | succ n ih => rw [ih (fun j hj => h j (by omega))]; exact h n (by omega)
def q_sum (F : Nat → Int32) : Nat → Int32
  | 0 => nI 0
  | n + 1 => q_sum F n + F n
theorem q_a0 (x : Int32) : x + nI 0 = x := by rw [nI_0, Int32.add_zero]
theorem q_sum_c {F G : Nat → Int32} {n : Nat} (h : ∀ j, j < n → F j = G j) : q_sum F n = q_sum G n := by
  induction n with
  | zero => rfl
  | succ n ih =>
    show q_sum F n + F n = q_sum G n + G n
    rw [ih (fun j hj => h j (by omega)), h n (by omega)]
/-- the first of d places from j on where p is so; -1 if there is none -/
def q_fi (p : Nat → Bool) : Nat → Nat → Int32
  | 0, _ => -1
  | d + 1, j => if p j = true then nI j else q_fi p d (j + 1)
/-- the greatest w over the places where p is so, and the first place that has it (-1, -1 at first) -/
def q_mx (p : Nat → Bool) (w : Nat → Int32) (b0 m0 : Int32) : Nat → Int32 × Int32
  | 0 => (b0, m0)
  | n + 1 => if p n = true ∧ (q_mx p w b0 m0 n).2 < w n then (nI n, w n) else q_mx p w b0 m0 n
/-- which slots are beside each other -/
def q_bs (k j : Nat) : Bool := decide (k + 5 = j ∨ j + 5 = k ∨ ((k + 1 = j ∨ j + 1 = k) ∧ k / 5 = j / 5))
theorem q_bs_m : ∀ k, k < 10 → ∀ j, j < 10 → (((q_bes k >>> (nI j &&& 31)) &&& nI 1) = nI 1) = (q_bs k j = true) := by
  have h : ∀ k, k < 10 → ∀ j, j < 10 → decide (((q_bes k >>> (nI j &&& 31)) &&& nI 1) = nI 1) = q_bs k j := by decide +kernel
  intro k hk j hj
  rw [← h k hk j hj]
  simp
theorem q_c0 : ((0 : Nat) : Int) = 0 := rfl
theorem q_c1 : ((1 : Nat) : Int) = 1 := rfl
theorem q_c2 : ((2 : Nat) : Int) = 2 := rfl
theorem q_c4 : ((4 : Nat) : Int) = 4 := rfl
theorem q_c9 : ((9 : Nat) : Int) = 9 := rfl
theorem q_c12 : ((12 : Nat) : Int) = 12 := rfl
theorem q_c30 : ((30 : Nat) : Int) = 30 := rfl
theorem q_c99 : ((99 : Nat) : Int) = 99 := rfl
theorem q_c100 : ((100 : Nat) : Int) = 100 := rfl
theorem q_c126 : ((126 : Nat) : Int) = 126 := rfl
theorem q_c32 : ((32 : Nat) : Int) = 32 := rfl
theorem q_c359 : ((359 : Nat) : Int) = 359 := rfl
theorem q_c999 : ((999 : Nat) : Int) = 999 := rfl

