/-! p28: what is out of season goes back -/
def hg_out (f : q_St) (n : Nat) : Int32 := q_sum (fun v => if q_onf f (q_occ f v) = true then nI 0 else q_hav f v) n
def hg_paid (f : q_St) (n : Nat) : Int32 := q_sum (fun v => if q_onf f (q_occ f v) = true then nI 0 else q_hav f v * (f (11 + 8 * v + 2) * f 307 / nI 100)) n
theorem hg_emp_card (g : q_St) (n : Nat) : hg_card (q_emp g n 10) + q_ik g (nI n) = hg_card g := by
  unfold hg_card q_ik
  rw [← q_sum_ad]
  refine q_sum_c fun k hk => ?_
  dsimp only [q_emp]
  rw [show 107 + 3 * k + 1 - 1 = 107 + 3 * k by omega]
  by_cases h : g (107 + 3 * k) = nI n
  · rw [if_pos ⟨by omega, by omega, by omega, h⟩, if_pos h, q_z0]
  · rw [if_neg (fun q => h q.2.2.2), if_neg h, q_a0]
theorem hg_gb {f : q_St} (hI : q_In f) : ∀ n, n ≤ q_sz f → (p_gb f n).1 = hg_out f n ∧ (p_gb f n).2 310 = f 310 + hg_paid f n ∧ hg_card (p_gb f n).2 + q_sum (fun v => (p_gb f n).2 (11 + 8 * v + 3)) (q_sz f) + hg_out f n = hg_card f + a_sum f 3 ∧ (∀ i, i ≠ 310 → (∀ v, v < n → i ≠ 11 + 8 * v + 3) → (∀ k, k < 10 → i ≠ 107 + 3 * k + 1) → (p_gb f n).2 i = f i) ∧ ∀ k, k < 10 → (∀ v, v < n → f (107 + 3 * k) ≠ nI v) → (p_gb f n).2 (107 + 3 * k + 1) = f (107 + 3 * k + 1) := by
  have h12 := hI.1.1
  intro n
  induction n with
  | zero =>
    intro _
    refine ⟨rfl, (q_a0 _).symm, ?_, fun i _ _ _ => rfl, fun k _ _ => rfl⟩
    show hg_card f + a_sum f 3 + nI 0 = _
    exact q_a0 _
  | succ n ih =>
    intro hn
    obtain ⟨a1, a2, a3, a4, a5⟩ := ih (by omega)
    have o5 := (hI.2.2.2.2.2.1 n (by omega)).1
    have r5 : p_gb f (n + 1) = ((p_gb f n).1 + (p_gb1 (p_gb f n).2 n).1, (p_gb1 (p_gb f n).2 n).2) := rfl
    rw [r5]
    clear r5
    generalize p_gb f n = mh at *
    obtain ⟨m1, h⟩ := mh
    dsimp only at a1 a2 a3 a4 a5 ⊢
    have oc : q_occ h n = q_occ f n := by
      unfold q_occ
      rw [a4 _ (by omega) (by omega) (by omega)]
    have on : q_onf h (q_occ h n) = q_onf f (q_occ f n) := by
      rw [oc]
      unfold q_onf q_dy
      rw [a4 _ (by omega) (by omega) (by omega), a4 _ (by omega) (by omega) (by omega), a4 _ (by omega) (by omega) (by omega)]
    have ik : q_ik h (nI n) = q_ik f (nI n) := by
      unfold q_ik
      refine q_sum_c fun k hk => ?_
      rw [a4 (107 + 3 * k) (by omega) (by omega) (by omega)]
      by_cases c : f (107 + 3 * k) = nI n
      · rw [if_pos c, if_pos c]
        exact a5 k hk fun v hv => by rw [c, ne_eq, q_eqn (by omega) (by omega)]; omega
      · rw [if_neg c, if_neg c]
    have hv : q_hav h n = q_hav f n := by
      unfold q_hav
      rw [ik, a4 _ (by omega) (by omega) (by omega)]
    have so : hg_out f (n + 1) = hg_out f n + (if q_onf f (q_occ f n) = true then nI 0 else q_hav f n) := rfl
    have sp : hg_paid f (n + 1) = hg_paid f n + (if q_onf f (q_occ f n) = true then nI 0 else q_hav f n * (f (11 + 8 * n + 2) * f 307 / nI 100)) := rfl
    unfold p_gb1
    rw [on, so, sp]
    cases c : q_onf f (q_occ f n)
    · simp only [Bool.false_eq_true, ↓reduceIte]
      rw [hv]
      refine ⟨by rw [a1], ?_, ?_, fun i i1 i2 i3 => ?_, fun k hk hh => ?_⟩
      · dsimp only [q_emp]
        rw [if_neg (by omega), q_updn (by omega), q_upds rfl, a2, a4 _ (by omega) (by omega) (by omega), a4 _ (by omega) (by omega) (by omega), Int32.add_assoc, Int32.mul_comm (f 307)]
      · have e1 := hg_emp_card (upd (upd h 310 (h 310 + q_hav f n * (h 307 * h (11 + 8 * n + 2) / nI 100))) (11 + 8 * n + 3) (nI 0)) n
        have e2 : hg_card (upd (upd h 310 (h 310 + q_hav f n * (h 307 * h (11 + 8 * n + 2) / nI 100))) (11 + 8 * n + 3) (nI 0)) = hg_card h := hg_cc fun k hk => by simp (disch := omega) only [q_updn]
        have e3 : q_ik (upd (upd h 310 (h 310 + q_hav f n * (h 307 * h (11 + 8 * n + 2) / nI 100))) (11 + 8 * n + 3) (nI 0)) (nI n) = q_ik f (nI n) := by
          rw [← ik]
          unfold q_ik
          exact q_sum_c fun k hk => by simp (disch := omega) only [q_updn]
        have e4 : q_sum (fun v => q_emp (upd (upd h 310 (h 310 + q_hav f n * (h 307 * h (11 + 8 * n + 2) / nI 100))) (11 + 8 * n + 3) (nI 0)) n 10 (11 + 8 * v + 3)) (q_sz f) = q_sum (fun v => h (11 + 8 * v + 3)) (q_sz f) + -f (11 + 8 * n + 3) := by
          refine hg_sumu (u := n) (by omega) (fun v hv hne => ?_) ?_
          · dsimp only [q_emp]
            rw [if_neg (by omega), q_updn (by omega), q_updn (by omega)]
          · dsimp only [q_emp]
            rw [if_neg (by omega), q_upds rfl, a4 _ (by omega) (by omega) (by omega), q_nn]
        rw [e2, e3] at e1
        rw [e4, ← a3, ← e1]
        unfold q_hav
        have : ∀ x y z w t : Int32, x + (y + -z) + (w + (z + t)) = x + t + y + w := by intro x y z w t; grind
        exact this _ _ _ _ _
      · dsimp only [q_emp]
        rw [if_neg (by
          rintro ⟨q1, q2, q3, -⟩
          exact i3 ((i - 108) / 3) (by omega) (by omega)), q_updn (i2 n (by omega)), q_updn i1]
        exact a4 i i1 (fun v hv => i2 v (by omega)) i3
      · dsimp only [q_emp]
        rw [if_neg (by
          rintro ⟨q1, q2, q3, q4⟩
          rw [show 107 + 3 * k + 1 - 1 = 107 + 3 * k by omega, q_updn (by omega), q_updn (by omega), a4 (107 + 3 * k) (by omega) (by omega) (by omega)] at q4
          exact hh n (by omega) q4), q_updn (by omega), q_updn (by omega)]
        exact a5 k hk fun v hv => hh v (by omega)
    · simp only [↓reduceIte, q_a0]
      exact ⟨a1, a2, a3, fun i i1 i2 i3 => a4 i i1 (fun v hv => i2 v (by omega)) i3, fun k hk hh => a5 k hk fun v hv => hh v (by omega)⟩
section
variable {m i j : Nat} {ord acc : Int32} {f : q_St}
theorem hg_paid_N (hI : q_In f) (hp : hg_Pr m f) (hm : m ≤ q_sz f) : ∃ P : Nat, hg_paid f m = nI P ∧ P ≤ 1001781 * m := by
  have h12 := hI.1.1
  obtain ⟨pt, pt1, pt2⟩ := hI.2.2.2.2.2.2.2.2.2.2.2.2.2.2
  have key : ∀ v, v < m → ∃ t : Nat, t ≤ 1001781 ∧ (if q_onf f (q_occ f v) = true then nI 0 else q_hav f v * (f (11 + 8 * v + 2) * f 307 / nI 100)) = nI t := by
    intro v hv
    by_cases c : q_onf f (q_occ f v) = true
    · rw [if_pos c]; exact ⟨0, by omega, rfl⟩
    · rw [if_neg c]
      obtain ⟨pp, pc, p1, p2, p3, p4, p5⟩ := hp v hv
      obtain ⟨s, hs, hs2⟩ := hI.2.2.2.2.2.2.2.2.2.2.2.2.2.1 v (by omega)
      obtain ⟨c, hc, hc2⟩ := q_ik_N hI (nI v)
      have h1 : pc * pt ≤ 99 * 100 := Nat.mul_le_mul p3 pt1
      have h2 : (s + c) * (pc * pt / 100) ≤ 10119 * 99 := Nat.mul_le_mul (by omega) (by omega)
      unfold q_hav
      rw [hs, hc2, p5, pt2, nI_add, pk_mul, pk_div (by omega) (by omega) (by omega), pk_mul]
      exact ⟨_, by omega, rfl⟩
  have k2 : ∀ v, v < m → (if q_onf f (q_occ f v) = true then nI 0 else q_hav f v * (f (11 + 8 * v + 2) * f 307 / nI 100)) = nI (if q_onf f (q_occ f v) = true then nI 0 else q_hav f v * (f (11 + 8 * v + 2) * f 307 / nI 100)).toNatClampNeg ∧ (if q_onf f (q_occ f v) = true then nI 0 else q_hav f v * (f (11 + 8 * v + 2) * f 307 / nI 100)).toNatClampNeg ≤ 1001781 := by
    intro v hv
    obtain ⟨t, t1, t2⟩ := key v hv
    exact hg_cl t2 t1 (by omega)
  exact ⟨_, hg_sumN fun v hv => (k2 v hv).1, hg_sNb fun v hv => (k2 v hv).2⟩
theorem hg_give (hI : q_In f) (hL : hg_Le m i j ord acc f) (hi : i < 36) (hj : j ≤ 100) : (p_give f).1 = (if hg_out f m = nI 0 then -1000002 else hg_out f m) ∧ hg_Le m (i + 1) j ord (acc + hg_paid f m) (p_give f).2 := by
  have hsz := hL.1.1
  have h6 := hL.1.2.2
  have hno := hI.2.1.1
  obtain ⟨b1, b2, b3, b4, b5⟩ := hg_gb hI (q_sz f) (Nat.le_refl _)
  obtain ⟨-, c, c1, c2, c3⟩ := p_gb_In hI (q_sz f) (Nat.le_refl _)
  unfold p_give
  clear b5
  rw [hsz] at b1 b2 b3 b4 c1 c2 c3 ⊢
  rw [b1] at c2 ⊢
  by_cases hz : hg_out f m = nI 0
  · rw [if_pos hz, if_pos hz]
    refine ⟨rfl, ?_⟩
    have hc : c = 0 := by
      rw [hz, q_eqn (by omega) (by omega)] at c2
      exact c2.symm
    have hp : hg_paid f m = nI 0 := by
      have e := b2
      rw [c3 hc] at e
      have : ∀ x y : Int32, x = x + y → y = 0 := by intro x y h; grind
      rw [nI_0]
      exact this _ _ e
    rw [hp, q_a0]
    exact hg_Le_l hL (by omega) (Nat.le_refl _)
  · rw [if_neg hz, if_neg hz]
    refine ⟨rfl, ?_⟩
    dsimp only
    obtain ⟨P, P1, P2⟩ := hg_paid_N hI hL.2.2.2.2.2.1 (by omega)
    generalize (p_gb f m).2 = h at *
    obtain ⟨⟨a1, a2, a3⟩, b, c', d, e, p, sd, ⟨r, r1, r2⟩, ⟨o, o1, o2⟩, y, z1, z2⟩ := hL
    have g : ∀ x, x ≠ 309 → x ≠ 310 → (∀ v, v < m → x ≠ 11 + 8 * v + 3) → (∀ k, k < 10 → x ≠ 107 + 3 * k + 1) → upd h 309 (h 309 + hg_out f m) x = f x := fun x x1 x2 x3 x4 => by
      rw [q_updn x1]
      exact b4 x x2 x3 x4
    have hz' : q_sz (upd h 309 (h 309 + hg_out f m)) = q_sz f := by unfold q_sz; rw [g _ (by omega) (by omega) (by omega) (by omega)]
    have hn : q_no (upd h 309 (h 309 + hg_out f m)) = q_no f := by unfold q_no; rw [g _ (by omega) (by omega) (by omega) (by omega)]
    have ss : ∀ w, w < 8 → w ≠ 3 → a_sum (upd h 309 (h 309 + hg_out f m)) w = a_sum f w := fun w hw h3 => hg_sc hz' fun v hv => g _ (by omega) (by omega) (by omega) (by omega)
    refine ⟨⟨hz'.trans a1, a2, a3⟩, ?_, ?_, ?_, ?_, fun u hu => ?_, fun u hu => ?_, ⟨r + c, ?_, by omega⟩, ⟨o, o1, by omega⟩, ?_, ?_, ?_⟩
    · rw [ss 4 (by omega) (by omega), hg_oc (f := f) (fun k hk => g _ (by omega) (by omega) (by omega) (by omega))]; exact b
    · rw [ss 7 (by omega) (by omega), ss 4 (by omega) (by omega), ss 6 (by omega) (by omega)]; exact c'
    · have e1 : hg_card (upd h 309 (h 309 + hg_out f m)) = hg_card h := hg_cc fun k hk => by simp (disch := omega) only [q_updn]
      have e2 : a_sum (upd h 309 (h 309 + hg_out f m)) 3 = q_sum (fun v => h (11 + 8 * v + 3)) m := by
        unfold a_sum
        rw [hz', a1]
        exact q_sum_c fun v hv => by simp (disch := omega) only [q_updn]
      rw [e1, e2, ss 4 (by omega) (by omega), hg_mc hn (fun k hk => g _ (by omega) (by omega) (by omega) (by omega)), q_upds rfl, b4 309 (by omega) (by omega) (by omega), d, ← b3]
      have : ∀ x y z w t n : Int32, x + y + n + z + w + t = x + y + z + w + (t + n) := by intro x y z w t n; grind
      exact this _ _ _ _ _ _
    · rw [q_updn (by omega), b2, e]
      have : ∀ x y z : Int32, x + y + z = x + z + y := by intro x y z; grind
      exact this _ _ _
    · rw [g _ (by omega) (by omega) (by omega) (by omega), g _ (by omega) (by omega) (by omega) (by omega)]; exact p u hu
    · rw [g _ (by omega) (by omega) (by omega) (by omega), g _ (by omega) (by omega) (by omega) (by omega)]; exact sd u hu
    · rw [q_upds rfl, b4 309 (by omega) (by omega) (by omega), r1, c2, nI_add]
    · unfold q_dy at *; rw [g _ (by omega) (by omega) (by omega) (by omega)]; omega
    · rw [q_updn (by omega), b2, P1, hg_addI (by omega) (by omega) (by omega)]; omega
    · rw [q_updn (by omega), b2, P1, hg_addI (by omega) (by omega) (by omega)]; omega
end
