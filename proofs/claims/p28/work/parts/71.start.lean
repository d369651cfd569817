/-! a State is made -/
/-- from lo to below d nothing changed -/
def q_Bet (lo d : Nat) (K K' : Nat → Nat × Nat) (R R' : Nat → Nat → Nat) (g g' : q_G) : Prop := ∀ a, lo ≤ a → a < d → K' a = K a ∧ (∀ j, R' a j = R a j) ∧ g' a = g a
theorem q_Bet_t {lo d : Nat} {K K' K'' : Nat → Nat × Nat} {R R' R'' : Nat → Nat → Nat} {g g' g'' : q_G} (h : q_Bet lo d K K' R R' g g') (h2 : q_Bet lo d K' K'' R' R'' g' g'') : q_Bet lo d K K'' R R'' g g'' := fun a h1 ha => ⟨(h2 a h1 ha).1.trans (h a h1 ha).1, fun j => ((h2 a h1 ha).2.1 j).trans ((h a h1 ha).2.1 j), (h2 a h1 ha).2.2.trans (h a h1 ha).2.2⟩
theorem q_Bet_l {lo d lo' d' : Nat} {K K' : Nat → Nat × Nat} {R R' : Nat → Nat → Nat} {g g' : q_G} (h : q_Bet lo d K K' R R' g g') (h1 : lo ≤ lo') (h2 : d' ≤ d) : q_Bet lo' d' K K' R R' g g' := fun a a1 a2 => h a (by omega) (by omega)
theorem q_Bet_o {b d k v : Nat} {K K' : Nat → Nat × Nat} {R R' : Nat → Nat → Nat} {g g' : q_G} (h : q_Bel d K K' (q_tR R b k v) R' g g') : q_Bet (b + 1) d K K' R R' g g' := fun a h1 h2 => ⟨(h a h2).1, fun j => ((h a h2).2.1 j).trans (tR_n (by omega)), (h a h2).2.2⟩
/-- a new object's row -/
def q_f0 : q_St := fun i => if i < 10 ∧ i % 2 = 1 then nI 359 else if 107 ≤ i ∧ i < 137 ∧ (i - 107) % 3 = 0 then -1 else if i = 306 then nI 3 else if i = 307 then nI 50 else nI 0
theorem f0_z {i : Nat} (h1 : ¬ (i < 10 ∧ i % 2 = 1)) (h2 : ¬ (107 ≤ i ∧ i < 137 ∧ (i - 107) % 3 = 0)) (h3 : ¬ i = 306) (h4 : ¬ i = 307) : q_f0 i = nI 0 := by
  unfold q_f0
  rw [if_neg h1, if_neg h2, if_neg h3, if_neg h4]
theorem f0_n : q_sz q_f0 = 0 ∧ q_no q_f0 = 0 ∧ q_dl q_f0 = 3 ∧ q_dy q_f0 = 0 := by decide +kernel
theorem f0_In : q_In q_f0 := by
  obtain ⟨z1, z2, z3, z4⟩ := f0_n
  refine ⟨⟨by omega, by rw [z1]; decide⟩, ⟨by omega, by rw [z2]; decide⟩, ⟨by omega, by rw [z3]; decide⟩, ⟨by omega, by rw [z4]; decide⟩, fun o ho => ⟨0, 359, by omega, by omega, f0_z (by omega) (by omega) (by omega) (by omega), ?_⟩, fun v hv => by omega, fun v h1 h2 w hw => f0_z (by omega) (by omega) (by omega) (by omega), fun k hk => Or.inl ⟨?_, f0_z (by omega) (by omega) (by omega) (by omega)⟩, fun k hk => ⟨0, by omega, f0_z (by omega) (by omega) (by omega) (by omega)⟩, fun k hk => by omega, fun k hk => by omega, fun i j hi hj _ => f0_z (by omega) (by omega) (by omega) (by omega), fun k hk => by omega, fun v hv => ⟨0, f0_z (by omega) (by omega) (by omega) (by omega), ?_⟩, ⟨50, by omega, by decide⟩⟩
  · unfold q_f0
    rw [if_pos (by omega)]
  · unfold q_f0
    rw [if_neg (by omega), if_pos (by omega)]
  · rw [z2]
    exact Nat.zero_le _
section
variable {s b : Nat} {K K' : Nat → Nat × Nat} {R R' : Nat → Nat → Nat} {g g' : q_G}
theorem q_Cal_t {c d : Nat} (h : q_CalB (0, 0, K, R) c) {lo : Nat} (hb : q_Bet lo d K K' R R' g g') (hl : lo ≤ c) (hd : c + 3 ≤ d) : q_CalB (0, 0, K', R') c := by
  obtain ⟨a0, a1, a2, a3, a4⟩ := h
  exact ⟨(hb _ (by omega) (by omega)).1.trans a0, ((hb _ (by omega) (by omega)).2.1 _).trans a1, ((hb _ (by omega) (by omega)).2.1 _).trans a2, (hb _ (by omega) (by omega)).1.trans a3, (hb _ (by omega) (by omega)).1.trans a4⟩
theorem q_Ver_t {c d : Nat} (h : q_VerB (0, 0, K, R) c) {lo : Nat} (hb : q_Bet lo d K K' R R' g g') (hl : lo ≤ c) (hd : c + 9 ≤ d) : q_VerB (0, 0, K', R') c := by
  have rf : ∀ j x, R c j = x → R' c j = x := fun j x hx => ((hb c (by omega) (by omega)).2.1 j).trans hx
  have kd : ∀ i x, i < 9 → K (c + i) = x → K' (c + i) = x := fun i x hi hx => (hb (c + i) (by omega) (by omega)).1.trans hx
  obtain ⟨a0, ⟨r1, r2, r3, r4, r5, r6, r7, r8⟩, k1, k2, k3, k4, k5, k6, k7, k8⟩ := h
  exact ⟨kd 0 _ (by decide) a0, ⟨rf _ _ r1, rf _ _ r2, rf _ _ r3, rf _ _ r4, rf _ _ r5, rf _ _ r6, rf _ _ r7, rf _ _ r8⟩, kd 1 _ (by decide) k1, kd 2 _ (by decide) k2, kd 3 _ (by decide) k3, kd 4 _ (by decide) k4, kd 5 _ (by decide) k5, kd 6 _ (by decide) k6, kd 7 _ (by decide) k7, kd 8 _ (by decide) k8⟩
theorem q_Pai_t {c d : Nat} (h : q_PaiB (0, 0, K, R) c) {lo : Nat} (hb : q_Bet lo d K K' R R' g g') (hl : lo ≤ c) (hd : c + 2 ≤ d) : q_PaiB (0, 0, K', R') c := by
  obtain ⟨a0, a1, a2⟩ := h
  exact ⟨(hb _ (by omega) (by omega)).1.trans a0, ((hb _ (by omega) (by omega)).2.1 _).trans a1, (hb _ (by omega) (by omega)).1.trans a2⟩
theorem q_Rac_t {c d : Nat} (h : q_RacB (0, 0, K, R) c) {lo : Nat} (hb : q_Bet lo d K K' R R' g g') (hl : lo ≤ c) (hd : c + 4 ≤ d) : q_RacB (0, 0, K', R') c := by
  have rf : ∀ j x, R c j = x → R' c j = x := fun j x hx => ((hb c (by omega) (by omega)).2.1 j).trans hx
  have kd : ∀ i x, i < 4 → K (c + i) = x → K' (c + i) = x := fun i x hi hx => (hb (c + i) (by omega) (by omega)).1.trans hx
  obtain ⟨a0, r1, r2, r3, k1, k2, k3⟩ := h
  exact ⟨kd 0 _ (by decide) a0, rf _ _ r1, rf _ _ r2, rf _ _ r3, kd 1 _ (by decide) k1, kd 2 _ (by decide) k2, kd 3 _ (by decide) k3⟩
theorem q_Del_t {c d : Nat} (h : q_DelB (0, 0, K, R) c) {lo : Nat} (hb : q_Bet lo d K K' R R' g g') (hl : lo ≤ c) (hd : c + 4 ≤ d) : q_DelB (0, 0, K', R') c := by
  have rf : ∀ j x, R c j = x → R' c j = x := fun j x hx => ((hb c (by omega) (by omega)).2.1 j).trans hx
  have kd : ∀ i x, i < 4 → K (c + i) = x → K' (c + i) = x := fun i x hi hx => (hb (c + i) (by omega) (by omega)).1.trans hx
  obtain ⟨a0, r1, r2, r3, k1, k2, k3⟩ := h
  exact ⟨kd 0 _ (by decide) a0, rf _ _ r1, rf _ _ r2, rf _ _ r3, kd 1 _ (by decide) k1, kd 2 _ (by decide) k2, kd 3 _ (by decide) k3⟩
theorem q_Sta_t {d : Nat} (h : q_StaB (0, 0, K, R) b) {lo : Nat} (hb : q_Bet lo d K K' R R' g g') (hl : lo ≤ b) (hd : b + 23 ≤ d) : q_StaB (0, 0, K', R') b := by
  have rf : ∀ j x, R b j = x → R' b j = x := fun j x hx => ((hb b (by omega) (by omega)).2.1 j).trans hx
  obtain ⟨a0, ⟨r1, r2, r3, r4, r5⟩, hC, hN, hP, hR, hD⟩ := h
  exact ⟨(hb b (by omega) (by omega)).1.trans a0, ⟨rf _ _ r1, rf _ _ r2, rf _ _ r3, rf _ _ r4, rf _ _ r5⟩, q_Cal_t hC hb (by omega) (by omega), q_Ver_t hN hb (by omega) (by omega), q_Pai_t hP hb (by omega) (by omega), q_Rac_t hR hb (by omega) (by omega), q_Del_t hD hb (by omega) (by omega)⟩
end
section
variable {s b : Nat} {K : Nat → Nat × Nat} {R : Nat → Nat → Nat} {g : q_G}
theorem c_iSta (hk : K b = (9, 9)) : ∃ K' R' g', (∀ Q : Option Value → q_E → q_G → Prop, q_X 53 0 [.ref b] [] (b + 1, s, K, R) g Q = Q none (b + 23, s + 324, K', R') g') ∧ q_Bel b K K' R R' g g' ∧ q_StaB (0, 0, K', R') b ∧ q_Vsta g' b q_f0 := by
  obtain ⟨K1, R1, g1, i1, i2, i3, i4, i5, i6⟩ := c_iCal (c := b + 1) (s := s + 3) (K := q_tK K (b + 1) (4, 3)) (R := q_tZ R (b + 1)) (g := q_upA g (b + 1) (fun _ => nI 0)) (tK_e rfl)
  obtain ⟨K2, R2, g2, j1, j2, j3, j4, j5⟩ := c_iVer (c := b + 1 + 3) (s := s + 3 + 10 + 9) (K := q_tK K1 (b + 1 + 3) (11, 9)) (R := q_tZ (q_tR R1 b 0 (b + 1)) (b + 1 + 3)) (g := q_upA g1 (b + 1 + 3) (fun _ => nI 0)) (tK_e rfl)
  obtain ⟨K3, R3, g3, l1, l2, l3, l4⟩ := c_iPai (c := b + 1 + 3 + 9) (s := s + 3 + 10 + 9 + 96 + 1) (K := q_tK K2 (b + 1 + 3 + 9) (6, 1)) (R := q_tZ (q_tR R2 b 1 (b + 1 + 3)) (b + 1 + 3 + 9)) (g := q_upA g2 (b + 1 + 3 + 9) (fun _ => nI 0)) (tK_e rfl)
  obtain ⟨K4, R4, g4, m1, m2, m3, m4, m5, m6⟩ := c_iRac (c := b + 1 + 3 + 9 + 2) (s := s + 3 + 10 + 9 + 96 + 1 + 144 + 3) (K := q_tK K3 (b + 1 + 3 + 9 + 2) (7, 3)) (R := q_tZ (q_tR R3 b 2 (b + 1 + 3 + 9)) (b + 1 + 3 + 9 + 2)) (g := q_upA g3 (b + 1 + 3 + 9 + 2) (fun _ => nI 0)) (tK_e rfl)
  obtain ⟨K5, R5, g5, n1, n2, n3, n4⟩ := c_iDel (c := b + 1 + 3 + 9 + 2 + 4) (s := s + 3 + 10 + 9 + 96 + 1 + 144 + 3 + 30 + 4) (K := q_tK K4 (b + 1 + 3 + 9 + 2 + 4) (5, 4)) (R := q_tZ (q_tR R4 b 3 (b + 1 + 3 + 9 + 2)) (b + 1 + 3 + 9 + 2 + 4)) (g := q_upA g4 (b + 1 + 3 + 9 + 2 + 4) (fun _ => nI 0)) (tK_e rfl)
  -- what each step leaves alone
  have u1 : q_Bel (b + 1) K K1 R R1 g g1 := q_Bel_t (q_Bel_n K R g (4, 3)) i2
  have u2 : q_Bel (b + 1 + 3) K1 K2 (q_tR R1 b 0 (b + 1)) R2 g1 g2 := q_Bel_t (q_Bel_n K1 (q_tR R1 b 0 (b + 1)) g1 (11, 9)) j2
  have u3 : q_Bel (b + 1 + 3 + 9) K2 K3 (q_tR R2 b 1 (b + 1 + 3)) R3 g2 g3 := q_Bel_t (q_Bel_n K2 (q_tR R2 b 1 (b + 1 + 3)) g2 (6, 1)) l2
  have u4 : q_Bel (b + 1 + 3 + 9 + 2) K3 K4 (q_tR R3 b 2 (b + 1 + 3 + 9)) R4 g3 g4 := q_Bel_t (q_Bel_n K3 (q_tR R3 b 2 (b + 1 + 3 + 9)) g3 (7, 3)) m2
  have u5 : q_Bel (b + 1 + 3 + 9 + 2 + 4) K4 K5 (q_tR R4 b 3 (b + 1 + 3 + 9 + 2)) R5 g4 g5 := q_Bel_t (q_Bel_n K4 (q_tR R4 b 3 (b + 1 + 3 + 9 + 2)) g4 (5, 4)) n2
  have k1 : K1 b = (9, 9) := (u1 b (by omega)).1.trans hk
  have k2 : K2 b = (9, 9) := (u2 b (by omega)).1.trans k1
  have k3 : K3 b = (9, 9) := (u3 b (by omega)).1.trans k2
  have k4 : K4 b = (9, 9) := (u4 b (by omega)).1.trans k3
  have k5 : K5 b = (9, 9) := (u5 b (by omega)).1.trans k4
  -- the state's own references
  have r0 : ∀ j, R2 b j = q_tR R1 b 0 (b + 1) b j := fun j => (u2 b (by omega)).2.1 j
  have r1 : ∀ j, R3 b j = q_tR R2 b 1 (b + 1 + 3) b j := fun j => (u3 b (by omega)).2.1 j
  have r2 : ∀ j, R4 b j = q_tR R3 b 2 (b + 1 + 3 + 9) b j := fun j => (u4 b (by omega)).2.1 j
  have r3 : ∀ j, R5 b j = q_tR R4 b 3 (b + 1 + 3 + 9 + 2) b j := fun j => (u5 b (by omega)).2.1 j
  -- the parts, from where they are made to the end
  have fe : q_Bet (b + 1) (b + 23) K5 K5 R5 (q_tR R5 b 4 (b + 1 + 3 + 9 + 2 + 4)) g5 (q_up (q_up (q_up (q_up g5 b 5 (nI 3)) b 6 (nI 50)) b 7 (nI 0)) b 8 (nI 0)) := fun a a1 a2 => ⟨rfl, fun j => tR_n (by omega), by rw [q_upf (by omega), q_upf (by omega), q_upf (by omega), q_upf (by omega)]⟩
  have f5 : q_Bet (b + 1 + 3 + 9 + 2 + 4) (b + 1 + 3 + 9 + 2 + 4 + 4) K5 K5 R5 (q_tR R5 b 4 (b + 1 + 3 + 9 + 2 + 4)) g5 (q_up (q_up (q_up (q_up g5 b 5 (nI 3)) b 6 (nI 50)) b 7 (nI 0)) b 8 (nI 0)) := q_Bet_l fe (by omega) (by omega)
  have f4 : q_Bet (b + 1 + 3 + 9 + 2) (b + 1 + 3 + 9 + 2 + 4) K4 K5 R4 (q_tR R5 b 4 (b + 1 + 3 + 9 + 2 + 4)) g4 (q_up (q_up (q_up (q_up g5 b 5 (nI 3)) b 6 (nI 50)) b 7 (nI 0)) b 8 (nI 0)) := q_Bet_t (q_Bet_l (q_Bet_o u5) (by omega) (Nat.le_refl _)) (q_Bet_l fe (by omega) (by omega))
  have f3 : q_Bet (b + 1 + 3 + 9) (b + 1 + 3 + 9 + 2) K3 K5 R3 (q_tR R5 b 4 (b + 1 + 3 + 9 + 2 + 4)) g3 (q_up (q_up (q_up (q_up g5 b 5 (nI 3)) b 6 (nI 50)) b 7 (nI 0)) b 8 (nI 0)) := q_Bet_t (q_Bet_l (q_Bet_o u4) (by omega) (Nat.le_refl _)) (q_Bet_t (q_Bet_l (q_Bet_o u5) (by omega) (by omega)) (q_Bet_l fe (by omega) (by omega)))
  have f2 : q_Bet (b + 1 + 3) (b + 1 + 3 + 9) K2 K5 R2 (q_tR R5 b 4 (b + 1 + 3 + 9 + 2 + 4)) g2 (q_up (q_up (q_up (q_up g5 b 5 (nI 3)) b 6 (nI 50)) b 7 (nI 0)) b 8 (nI 0)) := q_Bet_t (q_Bet_l (q_Bet_o u3) (by omega) (Nat.le_refl _)) (q_Bet_t (q_Bet_l (q_Bet_o u4) (by omega) (by omega)) (q_Bet_t (q_Bet_l (q_Bet_o u5) (by omega) (by omega)) (q_Bet_l fe (by omega) (by omega))))
  have f1 : q_Bet (b + 1) (b + 1 + 3) K1 K5 R1 (q_tR R5 b 4 (b + 1 + 3 + 9 + 2 + 4)) g1 (q_up (q_up (q_up (q_up g5 b 5 (nI 3)) b 6 (nI 50)) b 7 (nI 0)) b 8 (nI 0)) := q_Bet_t (q_Bet_l (q_Bet_o u2) (by omega) (Nat.le_refl _)) (q_Bet_t (q_Bet_l (q_Bet_o u3) (by omega) (by omega)) (q_Bet_t (q_Bet_l (q_Bet_o u4) (by omega) (by omega)) (q_Bet_t (q_Bet_l (q_Bet_o u5) (by omega) (by omega)) (q_Bet_l fe (by omega) (by omega)))))
  refine ⟨K5, q_tR R5 b 4 (b + 1 + 3 + 9 + 2 + 4), q_up (q_up (q_up (q_up g5 b 5 (nI 3)) b 6 (nI 50)) b 7 (nI 0)) b 8 (nI 0), fun Q => ?_, ?_, ?_, ?_⟩
  · conv => lhs; simp (disch := omega) only [x53_0, x53_1, x53_4, x53_5, x53_8, x53_9, x53_12, x53_15, x53_16, x53_19, x53_20, x53_23, x53_26, x53_27, x53_30, x53_31, x53_34, x53_37, x53_38, x53_41, x53_42, x53_45, x53_48, x53_49, x53_52, x53_53, x53_56, x53_59, x53_60, x53_61, x53_64, x53_65, x53_67, x53_70, x53_71, x53_72, x53_75, x53_76, x53_77, x53_80, nI_add, pk_mul, q_cl31, q_vin, q_le, q_lt, q_eqn, q_b_0, q_b_t, q_b_f, q_nz, q_nz1, q_nz0, q_tl, q_tn, true_and, and_true, not_true_eq_false, not_false_eq_true, ite_true, ite_false, ↓reduceIte, true_or, or_true, and_self, ne_eq, q_or1, q_or2, Nat.add_eq_zero_iff, and_false, false_and, List.length_cons, List.length_nil, reduceCtorEq, q_toI, Nat.zero_add, Nat.le_refl, q_c0, q_c1, q_c2, q_c4, q_c9, q_c12, q_c30, q_c99, q_c100, q_c126, q_c32, q_c359, q_c999, e_new, e_set, e_kd, e_rf, tK_n, hk, k1, k2, k3, k4, k5, i1, j1, l1, m1, n1]
  · refine q_Bel_t (q_Bel_l u1 (by omega)) (q_Bel_t (q_Bel_r K1 R1 g1 (Nat.le_refl b)) (q_Bel_t (q_Bel_l u2 (by omega)) (q_Bel_t (q_Bel_r K2 R2 g2 (Nat.le_refl b)) (q_Bel_t (q_Bel_l u3 (by omega)) (q_Bel_t (q_Bel_r K3 R3 g3 (Nat.le_refl b)) (q_Bel_t (q_Bel_l u4 (by omega)) (q_Bel_t (q_Bel_r K4 R4 g4 (Nat.le_refl b)) (q_Bel_t (q_Bel_l u5 (by omega)) fun a ha => ⟨rfl, fun j => tR_n (by omega), ?_⟩))))))))
    rw [q_upf (by omega), q_upf (by omega), q_upf (by omega), q_upf (by omega)]
  · refine ⟨k5, ⟨?_, ?_, ?_, ?_, tR_e rfl rfl⟩, q_Cal_t i3 f1 (by omega) (by omega), q_Ver_t j3 f2 (by omega) (by omega), q_Pai_t l3 f3 (by omega) (by omega), q_Rac_t m3 f4 (by omega) (by omega), q_Del_t n3 f5 (by omega) (Nat.le_refl _)⟩
    · show q_tR R5 b 4 _ b 0 = b + 1
      rw [tR_m (by omega), r3, tR_m (by omega), r2, tR_m (by omega), r1, tR_m (by omega), r0, tR_e rfl rfl]
    · show q_tR R5 b 4 _ b 1 = b + 4
      rw [tR_m (by omega), r3, tR_m (by omega), r2, tR_m (by omega), r1, tR_e rfl rfl]
    · show q_tR R5 b 4 _ b 2 = b + 13
      rw [tR_m (by omega), r3, tR_m (by omega), r2, tR_e rfl rfl]
    · show q_tR R5 b 4 _ b 3 = b + 15
      rw [tR_m (by omega), r3, tR_e rfl rfl]
  · refine q_V_mk (fun o j i hl => ?_) (fun i j hi hj => ?_) ⟨?_, ?_⟩
    · rcases hl with ⟨rfl, h⟩ | ⟨rfl, rfl, rfl⟩ | ⟨rfl, h, rfl⟩ | ⟨rfl, h, rfl⟩ | ⟨rfl, rfl, rfl⟩ | ⟨h1, h2, h3, rfl⟩ | ⟨h1, h2, h3, rfl⟩
      · rcases h with ⟨rfl, rfl⟩ | ⟨rfl, rfl⟩ | ⟨rfl, rfl⟩ | ⟨rfl, rfl⟩
        · rw [Nat.add_zero, q_upm (by decide), q_upm (by decide), q_upm (by decide), q_upe rfl rfl]; decide
        · rw [Nat.add_zero, q_upm (by decide), q_upm (by decide), q_upe rfl rfl]; decide
        · rw [Nat.add_zero, q_upm (by decide), q_upe rfl rfl]; decide
        · rw [Nat.add_zero, q_upe rfl rfl]; decide
      · rw [(f1 (b + 1) (by omega) (by omega)).2.2, i4]; decide
      · rw [(f1 (b + 2) (by omega) (by omega)).2.2, f0_z (by omega) (by omega) (by omega) (by omega)]; exact i5 j h
      · rw [(f1 (b + 3) (by omega) (by omega)).2.2]
        refine (i6 j h).trans ?_
        unfold q_f0
        rw [if_pos (by omega)]
      · rw [(f2 (b + 4) (by omega) (by omega)).2.2, f0_z (by omega) (by omega) (by omega) (by omega)]; exact j4
      · rw [(f2 (b + o) (by omega) (by omega)).2.2, f0_z (by omega) (by omega) (by omega) (by omega)]
        have := j5 (o - 5) (by omega) j
        rw [show b + 1 + 3 + 1 + (o - 5) = b + o by omega] at this
        exact this
      · rw [(f4 (b + o) (by omega) (by omega)).2.2]
        rcases (by omega : o = 16 ∨ o = 17 ∨ o = 18) with rfl | rfl | rfl
        · refine (m4 j h3).trans ?_
          unfold q_f0
          rw [if_neg (by omega), if_pos (by omega)]
        · rw [f0_z (by omega) (by omega) (by omega) (by omega)]; exact m5 j
        · rw [f0_z (by omega) (by omega) (by omega) (by omega)]; exact m6 j
    · have := q_pr_b hi hj
      rw [(f3 (b + 13 + 1) (by omega) (by omega)).2.2, f0_z (by omega) (by omega) (by omega) (by omega)]
      exact l4 _
    · rw [(f5 (b + 19) (by omega) (by omega)).2.2, f0_z (by omega) (by omega) (by omega) (by omega)]
      exact n4
    · rw [f0_n.2.1]; rfl
end
