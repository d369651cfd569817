/-! floats: the class's own way to the bits -/
/-- a positive normal float: significand c, biased exponent e -/
def q_fl (c e : Nat) : UInt32 := UInt32.ofNat (e * 8388608 + (c - 8388608))
def q_fok (c e : Nat) : Prop := (8388608 ≤ c ∧ c < 16777216) ∧ (1 ≤ e ∧ e ≤ 254)
theorem q_flN {c e : Nat} (h : q_fok c e) : (q_fl c e).toNat = e * 8388608 + (c - 8388608) := by
  obtain ⟨⟨h1, h2⟩, h3, h4⟩ := h
  unfold q_fl
  rw [UInt32.toNat_ofNat_of_lt' (by show _ < 4294967296; omega)]
theorem q_fdec {n : Nat} (h1 : 8388608 ≤ n) (h2 : n < 2139095040) : Jvm.FP.Core.decode Jvm.FP.Core.b32 n = .fin false (8388608 + n % 8388608) (((n / 8388608 : Nat) : Int) - 150) := by
  have t : Jvm.FP.Core.b32.tails = 8388608 := by decide
  have e : Jvm.FP.Core.b32.exps = 256 := by decide
  have q : Jvm.FP.Core.b32.qmin = -149 := by decide
  unfold Jvm.FP.Core.decode Jvm.FP.Core.fieldE Jvm.FP.Core.fieldT Jvm.FP.Core.fieldS
  rw [t, e, q]
  have a1 : n / 8388608 % 256 = n / 8388608 := by omega
  have a2 : n / 8388608 / 256 % 2 = 0 := by omega
  rw [a1, a2, if_neg (by omega), if_neg (by omega)]
  congr 1
  omega
theorem q_flv {c e : Nat} (h : q_fok c e) : Jvm.FP.Core.val32 (q_fl c e) = .fin false c ((e : Int) - 150) := by
  unfold Jvm.FP.Core.val32
  rw [q_flN h]
  obtain ⟨⟨h1, h2⟩, h3, h4⟩ := h
  rw [q_fdec (by omega) (by omega), show 8388608 + (e * 8388608 + (c - 8388608)) % 8388608 = c by omega, show (e * 8388608 + (c - 8388608)) / 8388608 = e by omega]
theorem q_flf {c e : Nat} (h : q_fok c e) : Jvm.FP.Core.fits Jvm.FP.Core.b32 (.fin false c ((e : Int) - 150)) := by
  rw [← q_flv h]
  exact Jvm.FP.Core.val32_fits _
theorem q_fl_of {x : UInt32} (h1 : 8388608 ≤ x.toNat) (h2 : x.toNat < 2139095040) : ∃ c e, q_fok c e ∧ x = q_fl c e := by
  refine ⟨8388608 + x.toNat % 8388608, x.toNat / 8388608, ⟨⟨by omega, by omega⟩, by omega, by omega⟩, ?_⟩
  apply UInt32.toNat_inj.mp
  rw [q_flN ⟨⟨by omega, by omega⟩, by omega, by omega⟩]
  omega
theorem q_fv2 : Jvm.FP.Core.val32 FP.fconst2 = .fin false 8388608 (-22) := by decide +kernel
theorem q_fv1 : Jvm.FP.Core.val32 FP.fconst1 = .fin false 8388608 (-23) := by decide +kernel
theorem q_fv0 : Jvm.FP.Core.val32 FP.fconst0 = .fin false 0 (-149) := by decide +kernel
theorem q_fvk : Jvm.FP.Core.val32 1258291200 = .fin false 8388608 0 := by decide +kernel
theorem q_fhalf {c e : Nat} (h : q_fok c (e + 1)) (h2 : q_fok c e) : FP.fdiv (q_fl c (e + 1)) FP.fconst2 = q_fl c e := by
  have k : Jvm.FP.Core.val32 (Jvm.FP.Core.fdiv (q_fl c (e + 1)) FP.fconst2) = Jvm.FP.Core.val32 (q_fl c e) := by
    rw [Jvm.FP.Core.val32_fdiv, q_flv h, q_fv2, q_flv h2]
    show Jvm.FP.Core.roundRatio Jvm.FP.Core.b32 false c 8388608 _ = _
    refine Jvm.FP.Core.roundRatio_exact Jvm.FP.Core.good_b32 (by decide) (q_flf h2) ?_
    rw [show (((e + 1 : Nat) : Int) - 150 - -22 - ((e : Int) - 150)).toNat = 23 by omega, show ((e : Int) - 150 - (((e + 1 : Nat) : Int) - 150 - -22)).toNat = 0 by omega]
    omega
  refine Jvm.FP.Core.val32_inj ?_ k
  show Jvm.FP.Core.val32 (Jvm.FP.Core.fdiv (q_fl c (e + 1)) FP.fconst2) ≠ _
  rw [k, q_flv h2]
  exact fun q => by cases q
theorem q_fdbl {c e : Nat} (h : q_fok c e) (h2 : q_fok c (e + 1)) : FP.fmul (q_fl c e) FP.fconst2 = q_fl c (e + 1) := by
  have k : Jvm.FP.Core.val32 (Jvm.FP.Core.fmul (q_fl c e) FP.fconst2) = Jvm.FP.Core.val32 (q_fl c (e + 1)) := by
    rw [Jvm.FP.Core.val32_fmul, q_flv h, q_fv2, q_flv h2]
    show Jvm.FP.Core.roundRatio Jvm.FP.Core.b32 false (c * 8388608) 1 _ = _
    refine Jvm.FP.Core.roundRatio_exact Jvm.FP.Core.good_b32 (by decide) (q_flf h2) ?_
    rw [show (((e : Int) - 150 + -22) - (((e + 1 : Nat) : Int) - 150)).toNat = 0 by omega, show ((((e + 1 : Nat) : Int) - 150) - ((e : Int) - 150 + -22)).toNat = 23 by omega]
    omega
  refine Jvm.FP.Core.val32_inj ?_ k
  show Jvm.FP.Core.val32 (Jvm.FP.Core.fmul (q_fl c e) FP.fconst2) ≠ _
  rw [k, q_flv h2]
  exact fun q => by cases q
theorem q_fcmp_at {c e : Nat} (h : q_fok c e) {x : UInt32} {m : Nat} (hx : Jvm.FP.Core.val32 x = .fin false 8388608 ((m : Int) - 150)) : (m ≤ e → FP.fcmp (q_fl c e) x ≠ some .lt ∧ FP.fcmp (q_fl c e) x ≠ none) ∧ (e < m → FP.fcmp (q_fl c e) x = some .lt) := by
  have k : FP.fcmp (q_fl c e) x = Jvm.FP.Core.order (Jvm.FP.Core.val32 (q_fl c e)) (Jvm.FP.Core.val32 x) := rfl
  rw [k, q_flv h, hx]
  obtain ⟨⟨h1, h2⟩, h3, h4⟩ := h
  show (_ → some (compare _ _) ≠ _ ∧ _) ∧ (_ → some (compare _ _) = _)
  refine ⟨fun hm => ?_, fun hm => ?_⟩
  · rw [show min ((e : Int) - 150) ((m : Int) - 150) = (m : Int) - 150 by omega]
    refine ⟨fun q => ?_, fun q => by cases q⟩
    have q := Option.some.inj q
    rw [Int.compare_eq_lt] at q
    unfold Jvm.FP.Core.signed Jvm.FP.Core.inUnits at q
    simp only [Bool.false_eq_true, ↓reduceIte, Int.sub_self, Int.toNat_zero, Nat.pow_zero, Nat.mul_one] at q
    have p := Nat.two_pow_pos ((e : Int) - 150 - ((m : Int) - 150)).toNat
    have : c * 1 ≤ c * 2 ^ ((e : Int) - 150 - ((m : Int) - 150)).toNat := Nat.mul_le_mul_left _ p
    omega
  · rw [show min ((e : Int) - 150) ((m : Int) - 150) = (e : Int) - 150 by omega]
    congr 1
    rw [Int.compare_eq_lt]
    unfold Jvm.FP.Core.signed Jvm.FP.Core.inUnits
    simp only [Bool.false_eq_true, ↓reduceIte, Int.sub_self, Int.toNat_zero, Nat.pow_zero, Nat.mul_one]
    obtain ⟨j, hj⟩ : ∃ j, ((m : Int) - 150 - ((e : Int) - 150)).toNat = j + 1 := ⟨((m : Int) - 150 - ((e : Int) - 150)).toNat - 1, by omega⟩
    rw [hj, Nat.pow_succ]
    have p := Nat.two_pow_pos j
    have : 8388608 * 2 * 1 ≤ 8388608 * 2 * 2 ^ j := Nat.mul_le_mul_left _ p
    have e2 : 8388608 * (2 ^ j * 2) = 8388608 * 2 * 2 ^ j := by rw [Nat.mul_comm (2 ^ j) 2, Nat.mul_assoc]
    omega
theorem q_fgt0 {c e : Nat} (h : q_fok c e) : FP.fcmp (q_fl c e) FP.fconst0 = some .gt := by
  have k : FP.fcmp (q_fl c e) FP.fconst0 = Jvm.FP.Core.order (Jvm.FP.Core.val32 (q_fl c e)) (Jvm.FP.Core.val32 FP.fconst0) := rfl
  rw [k, q_flv h, q_fv0]
  obtain ⟨⟨h1, h2⟩, h3, h4⟩ := h
  show some (compare _ _) = _
  congr 1
  rw [Int.compare_eq_gt]
  unfold Jvm.FP.Core.signed Jvm.FP.Core.inUnits
  simp only [Bool.false_eq_true, ↓reduceIte, Nat.zero_mul]
  have p := Nat.two_pow_pos ((e : Int) - 150 - min ((e : Int) - 150) (-149)).toNat
  have : c * 1 ≤ c * 2 ^ ((e : Int) - 150 - min ((e : Int) - 150) (-149)).toNat := Nat.mul_le_mul_left _ p
  omega
theorem q_fnn {x : UInt32} (h : Jvm.FP.Core.val32 x ≠ .nan) : (x &&& 0x7fffffff ≤ 0x7f800000) = True := by
  apply eq_true
  have := (Jvm.FP.Core.ne_nan32 x).mp h
  rw [UInt32.le_iff_toNat_le, UInt32.toNat_and]
  show x.toNat &&& (2 ^ 31 - 1) ≤ 2139095040
  rw [Nat.and_two_pow_sub_one_eq_mod]
  exact this
theorem q_flnn {c e : Nat} (h : q_fok c e) : (q_fl c e &&& 0x7fffffff ≤ 0x7f800000) = True := q_fnn (by rw [q_flv h]; exact fun q => by cases q)
theorem q_pw149 : 8388608 * 2 ^ 126 = 2 ^ 149 := by
  rw [show (8388608 : Nat) = 2 ^ 23 by decide, ← Nat.pow_add]
theorem q_ff1 {c : Nat} (h : q_fok c 127) : Jvm.FP.Core.val32 (Jvm.FP.Core.fsub (q_fl c 127) FP.fconst1) = Jvm.FP.Core.round Jvm.FP.Core.b32 (.fin false (c - 8388608) (-23)) := by
  have hc := h.1
  rw [Jvm.FP.Core.val32_fsub, q_flv h, q_fv1]
  refine congrArg (Jvm.FP.Core.round Jvm.FP.Core.b32) ?_
  have e : Jvm.FP.Core.sumUnits false c (((127 : Nat) : Int) - 150) (!false) 8388608 (-23) (min (((127 : Nat) : Int) - 150) (-23)) = ((c - 8388608 : Nat) : Int) := by
    unfold Jvm.FP.Core.sumUnits Jvm.FP.Core.signed Jvm.FP.Core.inUnits
    rw [show min (((127 : Nat) : Int) - 150) (-23) = -23 by decide, show ((((127 : Nat) : Int) - 150) - -23).toNat = 0 by decide, show ((-23 : Int) - -23).toNat = 0 by decide]
    simp only [Bool.false_eq_true, Bool.not_false, ↓reduceIte, Nat.pow_zero, Nat.mul_one]
    omega
  show Jvm.FP.Core.Datum.fin (Jvm.FP.Core.sumSign false (!false) _) (Int.natAbs _) _ = _
  rw [e]
  have e3 : Jvm.FP.Core.sumSign false (!false) ((c - 8388608 : Nat) : Int) = false := by
    unfold Jvm.FP.Core.sumSign
    split
    · rfl
    · exact decide_eq_false (by omega)
  rw [e3, Int.natAbs_natCast, show min (((127 : Nat) : Int) - 150) (-23) = -23 by decide]
theorem q_ff2 {m c1 : Nat} {r1 : Int} (r1q : -149 ≤ r1) (v3 : c1 * 2 ^ (r1 - -149).toNat = m * 2 ^ 126) : c1 * 8388608 * 2 ^ r1.toNat = m * 2 ^ (-r1).toNat := by
  rcases Int.le_total 0 r1 with hr | hr
  · obtain ⟨n, rfl⟩ : ∃ n : Nat, r1 = n := ⟨r1.toNat, by omega⟩
    rw [show (-(n : Int)).toNat = 0 by omega, show ((n : Int)).toNat = n by omega]
    rw [show ((n : Int) - -149).toNat = n + 149 by omega, Nat.pow_add, ← Nat.mul_assoc] at v3
    refine Nat.eq_of_mul_eq_mul_right (Nat.two_pow_pos 126) ?_
    calc c1 * 8388608 * 2 ^ n * 2 ^ 126 = c1 * 2 ^ n * (8388608 * 2 ^ 126) := by rw [Nat.mul_right_comm c1, Nat.mul_assoc (c1 * 2 ^ n)]
      _ = c1 * 2 ^ n * 2 ^ 149 := by rw [q_pw149]
      _ = m * 2 ^ 126 := v3
      _ = m * 2 ^ 0 * 2 ^ 126 := by rw [Nat.pow_zero, Nat.mul_one]
  · obtain ⟨n, rfl⟩ : ∃ n : Nat, r1 = -(n : Int) := ⟨(-r1).toNat, by omega⟩
    rw [show (-(-(n : Int))).toNat = n by omega, show (-(n : Int)).toNat = 0 by omega]
    have hn : n ≤ 149 := by omega
    rw [show (-(n : Int) - -149).toNat = 149 - n by omega] at v3
    refine Nat.eq_of_mul_eq_mul_right (Nat.two_pow_pos 126) ?_
    have e1 : (2 : Nat) ^ (149 - n) * 2 ^ n = 8388608 * 2 ^ 126 := by
      rw [← Nat.pow_add, show 149 - n + n = 149 by omega, q_pw149]
    calc c1 * 8388608 * 2 ^ 0 * 2 ^ 126 = c1 * (8388608 * 2 ^ 126) := by rw [Nat.pow_zero, Nat.mul_one, Nat.mul_assoc]
      _ = c1 * (2 ^ (149 - n) * 2 ^ n) := by rw [e1]
      _ = (c1 * 2 ^ (149 - n)) * 2 ^ n := by rw [Nat.mul_assoc]
      _ = m * 2 ^ 126 * 2 ^ n := by rw [v3]
      _ = m * 2 ^ n * 2 ^ 126 := by rw [Nat.mul_right_comm]
theorem q_ff3 {m c2 : Nat} {r2 : Int} (s1 : -149 ≤ r2) (w3 : c2 * 2 ^ (r2 - -149).toNat = m * 2 ^ 149) : Jvm.FP.Core.truncate false c2 r2 = (m : Int) := by
  unfold Jvm.FP.Core.truncate Jvm.FP.Core.signed
  simp only [Bool.false_eq_true, ↓reduceIte]
  refine congrArg (fun n : Nat => (n : Int)) ?_
  refine Nat.div_eq_of_eq_mul_left (Nat.two_pow_pos _) ?_
  rcases Int.le_total 0 r2 with hr | hr
  · obtain ⟨n, rfl⟩ : ∃ n : Nat, r2 = n := ⟨r2.toNat, by omega⟩
    rw [show (-(n : Int)).toNat = 0 by omega, show ((n : Int)).toNat = n by omega]
    rw [show ((n : Int) - -149).toNat = n + 149 by omega, Nat.pow_add, ← Nat.mul_assoc] at w3
    rw [Nat.pow_zero, Nat.mul_one]
    exact Nat.eq_of_mul_eq_mul_right (Nat.two_pow_pos 149) w3
  · obtain ⟨n, rfl⟩ : ∃ n : Nat, r2 = -(n : Int) := ⟨(-r2).toNat, by omega⟩
    rw [show (-(-(n : Int))).toNat = n by omega, show (-(n : Int)).toNat = 0 by omega]
    rw [show (-(n : Int) - -149).toNat = 149 - n by omega] at w3
    rw [Nat.pow_zero, Nat.mul_one]
    refine Nat.eq_of_mul_eq_mul_right (Nat.two_pow_pos (149 - n)) ?_
    rw [w3, Nat.mul_assoc, ← Nat.pow_add, show n + (149 - n) = 149 by omega]
theorem q_ff4 {m : Nat} {c2 : Nat} {r2 : Int} (hm : m < 2147483648) (tr : Jvm.FP.Core.truncate false c2 r2 = (m : Int)) : Jvm.FP.Core.toI (.fin false c2 r2) = nI m := by
  show Int32.ofInt (max _ (min _ (Jvm.FP.Core.truncate false c2 r2))) = _
  rw [tr]
  have e1 : (-2 ^ 31 : Int) = -2147483648 := by decide
  have e2 : (2 ^ 31 - 1 : Int) = 2147483647 := by decide
  rw [e1, e2, Int.min_eq_right (by omega), Int.max_eq_right (by omega)]
  rfl
theorem q_ff5 {c m : Nat} (hm : m < 8388608) (v1 : Jvm.FP.Core.val32 (Jvm.FP.Core.fsub (q_fl c 127) FP.fconst1) = Jvm.FP.Core.round Jvm.FP.Core.b32 (.fin false m (-23))) : Jvm.FP.Core.val32 (Jvm.FP.Core.fsub (q_fl c 127) FP.fconst1) ≠ .nan ∧ Jvm.FP.Core.val32 (Jvm.FP.Core.fmul (Jvm.FP.Core.fsub (q_fl c 127) FP.fconst1) 1258291200) ≠ .nan ∧ Jvm.FP.Core.toI (Jvm.FP.Core.val32 (Jvm.FP.Core.fmul (Jvm.FP.Core.fsub (q_fl c 127) FP.fconst1) 1258291200)) = nI m := by
  have p24 : (2 : Nat) ^ Jvm.FP.Core.b32.p = 16777216 := by decide
  have q1 : Jvm.FP.Core.b32.qmin = -149 := by decide
  have q2 : Jvm.FP.Core.b32.qmax = 104 := by decide
  obtain ⟨c1, r1, v2, v3⟩ := Jvm.FP.Core.round_exact Jvm.FP.Core.good_b32 false (c := m) (q := -23) (by rw [p24]; omega) (by rw [q1]; decide) (by rw [q2]; decide)
  have v4 := v1.trans v2
  have f4 := Jvm.FP.Core.val32_fits (Jvm.FP.Core.fsub (q_fl c 127) FP.fconst1)
  rw [v4] at f4
  have r1q : -149 ≤ r1 := by have := f4.2.1; rw [q1] at this; exact this
  rw [q1] at v3
  unfold Jvm.FP.Core.inUnits at v3
  rw [show ((-23 : Int) - -149).toNat = 126 by decide] at v3
  obtain ⟨c2, r2, w2, w3⟩ := Jvm.FP.Core.round_exact Jvm.FP.Core.good_b32 false (c := m) (q := 0) (by rw [p24]; omega) (by rw [q1]; decide) (by rw [q2]; decide)
  have w4 : Jvm.FP.Core.val32 (Jvm.FP.Core.fmul (Jvm.FP.Core.fsub (q_fl c 127) FP.fconst1) 1258291200) = .fin false c2 r2 := by
    rw [Jvm.FP.Core.val32_fmul, v4, q_fvk, ← w2]
    show Jvm.FP.Core.roundRatio Jvm.FP.Core.b32 false (c1 * 8388608) 1 (r1 + 0) = Jvm.FP.Core.roundRatio Jvm.FP.Core.b32 false m 1 0
    refine Jvm.FP.Core.roundRatio_congr (by decide) (by decide) ?_
    rw [Int.add_zero, Int.sub_zero, Int.zero_sub, Nat.mul_one, Nat.mul_one]
    exact q_ff2 r1q v3
  have f5 := Jvm.FP.Core.val32_fits (Jvm.FP.Core.fmul (Jvm.FP.Core.fsub (q_fl c 127) FP.fconst1) 1258291200)
  rw [w4] at f5
  have s1 : -149 ≤ r2 := by have := f5.2.1; rw [q1] at this; exact this
  rw [q1] at w3
  unfold Jvm.FP.Core.inUnits at w3
  rw [show ((0 : Int) - -149).toNat = 149 by decide] at w3
  rw [w4, v4]
  exact ⟨fun q => (by cases q), fun q => (by cases q), q_ff4 (by omega) (q_ff3 s1 w3)⟩
theorem q_ffr {c : Nat} (h : q_fok c 127) : (FP.fsub (q_fl c 127) FP.fconst1 &&& 0x7fffffff ≤ 0x7f800000) = True ∧ (FP.fmul (FP.fsub (q_fl c 127) FP.fconst1) 1258291200 &&& 0x7fffffff ≤ 0x7f800000) = True ∧ FP.f2i (FP.fmul (FP.fsub (q_fl c 127) FP.fconst1) 1258291200) = nI (c - 8388608) := by
  have hc := h.1
  have hm : c - 8388608 < 8388608 := by omega
  have v1 := q_ff1 h
  generalize c - 8388608 = m at *
  obtain ⟨h1, h2, h3⟩ := q_ff5 hm v1
  exact ⟨q_fnn h1, q_fnn h2, h3⟩
