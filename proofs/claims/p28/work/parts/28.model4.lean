theorem q_mx_c (p : Nat → Bool) (w : Nat → Int32) (m : Int32) : ∀ n, n < 1000 → (q_mx p w (-1) m n).1 = -1 ∨ ∃ k, k < n ∧ p k = true ∧ (q_mx p w (-1) m n).1 = nI k := by
  intro n
  induction n with
  | zero => intro _; exact Or.inl rfl
  | succ n ih =>
    intro hn
    unfold q_mx
    by_cases h : p n = true ∧ (q_mx p w (-1) m n).2 < w n
    · rw [if_pos h]
      exact Or.inr ⟨n, by omega, h.1, rfl⟩
    · rw [if_neg h]
      rcases ih (by omega) with h2 | ⟨k, h3, h4, h5⟩
      · exact Or.inl h2
      · exact Or.inr ⟨k, by omega, h4, h5⟩
theorem q_sp_c (f : q_St) (v : Nat) : q_sp f v = -1 ∨ ∃ k, k < 10 ∧ q_sp f v = nI k ∧ nI 0 < f (107 + 3 * k + 1) := by
  unfold q_sp
  split
  · split
    · rcases q_fi_c (q_ph f v) 10 0 (by omega) with h2 | ⟨k, -, hk, hp, h2⟩
      · exact Or.inl h2
      · refine Or.inr ⟨k, by omega, h2, ?_⟩
        unfold q_ph at hp
        simp only [Bool.and_eq_true, decide_eq_true_eq] at hp
        exact hp.2
    · rcases q_mx_c (q_po f v) (fun k => q_be f k (nI v)) (-1) 10 (by omega) with h2 | ⟨k, hk, hp, h2⟩
      · exact Or.inl h2
      · refine Or.inr ⟨k, by omega, h2, ?_⟩
        unfold q_po at hp
        simp only [Bool.and_eq_true, decide_eq_true_eq] at hp
        exact hp.1
  · exact Or.inl rfl
theorem q_hd_u {f : q_St} {i k : Nat} {x : Int32} (h : ¬ 107 + 3 * k = i) : q_hd (upd f i x) k = q_hd f k := by unfold q_hd; rw [q_updn h]
theorem q_occ_u {f : q_St} {i k : Nat} {x : Int32} (h : ¬ 11 + 8 * k = i) : q_occ (upd f i x) k = q_occ f k := by unfold q_occ; rw [q_updn h]
theorem q_sz_u {f : q_St} {i : Nat} {x : Int32} (h : ¬ 10 = i) : q_sz (upd f i x) = q_sz f := by unfold q_sz; rw [q_updn h]
theorem q_no_u {f : q_St} {i : Nat} {x : Int32} (h : ¬ 137 = i) : q_no (upd f i x) = q_no f := by unfold q_no; rw [q_updn h]
theorem q_dl_u {f : q_St} {i : Nat} {x : Int32} (h : ¬ 306 = i) : q_dl (upd f i x) = q_dl f := by unfold q_dl; rw [q_updn h]
theorem q_dy_u {f : q_St} {i : Nat} {x : Int32} (h : ¬ 308 = i) : q_dy (upd f i x) = q_dy f := by unfold q_dy; rw [q_updn h]
def p_take (f : q_St) (v k : Nat) : q_St := upd (upd (upd (upd (upd f (107 + 3 * k + 1) (f (107 + 3 * k + 1) - nI 1)) (107 + 3 * k + 2) (f (107 + 3 * k + 2) + nI 1)) (11 + 8 * q_hd f k + 4) (f (11 + 8 * q_hd f k + 4) + nI 1)) (11 + 8 * q_hd f k + 5) (f (11 + 8 * q_hd f k + 5) + if q_hd f k = v then nI 0 else nI 1)) 310 (f 310 + f (11 + 8 * q_hd f k + 1))
def p_sells (f : q_St) (v : Nat) : Int32 × q_St := if q_sp (upd f (11 + 8 * v + 7) (f (11 + 8 * v + 7) + nI 1)) v < nI 0 then (-1, upd (upd f (11 + 8 * v + 7) (f (11 + 8 * v + 7) + nI 1)) (11 + 8 * v + 6) (f (11 + 8 * v + 6) + nI 1))
  else (nI (q_hd f (q_sp (upd f (11 + 8 * v + 7) (f (11 + 8 * v + 7) + nI 1)) v).toNatClampNeg), p_take (upd f (11 + 8 * v + 7) (f (11 + 8 * v + 7) + nI 1)) v (q_sp (upd f (11 + 8 * v + 7) (f (11 + 8 * v + 7) + nI 1)) v).toNatClampNeg)
/-- rows that count for nothing in what is always so -/
theorem q_owN_c {f f' : q_St} {v : Nat} : ∀ n, (∀ i, 138 ≤ i → i < 138 + 3 * n → f' i = f i) → q_owN f' v n = q_owN f v n := by
  intro n
  induction n with
  | zero => intro _; rfl
  | succ n ih =>
    intro h
    unfold q_owN
    rw [ih (fun i h1 h2 => h i h1 (by omega)), h (138 + 3 * n) (by omega) (by omega), h (138 + 3 * n + 1) (by omega) (by omega)]
theorem q_In_c {f f' : q_St} (hI : q_In f) (h : ∀ i, i < 312 → f' i = f i ∨ (∃ v w, v < q_sz f ∧ w < 8 ∧ i = 11 + 8 * v + w ∧ w ≠ 0 ∧ w ≠ 3) ∨ (∃ k, k < 10 ∧ i = 107 + 3 * k + 2) ∨ i = 309 ∨ i = 310) : q_In f' := by
  obtain ⟨⟨a1, a1'⟩, ⟨a2, a2'⟩, ⟨a3, a3'⟩, ⟨a4, a4'⟩, a5, a6, a7, a8, a9, a10, a11, a12, a13, a14, a15⟩ := hI
  have k10 : f' 10 = f 10 := by rcases h 10 (by omega) with h | ⟨v, w, h1, h2, h3, h4, h5⟩ | ⟨k, h1, h2⟩ | h | h <;> first | exact h | omega
  have k137 : f' 137 = f 137 := by rcases h 137 (by omega) with h | ⟨v, w, h1, h2, h3, h4, h5⟩ | ⟨k, h1, h2⟩ | h | h <;> first | exact h | omega
  have k306 : f' 306 = f 306 := by rcases h 306 (by omega) with h | ⟨v, w, h1, h2, h3, h4, h5⟩ | ⟨k, h1, h2⟩ | h | h <;> first | exact h | omega
  have k307 : f' 307 = f 307 := by rcases h 307 (by omega) with h | ⟨v, w, h1, h2, h3, h4, h5⟩ | ⟨k, h1, h2⟩ | h | h <;> first | exact h | omega
  have k308 : f' 308 = f 308 := by rcases h 308 (by omega) with h | ⟨v, w, h1, h2, h3, h4, h5⟩ | ⟨k, h1, h2⟩ | h | h <;> first | exact h | omega
  have kS : ∀ i, i < 10 → f' i = f i := by intro i hi; rcases h i (by omega) with h | ⟨v, w, h1, h2, h3, h4, h5⟩ | ⟨k, h1, h2⟩ | h | h <;> first | exact h | omega
  have kO : ∀ v, v < 12 → f' (11 + 8 * v) = f (11 + 8 * v) := by intro u hu; rcases h (11 + 8 * u) (by omega) with h | ⟨v, w, h1, h2, h3, h4, h5⟩ | ⟨k, h1, h2⟩ | h | h <;> first | exact h | omega
  have kT : ∀ v, v < 12 → f' (11 + 8 * v + 3) = f (11 + 8 * v + 3) := by intro u hu; rcases h (11 + 8 * u + 3) (by omega) with h | ⟨v, w, h1, h2, h3, h4, h5⟩ | ⟨k, h1, h2⟩ | h | h <;> first | exact h | omega
  have kZ : ∀ v, q_sz f ≤ v → v < 12 → ∀ w, w < 8 → f' (11 + 8 * v + w) = f (11 + 8 * v + w) := by intro u hz hu x hx; rcases h (11 + 8 * u + x) (by omega) with h | ⟨v, w, h1, h2, h3, h4, h5⟩ | ⟨k, h1, h2⟩ | h | h <;> first | exact h | omega
  have kH : ∀ k, k < 10 → f' (107 + 3 * k) = f (107 + 3 * k) := by intro u hu; rcases h (107 + 3 * u) (by omega) with h | ⟨v, w, h1, h2, h3, h4, h5⟩ | ⟨k, h1, h2⟩ | h | h <;> first | exact h | omega
  have kC : ∀ k, k < 10 → f' (107 + 3 * k + 1) = f (107 + 3 * k + 1) := by intro u hu; rcases h (107 + 3 * u + 1) (by omega) with h | ⟨v, w, h1, h2, h3, h4, h5⟩ | ⟨k, h1, h2⟩ | h | h <;> first | exact h | omega
  have kR : ∀ i, 138 ≤ i → i < 306 → f' i = f i := by intro i hi hi2; rcases h i (by omega) with h | ⟨v, w, h1, h2, h3, h4, h5⟩ | ⟨k, h1, h2⟩ | h | h <;> first | exact h | omega
  have e1 : q_sz f' = q_sz f := by unfold q_sz; rw [k10]
  have e2 : q_no f' = q_no f := by unfold q_no; rw [k137]
  have e3 : q_dl f' = q_dl f := by unfold q_dl; rw [k306]
  have e4 : q_dy f' = q_dy f := by unfold q_dy; rw [k308]
  have e5 : ∀ v, v < 12 → q_occ f' v = q_occ f v := by intro v hv; unfold q_occ; rw [kO v hv]
  have e6 : ∀ k, k < 10 → q_hd f' k = q_hd f k := by intro v hv; unfold q_hd; rw [kH v hv]
  unfold q_In
  rw [e1, e2, e3, e4, k10, k137, k306, k307, k308]
  refine ⟨⟨a1, a1'⟩, ⟨a2, a2'⟩, ⟨a3, a3'⟩, ⟨a4, a4'⟩, ?_, ?_, ?_, ?_, ?_, ?_, ?_, ?_, ?_, ?_, a15⟩
  · intro o ho; rw [kS (2 * o) (by omega), kS (2 * o + 1) (by omega)]; exact a5 o ho
  · intro v hv; rw [e5 v (by omega), kO v (by omega)]; exact a6 v hv
  · intro v hv hv2 w hw; rw [kZ v hv hv2 w hw]; exact a7 v hv hv2 w hw
  · intro k hk; rw [kH k hk, kC k hk, e6 k hk]; exact a8 k hk
  · intro k hk; rw [kC k hk]; exact a9 k hk
  · intro k hk; rw [kR _ (by omega) (by omega)]; exact a10 k hk
  · intro k hk; rw [kR _ (by omega) (by omega)]; exact a11 k hk
  · intro i j hi hj h; rw [kR _ (by omega) (by omega)]; exact a12 i j hi hj h
  · intro k hk; rw [kR _ (by omega) (by omega)]; exact a13 k hk
  · intro v hv; rw [kT v hv, q_owN_c _ (fun i h1 h2 => kR i h1 (by omega))]; exact a14 v hv
theorem q_In_want {f : q_St} (hI : q_In f) {v w : Nat} (hv : v < q_sz f) (hw : w < 8) (h0 : w ≠ 0) (h3 : w ≠ 3) (x : Int32) : q_In (upd f (11 + 8 * v + w) x) := by
  refine q_In_c hI fun i hi => ?_
  by_cases h : i = 11 + 8 * v + w
  · exact Or.inr (Or.inl ⟨v, w, hv, hw, h, h0, h3⟩)
  · exact Or.inl (q_updn h)
section
variable {E : q_E} {g : q_G} {Q : Option Value → q_E → q_G → Prop}
end
