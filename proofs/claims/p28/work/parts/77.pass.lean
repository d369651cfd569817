/-! p28: days pass, orders come -/
def hg_la : List q_T → Int32
  | [] => nI 0
  | t :: l => t.2.1 + hg_la l
theorem hg_la_a (l m : List q_T) : hg_la (l ++ m) = hg_la l + hg_la m := by
  induction l with
  | nil => exact (q_z0 _).symm
  | cons t l ih => show t.2.1 + hg_la (l ++ m) = t.2.1 + hg_la l + hg_la m; rw [ih, Int32.add_assoc]
theorem hg_la_f (p : q_T → Bool) (l : List q_T) : hg_la (l.filter p) + hg_la (l.filter (fun t => !p t)) = hg_la l := by
  induction l with
  | nil => exact q_a0 _
  | cons t l ih =>
    cases h : p t <;> simp only [List.filter_cons, h, Bool.not_true, Bool.not_false, ↓reduceIte, Bool.false_eq_true] <;> simp only [hg_la] <;> rw [← ih] <;> grind
theorem hg_la_ins (t : q_T) (l : List q_T) : hg_la (q_ins t l) = t.2.1 + hg_la l := by
  induction l with
  | nil => rfl
  | cons u l ih =>
    unfold q_ins
    split
    · rfl
    · show u.2.1 + hg_la (q_ins t l) = t.2.1 + (u.2.1 + hg_la l)
      rw [ih]
      grind
theorem hg_la_os (f : q_St) : ∀ n, hg_la (q_os f n) = q_sum (fun k => f (138 + 3 * k + 1)) n ∧ hg_la (q_srt (q_os f n)) = hg_la (q_os f n) := by
  intro n
  induction n with
  | zero => exact ⟨rfl, rfl⟩
  | succ n ih =>
    rw [q_os_s, q_srt_s, hg_la_ins, hg_la_a, ih.2, ih.1]
    have e : hg_la [q_or f n] = f (138 + 3 * n + 1) := q_a0 _
    rw [e]
    refine ⟨rfl, ?_⟩
    show f (138 + 3 * n + 1) + _ = _
    exact Int32.add_comm _ _
theorem hg_ls_sum {m : Nat} (hm : m ≤ 12) (l : List q_T) (h : ∀ t, t ∈ l → ∃ u : Nat, u < m ∧ t.1 = nI u) : q_sum (fun v => q_ls (nI v) l) m = hg_la l := by
  induction l with
  | nil => exact q_sum_z0 m fun _ _ => rfl
  | cons t l ih =>
    obtain ⟨u, hu, hu2⟩ := h t (List.mem_cons_self ..)
    show q_sum (fun v => (if t.1 = nI v then t.2.1 else nI 0) + q_ls (nI v) l) m = t.2.1 + hg_la l
    rw [q_sum_ad, ih (fun s hs => h s (List.mem_cons_of_mem _ hs)), q_sum_1 (u := u) hu (fun v hv hne => by rw [hu2, if_neg (by rw [q_eqn (by omega) (by omega)]; exact fun q => hne q.symm)])]
    rw [hu2, if_pos rfl]
theorem hg_flen (p : q_T → Bool) (l : List q_T) : (l.filter p).length + (l.filter (fun t => !p t)).length = l.length := by
  induction l with
  | nil => rfl
  | cons t l ih =>
    cases h : p t <;> simp only [List.filter_cons, h, Bool.not_true, Bool.not_false, ↓reduceIte, Bool.false_eq_true, List.length_cons] <;> omega
/-- a list's places, summed -/
theorem hg_get_sum (F : q_T → Int32) (z : q_T) (l : List q_T) : q_sum (fun j => F (l.getD j z)) l.length = l.foldr (fun t s => F t + s) (nI 0) := by
  induction l with
  | nil => rfl
  | cons t l ih =>
    rw [List.length_cons, Nat.add_comm, q_sum_hd, List.foldr_cons, ← ih]
    congr 1
    · exact q_z0 _
    · exact q_sum_c fun j hj => by rw [Nat.add_comm, List.getD_cons_succ]
theorem hg_get_la (z : q_T) (l : List q_T) : q_sum (fun j => (l.getD j z).2.1) l.length = hg_la l := by
  rw [hg_get_sum (fun t => t.2.1) z l]
  induction l with
  | nil => rfl
  | cons t l ih => rw [List.foldr_cons, ih]; rfl
theorem hg_get_cle (d : Int32) (z : q_T) (l : List q_T) : q_sum (fun j => if (l.getD j z).2.2 ≤ d then nI 1 else nI 0) l.length = nI (q_cle d l) := by
  rw [hg_get_sum (fun t => if t.2.2 ≤ d then nI 1 else nI 0) z l]
  induction l with
  | nil => rfl
  | cons t l ih =>
    rw [List.foldr_cons, ih, q_cle_c, ← nI_add]
    congr 1
    split <;> rfl
section
variable {m i j : Nat} {ord acc : Int32} {f : q_St}
/-- what orderOf tells of the place k: cards, and the days until it comes -/
theorem hg_ord (hI : q_In f) {k : Nat} (hk : k < q_no f) : a_order f (nI k) 1 = ((q_srt (q_os f (q_no f))).getD k (0, 0, 0)).2.1 ∧ ∃ t : Nat, 1 ≤ t ∧ t ≤ 2029 ∧ q_dy f + t ≤ 2029 ∧ a_order f (nI k) 2 = nI t ∧ ((q_srt (q_os f (q_no f))).getD k (0, 0, 0)).2.2 = nI (q_dy f + t) := by
  have h8 := hI.2.1.1
  have hd := hI.2.2.2.1
  obtain ⟨k1, l1, l2, l3⟩ := a_order_get (f := f) h8 (w := 1) hk
  obtain ⟨k2, m1, m2, m3⟩ := a_order_get (f := f) h8 (w := 2) hk
  obtain ⟨d, d1, d2, d3⟩ := hI.2.2.2.2.2.2.2.2.2.2.1 k2 m1
  refine ⟨?_, d - q_dy f, by omega, by omega, by omega, ?_, ?_⟩
  · rw [l3, l2, if_neg (by decide), nI_0, Int32.sub_zero]
    rfl
  · rw [m3, if_pos rfl, d3, hd.2, pk_sub (by omega)]
  · rw [m2, show q_dy f + (d - q_dy f) = d by omega]
    exact d3
theorem hg_amts_o (hI : q_In f) : q_sum (fun k => a_order f (nI k) 1) (q_no f) = hg_amts f := by
  have e : q_sum (fun k => a_order f (nI k) 1) (q_no f) = q_sum (fun k => ((q_srt (q_os f (q_no f))).getD k (0, 0, 0)).2.1) (q_no f) := q_sum_c fun k hk => (hg_ord hI hk).1
  have l := hg_get_la (0, 0, 0) (q_srt (q_os f (q_no f)))
  rw [(q_srt_all f (q_no f)).2.1] at l
  rw [e, l, (hg_la_os f (q_no f)).2, (hg_la_os f (q_no f)).1]
  rfl
theorem hg_ord_s (hI : q_In f) {k : Nat} (hk : k + 1 < q_no f) : a_order f (nI k) 2 ≤ a_order f (nI (k + 1)) 2 := by
  obtain ⟨-, s, s1, s2, s3, s4, s5⟩ := hg_ord hI (k := k) (by omega)
  obtain ⟨-, t, t1, t2, t3, t4, t5⟩ := hg_ord hI (k := k + 1) hk
  obtain ⟨a1, a2, -⟩ := q_srt_all f (q_no f)
  have h := List.pairwise_iff_getElem.mp a1 k (k + 1) (by omega) (by omega) (by omega)
  rw [List.getD_eq_getElem?_getD, List.getElem?_eq_getElem (by omega)] at s5 t5
  simp only [Option.getD_some] at s5 t5
  rw [s5, t5, q_le (by omega) (by omega)] at h
  rw [s4, t4, q_le (by omega) (by omega)]
  omega
theorem hg_pass (hI : q_In f) (hL : hg_Le m i j ord acc f) (hi : i < 36) (hj : j ≤ 100) {n : Nat} (h1 : 1 ≤ n) (h2 : n ≤ 9) : (p_pass f (nI n)).1 = q_sum (fun k => if a_order f (nI k) 2 ≤ nI n then nI 1 else nI 0) (q_no f) ∧ (p_pass f (nI n)).2 308 = f 308 + nI n ∧ hg_Le m (i + 1) j ord acc (p_pass f (nI n)).2 := by
  have hsz := hL.1.1
  have h6 := hL.1.2.2
  have hno := hI.2.1.1
  have hd := hI.2.2.2.1
  obtain ⟨⟨a1, a2, a3⟩, b, c, d, e, p, sd, ⟨r, r1, r2⟩, ⟨o, o1, o2⟩, y, z1, z2⟩ := hL
  have t := q_ir_t (lo := 1) (hi := 99) h1 (by omega) (by omega)
  rw [q_c1, q_c99] at t
  unfold p_pass
  rw [t, if_pos rfl, hd.2, nI_add, if_neg (by rw [q_lt (by omega) (by omega)]; omega), q_cl31 (by omega)]
  obtain ⟨b1, b2, b3, b4, b5, b6, b7⟩ := p_days_l (q_In_Io hI) hd.2 n (by omega)
  rw [if_neg (by omega)] at b2
  have sl := (q_srt_all f (q_no f)).2.1
  have sc := (q_srt_all f (q_no f)).2.2.1 (nI (q_dy f + n))
  have cnt : q_sum (fun k => if a_order f (nI k) 2 ≤ nI n then nI 1 else nI 0) (q_no f) = nI (q_cle (nI (q_dy f + n)) (q_os f (q_no f))) := by
    have l := hg_get_cle (nI (q_dy f + n)) (0, 0, 0) (q_srt (q_os f (q_no f)))
    rw [sl, sc] at l
    rw [← l]
    refine q_sum_c fun k hk => ?_
    obtain ⟨-, s, s1, s2, s3, s4, s5⟩ := hg_ord hI hk
    rw [s4, s5]
    by_cases q : s ≤ n
    · rw [if_pos (by rw [q_le (by omega) (by omega)]; exact q), if_pos (by rw [q_le (by omega) (by omega)]; omega)]
    · rw [if_neg (by rw [q_le (by omega) (by omega)]; exact q), if_neg (by rw [q_le (by omega) (by omega)]; omega)]
  have ln : (List.filter (q_nod (nI (q_dy f + n))) (q_os f (q_no f))).length = q_no (p_days f n).2 := by rw [← b2, q_os_len]
  have lf := hg_flen (q_due (nI (q_dy f + n))) (q_os f (q_no f))
  have eN : (List.filter (fun t => !q_due (nI (q_dy f + n)) t) (q_os f (q_no f))) = (List.filter (q_nod (nI (q_dy f + n))) (q_os f (q_no f))) := rfl
  have eD : (List.filter (q_due (nI (q_dy f + n))) (q_os f (q_no f))).length = q_cle (nI (q_dy f + n)) (q_os f (q_no f)) := rfl
  rw [eN, eD, ln, q_os_len] at lf
  refine ⟨?_, ?_, ?_⟩
  · rw [b5, cnt]
    congr 1
    omega
  · rw [b7]
  · generalize (p_days f n).2 = h at *
    have hh : ∀ x, (∀ v, v < 12 → x ≠ 11 + 8 * v + 3) → x ≠ 308 → (x < 137 ∨ 162 ≤ x) → h x = f x := b4
    have hz : q_sz h = q_sz f := by unfold q_sz; rw [hh _ (by omega) (by omega) (by omega)]
    have ss : ∀ w, w < 8 → w ≠ 3 → a_sum h w = a_sum f w := fun w hw h3 => hg_sc hz fun v hv => hh _ (by omega) (by omega) (by omega)
    have mem : ∀ t, t ∈ q_os f (q_no f) → ∃ u : Nat, u < m ∧ t.1 = nI u := fun t ht => by
      obtain ⟨⟨u, u1, u2⟩, -⟩ := q_In_os hI ht
      exact ⟨u, by omega, u2⟩
    refine ⟨⟨hz.trans a1, a2, a3⟩, ?_, ?_, ?_, ?_, fun u hu => ?_, fun u hu => ?_, ⟨r, ?_, by omega⟩, ⟨o, o1, by omega⟩, ?_, ?_, ?_⟩
    · rw [ss 4 (by omega) (by omega), hg_oc (f := f) (fun k hk => hh _ (by omega) (by omega) (by omega))]; exact b
    · rw [ss 7 (by omega) (by omega), ss 4 (by omega) (by omega), ss 6 (by omega) (by omega)]; exact c
    · have e1 : hg_card h = hg_card f := hg_cc fun k hk => hh _ (by omega) (by omega) (by omega)
      have e2 : a_sum h 3 = a_sum f 3 + hg_la (List.filter (q_due (nI (q_dy f + n))) (q_os f (q_no f))) := by
        unfold a_sum
        rw [hz, a1, ← hg_ls_sum (m := m) (by omega) _ (fun t ht => mem t (List.mem_filter.mp ht).1), ← q_sum_ad]
        refine q_sum_c fun v hv => ?_
        rw [b3 v (by omega), if_neg (by omega)]
      have e3 : hg_amts h = hg_la (List.filter (q_nod (nI (q_dy f + n))) (q_os f (q_no f))) := by
        rw [← b2, (hg_la_os h (q_no h)).1]
        rfl
      have e4 : hg_amts f = hg_la (q_os f (q_no f)) := by
        rw [(hg_la_os f (q_no f)).1]
        rfl
      have e5 := hg_la_f (q_due (nI (q_dy f + n))) (q_os f (q_no f))
      rw [eN] at e5
      rw [e1, e2, e3, ss 4 (by omega) (by omega), hh 309 (by omega) (by omega) (by omega), d, e4, ← e5]
      have : ∀ x y z w t n : Int32, x + y + (z + n) + w + t = x + (y + z) + n + w + t := by intro x y z w t n; grind
      exact this _ _ _ _ _ _
    · rw [hh _ (by omega) (by omega) (by omega)]; exact e
    · rw [hh _ (by omega) (by omega) (by omega), hh _ (by omega) (by omega) (by omega)]; exact p u hu
    · rw [hh _ (by omega) (by omega) (by omega), hh _ (by omega) (by omega) (by omega)]; exact sd u hu
    · rw [hh _ (by omega) (by omega) (by omega)]; exact r1
    · unfold q_dy at *; rw [b7, nI_clamp (by omega)]; omega
    · rw [hh _ (by omega) (by omega) (by omega)]; omega
    · rw [hh _ (by omega) (by omega) (by omega)]; omega
end
