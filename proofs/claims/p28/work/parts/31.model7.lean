abbrev q_T : Type := Int32 × Int32 × Int32
def q_or (f : q_St) (k : Nat) : q_T := (f (138 + 3 * k), f (138 + 3 * k + 1), f (138 + 3 * k + 2))
/-- the model's first n orders -/
def q_os (f : q_St) (n : Nat) : List q_T := (List.range n).map (q_or f)
/-- how many cards of x the orders of a list are -/
def q_ls (x : Int32) : List q_T → Int32
  | [] => nI 0
  | t :: l => (if t.1 = x then t.2.1 else nI 0) + q_ls x l
def q_lsN (x : Int32) : List q_T → Nat
  | [] => 0
  | t :: l => (if t.1 = x then t.2.1.toNatClampNeg else 0) + q_lsN x l
theorem q_os_s (f : q_St) (n : Nat) : q_os f (n + 1) = q_os f n ++ [q_or f n] := by
  unfold q_os
  rw [List.range_succ, List.map_append]
  rfl
theorem q_os_c {f f' : q_St} : ∀ n, (∀ i, 138 ≤ i → i < 138 + 3 * n → f' i = f i) → q_os f' n = q_os f n := by
  intro n
  induction n with
  | zero => intro _; rfl
  | succ n ih =>
    intro h
    rw [q_os_s, q_os_s, ih (fun i h1 h2 => h i h1 (by omega))]
    unfold q_or
    rw [h _ (by omega) (by omega), h _ (by omega) (by omega), h _ (by omega) (by omega)]
theorem q_os_len (f : q_St) (n : Nat) : (q_os f n).length = n := by unfold q_os; simp
theorem q_os_mem {f : q_St} {n : Nat} {t : q_T} : t ∈ q_os f n ↔ ∃ k, k < n ∧ q_or f k = t := by
  unfold q_os
  simp
theorem q_ls_a (x : Int32) (l m : List q_T) : q_ls x (l ++ m) = q_ls x l + q_ls x m := by
  induction l with
  | nil => show _ = nI 0 + _; rw [nI_0, Int32.zero_add]; rfl
  | cons t l ih => show _ + q_ls x (l ++ m) = _ + q_ls x l + _; rw [ih, Int32.add_assoc]
theorem q_lsN_a (x : Int32) (l m : List q_T) : q_lsN x (l ++ m) = q_lsN x l + q_lsN x m := by
  induction l with
  | nil => show _ = 0 + _; rw [Nat.zero_add]; rfl
  | cons t l ih => show _ + q_lsN x (l ++ m) = _ + q_lsN x l + _; rw [ih, Nat.add_assoc]
theorem q_ow_l (f : q_St) (x : Int32) : ∀ n, q_ow f n x = q_ls x (q_os f n) := by
  intro n
  induction n with
  | zero => rfl
  | succ n ih =>
    rw [q_os_s, q_ls_a, ← ih]
    show q_ow f n x + _ = _ + (_ + nI 0)
    rw [q_a0]
    rfl
theorem q_ow_lN (f : q_St) (v : Nat) : ∀ n, q_owN f v n = q_lsN (nI v) (q_os f n) := by
  intro n
  induction n with
  | zero => rfl
  | succ n ih =>
    rw [q_os_s, q_lsN_a, ← ih]
    show q_owN f v n + _ = _ + (_ + 0)
    rw [Nat.add_zero]
    rfl
theorem q_ls_N (x : Int32) (l : List q_T) (h : ∀ t, t ∈ l → ∃ a : Nat, a ≤ 999 ∧ t.2.1 = nI a) : q_ls x l = nI (q_lsN x l) := by
  induction l with
  | nil => rfl
  | cons t l ih =>
    show _ + q_ls x l = nI (_ + q_lsN x l)
    rw [ih (fun u hu => h u (List.mem_cons_of_mem _ hu)), ← nI_add]
    congr 1
    obtain ⟨a, h1, h2⟩ := h t (List.mem_cons_self ..)
    split
    · rw [h2, nI_clamp (by omega)]
    · rfl
/-- splitting a list's sum by a test -/
theorem q_ls_f (x : Int32) (p : q_T → Bool) (l : List q_T) : q_ls x (l.filter p) + q_ls x (l.filter (fun t => !p t)) = q_ls x l := by
  induction l with
  | nil => exact q_a0 _
  | cons t l ih =>
    cases h : p t <;> simp only [List.filter_cons, h, Bool.not_true, Bool.not_false, ↓reduceIte, Bool.false_eq_true] <;> simp only [q_ls] <;> rw [← ih] <;> grind
theorem q_lsN_f (x : Int32) (p : q_T → Bool) (l : List q_T) : q_lsN x (l.filter p) + q_lsN x (l.filter (fun t => !p t)) = q_lsN x l := by
  induction l with
  | nil => rfl
  | cons t l ih =>
    cases h : p t <;> simp only [List.filter_cons, h, Bool.not_true, Bool.not_false, ↓reduceIte, Bool.false_eq_true] <;> simp only [q_lsN] <;> omega
def q_due (d : Int32) (t : q_T) : Bool := decide (t.2.2 ≤ d)
def q_nod (d : Int32) (t : q_T) : Bool := !q_due d t
theorem p_co_l {f : q_St} (hI : q_Io f) : ∀ n, n ≤ q_no f → q_os (p_co f n).2 (p_co f n).1 = (q_os f n).filter (q_nod (f 308)) ∧ (∀ v, v < 12 → (p_co f n).2 (11 + 8 * v + 3) = f (11 + 8 * v + 3) + q_ls (nI v) ((q_os f n).filter (q_due (f 308)))) := by
  intro n
  induction n with
  | zero => intro _; exact ⟨rfl, fun v hv => (q_a0 _).symm⟩
  | succ n ih =>
    intro hn
    obtain ⟨h1, h2⟩ := ih (by omega)
    obtain ⟨i1, i2⟩ := p_co_i hI n (by omega)
    obtain ⟨u, hu, hu2⟩ := hI.2 n (by omega)
    rw [q_os_s, List.filter_append, List.filter_append]
    unfold p_co
    by_cases c : f (138 + 3 * n + 2) ≤ f 308
    · have d1 : q_due (f 308) (q_or f n) = true := decide_eq_true c
      have d2 : q_nod (f 308) (q_or f n) = false := by unfold q_nod; rw [d1]; rfl
      rw [if_pos c, List.filter_cons, List.filter_cons, d1, d2]
      simp only [↓reduceIte, List.filter_nil, Bool.false_eq_true, List.append_nil]
      rw [hu2, nI_clamp (by omega)]
      refine ⟨?_, fun v hv => ?_⟩
      · rw [← h1]
        exact q_os_c _ (fun i hi hi2 => q_updn (by omega))
      · rw [q_ls_a]
        show _ = _ + (_ + ((if f (138 + 3 * n) = nI v then f (138 + 3 * n + 1) else nI 0) + nI 0))
        rw [q_a0, hu2]
        by_cases e : u = v
        · subst e
          rw [q_upds rfl, if_pos rfl, h2 u hv, Int32.add_assoc]
        · rw [q_updn (by omega), if_neg (by rw [q_eqn (by omega) (by omega)]; exact e), q_a0, h2 v hv]
    · have d1 : q_due (f 308) (q_or f n) = false := decide_eq_false c
      have d2 : q_nod (f 308) (q_or f n) = true := by unfold q_nod; rw [d1]; rfl
      rw [if_neg c, List.filter_cons, List.filter_cons, d1, d2]
      simp only [↓reduceIte, List.filter_nil, Bool.false_eq_true, List.append_nil]
      refine ⟨?_, fun v hv => ?_⟩
      · rw [q_os_s, ← h1]
        congr 1
        · exact q_os_c _ (fun i hi hi2 => by rw [q_updn (by omega), q_updn (by omega), q_updn (by omega)])
        · unfold q_or
          rw [q_updn (by omega), q_updn (by omega), q_upds rfl, q_updn (by omega), q_upds rfl, q_upds rfl]
      · rw [q_updn (by omega), q_updn (by omega), q_updn (by omega), h2 v hv]
theorem p_comes_l {f : q_St} (hI : q_Io f) : q_Io (p_comes f).2 ∧ q_os (p_comes f).2 (q_no (p_comes f).2) = (q_os f (q_no f)).filter (q_nod (f 308)) ∧ (∀ v, v < 12 → (p_comes f).2 (11 + 8 * v + 3) = f (11 + 8 * v + 3) + q_ls (nI v) ((q_os f (q_no f)).filter (q_due (f 308)))) ∧ (∀ i, (∀ v, v < 12 → i ≠ 11 + 8 * v + 3) → (i < 137 ∨ 162 ≤ i) → (p_comes f).2 i = f i) ∧ (p_comes f).1 = nI (q_no f - q_no (p_comes f).2) ∧ q_no (p_comes f).2 ≤ q_no f := by
  obtain ⟨i1, i2⟩ := p_co_i hI (q_no f) (Nat.le_refl _)
  obtain ⟨l1, l2⟩ := p_co_l hI (q_no f) (Nat.le_refl _)
  have h8 := hI.1.1
  have e : q_no (p_comes f).2 = (p_co f (q_no f)).1 := by
    unfold p_comes
    show (upd (p_co f (q_no f)).2 137 (nI (p_co f (q_no f)).1) 137).toNatClampNeg = _
    rw [q_upds rfl, nI_clamp (by omega)]
  have l3 : q_os (p_comes f).2 (q_no (p_comes f).2) = (q_os f (q_no f)).filter (q_nod (f 308)) := by
    rw [e, ← l1]
    exact q_os_c _ (fun i hi hi2 => q_updn (by omega))
  refine ⟨⟨⟨by omega, ?_⟩, fun k hk => ?_⟩, l3, fun v hv => ?_, fun i hi hi2 => ?_, ?_, by omega⟩
  · rw [e]
    show upd (p_co f (q_no f)).2 137 (nI (p_co f (q_no f)).1) 137 = _
    exact q_upds rfl
  · have m : q_or (p_comes f).2 k ∈ q_os (p_comes f).2 (q_no (p_comes f).2) := q_os_mem.mpr ⟨k, hk, rfl⟩
    rw [l3, List.mem_filter, q_os_mem] at m
    obtain ⟨⟨j, hj, hj2⟩, -⟩ := m
    obtain ⟨v, hv, hv2⟩ := hI.2 j hj
    refine ⟨v, hv, ?_⟩
    rw [← hv2]
    exact (congrArg Prod.fst hj2).symm
  · rw [← l2 v hv]
    exact q_updn (by omega)
  · rw [← i2 i hi (by omega)]
    exact q_updn (by omega)
  · rw [e]; rfl
def p_days (f : q_St) : Nat → Int32 × q_St
  | 0 => (nI 0, f)
  | n + 1 => ((p_days f n).1 + (p_comes (upd (p_days f n).2 308 ((p_days f n).2 308 + nI 1))).1, (p_comes (upd (p_days f n).2 308 ((p_days f n).2 308 + nI 1))).2)
def p_pass (f : q_St) (x : Int32) : Int32 × q_St := if q_ir 1 99 x = true then (if nI 1999 < f 308 + x then (-1000003, f) else p_days f x.toNatClampNeg) else (-1000001, f)
theorem q_Io_u {f : q_St} (hI : q_Io f) (x : Int32) : q_Io (upd f 308 x) := by
  have h8 := hI.1.1
  unfold q_Io
  rw [q_no_u (by omega), q_updn (by omega)]
  refine ⟨hI.1, fun k hk => ?_⟩
  rw [q_updn (by omega)]
  exact hI.2 k hk
theorem q_os_u {f : q_St} {x : Int32} {n : Nat} (hn : n ≤ 8) : q_os (upd f 308 x) n = q_os f n := q_os_c _ (fun i h1 h2 => q_updn (by omega))
theorem q_nod_2 {a b : Int32} (h : a ≤ b) (l : List q_T) : (l.filter (q_nod a)).filter (q_nod b) = l.filter (q_nod b) := by
  rw [List.filter_filter]
  congr 1
  funext t
  unfold q_nod q_due
  by_cases c : t.2.2 ≤ a
  · have : t.2.2 ≤ b := Int32.le_trans c h
    simp [this]
  · simp [c]
theorem q_due_2 {a b : Int32} (h : a ≤ b) (x : Int32) (l : List q_T) : q_ls x (l.filter (q_due a)) + q_ls x ((l.filter (q_nod a)).filter (q_due b)) = q_ls x (l.filter (q_due b)) := by
  induction l with
  | nil => show nI 0 + nI 0 = nI 0; exact q_a0 _
  | cons t l ih =>
    by_cases c : t.2.2 ≤ a
    · have c2 : t.2.2 ≤ b := Int32.le_trans c h
      have e1 : q_due a t = true := decide_eq_true c
      have e2 : q_due b t = true := decide_eq_true c2
      have e3 : q_nod a t = false := by unfold q_nod; rw [e1]; rfl
      simp only [List.filter_cons, e1, e2, e3, ↓reduceIte, Bool.false_eq_true, q_ls]
      rw [← ih, Int32.add_assoc]
    · have e1 : q_due a t = false := decide_eq_false c
      have e3 : q_nod a t = true := by unfold q_nod; rw [e1]; rfl
      cases e2 : q_due b t <;> simp only [List.filter_cons, e1, e2, e3, ↓reduceIte, Bool.false_eq_true, q_ls]
      · exact ih
      · rw [← ih]; rw [← Int32.add_assoc, ← Int32.add_assoc, Int32.add_comm (q_ls x (List.filter (q_due a) l))]
theorem p_days_l {f : q_St} (hI : q_Io f) {d : Nat} (hd : f 308 = nI d) : ∀ n, d + n ≤ 1999 → q_Io (p_days f n).2 ∧ q_os (p_days f n).2 (q_no (p_days f n).2) = (if n = 0 then q_os f (q_no f) else (q_os f (q_no f)).filter (q_nod (nI (d + n)))) ∧ (∀ v, v < 12 → (p_days f n).2 (11 + 8 * v + 3) = f (11 + 8 * v + 3) + if n = 0 then nI 0 else q_ls (nI v) ((q_os f (q_no f)).filter (q_due (nI (d + n))))) ∧ (∀ i, (∀ v, v < 12 → i ≠ 11 + 8 * v + 3) → i ≠ 308 → (i < 137 ∨ 162 ≤ i) → (p_days f n).2 i = f i) ∧ (p_days f n).1 = nI (q_no f - q_no (p_days f n).2) ∧ q_no (p_days f n).2 ≤ q_no f ∧ (p_days f n).2 308 = nI (d + n) := by
  intro n
  induction n with
  | zero =>
    intro _
    refine ⟨hI, rfl, fun v hv => ?_, fun i _ _ _ => rfl, ?_, Nat.le_refl _, hd⟩
    · rw [if_pos rfl, q_a0]; rfl
    · show nI 0 = nI (q_no f - q_no f); rw [Nat.sub_self]
  | succ n ih =>
    intro hn
    obtain ⟨a1, a2, a3, a4, a5, a6, a7⟩ := ih (by omega)
    have h8 := hI.1.1
    obtain ⟨b1, b2, b3, b4, b5, b6⟩ := p_comes_l (q_Io_u a1 ((p_days f n).2 308 + nI 1))
    rw [q_no_u (by omega)] at b2 b3 b5 b6
    rw [q_os_u (by omega)] at b2 b3
    rw [q_upds rfl, a7, nI_add] at b2 b3
    have hle : nI (d + n) ≤ nI (d + n + 1) := by rw [q_le (by omega) (by omega)]; omega
    unfold p_days
    simp only [show (n + 1 = 0) = False from eq_false (by omega), ↓reduceIte]
    rw [a7, nI_add] at b1 b4 b5 b6 ⊢
    try dsimp only
    refine ⟨b1, ?_, fun v hv => ?_, fun i hi hi2 hi3 => ?_, ?_, by omega, ?_⟩
    · rw [b2, a2]
      by_cases z : n = 0
      · subst z; rfl
      · rw [if_neg z, q_nod_2 hle]; try rfl
    · rw [b3 v hv, a2, q_updn (by omega), a3 v hv]
      by_cases z : n = 0
      · subst z; rw [if_pos rfl, if_pos rfl, q_a0]; try rfl
      · rw [if_neg z, if_neg z, Int32.add_assoc, q_due_2 hle]; try rfl
    · rw [b4 i hi hi3, q_updn hi2, a4 i hi hi2 hi3]
    · rw [a5, b5, nI_add]
      congr 1
      omega
    · rw [b4 308 (by omega) (by omega), q_upds rfl]
      try rfl
section
variable {E : q_E} {g : q_G} {Q : Option Value → q_E → q_G → Prop}
end
