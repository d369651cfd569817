/-! the class keeps the orders sorted, the model ranks them -/
def q_cle (d : Int32) (l : List q_T) : Nat := (l.filter (fun u => decide (u.2.2 ≤ d))).length
def q_sd (l : List q_T) : Prop := l.Pairwise (fun a b => a.2.2 ≤ b.2.2)
theorem q_ins_len (t : q_T) (l : List q_T) : (q_ins t l).length = l.length + 1 := by
  induction l with
  | nil => rfl
  | cons u l ih =>
    unfold q_ins
    split
    · rfl
    · show (q_ins t l).length + 1 = _
      rw [ih]; rfl
theorem q_ins_mem {t u : q_T} {l : List q_T} : u ∈ q_ins t l ↔ u = t ∨ u ∈ l := by
  induction l with
  | nil => simp [q_ins]
  | cons v l ih =>
    unfold q_ins
    split
    · simp
    · simp only [List.mem_cons, ih]
      constructor
      · rintro (h | h | h)
        · exact Or.inr (Or.inl h)
        · exact Or.inl h
        · exact Or.inr (Or.inr h)
      · rintro (h | h | h)
        · exact Or.inr (Or.inl h)
        · exact Or.inl h
        · exact Or.inr (Or.inr h)
theorem q_ins_sd {t : q_T} {l : List q_T} (h : q_sd l) : q_sd (q_ins t l) := by
  induction l with
  | nil => exact List.pairwise_singleton _ _
  | cons u l ih =>
    have h1 := List.pairwise_cons.mp h
    unfold q_ins
    split
    · rename_i c
      refine List.pairwise_cons.mpr ⟨fun v hv => ?_, h⟩
      rcases List.mem_cons.mp hv with rfl | hv
      · exact Int32.le_of_lt c
      · exact Int32.le_trans (Int32.le_of_lt c) (h1.1 v hv)
    · rename_i c
      refine List.pairwise_cons.mpr ⟨fun v hv => ?_, ih h1.2⟩
      rcases q_ins_mem.mp hv with rfl | hv
      · exact Int32.not_lt.mp c
      · exact h1.1 v hv
theorem q_cle_c (d : Int32) (u : q_T) (l : List q_T) : q_cle d (u :: l) = (if u.2.2 ≤ d then 1 else 0) + q_cle d l := by
  unfold q_cle
  rw [List.filter_cons]
  by_cases c : u.2.2 ≤ d
  · rw [if_pos (decide_eq_true c), if_pos c, List.length_cons, Nat.add_comm]
  · rw [if_neg (by simpa using c), if_neg c, Nat.zero_add]
theorem q_cle_ins (d : Int32) (t : q_T) (l : List q_T) : q_cle d (q_ins t l) = (if t.2.2 ≤ d then 1 else 0) + q_cle d l := by
  induction l with
  | nil => exact q_cle_c d t []
  | cons u l ih =>
    unfold q_ins
    split
    · exact q_cle_c d t _
    · rw [q_cle_c, q_cle_c, ih]; omega
theorem q_cle_0 {d : Int32} {l : List q_T} (h : ∀ u, u ∈ l → d < u.2.2) : q_cle d l = 0 := by
  induction l with
  | nil => rfl
  | cons u l ih =>
    rw [q_cle_c, if_neg (Int32.not_le.mpr (h u (List.mem_cons_self ..))), ih (fun v hv => h v (List.mem_cons_of_mem _ hv))]
/-- in a sorted list the first ones are those not behind d -/
theorem q_cle_i {d : Int32} : ∀ {l : List q_T}, q_sd l → ∀ i, i < l.length → ((l.getD i (0, 0, 0)).2.2 ≤ d ↔ i < q_cle d l) := by
  intro l
  induction l with
  | nil => intro _ i hi; exact absurd hi (by simp)
  | cons u l ih =>
    intro h i hi
    have h1 := List.pairwise_cons.mp h
    rw [q_cle_c]
    by_cases c : u.2.2 ≤ d
    · rw [if_pos c]
      cases i with
      | zero => exact ⟨fun _ => by omega, fun _ => c⟩
      | succ i =>
        have := ih h1.2 i (by simp at hi; omega)
        simp only [List.getD_cons_succ]
        rw [this]
        omega
    · rw [if_neg c]
      have z : q_cle d l = 0 := q_cle_0 fun v hv => by
        have := h1.1 v hv
        have c' := Int32.not_le.mp c
        exact Int32.lt_of_lt_of_le c' this
      rw [z]
      refine ⟨fun q => ?_, fun q => by omega⟩
      cases i with
      | zero => exact absurd q c
      | succ i =>
        have := (ih h1.2 i (by simp at hi; omega)).mp (by simpa using q)
        omega
theorem q_ins_get {t : q_T} : ∀ {l : List q_T}, q_sd l → ∀ i, (q_ins t l).getD i (0, 0, 0) = if i < q_cle t.2.2 l then l.getD i (0, 0, 0) else if i = q_cle t.2.2 l then t else l.getD (i - 1) (0, 0, 0) := by
  intro l
  induction l with
  | nil =>
    intro _ i
    show ([t] : List q_T).getD i (0, 0, 0) = if i < 0 then _ else if i = 0 then t else _
    rw [if_neg (by omega)]
    cases i with
    | zero => rfl
    | succ i => rw [if_neg (by omega)]; simp
  | cons u l ih =>
    intro h i
    have h1 := List.pairwise_cons.mp h
    unfold q_ins
    rw [q_cle_c]
    by_cases c : t.2.2 < u.2.2
    · have c' : ¬ u.2.2 ≤ t.2.2 := Int32.not_le.mpr c
      have z : q_cle t.2.2 l = 0 := q_cle_0 fun v hv => Int32.lt_of_lt_of_le c (h1.1 v hv)
      rw [if_pos c, if_neg c', z, if_neg (by omega)]
      cases i with
      | zero => rfl
      | succ i => rw [if_neg (by omega)]; simp
    · have c' : u.2.2 ≤ t.2.2 := Int32.not_lt.mp c
      rw [if_neg c, if_pos c']
      cases i with
      | zero => rw [if_pos (by omega)]; rfl
      | succ i =>
        simp only [List.getD_cons_succ]
        rw [ih h1.2 i]
        by_cases k1 : i < q_cle t.2.2 l
        · rw [if_pos k1, if_pos (by omega)]
        · rw [if_neg k1]
          by_cases k2 : i = q_cle t.2.2 l
          · rw [if_pos k2, if_neg (show ¬ i + 1 < 1 + q_cle t.2.2 l by omega), if_pos (show i + 1 = 1 + q_cle t.2.2 l by omega)]
          · rw [if_neg k2, if_neg (show ¬ i + 1 < 1 + q_cle t.2.2 l by omega), if_neg (show ¬ i + 1 = 1 + q_cle t.2.2 l by omega)]
            obtain ⟨j, rfl⟩ : ∃ j, i = j + 1 := ⟨i - 1, by omega⟩
            simp
/-- a rank as a number -/
def q_rkN (f : q_St) (k : Nat) : Nat → Nat
  | 0 => 0
  | n + 1 => q_rkN f k n + if f (138 + 3 * n + 2) < f (138 + 3 * k + 2) ∨ (f (138 + 3 * n + 2) = f (138 + 3 * k + 2) ∧ n < k) then 1 else 0
theorem q_rkN_le (f : q_St) (k : Nat) : ∀ n, q_rkN f k n ≤ n := by
  intro n
  induction n with
  | zero => exact Nat.le_refl _
  | succ n ih => unfold q_rkN; split <;> omega
theorem q_rk_N (f : q_St) (k : Nat) : ∀ n, q_rk f n k = nI (q_rkN f k n) := by
  intro n
  induction n with
  | zero => rfl
  | succ n ih =>
    show q_rk f n k + (if f (138 + 3 * n + 2) < f (138 + 3 * k + 2) ∨ (f (138 + 3 * n + 2) = f (138 + 3 * k + 2) ∧ n < k) then nI 1 else nI 0) = nI (q_rkN f k n + if f (138 + 3 * n + 2) < f (138 + 3 * k + 2) ∨ (f (138 + 3 * n + 2) = f (138 + 3 * k + 2) ∧ n < k) then 1 else 0)
    rw [ih]
    split
    · rw [nI_add]
    · rw [nI_add]
theorem q_srt_s (l : List q_T) (t : q_T) : q_srt (l ++ [t]) = q_ins t (q_srt l) := by
  unfold q_srt
  rw [List.foldl_append]
  rfl
theorem q_srt_all (f : q_St) : ∀ n, q_sd (q_srt (q_os f n)) ∧ (q_srt (q_os f n)).length = n ∧ (∀ d, q_cle d (q_srt (q_os f n)) = q_cle d (q_os f n)) ∧ (∀ k, k < n → q_rkN f k n < n ∧ (q_srt (q_os f n)).getD (q_rkN f k n) (0, 0, 0) = q_or f k) ∧ (∀ i, i < n → ∃ k, k < n ∧ q_rkN f k n = i) := by
  intro n
  induction n with
  | zero => exact ⟨List.Pairwise.nil, rfl, fun d => rfl, fun k hk => by omega, fun i hi => by omega⟩
  | succ n ih =>
    obtain ⟨a1, a2, a3, a4, a5⟩ := ih
    rw [q_os_s, q_srt_s]
    have dn : (q_or f n).2.2 = f (138 + 3 * n + 2) := rfl
    -- the new one's rank
    have rn : q_rkN f n (n + 1) = q_cle (q_or f n).2.2 (q_srt (q_os f n)) := by
      rw [a3, dn]
      have k : ∀ m, m ≤ n → q_rkN f n m = q_cle (f (138 + 3 * n + 2)) (q_os f m) := by
        intro m
        induction m with
        | zero => intro _; rfl
        | succ m ihm =>
          intro hm
          rw [q_os_s]
          unfold q_rkN q_cle
          rw [List.filter_append, List.length_append, ihm (by omega)]
          congr 1
          by_cases c : f (138 + 3 * m + 2) ≤ f (138 + 3 * n + 2)
          · have c2 : f (138 + 3 * m + 2) < f (138 + 3 * n + 2) ∨ (f (138 + 3 * m + 2) = f (138 + 3 * n + 2) ∧ m < n) := by
              rcases Int32.le_iff_lt_or_eq.mp c with h | h
              · exact Or.inl h
              · exact Or.inr ⟨h, by omega⟩
            rw [if_pos c2, List.filter_cons, if_pos (show decide ((q_or f m).2.2 ≤ f (138 + 3 * n + 2)) = true from decide_eq_true c)]
            rfl
          · have c2 : ¬ (f (138 + 3 * m + 2) < f (138 + 3 * n + 2) ∨ (f (138 + 3 * m + 2) = f (138 + 3 * n + 2) ∧ m < n)) := by
              rintro (h | h)
              · exact c (Int32.le_of_lt h)
              · exact c (Int32.le_of_eq h.1)
            rw [if_neg c2, List.filter_cons, if_neg (show ¬ decide ((q_or f m).2.2 ≤ f (138 + 3 * n + 2)) = true from fun q => c (of_decide_eq_true q))]
            rfl
      show q_rkN f n n + (if _ then 1 else 0) = _
      rw [if_neg (by rintro (h | h); exact Int32.lt_irrefl h; omega), k n (Nat.le_refl _)]
      rfl
    have rk : ∀ k, k < n → q_rkN f k (n + 1) = if q_rkN f k n < q_cle (q_or f n).2.2 (q_srt (q_os f n)) then q_rkN f k n else q_rkN f k n + 1 := by
      intro k hk
      obtain ⟨b1, b2⟩ := a4 k hk
      have b3 := q_cle_i (d := (q_or f n).2.2) a1 (q_rkN f k n) (by omega)
      rw [b2] at b3
      have b4 : (q_or f k).2.2 = f (138 + 3 * k + 2) := rfl
      rw [b4, dn] at b3
      show q_rkN f k n + (if _ then 1 else 0) = _
      rw [dn]
      by_cases c : f (138 + 3 * k + 2) ≤ f (138 + 3 * n + 2)
      · rw [if_pos (b3.mp c), if_neg]
        · rfl
        · rintro (h | h)
          · exact Int32.lt_irrefl (Int32.lt_of_lt_of_le h c)
          · omega
      · rw [if_neg (fun h => c (b3.mpr h)), if_pos (Or.inl (Int32.not_le.mp c))]
    refine ⟨q_ins_sd a1, by rw [q_ins_len, a2], fun d => ?_, fun k hk => ?_, fun i hi => ?_⟩
    · rw [q_cle_ins, a3]
      unfold q_cle
      rw [List.filter_append, List.length_append, Nat.add_comm]
      congr 1
      by_cases c : (q_or f n).2.2 ≤ d
      · rw [if_pos c, List.filter_cons, if_pos (decide_eq_true c)]; rfl
      · rw [if_neg c, List.filter_cons, if_neg (by simpa using c)]; rfl
    · have cl : q_cle (q_or f n).2.2 (q_srt (q_os f n)) ≤ n := by
        unfold q_cle
        refine Nat.le_trans (List.length_filter_le _ _) ?_
        omega
      by_cases e : k = n
      · subst e
        rw [rn]
        refine ⟨by omega, ?_⟩
        rw [q_ins_get a1, if_neg (by omega), if_pos rfl]
      · obtain ⟨b1, b2⟩ := a4 k (by omega)
        rw [rk k (by omega)]
        by_cases c : q_rkN f k n < q_cle (q_or f n).2.2 (q_srt (q_os f n))
        · rw [if_pos c]
          refine ⟨by omega, ?_⟩
          rw [q_ins_get a1, if_pos c, b2]
        · rw [if_neg c]
          refine ⟨by omega, ?_⟩
          rw [q_ins_get a1, if_neg (by omega), if_neg (by omega), Nat.add_sub_cancel, b2]
    · by_cases c : i < q_cle (q_or f n).2.2 (q_srt (q_os f n))
      · have : q_cle (q_or f n).2.2 (q_srt (q_os f n)) ≤ n := by
          unfold q_cle
          refine Nat.le_trans (List.length_filter_le _ _) ?_
          omega
        obtain ⟨k, k1, k2⟩ := a5 i (by omega)
        exact ⟨k, by omega, by rw [rk k k1, k2, if_pos c]⟩
      · by_cases e : i = q_cle (q_or f n).2.2 (q_srt (q_os f n))
        · exact ⟨n, by omega, by rw [rn, e]⟩
        · obtain ⟨k, k1, k2⟩ := a5 (i - 1) (by omega)
          exact ⟨k, by omega, by rw [rk k k1, k2, if_neg (by omega)]; omega⟩
theorem q_fi_n (p : Nat → Bool) : ∀ d j, j + d < 2147483648 → q_fi p d j = -1 → ∀ k, j ≤ k → k < j + d → p k = false := by
  intro d
  induction d with
  | zero => intro j _ _ k h1 h2; omega
  | succ d ih =>
    intro j hj h k h1 h2
    unfold q_fi at h
    by_cases c : p j = true
    · rw [if_pos c] at h
      have := congrArg Int32.toInt h
      rw [nI_toInt (by omega)] at this
      have e : (-1 : Int32).toInt = -1 := by decide
      omega
    · rw [if_neg c] at h
      by_cases e : k = j
      · subst e; simpa using c
      · exact ih (j + 1) (by omega) h k (by omega) (by omega)
/-- what orderOf tells, out of the sorted list -/
theorem a_order_get {f : q_St} (hq : q_no f ≤ 8) {i w : Nat} (hi : i < q_no f) : ∃ k, k < q_no f ∧ (q_srt (q_os f (q_no f))).getD i (0, 0, 0) = q_or f k ∧ a_order f (nI i) w = f (138 + 3 * k + w) - (if w = 2 then f 308 else nI 0) := by
  obtain ⟨a1, a2, a3, a4, a5⟩ := q_srt_all f (q_no f)
  unfold a_order
  rcases q_fi_c (fun k => decide (q_rk f (q_no f) k = nI i)) (q_no f) 0 (by omega) with h | ⟨k, -, hk, hp, h⟩
  · obtain ⟨k, k1, k2⟩ := a5 i hi
    have := q_fi_n _ _ _ (by omega) h k (by omega) (by omega)
    simp only [q_rk_N, k2, decide_true, Bool.true_eq_false] at this
  · rw [Nat.zero_add] at hk
    have hp := of_decide_eq_true hp
    have l := q_rkN_le f k (q_no f)
    rw [q_rk_N, q_eqn (by omega) (by omega)] at hp
    refine ⟨k, hk, by rw [← hp]; exact (a4 k hk).2, ?_⟩
    rw [h, if_pos (by rw [q_le (by omega) (by omega)]; omega), nI_clamp (by omega)]
theorem a_order_no {f : q_St} (hq : q_no f ≤ 8) {x : Int32} {w : Nat} (h0 : nI 0 ≤ x) (hx : nI (q_no f) ≤ x) : a_order f x w = -1000004 := by
  unfold a_order
  rcases q_fi_c (fun k => decide (q_rk f (q_no f) k = x)) (q_no f) 0 (by omega) with h | ⟨k, -, hk, hp, h⟩
  · rw [h, if_neg (by decide)]
  · rw [Nat.zero_add] at hk
    have hp := of_decide_eq_true hp
    have l := ((q_srt_all f (q_no f)).2.2.2.1 k hk).1
    rw [q_rk_N] at hp
    rw [← hp, q_le (by omega) (by omega)] at hx
    omega

