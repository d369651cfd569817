theorem q_known {s : State} {args : Array Value} (hts : ∀ w ∈ lw_tbl, w.before args s = true) : ∃ D : va_G, ∀ (k : Nat) (q : vw_C), vwCl[k]? = some q → u_Kn s q.1 q.2.1 q.2.2 (D.1 k) (D.2 k) := by
  have hts2 : ∀ w ∈ q_LW, w.before args s = true := fun w hw => hts w (q_LW_sub hw)
  have hk : ∀ ci, ci < 9 → ∃ (cC : ClassId) (iS : Nat → Nat), u_Kn s (q_cl ci).1 (q_cl ci).2.1 (q_cl ci).2.2 cC iS := by
    have hi : ∀ ci, ci < 9 → Cond.instantiable (q_cl ci).1 (q_cl ci).2.2 ∈ lw_tbl := q_lt9 (by decide +kernel) (by decide +kernel) (by decide +kernel) (by decide +kernel) (by decide +kernel) (by decide +kernel) (by decide +kernel) (by decide +kernel) (by decide +kernel)
    intro ci hci
    exact u_known hts2 (q_in ci hci) (hts _ (hi ci hci))
  refine ⟨(fun k => if h : k < 9 then (hk k h).choose else 0, fun k => if h : k < 9 then (hk k h).choose_spec.choose else fun _ => 0), fun k q hq => ?_⟩
  have hlt : k < 9 := by
    have := (List.getElem?_eq_some_iff.mp hq).1
    exact this
  rw [q_cl_some k hlt] at hq
  cases hq
  dsimp only
  rw [dif_pos hlt, dif_pos hlt]
  exact (hk k hlt).choose_spec.choose_spec
theorem q_arrK {s : State} {args : Array Value} {ty : FieldType} (h : (Cond.arrayClass ty).before args s = true) (hty : ty = .int ∨ ty = .char) : ∃ cA : ClassId, ArrOfT s cA ty ∧ va_RA s cA ty := by
  obtain ⟨cA, kA, comp, h1, h2, h3⟩ := Cond.arrayClass_spec h
  refine ⟨cA, fun n z => ⟨fun k h => (by cases h), kA, h2, comp, h3⟩, ?_⟩
  rcases hty with rfl | rfl
  · exact h1
  · exact h1
theorem q_besq {s : State} {args : Array Value} (hgv : (Jvm.Cond.and given_1 narrow_1).before args s = true) : ∀ j : Nat, j < 10 → (Term.elem (.static "CardRacks" "BESIDE" "[I") (.int (Int32.ofNat j))).eval args s none [] s = some (.int (q_bes j)) := by
  have hs := flat_of_before _ hgv
  have key : ∀ j, j < 10 → Cond.eq (Term.elem (.static "CardRacks" "BESIDE" "[I") (.int (Int32.ofNat j))) (.int (q_bes j)) ∈ flatC (Jvm.Cond.and given_1 narrow_1) := q_lt10 (by decide +kernel) (by decide +kernel) (by decide +kernel) (by decide +kernel) (by decide +kernel) (by decide +kernel) (by decide +kernel) (by decide +kernel) (by decide +kernel) (by decide +kernel)
  intro j hj
  exact va_eqt (hs _ (key j hj))
set_option maxHeartbeats 4000000 in
/-- the law's walk, out of its run in the small machine -/
theorem q_start {p : Program} {e : Env} {s : State} {m : MethodId} {below : List Frame} {meth : Method} {c : Code} (l : Launch) {b L : Nat} {xs : Nat → Int32} (hL : L ≤ 260) (C0 : lw_At p s m meth c b L xs)
    (hq : q_X 86 0 (.ref 1 :: List.replicate 31 .null) [] (q_E0 L) (q_g0 xs) (fun v E' _ => v = some (.int 1) ∧ E'.1 ≤ 146 ∧ E'.2.1 ≤ 2079)) : W p l e room_1 s m #[Value.ref b] below meth c s.heap [] 0 0 (lw_Z below #[Value.ref b] s) (entryFrame m ([Value.ref b] : List Value).toArray 32) := by
  obtain ⟨hx, hb, hr, hml, hown, hts, hX, hbl, hlocks, hgv⟩ := C0
  obtain ⟨n, v, E', g', hrun, rfl, hE1, hE2⟩ := hq
  obtain ⟨D, hD⟩ := q_known hts
  obtain ⟨cI, hI1, hI2⟩ := q_arrK (hts (.arrayClass .int) (by decide +kernel)) (Or.inl rfl)
  obtain ⟨cC, hC1, hC2⟩ := q_arrK (hts (.arrayClass .char) (by decide +kernel)) (Or.inr rfl)
  have hs := flat_of_before _ hgv
  have hA0 : ∀ a : Nat, a < s.heap.size → ¬ (fun q : Nat => s.heap.size ≤ q) a := fun a h1 h2 => Nat.not_le.mpr h1 h2
  obtain ⟨tB, htB, hTB⟩ := va_Tof (tm := .static "CardRacks" "BESIDE" "[I") (ty := .int) (N := 10) (f := fun j => .int (q_bes j)) (A := fun q : Nat => s.heap.size ≤ q) (by decide) (hs (.arrayOf (.static "CardRacks" "BESIDE" "[I") .int) (by decide +kernel)) (va_eqt (hs (.eq (.length (.static "CardRacks" "BESIDE" "[I")) (.int 10)) (by decide +kernel))) (q_besq hgv) hA0
  have hZB := va_Zref (A := fun q : Nat => s.heap.size ≤ q) (hts (.laysStatic "CardRacks" "BESIDE" "[I") (by decide +kernel)) (hts (.initialized "CardRacks") (by decide +kernel)) htB hA0
  have hinc := q_run_inc _ _ _ _ _ _ _ _ hrun
  have h3 : (q_E0 L).1 = 3 := rfl
  have h4 : (q_E0 L).2.1 = 0 := rfl
  dsimp only at hinc
  rw [lg_entry_eq]
  refine q_ST l n 86 0 _ [] (q_E0 L) (q_g0 xs) _ E' g' hrun p e room_1 s m #[Value.ref b] below meth c s.heap [] 0 0 _ (D, (cI, cC), (s.heap.size, b, tB), L, xs) _ ?_ (q_LR_in (as := [.ref 1]) (n := 32) (by intro v hv; simp at hv; subst hv; rfl) (by decide)) ?_ ?_ va_S.rf (Nat.le_refl _) rfl (by show 0 + (E'.1 - 3) ≤ 143; omega) (by show 0 + (E'.2.1 - 0) ≤ 2079; omega) ?_
  · refine ⟨hx, hb, hml, hown, fun w hw => hts w (q_LW_sub hw), fun h => absurd h (by decide +kernel), ⟨⟨hD, fun k q hk => ?_⟩, ?_, hTB, hZB, fun w hw => va_Nw.of (q_NW_tab w hw) (hts w (q_NW_in w hw))⟩, by decide +kernel, by decide +kernel⟩
    · match k, hk with
      | 0, hk => cases hk; exact ⟨hI1, hI2⟩
      | 1, hk => cases hk; exact ⟨hC1, hC2⟩
    · obtain ⟨scr, x1, x2, x3, x4, x5⟩ := hX
      exact ⟨scr, x1, x2, x3, Nat.le_of_eq x4.symm, by rw [x4] <;> rfl, x5, hA0 b hbl⟩
  · intro k q hq
    have := (q_ws_get hq).1
    rw [h3] at this
    exact absurd this (Nat.not_lt_zero _)
  · refine ⟨Nat.le_refl 3, fun a ha => ?_, fun a ha => ?_⟩
    · have : 2 ≤ (if a = 1 then ((1, L) : Nat × Nat) else if a = 2 then (1, 10) else (0, 0)).1 := ha
      by_cases h1 : a = 1
      · rw [if_pos h1] at this; exact absurd (show 2 ≤ 1 from this) (by decide)
      · rw [if_neg h1] at this
        by_cases h2 : a = 2
        · rw [if_pos h2] at this; exact absurd this (by decide)
        · rw [if_neg h2] at this; exact absurd this (by decide)
    · have h5 : (if a = 1 then ((1, L) : Nat × Nat) else if a = 2 then (1, 10) else (0, 0)).1 = 1 := ha
      by_cases h1 : a = 1
      · subst h1
        exact Or.inl ⟨rfl, rfl, fun j _ => rfl⟩
      · by_cases h2 : a = 2
        · subst h2
          exact Or.inr ⟨rfl, rfl, fun j _ => rfl⟩
        · rw [if_neg h1, if_neg h2] at h5; exact absurd h5 (by decide)
  · intro r pc' ls' S' H' locs' c' s' hPr hret hc' hs' hWd hS
    rw [h3] at hc'
    rw [h4] at hs'
    obtain ⟨hpc, hok⟩ := q_okf hPr
    obtain ⟨pc0, ins, ln, ax, z⟩ := r
    have hpc : pc0 = pc' := hpc
    subst hpc
    simp only [q_okr, Bool.and_eq_true, decide_eq_true_eq] at hok
    obtain ⟨⟨⟨hln, hdg⟩, -⟩, -⟩ := hok
    cases ins with
    | ireturn =>
      (unfold q_ln at hln; dsimp only at hln; subst hln)
      unfold q_ret at hret
      dsimp only at hret
      split at hret
      · split at hret
        · cases hret
          refine va_forget (fun q hq => hS.2.2 q hq) ?_
          refine W.widen (k := 143) (n := 2079) (by omega) (by omega) ?_
          exact lw_ret hx hb hr hlocks hdg
        · cases hret
      · cases hret
    | areturn =>
      unfold q_ret at hret
      dsimp only at hret
      split at hret
      · cases hret
      · cases hret
    | return_ =>
      unfold q_ret at hret
      dsimp only at hret
      split at hret
      · cases hret
      · cases hret
    | _ => exact absurd hret (by intro q; cases q)
theorem whole_start {p : Program} {e : Env} {s : State} {m : MethodId} {below : List Frame} {meth : Method} {c : Code} (l : Launch) (hflags : l.flags = flags0) {b L : Nat} {xs : Nat → Int32} (hL : L ≤ 260) (C0 : lw_At p s m meth c b L xs) : W p l e room_1 s m #[Value.ref b] below meth c s.heap [] 0 0 (lw_Z below #[Value.ref b] s) (entryFrame m ([Value.ref b] : List Value).toArray 32) := q_start l hL C0 (q_law L xs hL)
