theorem q_GI {xs : List Cond} (h : ∀ w ∈ xs, w ∈ q_LW) : GoodIn q_LW xs := fun w hw => q_LW_good w (h w hw)
theorem q_lapp (v : Option Value) (rest : List Value) (f : Value → Value) : (v.map f).toList ++ rest.map f = (v.toList ++ rest).map f := by cases v <;> simp
theorem q_cats {S : List Value} (h : S.all (fun v => v.category == 1) = true) : ∀ v ∈ S.reverse, v.category = 1 := by
  intro v hv
  have := List.all_eq_true.mp h v (List.mem_reverse.mp hv)
  simpa using this
theorem q_rok_0 {ci : Nat} {E : q_E} {as : List Value} (h : q_rok 0 ci E as = true) : ∃ b as', as = .ref b :: as' ∧ (q_kd E b).1 = 4 + ci := by
  cases as with
  | nil => exact absurd (show false = true from h) (by decide)
  | cons v t =>
    cases v with
    | ref b => exact ⟨b, t, rfl, eq_of_beq h⟩
    | _ => exact absurd (show false = true from h) (by decide)
theorem q_rok_4 {m ci : Nat} {E : q_E} {as : List Value} (hm : m = 4 ∨ m = 5) (h : q_rok m ci E as = true) : ∃ b as', as = .ref b :: as' := by
  cases as with
  | nil => rcases hm with rfl | rfl <;> exact absurd (show false = true from h) (by decide)
  | cons v t =>
    cases v with
    | ref b => exact ⟨b, t, rfl⟩
    | _ => rcases hm with rfl | rfl <;> exact absurd (show false = true from h) (by decide)
set_option maxHeartbeats 4000000 in
theorem q_ST (l : Launch) (n : Nat) : q_STn l n := by
  induction n with
  | zero => intro k pc L S E g v E' g' h; cases h
  | succ n ih =>
    intro k pc L S E g v E' g' h p e R s m args below meth c H locs cells slots Q Z ls hC hL hP hI hS hZ0 hcs hRc hRs hfin
    have hinc := q_run_inc _ _ _ _ _ _ _ _ h
    dsimp only at hinc
    refine q_siz fun hup => ?_
    have hlo := q_Pi_sz hP (Nat.le_trans hZ0 hS.1)
    have hsz : H.size = Z.2.2.1.1 + (E.1 - 3) := by omega
    rw [q_run_s] at h
    cases hPr : q_P k pc with
    | none => rw [hPr] at h; cases h
    | some r =>
      rw [hPr] at h
      dsimp only at h
      by_cases h1 : q_cls r = 1
      · rw [if_pos h1] at h
        obtain ⟨w, hw, hq⟩ := Option.map_eq_some_iff.mp h
        cases hq
        exact hfin r pc ls S H locs cells slots hPr hw (by omega) (by omega) ⟨hP, hsz, hI⟩ hS
      · rw [if_neg h1] at h
        by_cases h2 : q_cls r = 2
        · rw [if_pos h2] at h
          cases hc : q_cal r S E with
          | none => rw [hc] at h; cases h
          | some q =>
            rw [hc] at h
            dsimp only at h
            cases hz : q_run n (r.2.2.2.1.getD 0 0) 0 (q_loc q.1 (q_mi (r.2.2.2.1.getD 0 0)).2.2.1) [] E g with
            | none => rw [hz] at h; cases h
            | some w =>
              rw [hz] at h
              obtain ⟨v1, E1, g1⟩ := w
              dsimp only at h
              have i1 := q_run_inc _ _ _ _ _ _ _ _ hz
              have i2 := q_run_inc _ _ _ _ _ _ _ _ h
              dsimp only at i1 i2
              obtain ⟨hx, hb, hml, hown, hts, hnm, hK, hRf, hRl⟩ := id hC
              obtain ⟨hpc, hok⟩ := q_okf hPr
              obtain ⟨pc0, ins, ln, ax, z⟩ := r
              have hpc : pc0 = pc := hpc
              subst hpc
              simp only [q_okr, Bool.and_eq_true, decide_eq_true_eq] at hok
              obtain ⟨⟨⟨hln, hdg⟩, -⟩, hon⟩ := hok
              have hts' : ∀ {w : Cond} {i : Nat}, q_w i w = true → w.before args s = true := fun h => hts _ (q_w_in h)
              have hlsz : ls.size = (q_mi k).2.2.1 := hL.2.1.1
              -- what the call takes
              unfold q_cal at hc
              obtain ⟨⟨hlen, hrest, hcat, hrok⟩, hc⟩ := q_if_s hc
              cases hc
              dsimp only at hlen hrest hcat hrok hz h
              have hcat2 := q_cats hcat
              have hSS : S.map (q_rv Z) = ((S.take (q_cnt ax)).reverse.map (q_rv Z)).reverse ++ (S.drop (q_cnt ax)).map (q_rv Z) := by
                rw [← List.map_reverse, List.reverse_reverse, ← List.map_append, List.take_append_drop]
              have hlas : ((S.take (q_cnt ax)).reverse.map (q_rv Z)).length = q_cnt ax := by simp; omega
              have hroom : 2 * (F0 m pc0 ls (S.map (q_rv Z))).monitorRoom + (((S.drop (q_cnt ax)).map (q_rv Z)).map fun v => v.category).sum ≤ 8 := by
                rw [q_rv_cats]; exact lv_room hrest
              -- the callee's own
              have key : ∀ idx : Nat, q_okc k (pc0, ins, ln, ax, z) idx = true → (ax.getD 0 0 < 86 ∧ q_w (ax.getD 6 0) (.initialized (q_mi (ax.getD 0 0)).1.cls) = true ∧ (q_mi (ax.getD 0 0)).2.2.2.2.1 + 1 ≤ (q_mi k).2.2.2.2.1 ∧ (q_mi (ax.getD 0 0)).2.2.1 ≤ 18 ∧ ((q_mi (ax.getD 0 0)).1.cls ≠ "java/lang/invoke/MethodHandle" ∧ (q_mi (ax.getD 0 0)).1.cls ≠ "java/lang/invoke/VarHandle" ∧ (parseMethodDescriptor (q_mi (ax.getD 0 0)).1.desc).map (fun d => d.parameters.length) = some (ax.getD 1 0)) ∧ q_cnt ax ≤ (q_mi (ax.getD 0 0)).2.2.1) ∧
                  (match ax.getD 2 0 with
                    | 0 => decide (ax.getD 7 0 < 9) && decide ((q_cl (ax.getD 7 0)).1 = (q_mi (ax.getD 0 0)).1.cls) && q_w (ax.getD 3 0) (.methodLink (q_own k) idx (q_mi (ax.getD 0 0)).1) && q_w (ax.getD 4 0) (.instanceMethod (q_mi (ax.getD 0 0)).1) && q_w (ax.getD 5 0) (.selects (q_mi (ax.getD 0 0)).1.cls (q_mi (ax.getD 0 0)).1 (q_mi (ax.getD 0 0)).1)
                    | 2 => q_w (ax.getD 3 0) (.methodLink (q_own k) idx (q_mi (ax.getD 0 0)).1) && q_w (ax.getD 4 0) (.static (q_mi (ax.getD 0 0)).1)
                    | 3 => decide (Cond.methodLinkNest (q_own k) idx (q_mi (ax.getD 0 0)).1 "CardRacks" ∈ q_NW) && q_w (ax.getD 4 0) (.static (q_mi (ax.getD 0 0)).1)
                    | 4 => q_w (ax.getD 3 0) (.methodLink (q_own k) idx (q_mi (ax.getD 0 0)).1) && q_w (ax.getD 4 0) (.instanceMethod (q_mi (ax.getD 0 0)).1) && decide ((q_mi (ax.getD 0 0)).1.name = "<init>") && decide ((q_mi (ax.getD 0 0)).2.2.2.1 = none)
                    | 5 => decide (Cond.methodLinkNest (q_own k) idx (q_mi (ax.getD 0 0)).1 "CardRacks" ∈ q_NW) && q_w (ax.getD 4 0) (.instanceMethod (q_mi (ax.getD 0 0)).1) && decide ((q_mi (ax.getD 0 0)).1.name = "<init>") && decide ((q_mi (ax.getD 0 0)).2.2.2.1 = none)
                    | _ => false) = true := by
                intro idx hk
                unfold q_okc at hk
                rw [Bool.and_eq_true] at hk
                obtain ⟨hk, hm⟩ := hk
                simp only [Bool.and_eq_true, decide_eq_true_eq] at hk
                obtain ⟨⟨⟨⟨⟨a1, a2⟩, a3⟩, a4⟩, a5⟩, a6⟩ := hk
                exact ⟨⟨a1, a2, a3, a4, a5, a6⟩, hm⟩
              have goes : ∀ idx : Nat, (ax.getD 0 0 < 86 ∧ q_w (ax.getD 6 0) (.initialized (q_mi (ax.getD 0 0)).1.cls) = true ∧ (q_mi (ax.getD 0 0)).2.2.2.2.1 + 1 ≤ (q_mi k).2.2.2.2.1 ∧ (q_mi (ax.getD 0 0)).2.2.1 ≤ 18 ∧ ((q_mi (ax.getD 0 0)).1.cls ≠ "java/lang/invoke/MethodHandle" ∧ (q_mi (ax.getD 0 0)).1.cls ≠ "java/lang/invoke/VarHandle" ∧ (parseMethodDescriptor (q_mi (ax.getD 0 0)).1.desc).map (fun d => d.parameters.length) = some (ax.getD 1 0)) ∧ q_cnt ax ≤ (q_mi (ax.getD 0 0)).2.2.1) →
                  (∀ (hM : Met l (q_mi (ax.getD 0 0)).1 (q_wk (ax.getD 0 0)) (q_rm (ax.getD 0 0) (E1.1 - E.1) (E1.2.1 - E.2.1)) (q_Pc Z (S.take (q_cnt ax)).reverse E g) (q_Qc Z v1 E1 g1) (E1.1 - E.1) (E1.2.1 - E.2.1) (q_A Z)) (hRr : (q_rm (ax.getD 0 0) (E1.1 - E.1) (E1.2.1 - E.2.1)).frames + 1 ≤ R.frames ∧ 8 + ((q_mi (ax.getD 0 0)).2.2.1 + 11) + (q_rm (ax.getD 0 0) (E1.1 - E.1) (E1.2.1 - E.2.1)).locals ≤ R.locals) (hgi : ∀ w ∈ q_wk (ax.getD 0 0), w ∈ q_LW) (hpre : ∀ U : State, U.heap = H → s.WarmedH U.vm → q_Pc Z (S.take (q_cnt ax)).reverse E g ((S.take (q_cnt ax)).reverse.map (q_rv Z)).toArray U) (hf : cells + (E1.1 - E.1) ≤ R.cells ∧ slots + (E1.2.1 - E.2.1) ≤ R.slots),
                    va_Run p l e R s m args below meth c H locs cells slots (E1.1 - E.1) (E1.2.1 - E.2.1) (F0 m pc0 ls (S.map (q_rv Z))) ((S.drop (q_cnt ax)).map (q_rv Z)) (q_Qc Z v1 E1 g1 ((S.take (q_cnt ax)).reverse.map (q_rv Z)).toArray) (q_A Z)) →
                  W p l e R s m args below meth c H locs cells slots Q (F0 m pc0 ls (S.map (q_rv Z))) := by
                intro idx hk hrun
                obtain ⟨a1, a2, a3, a4, a5, a6⟩ := hk
                have hM := q_met ih a1 hz hcat2 (by rw [List.length_reverse, List.length_take]; omega) Z
                have hr := hrun hM ⟨by show (q_mi _).2.2.2.2.1 + 1 ≤ _; omega, by show 8 + _ + 37 * (q_mi _).2.2.2.2.1 ≤ _; omega⟩ (fun w hw => by
                    rcases List.mem_cons.mp hw with rfl | hw
                    · exact (q_mif a1).2.2
                    · exact hw) (fun U hU hW => ⟨rfl, by rw [hU]; exact ⟨hP, hsz, hI⟩, q_Ks_nx hK hS hW hU⟩) ⟨by omega, by omega⟩
                refine q_row hr hS fun H1 locs1 hW1 hS1 => ?_
                rw [q_lapp]
                refine ih k (pc0 + 3) L _ E1 g1 v E' g' h p e R s m args below meth c H1 locs1 _ _ Q Z ls hC hL hW1.1 hW1.2.2 hS1 hZ0 (by have := hI.1; omega) (by omega) (by omega) ?_
                intro r pc' ls' S' H' locs' c' s' b1 b2 b3 b4 b5 b6
                exact hfin r pc' ls' S' H' locs' c' s' b1 b2 (by omega) (by omega) b5 b6
              cases ins with
              | invokevirtual idx =>
                (unfold q_ln at hln; dsimp only at hln; subst hln)
                unfold q_okn at hon
                dsimp only at hon
                rw [Bool.and_eq_true, decide_eq_true_eq] at hon
                obtain ⟨hm0, hon⟩ := hon
                obtain ⟨hk, hm⟩ := key idx hon
                rw [hm0] at hm hrok
                try dsimp only at hm
                simp only [Bool.and_eq_true, decide_eq_true_eq] at hm
                obtain ⟨⟨⟨⟨b1, b2⟩, b3⟩, b4⟩, b5⟩ := hm
                refine goes idx hk fun hM hRr hgi hpre hf => ?_
                obtain ⟨b, as', has, hkd⟩ := q_rok_0 hrok
                · skip
                  obtain ⟨hb3, hbE⟩ := hI.2.1 b (by omega)
                  have hat := q_ws_at (Z := Z) (g := g) hb3 hbE
                  rw [q_en_4 hkd] at hat
                  rw [has] at hM hpre hlas hSS ⊢
                  have hcn : q_cnt ax = ax.getD 1 0 + 1 := by unfold q_cnt; rw [hm0]; rfl
                  have hrv := va_recv hK.1 hP (q_cl_some _ b1) hat
                  rw [show ((q_cl (ax.getD 7 0)).1, (q_cl (ax.getD 7 0)).2.1, (q_cl (ax.getD 7 0)).2.2).1 = (q_mi (ax.getD 0 0)).1.cls from b2] at hrv
                  exact va_runV (As := as'.map (q_rv Z)) (nL := (q_mi k).2.2.1) ⟨hx, hb, hml, hown, hts⟩ hM
                    (cwV (C := (q_mi (ax.getD 0 0)).1.cls) (ax.getD 1 0) hts (q_GI (fun w hw => by
                      rcases List.mem_append.mp hw with hw | hw
                      · simp only [List.mem_cons, List.not_mem_nil, or_false] at hw
                        rcases hw with rfl | rfl | rfl | rfl
                        · exact q_w_in b3
                        · exact q_w_in b4
                        · exact q_w_in b5
                        · exact q_w_in hk.2.1
                      · exact hgi w hw)) rfl rfl rfl ⟨rfl, hk.2.2.2.2.1⟩ hRr)
                    ⟨q_Pc_blind _ _ _ _, hrv, hpre⟩ rfl (by
                      have : (as'.map (q_rv Z)).length + 1 = q_cnt ax := by simpa using hlas
                      omega) hlsz (by
                      show S.map (q_rv Z) = _
                      rw [hSS]
                      simp [q_rv]) hroom hdg hf
              | invokespecial idx =>
                (unfold q_ln at hln; dsimp only at hln; subst hln)
                unfold q_cls at h2
                dsimp only at h2
                have h6 : ax.getD 2 0 < 6 := by
                  by_cases h : ax.getD 2 0 < 6
                  · exact h
                  · rw [if_neg h] at h2; cases h2
                unfold q_okn at hon
                dsimp only at hon
                rw [if_pos h6, Bool.and_eq_true, Bool.or_eq_true, decide_eq_true_eq, decide_eq_true_eq] at hon
                obtain ⟨hm0, hon⟩ := hon
                obtain ⟨hk, hm⟩ := key idx hon
                have hcn : q_cnt ax = ax.getD 1 0 + 1 := by
                  unfold q_cnt
                  rw [if_neg (by omega)]
                have hrf := q_rok_4 hm0 hrok
                obtain ⟨b, as', has⟩ := hrf
                refine goes idx hk fun hM hRr hgi hpre hf => ?_
                rw [has] at hM hpre hlas hSS ⊢
                have hst : S.map (q_rv Z) = (as'.map (q_rv Z)).reverse ++ .ref (q_ad Z b) :: (S.drop (q_cnt ax)).map (q_rv Z) := by
                  rw [hSS]
                  simp [q_rv]
                have hln' : (as'.map (q_rv Z)).length = ax.getD 1 0 := by
                  have : (as'.map (q_rv Z)).length + 1 = q_cnt ax := by simpa using hlas
                  omega
                rcases hm0 with hm0 | hm0 <;> rw [hm0] at hm <;> (try dsimp only at hm) <;> simp only [Bool.and_eq_true, decide_eq_true_eq] at hm <;> obtain ⟨⟨⟨b3, b4⟩, b5⟩, b6⟩ := hm
                · exact va_runI (As := as'.map (q_rv Z)) (b := q_ad Z b) (nL := (q_mi k).2.2.1) (maxL := (q_mi (ax.getD 0 0)).2.2.1) (bytes := (q_mi (ax.getD 0 0)).2.1) ⟨hx, hb, hml, hown, hts⟩ hM
                    (cwI (ax.getD 1 0) hts (q_GI hgi) (by unfold q_wk; rw [b6]) rfl rfl (hts' hk.2.1) (hts' b3) (hts' b4) b5 hk.2.2.2.2.1 hRr)
                    ⟨q_Pc_blind _ _ _ _, hpre⟩ rfl hln' hlsz hst hroom hdg hf
                · exact va_runIN (As := as'.map (q_rv Z)) (b := q_ad Z b) (nL := (q_mi k).2.2.1) (maxL := (q_mi (ax.getD 0 0)).2.2.1) (bytes := (q_mi (ax.getD 0 0)).2.1) ⟨hx, hb, hml, hown, hts⟩ hM
                    ⟨va_cnB (ax.getD 1 0) hts (q_GI hgi) (by unfold q_wk; rw [b6]) rfl rfl (hK.2.2.2.2 _ b3) (hts' hk.2.1) hk.2.2.2.2.1 hRr, b5, hts' b4⟩
                    ⟨q_Pc_blind _ _ _ _, hpre⟩ rfl hln' hlsz hst hroom hdg hf
              | invokestatic idx =>
                (unfold q_ln at hln; dsimp only at hln; subst hln)
                unfold q_cls at h2
                dsimp only at h2
                have h6 : ax.getD 2 0 < 6 := by
                  by_cases h : ax.getD 2 0 < 6
                  · exact h
                  · rw [if_neg h] at h2; cases h2
                unfold q_okn at hon
                dsimp only at hon
                rw [if_pos h6, Bool.and_eq_true, Bool.or_eq_true, decide_eq_true_eq, decide_eq_true_eq] at hon
                obtain ⟨hm0, hon⟩ := hon
                obtain ⟨hk, hm⟩ := key idx hon
                have hcn : q_cnt ax = ax.getD 1 0 := by
                  unfold q_cnt
                  rw [if_pos (by omega)]
                refine goes idx hk fun hM hRr hgi hpre hf => ?_
                rcases hm0 with hm0 | hm0 <;> rw [hm0] at hm <;> (try dsimp only at hm) <;> simp only [Bool.and_eq_true, decide_eq_true_eq] at hm <;> obtain ⟨b3, b4⟩ := hm
                · exact va_runS (As := (S.take (q_cnt ax)).reverse.map (q_rv Z)) (nL := (q_mi k).2.2.1) ⟨hx, hb, hml, hown, hts⟩ hM
                    (va_cwS (ax.getD 1 0) hts (q_GI (fun w hw => by
                      rcases List.mem_append.mp hw with hw | hw
                      · simp only [List.mem_cons, List.not_mem_nil, or_false] at hw
                        rcases hw with rfl | rfl | rfl
                        · exact q_w_in b3
                        · exact q_w_in b4
                        · exact q_w_in hk.2.1
                      · exact hgi w hw)) rfl rfl rfl hk.2.2.2.2.1 hRr)
                    ⟨q_Pc_blind _ _ _ _, hpre⟩ rfl (by omega) hlsz hSS hroom hdg hf
                · exact va_runSN (As := (S.take (q_cnt ax)).reverse.map (q_rv Z)) (nL := (q_mi k).2.2.1) ⟨hx, hb, hml, hown, hts⟩ hM
                    ⟨va_cnB (ax.getD 1 0) hts (q_GI hgi) rfl rfl rfl (hK.2.2.2.2 _ b3) (hts' hk.2.1) hk.2.2.2.2.1 hRr, hts' b4, trivial⟩
                    ⟨q_Pc_blind _ _ _ _, hpre⟩ rfl (by omega) hlsz hSS hroom hdg hf
              | _ => exact absurd h2 (by intro q; cases q)
        · rw [if_neg h2] at h
          have h00 : q_cls r = 0 := by
            have : ∀ r, q_cls r = 0 ∨ q_cls r = 1 ∨ q_cls r = 2 := by
              intro r
              unfold q_cls
              split <;> first | exact Or.inr (Or.inl rfl) | exact Or.inr (Or.inr rfl) | exact Or.inl rfl | (split <;> first | exact Or.inr (Or.inr rfl) | exact Or.inl rfl)
            rcases this r with h | h | h
            · exact h
            · exact absurd h h1
            · exact absurd h h2
          cases hs : q_stp r L S E g with
          | none => rw [hs] at h; cases h
          | some o =>
            rw [hs] at h
            dsimp only at h
            have i1 := q_stp_le hs
            have i2 := q_run_inc _ _ _ _ _ _ _ _ h
            dsimp only at i2
            refine q_step hC hPr h00 hs hL hP hsz hI hS (by omega) (by omega) ?_
            intro ls' H' locs' c' s' b1 b2 b3 b4 b5 b6
            refine ih k o.1 o.2.1 o.2.2.1 o.2.2.2.1 o.2.2.2.2 v E' g' h p e R s m args below meth c H' locs' c' s' Q Z ls' hC b3 b4 b5 b6 hZ0 (by have := hI.1; omega) (by omega) (by omega) ?_
            intro r2 pc' ls2 S' H2 locs2 c2 s2 d1 d2 d3 d4 d5 d6
            exact hfin r2 pc' ls2 S' H2 locs2 c2 s2 d1 d2 (by omega) (by omega) d5 d6
