theorem q_stp_le {r : q_R} {L S : List Value} {E : q_E} {g : q_G} {o : q_O} (h : q_stp r L S E g = some o) : E.1 ≤ o.2.2.2.1.1 ∧ E.2.1 ≤ o.2.2.2.1.2.1 := by
  have fin : ∀ {x : q_O}, some x = some o → x.2.2.2.1 = E → E.1 ≤ o.2.2.2.1.1 ∧ E.2.1 ≤ o.2.2.2.1.2.1 := by
    intro x hx he
    cases hx
    rw [he]
    exact ⟨Nat.le_refl _, Nat.le_refl _⟩
  unfold q_stp at h
  split at h
  all_goals first
    | exact fin h rfl
    | (split at h <;> exact fin h rfl)
    | (obtain ⟨_, _, h⟩ := q_lI_s h; exact fin h rfl)
    | (obtain ⟨_, _, h⟩ := q_lF_s h; exact fin h rfl)
    | (obtain ⟨_, _, h⟩ := q_lR_s h; exact fin h rfl)
    | (obtain ⟨_, _, _, h⟩ := q_pI_s h; obtain ⟨_, h⟩ := q_st_s h; exact fin h rfl)
    | (obtain ⟨_, _, _, h⟩ := q_pF_s h; obtain ⟨_, h⟩ := q_st_s h; exact fin h rfl)
    | (obtain ⟨_, _, _, h⟩ := q_pR_s h; obtain ⟨_, h⟩ := q_st_s h; exact fin h rfl)
    | (obtain ⟨_, _, h⟩ := q_lI_s h; obtain ⟨_, h⟩ := q_st_s h; exact fin h rfl)
    | (split at h
       · obtain ⟨_, h⟩ := q_if_s h; exact fin h rfl
       · cases h)
    | (obtain ⟨_, _, _, h⟩ := q_pI_s h; exact fin h rfl)
    | (obtain ⟨_, _, _, h⟩ := q_pF_s h; exact fin h rfl)
    | (obtain ⟨_, _, _, h⟩ := q_pI_s h; obtain ⟨_, _, _, h⟩ := q_pI_s h; exact fin h rfl)
    | (obtain ⟨_, _, _, h⟩ := q_pI_s h; obtain ⟨_, _, _, h⟩ := q_pI_s h; obtain ⟨_, h⟩ := q_ifn_s h; exact fin h rfl)
    | (obtain ⟨_, _, _, h⟩ := q_pF_s h; obtain ⟨_, _, _, h⟩ := q_pF_s h; exact fin h rfl)
    | (obtain ⟨_, _, _, h⟩ := q_pF_s h; obtain ⟨_, _, _, h⟩ := q_pF_s h; obtain ⟨_, h⟩ := q_if_s h; exact fin h rfl)
    | (obtain ⟨_, _, _, h⟩ := q_pI_s h
       obtain ⟨_, _, h⟩ := Option.map_eq_some_iff.mp h
       exact fin (congrArg some h) rfl)
    | (obtain ⟨_, _, _, h⟩ := q_pR_s h; obtain ⟨_, h⟩ := q_if_s h; exact fin h rfl)
    | (obtain ⟨_, _, _, h⟩ := q_pR_s h; obtain ⟨_, h⟩ := q_if_s h; split at h
       · obtain ⟨_, h⟩ := q_ifn_s h; exact fin h rfl
       · exact fin h rfl)
    | (split at h
       · obtain ⟨_, _, _, h⟩ := q_pR_s h; obtain ⟨_, _, _, h⟩ := q_pR_s h; obtain ⟨_, h⟩ := q_if_s h
         cases h; exact ⟨Nat.le_refl _, Nat.le_refl _⟩
       · obtain ⟨_, _, _, h⟩ := q_pI_s h; obtain ⟨_, _, _, h⟩ := q_pR_s h; obtain ⟨_, h⟩ := q_if_s h; exact fin h rfl)
    | (cases h; exact ⟨Nat.le_succ _, Nat.le_add_right _ _⟩)
    | (obtain ⟨_, _, _, h⟩ := q_pI_s h; obtain ⟨_, h⟩ := q_ifn_s h; split at h
       · cases h; exact ⟨Nat.le_succ _, Nat.le_add_right _ _⟩
       · cases h; exact ⟨Nat.le_succ _, Nat.le_add_right _ _⟩
       · cases h)
    | (obtain ⟨_, _, _, h⟩ := q_pI_s h; obtain ⟨_, _, _, h⟩ := q_pR_s h; obtain ⟨_, h⟩ := q_if_s h; exact fin h rfl)
    | (obtain ⟨_, _, _, h⟩ := q_pI_s h; obtain ⟨_, _, _, h⟩ := q_pI_s h; obtain ⟨_, _, _, h⟩ := q_pR_s h; obtain ⟨_, h⟩ := q_if_s h; exact fin h rfl)
    | (split at h
       · obtain ⟨_, _, _, h⟩ := q_pF_s h; obtain ⟨_, h⟩ := q_if_s h; exact fin h rfl
       · obtain ⟨_, _, _, h⟩ := q_pI_s h; obtain ⟨_, _, _, h⟩ := q_pI_s h; obtain ⟨_, _, _, h⟩ := q_pR_s h; obtain ⟨_, _, _, h⟩ := q_pI_s h; obtain ⟨_, _, _, h⟩ := q_pR_s h; obtain ⟨_, h⟩ := q_if_s h; exact fin h rfl)
    | cases h
theorem q_run_inc (n : Nat) : ∀ (k pc : Nat) (L S : List Value) (E : q_E) (g : q_G) (z : Option Value × q_E × q_G), q_run n k pc L S E g = some z → E.1 ≤ z.2.1.1 ∧ E.2.1 ≤ z.2.1.2.1 := by
  induction n with
  | zero => intro k pc L S E g z h; cases h
  | succ n ih =>
    intro k pc L S E g z h
    rw [q_run_s] at h
    cases hP : q_P k pc with
    | none => rw [hP] at h; cases h
    | some r =>
      rw [hP] at h
      dsimp only at h
      by_cases h1 : q_cls r = 1
      · rw [if_pos h1] at h
        obtain ⟨v, _, rfl⟩ := Option.map_eq_some_iff.mp h
        exact ⟨Nat.le_refl _, Nat.le_refl _⟩
      · rw [if_neg h1] at h
        by_cases h2 : q_cls r = 2
        · rw [if_pos h2] at h
          cases hc : q_cal r S E with
          | none => rw [hc] at h; cases h
          | some q =>
            rw [hc] at h
            dsimp only at h
            cases hz : q_run n (r.2.2.2.1.getD 0 0) 0 (q_loc q.1 (q_mi (r.2.2.2.1.getD 0 0)).2.2.1) [] E g with
            | none => rw [hz] at h; cases h
            | some w =>
              rw [hz] at h
              have a1 := ih _ _ _ _ _ _ _ hz
              have a2 := ih _ _ _ _ _ _ _ h
              exact ⟨Nat.le_trans a1.1 a2.1, Nat.le_trans a1.2 a2.2⟩
        · rw [if_neg h2] at h
          cases hs : q_stp r L S E g with
          | none => rw [hs] at h; cases h
          | some w =>
            rw [hs] at h
            have a1 := q_stp_le hs
            have a2 := ih _ _ _ _ _ _ _ h
            exact ⟨Nat.le_trans a1.1 a2.1, Nat.le_trans a1.2 a2.2⟩
section
variable {p : Program} {l : Launch} {e : Env} {R : Room} {s : State} {m : MethodId} {args : Array Value} {below : List Frame} {meth : Method} {c : Code} {H : Heap} {locs : List Loc} {cells slots : Nat} {Q : State → Prop} {Z : q_Z} {k : Nat}
theorem q_siz {gF : JFrame} (kk : H.size ≤ s.heap.size + cells → W p l e R s m args below meth c H locs cells slots Q gF) : W p l e R s m args below meth c H locs cells slots Q gF := fun T hT X => kk (by rw [← hT]; exact X.heapSize) T hT X
def q_Pc (Z : q_Z) (as : List Value) (E : q_E) (g : q_G) : Array Value → State → Prop := va_Pc (as.map (q_rv Z)) (fun U => q_Wd Z E g U.heap ∧ q_Ks Z U)
def q_Qc (Z : q_Z) (v : Option Value) (E : q_E) (g : q_G) : Array Value → State → Outcome → State → Prop := fun _ st oc t => oc = .returned (v.map (q_rv Z)) ∧ q_Wd Z E g t.heap ∧ va_F (q_A Z) st t
def q_rm (k mc ms : Nat) : Room := { frames := (q_mi k).2.2.2.2.1, cells := mc, slots := ms, locals := 37 * (q_mi k).2.2.2.2.1 }
def q_wk (k : Nat) : List Cond := .code (q_mi k).1 (q_mi k).2.1 (q_mi k).2.2.1 (q_mi k).2.2.2.1 :: q_LW
theorem q_Pc_blind (Z : q_Z) (as : List Value) (E : q_E) (g : q_G) : FrameBlind (q_Pc Z as E g) := fun a U gF mk q => ⟨q.1, q.2.1, q_Ks_mv (u := U) (U := U.calling gF mk a) rfl rfl q.2.2⟩
theorem q_row {pc : Nat} {ls : Array Slot} {st0 rest : List Value} {a : Array Value} {v : Option Value} {E' : q_E} {g' : q_G} {mc ms : Nat} (hr : va_Run p l e R s m args below meth c H locs cells slots mc ms (F0 m pc ls st0) rest (q_Qc Z v E' g' a) (q_A Z)) (hS : va_S (q_A Z) s.heap H locs)
    (kk : ∀ (H1 : Heap) (locs1 : List Loc), q_Wd Z E' g' H1 → va_S (q_A Z) s.heap H1 locs1 → W p l e R s m args below meth c H1 locs1 (cells + mc) (slots + ms) Q (F0 m (pc + 3) ls ((v.map (q_rv Z)).toList ++ rest))) : W p l e R s m args below meth c H locs cells slots Q (F0 m pc ls st0) := by
  intro T hT X
  obtain ⟨w, st₀, t, T', L, h0, X', hL, e1, e2, ⟨hv, hw, hz, hk⟩, st⟩ := hr T hT X
  cases hv
  rw [h0] at hz hk
  obtain ⟨t2, a1, b1⟩ := kk T'.heap (locs ++ L) (by rw [e1]; exact hw)
    ⟨Nat.le_trans hS.1 (by rw [e1]; exact hz), fun q h1 h2 => by rw [e1, hk q (Nat.lt_of_lt_of_le h1 hS.1) h2]; exact hS.2.1 q h1 h2, fun q hq => by
      rcases List.mem_append.mp hq with h | h
      · exact hS.2.2 q h
      · exact hL q h⟩ T' rfl X'
  exact ⟨t2, st t2 a1, b1⟩
end
def q_okv (k : Nat) (r : q_R) : Bool := match r.2.1 with
  | .areturn => match (q_mi k).2.2.2.1 with
    | some (.object _) => true
    | _ => false
  | .return_ => (q_mi k).2.2.2.1.isNone
  | _ => true
theorem q_okv_all : (List.range 100).all (fun k => (q_tab k).all (q_okv k)) = true := by decide +kernel
theorem q_okv_of {k pc : Nat} {r : q_R} (h : q_P k pc = some r) : q_okv k r = true := by
  have hm : r ∈ q_tab k := List.mem_of_find?_eq_some h
  by_cases hk : k < 100
  · exact List.all_eq_true.mp (List.all_eq_true.mp q_okv_all k (List.mem_range.mpr hk)) r hm
  · exfalso
    unfold q_tab at hm
    split at hm <;> first | omega | exact List.not_mem_nil hm
theorem q_arj {k pc pc0 ln : Nat} {ax : List Nat} {z : Int} (h : q_P k pc = some (pc0, .areturn, ln, ax, z)) : ∃ n, (q_mi k).2.2.2.1 = some (.object n) := by
  have h1 := q_okv_of h
  unfold q_okv at h1
  dsimp only at h1
  split at h1
  · exact ⟨_, by assumption⟩
  · cases h1
theorem q_vrj {k pc pc0 ln : Nat} {ax : List Nat} {z : Int} (h : q_P k pc = some (pc0, .return_, ln, ax, z)) : (q_mi k).2.2.2.1 = none := Option.isNone_iff_eq_none.mp (q_okv_of h)
def q_STn (l : Launch) (n : Nat) : Prop := ∀ (k pc : Nat) (L S : List Value) (E : q_E) (g : q_G) (v : Option Value) (E' : q_E) (g' : q_G), q_run n k pc L S E g = some (v, E', g') →
  ∀ (p : Program) (e : Env) (R : Room) (s : State) (m : MethodId) (args : Array Value) (below : List Frame) (meth : Method) (c : Code) (H : Heap) (locs : List Loc) (cells slots : Nat) (Q : State → Prop) (Z : q_Z) (ls : Array Slot),
  q_Cx Z p R s m args meth c k → q_LR Z ls (q_mi k).2.2.1 L → q_Pi Z E g H → q_I Z E g → va_S (q_A Z) s.heap H locs → Z.2.2.1.1 ≤ s.heap.size → s.heap.size + cells = Z.2.2.1.1 + (E.1 - 3) → cells + (E'.1 - E.1) ≤ R.cells → slots + (E'.2.1 - E.2.1) ≤ R.slots →
  (∀ (r : q_R) (pc' : Nat) (ls' : Array Slot) (S' : List Value) (H' : Heap) (locs' : List Loc) (c' s' : Nat), q_P k pc' = some r → q_ret k r S' = some v → c' = cells + (E'.1 - E.1) → s' = slots + (E'.2.1 - E.2.1) → q_Wd Z E' g' H' → va_S (q_A Z) s.heap H' locs' → W p l e R s m args below meth c H' locs' c' s' Q (F0 m pc' ls' (S'.map (q_rv Z)))) →
  W p l e R s m args below meth c H locs cells slots Q (F0 m pc ls (S.map (q_rv Z)))
/-- a method's contract, for a run of the small machine from its entry to its end -/
theorem q_met {l : Launch} {n : Nat} (hST : q_STn l n) {j : Nat} (hj : j < 86) {as : List Value} {E : q_E} {g : q_G} {v : Option Value} {E' : q_E} {g' : q_G} (hrun : q_run n j 0 (q_loc as (q_mi j).2.2.1) [] E g = some (v, E', g')) (hc : ∀ v ∈ as, v.category = 1) (hn : as.length ≤ (q_mi j).2.2.1) (Z : q_Z) :
    Met l (q_mi j).1 (q_wk j) (q_rm j (E'.1 - E.1) (E'.2.1 - E.2.1)) (q_Pc Z as E g) (q_Qc Z v E' g') (E'.1 - E.1) (E'.2.1 - E.2.1) (q_A Z) := by
  refine va_MetF (cc := (q_mi j).2.1) (maxL := (q_mi j).2.2.1) (ret := (q_mi j).2.2.2.1) (q_mif hj).1 rfl ?_
  intro p e s m args below meth c s₁ B hml hv
  obtain ⟨rfl, ⟨hP, hsz, hI⟩, hK⟩ := hv
  have hx := B.exec
  have hb := B.bytes
  have hr := B.returns
  have hlocks := B.notSynchronized
  have hts : ∀ w ∈ q_LW, w.before _ s = true := fun w hw => atoms_spec (ws := q_wk j) B.pre w (List.mem_cons_of_mem _ hw)
  have hown : s.vm.findClass (q_mi j).1.cls = some m.cls := findClass_of_methodNamed B.named
  have hnm : (q_mi j).1.name = "<init>" → meth.name = "<init>" := fun h => (name_of_methodNamed B.named B.method).1.trans h
  rw [lg_entry_eq]
  refine hST j 0 (q_loc as (q_mi j).2.2.1) [] E g v E' g' hrun p e _ s m _ below meth c s.heap [] 0 0 _ Z _ ⟨hx, hb, hml, hown, hts, hnm, hK, Nat.le_refl _, Nat.le_refl _⟩ (q_LR_in hc hn) hP hI va_S.rf (by omega) (by omega) (by show 0 + (E'.1 - E.1) ≤ E'.1 - E.1; omega) (by show 0 + (E'.2.1 - E.2.1) ≤ E'.2.1 - E.2.1; omega) ?_
  intro r pc' ls' S' H' locs' c' s' hPr hret hc' hs' hWd hS
  rw [Nat.zero_add] at hc' hs'
  subst hc' hs'
  obtain ⟨hpc, hok⟩ := q_okf hPr
  obtain ⟨pc0, ins, ln, ax, z⟩ := r
  have hpc : pc0 = pc' := hpc
  subst hpc
  simp only [q_okr, Bool.and_eq_true, decide_eq_true_eq] at hok
  obtain ⟨⟨⟨hln, hdg⟩, -⟩, -⟩ := hok
  cases ins with
  | ireturn =>
    (unfold q_ln at hln; dsimp only at hln; subst hln)
    unfold q_ret at hret
    dsimp only at hret
    split at hret
    · rename_i x
      split at hret
      · rename_i hnr
        cases hret
        obtain ⟨ty, hty, hn2⟩ := Option.map_eq_some_iff.mp hnr
        rw [hty] at hr
        exact W.zret hx hb hr hn2 (fun t ht hW => ⟨rfl, by rw [ht]; exact hWd, hS.F ht⟩) hS.2.2 hdg
      · cases hret
    · cases hret
  | areturn =>
    (unfold q_ln at hln; dsimp only at hln; subst hln)
    unfold q_ret at hret
    dsimp only at hret
    split at hret
    · rename_i x
      cases hret
      obtain ⟨nm, hnm2⟩ := q_arj hPr
      exact W.aret hx hb (hr.trans hnm2) (Or.inl ⟨nm, rfl⟩) (Or.inr ⟨_, rfl⟩) (fun t ht hW => ⟨rfl, by rw [ht]; exact hWd, hS.F ht⟩) hS.2.2 hdg
    · cases hret
  | return_ =>
    (unfold q_ln at hln; dsimp only at hln; subst hln)
    unfold q_ret at hret
    dsimp only at hret
    split at hret
    · cases hret
      exact W.vret hx hb (hr.trans (q_vrj hPr)) (fun t ht hW => ⟨rfl, by rw [ht]; exact hWd, hS.F ht⟩) hS.2.2 hdg
    · cases hret
  | _ => exact absurd hret (by intro q; cases q)
