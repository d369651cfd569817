theorem q_pI_s {β : Type} {S : List Value} {f : Int32 → List Value → Option β} {z : β} (h : q_pI S f = some z) : ∃ x t, S = .int x :: t ∧ f x t = some z := by
  unfold q_pI at h
  split at h
  · exact ⟨_, _, rfl, h⟩
  · cases h
theorem q_pF_s {β : Type} {S : List Value} {f : UInt32 → List Value → Option β} {z : β} (h : q_pF S f = some z) : ∃ x t, S = .float x :: t ∧ f x t = some z := by
  unfold q_pF at h
  split at h
  · exact ⟨_, _, rfl, h⟩
  · cases h
theorem q_pR_s {β : Type} {S : List Value} {f : Nat → List Value → Option β} {z : β} (h : q_pR S f = some z) : ∃ x t, S = .ref x :: t ∧ f x t = some z := by
  unfold q_pR at h
  split at h
  · exact ⟨_, _, rfl, h⟩
  · cases h
theorem q_lI_s {β : Type} {L : List Value} {i : Nat} {f : Int32 → Option β} {z : β} (h : q_lI L i f = some z) : ∃ x, L[i]? = some (.int x) ∧ f x = some z := by
  unfold q_lI at h
  split at h
  · exact ⟨_, by assumption, h⟩
  · cases h
theorem q_lF_s {β : Type} {L : List Value} {i : Nat} {f : UInt32 → Option β} {z : β} (h : q_lF L i f = some z) : ∃ x, L[i]? = some (.float x) ∧ f x = some z := by
  unfold q_lF at h
  split at h
  · exact ⟨_, by assumption, h⟩
  · cases h
theorem q_lR_s {β : Type} {L : List Value} {i : Nat} {f : Nat → Option β} {z : β} (h : q_lR L i f = some z) : ∃ x, L[i]? = some (.ref x) ∧ f x = some z := by
  unfold q_lR at h
  split at h
  · exact ⟨_, by assumption, h⟩
  · cases h
theorem q_st_s {L : List Value} {i : Nat} {v : Value} {f : List Value → Option q_O} {z : q_O} (h : q_st L i v f = some z) : i < L.length ∧ f (L.set i v) = some z := by
  unfold q_st at h
  split at h
  · exact ⟨by assumption, h⟩
  · cases h
theorem q_if_s {β : Type} {c : Prop} [hd : Decidable c] {x : Option β} {z : β} (h : (if c then x else none) = some z) : c ∧ x = some z := by
  by_cases hc : c
  · rw [if_pos hc] at h; exact ⟨hc, h⟩
  · rw [if_neg hc] at h; cases h
theorem q_ifn_s {β : Type} {c : Prop} [hd : Decidable c] {x : Option β} {z : β} (h : (if c then none else x) = some z) : ¬ c ∧ x = some z := by
  by_cases hc : c
  · rw [if_pos hc] at h; cases h
  · rw [if_neg hc] at h; exact ⟨hc, h⟩
theorem q_jt {pc : Nat} {off : Int} (h : 0 ≤ (pc : Int) + off) : (pc : Int) + off = ((q_j pc off : Nat) : Int) := by
  unfold q_j
  rw [Int.toNat_of_nonneg h]
theorem q_look {pc : Nat} {x d : Int} : ∀ (ps : List (Int × Int)), (∀ o ∈ ps, 0 ≤ (pc : Int) + o.2) → 0 ≤ (pc : Int) + d → 0 ≤ (pc : Int) + Op.lookupswitch.offset ps d x := by
  intro ps
  induction ps with
  | nil => intro _ h; exact h
  | cons o ps ih =>
    intro h hd
    obtain ⟨a, b⟩ := o
    rw [Op.lookupswitch.offset_cons]
    split
    · exact h (a, b) List.mem_cons_self
    · exact ih (fun q hq => h q (List.mem_cons_of_mem _ hq)) hd
theorem q_map_set {N j : Nat} {f f' : Nat → Value} {v : Value} (hj : j < N) (hv : f' j = v) (ho : ∀ i, i ≠ j → f' i = f i) : ((List.range N).map f).set j v = (List.range N).map f' := by
  refine List.ext_getElem? fun i => ?_
  by_cases hi : i < N
  · by_cases hij : i = j
    · subst hij
      rw [List.getElem?_set_self (by simpa using hi), List.getElem?_map, List.getElem?_range hi, Option.map_some, hv]
    · rw [List.getElem?_set_ne (fun q => hij q.symm), List.getElem?_map, List.getElem?_map, List.getElem?_range hi, Option.map_some, Option.map_some, ho i hij]
  · rw [List.getElem?_eq_none (by simp; omega), List.getElem?_eq_none (by simp; omega)]
theorem q_tyk : ∀ ci, ci < 9 → ∀ j, j < (q_cl ci).2.2 → q_ty ci j = .int ∨ q_ty ci j = .char ∨ (∃ n, q_ty ci j = .object n) ∨ ∃ n, q_ty ci j = .array n := by
  have key : ∀ ci, ci < 9 → ∀ j, j < (q_cl ci).2.2 → (match q_ty ci j with | .int => true | .char => true | .object _ => true | .array _ => true | _ => false) = true := q_lt9 (by decide +kernel) (by decide +kernel) (by decide +kernel) (by decide +kernel) (by decide +kernel) (by decide +kernel) (by decide +kernel) (by decide +kernel) (by decide +kernel)
  intro ci hci j hj
  have := key ci hci j hj
  cases h : q_ty ci j <;> rw [h] at this <;> simp at this ⊢
theorem q_map_getD {N j : Nat} {f : Nat → Value} (hj : j < N) : vp_V ((List.range N).map f) j = f j := by
  unfold vp_V
  rw [List.getD_eq_getElem?_getD, List.getElem?_map, List.getElem?_range hj]
  rfl
/-- what holds in a frame of the method k, from its start on -/
def q_Cx (Z : q_Z) (p : Program) (R : Room) (s : State) (m : MethodId) (args : Array Value) (meth : Method) (c : Code) (k : Nat) : Prop :=
  p.tables.exec = Jvm.exec ∧ c.code = (q_mi k).2.1 ∧ c.maxLocals = (q_mi k).2.2.1 ∧ s.vm.findClass (q_mi k).1.cls = some m.cls ∧ (∀ w ∈ q_LW, w.before args s = true) ∧ ((q_mi k).1.name = "<init>" → meth.name = "<init>") ∧ q_Ks Z s ∧ (q_mi k).2.2.2.2.1 ≤ R.frames ∧ 37 * (q_mi k).2.2.2.2.1 ≤ R.locals
section
variable {p : Program} {l : Launch} {e : Env} {R : Room} {s : State} {m : MethodId} {args : Array Value} {below : List Frame} {meth : Method} {c : Code} {H : Heap} {locs : List Loc} {cells slots : Nat} {Q : State → Prop} {Z : q_Z} {k : Nat}
/-- what comes behind a step -/
abbrev q_KK (Z : q_Z) (p : Program) (l : Launch) (e : Env) (R : Room) (s : State) (m : MethodId) (args : Array Value) (below : List Frame) (meth : Method) (c : Code) (cells slots : Nat) (Q : State → Prop) (E : q_E) (nL : Nat) (o : q_O) : Prop :=
  ∀ (ls : Array Slot) (H : Heap) (locs : List Loc) (c' s' : Nat), c' = cells + (o.2.2.2.1.1 - E.1) → s' = slots + (o.2.2.2.1.2.1 - E.2.1) → q_LR Z ls nL o.2.1 → q_Pi Z o.2.2.2.1 o.2.2.2.2 H → q_I Z o.2.2.2.1 o.2.2.2.2 → va_S (q_A Z) s.heap H locs → W p l e R s m args below meth c H locs c' s' Q (F0 m o.1 ls (o.2.2.1.map (q_rv Z)))
theorem q_br {b : Bool} {x y : Nat} {ls : Array Slot} {st : List Value} (K : W p l e R s m args below meth c H locs cells slots Q (F0 m (if b = true then x else y) ls st)) : (b = true → W p l e R s m args below meth c H locs cells slots Q (F0 m x ls st)) ∧ (b = false → W p l e R s m args below meth c H locs cells slots Q (F0 m y ls st)) := by
  refine ⟨fun h => ?_, fun h => ?_⟩
  · rw [if_pos h] at K; exact K
  · rw [if_neg (by rw [h]; decide)] at K; exact K
theorem q_ldcwf {cc : ByteArray} {pc : Nat} {ls : Array Slot} {rest : List Value} (hexec : p.tables.exec = Jvm.exec) (hb : c.code = cc) {own : String} {index : Nat} {v : UInt32} (hown : s.vm.findClass own = some m.cls) (hconst : (Jvm.Cond.constantFloat own index v).before args s = true) (hdg : decode cc pc = .ok (.ldc_w index, 3)) (k : W p l e R s m args below meth c H locs cells slots Q (F0 m (pc + 3) ls (.float v :: rest))) : W p l e R s m args below meth c H locs cells slots Q (F0 m pc ls rest) := by
  intro T hT X
  obtain ⟨t, a, b⟩ := k T hT X
  refine ⟨t, ?_, b⟩
  obtain ⟨kk, cf, hk, hcf, hcp⟩ := Cond.constantFloat_spec hown hconst
  obtain ⟨k', hk', he⟩ := X.warmed.alike.2.2 _ _ hk
  have hdg' : decode c.code pc = .ok (.ldc_w index, 3) := by rw [hb]; exact hdg
  jvm_step X.here [hexec, hdg', Op.ldc_w.wp_float (s := T) (f := F0 m pc ls rest) X.here.top hk' (by rw [he]; exact hcf) hcp]
  exact a
theorem q_ifc {cc : ByteArray} {pc : Nat} {ls : Array Slot} {rest : List Value} {cd : Jvm.ClassFile.Cond} {off : Int} {x : Int32} (hx : p.tables.exec = Jvm.exec) (hb : c.code = cc) (hdg : decode cc pc = .ok (.ifCond cd off, 3)) (h0 : 0 ≤ (pc : Int) + off)
    (K : W p l e R s m args below meth c H locs cells slots Q (F0 m (if q_c cd x 0 = true then q_j pc off else pc + 3) ls rest)) : W p l e R s m args below meth c H locs cells slots Q (F0 m pc ls (.int x :: rest)) := by
  obtain ⟨k1, k2⟩ := q_br K
  cases cd with
  | eq => exact lv_if_eq hx hb hdg (q_jt h0) (fun h => k1 (by simp [q_c, h])) (fun h => k2 (by simp [q_c, h]))
  | ne => exact lv_if_ne hx hb hdg (q_jt h0) (fun h => k1 (by simp [q_c, h])) (fun h => k2 (by simp [q_c, h]))
  | lt => exact lv_if_lt hx hb hdg (q_jt h0) (fun h => k1 (decide_eq_true h)) (fun h => k2 (decide_eq_false h))
  | ge => exact lv_if_ge hx hb hdg (q_jt h0) (fun h => k1 (decide_eq_true h)) (fun h => k2 (decide_eq_false h))
  | gt => exact lv_if_gt hx hb hdg (q_jt h0) (fun h => k1 (decide_eq_true h)) (fun h => k2 (decide_eq_false h))
  | le => exact lv_if_le hx hb hdg (q_jt h0) (fun h => k1 (decide_eq_true h)) (fun h => k2 (decide_eq_false h))
theorem q_icmp {cc : ByteArray} {pc : Nat} {ls : Array Slot} {rest : List Value} {cd : Jvm.ClassFile.Cond} {off : Int} {x y : Int32} (hx : p.tables.exec = Jvm.exec) (hb : c.code = cc) (hdg : decode cc pc = .ok (.if_icmp cd off, 3)) (h0 : 0 ≤ (pc : Int) + off)
    (K : W p l e R s m args below meth c H locs cells slots Q (F0 m (if q_c cd x y = true then q_j pc off else pc + 3) ls rest)) : W p l e R s m args below meth c H locs cells slots Q (F0 m pc ls (.int y :: .int x :: rest)) := by
  obtain ⟨k1, k2⟩ := q_br K
  cases cd with
  | eq => exact lv_icmp_eq hx hb hdg (q_jt h0) (fun h => k1 (by simp [q_c, h])) (fun h => k2 (by simp [q_c, h]))
  | ne => exact lv_icmp_ne hx hb hdg (q_jt h0) (fun h => k1 (by simp [q_c, h])) (fun h => k2 (by simp [q_c, h]))
  | lt => exact lv_icmp_lt hx hb hdg (q_jt h0) (fun h => k1 (decide_eq_true h)) (fun h => k2 (decide_eq_false h))
  | ge => exact lv_icmp_ge hx hb hdg (q_jt h0) (fun h => k1 (decide_eq_true h)) (fun h => k2 (decide_eq_false h))
  | gt => exact lv_icmp_gt hx hb hdg (q_jt h0) (fun h => k1 (decide_eq_true h)) (fun h => k2 (decide_eq_false h))
  | le => exact lv_icmp_le hx hb hdg (q_jt h0) (fun h => k1 (decide_eq_true h)) (fun h => k2 (decide_eq_false h))
/-- one step of the small machine is one of the real one -/
theorem q_step (hC : q_Cx Z p R s m args meth c k) {pc : Nat} {r : q_R} (hP : q_P k pc = some r) (h0 : q_cls r = 0) {L S : List Value} {E : q_E} {g : q_G} {o : q_O} (hs : q_stp r L S E g = some o) {ls : Array Slot} (hL : q_LR Z ls (q_mi k).2.2.1 L) (hW : q_Pi Z E g H) (hsz : H.size = Z.2.2.1.1 + (E.1 - 3)) (hI : q_I Z E g) (hS : va_S (q_A Z) s.heap H locs)
    (hc : cells + (o.2.2.2.1.1 - E.1) ≤ R.cells) (hsl : slots + (o.2.2.2.1.2.1 - E.2.1) ≤ R.slots) (kk : q_KK Z p l e R s m args below meth c cells slots Q E (q_mi k).2.2.1 o) : W p l e R s m args below meth c H locs cells slots Q (F0 m pc ls (S.map (q_rv Z))) := by
  obtain ⟨hpc, hok⟩ := q_okf hP
  obtain ⟨pc', ins, ln, ax, z⟩ := r
  have hpc : pc' = pc := hpc
  subst hpc
  obtain ⟨hx, hb, hml, hown, hts, hnm, hK, hRf, hRl⟩ := hC
  simp only [q_okr, Bool.and_eq_true, decide_eq_true_eq] at hok
  obtain ⟨⟨⟨hln, hdg⟩, hox⟩, hon⟩ := hok
  have hlsz : ls.size = (q_mi k).2.2.1 := hL.2.1.1
  have hts' : ∀ {w : Cond} {i : Nat}, q_w i w = true → w.before args s = true := fun h => hts _ (q_w_in h)
  cases ins with
  | iconst i => cases hs; (unfold q_ln at hln; dsimp only at hln; subst hln); exact lv_iconst hx hb hdg rfl (kk ls H locs cells slots (by simp) (by simp) hL hW hI hS)
  | bipush i => cases hs; (unfold q_ln at hln; dsimp only at hln; subst hln); exact lv_bipush hx hb hdg rfl (kk ls H locs cells slots (by simp) (by simp) hL hW hI hS)
  | sipush i => cases hs; (unfold q_ln at hln; dsimp only at hln; subst hln); exact lv_sipush hx hb hdg rfl (kk ls H locs cells slots (by simp) (by simp) hL hW hI hS)
  | ldc i =>
    (unfold q_ln at hln; dsimp only at hln; subst hln)
    unfold q_stp at hs
    dsimp only at hs
    unfold q_okx at hox
    dsimp only at hox
    by_cases h : ax.getD 0 0 = 0
    · rw [if_pos h] at hs hox
      cases hs
      exact lv_ldc hx hb hown (hts' hox) hdg (kk ls H locs cells slots (by simp) (by simp) hL hW hI hS)
    · rw [if_neg h] at hs hox
      cases hs
      exact lv_ldcf hx hb hown (hts' hox) hdg (kk ls H locs cells slots (by simp) (by simp) hL hW hI hS)
  | ldc_w i => cases hs; (unfold q_ln at hln; dsimp only at hln; subst hln); exact q_ldcwf hx hb hown (hts' hox) hdg (kk ls H locs cells slots (by simp) (by simp) hL hW hI hS)
  | fconst f =>
    cases hs; (unfold q_ln at hln; dsimp only at hln; subst hln)
    have K := kk ls H locs cells slots (by simp) (by simp) hL hW hI hS
    match f, hdg, K with
    | 0, hdg, K => exact lv_fconst0 hx hb hdg K
    | 1, hdg, K => exact lv_fconst1 hx hb hdg K
    | 2, hdg, K => exact lv_fconst2 hx hb hdg K
  | iload i =>
    (unfold q_ln at hln; dsimp only at hln; subst hln)
    obtain ⟨x, hl, hs⟩ := q_lI_s hs
    cases hs
    exact lv_iload hx hb hdg (hL.2.2.2 i _ hl (by simp)) (kk ls H locs cells slots (by simp) (by simp) hL hW hI hS)
  | iload_n i =>
    (unfold q_ln at hln; dsimp only at hln; subst hln)
    obtain ⟨x, hl, hs⟩ := q_lI_s hs
    cases hs
    exact lv_iload_n hx hb hdg rfl (hL.2.2.2 i _ hl (by simp)) (kk ls H locs cells slots (by simp) (by simp) hL hW hI hS)
  | fload i =>
    (unfold q_ln at hln; dsimp only at hln; subst hln)
    obtain ⟨x, hl, hs⟩ := q_lF_s hs
    cases hs
    exact lv_fload hx hb hdg (hL.2.2.2 i _ hl (by simp)) (kk ls H locs cells slots (by simp) (by simp) hL hW hI hS)
  | fload_n i =>
    (unfold q_ln at hln; dsimp only at hln; subst hln)
    obtain ⟨x, hl, hs⟩ := q_lF_s hs
    cases hs
    exact lv_fload_n hx hb hdg rfl (hL.2.2.2 i _ hl (by simp)) (kk ls H locs cells slots (by simp) (by simp) hL hW hI hS)
  | aload_n i =>
    (unfold q_ln at hln; dsimp only at hln; subst hln)
    obtain ⟨x, hl, hs⟩ := q_lR_s hs
    cases hs
    exact lv_aload_n hx hb hdg rfl (hL.2.2.2 i _ hl (by simp)) (kk ls H locs cells slots (by simp) (by simp) hL hW hI hS)
  | istore i =>
    (unfold q_ln at hln; dsimp only at hln; subst hln)
    obtain ⟨x, t, rfl, hs⟩ := q_pI_s hs
    obtain ⟨hi, hs⟩ := q_st_s (L := L) (i := i) (v := .int x) (f := fun L' => some (pc' + 2, L', t, E, g)) hs
    cases hs
    obtain ⟨lv, h1, -, h2⟩ := q_LR_st (v := .int x) hL hi rfl
    exact lv_istore hx hb hdg h1 (by rw [← hL.1]; exact hi) rfl (fun ls' h' => kk ls' H locs cells slots (by simp) (by simp) (h2 ls' h') hW hI hS)
  | istore_n i =>
    (unfold q_ln at hln; dsimp only at hln; subst hln)
    obtain ⟨x, t, rfl, hs⟩ := q_pI_s hs
    obtain ⟨hi, hs⟩ := q_st_s (L := L) (i := i) (v := .int x) (f := fun L' => some (pc' + 1, L', t, E, g)) hs
    cases hs
    obtain ⟨lv, h1, -, h2⟩ := q_LR_st (v := .int x) hL hi rfl
    exact lv_istore_n hx hb hdg rfl h1 (by rw [← hL.1]; exact hi) rfl (fun ls' h' => kk ls' H locs cells slots (by simp) (by simp) (h2 ls' h') hW hI hS)
  | fstore i =>
    (unfold q_ln at hln; dsimp only at hln; subst hln)
    obtain ⟨x, t, rfl, hs⟩ := q_pF_s hs
    obtain ⟨hi, hs⟩ := q_st_s (L := L) (i := i) (v := .float x) (f := fun L' => some (pc' + 2, L', t, E, g)) hs
    cases hs
    obtain ⟨lv, h1, -, h2⟩ := q_LR_st (v := .float x) hL hi rfl
    exact lv_fstore hx hb hdg h1 (by rw [← hL.1]; exact hi) rfl (fun ls' h' => kk ls' H locs cells slots (by simp) (by simp) (h2 ls' h') hW hI hS)
  | fstore_n i =>
    (unfold q_ln at hln; dsimp only at hln; subst hln)
    obtain ⟨x, t, rfl, hs⟩ := q_pF_s hs
    obtain ⟨hi, hs⟩ := q_st_s (L := L) (i := i) (v := .float x) (f := fun L' => some (pc' + 1, L', t, E, g)) hs
    cases hs
    obtain ⟨lv, h1, -, h2⟩ := q_LR_st (v := .float x) hL hi rfl
    exact lv_fstore_n hx hb hdg rfl h1 (by rw [← hL.1]; exact hi) rfl (fun ls' h' => kk ls' H locs cells slots (by simp) (by simp) (h2 ls' h') hW hI hS)
  | astore_n i =>
    (unfold q_ln at hln; dsimp only at hln; subst hln)
    obtain ⟨x, t, rfl, hs⟩ := q_pR_s hs
    obtain ⟨hi, hs⟩ := q_st_s (L := L) (i := i) (v := .ref x) (f := fun L' => some (pc' + 1, L', t, E, g)) hs
    cases hs
    obtain ⟨lv, h1, -, h2⟩ := q_LR_st (v := .ref x) hL hi rfl
    exact lv_astore_n hx hb hdg rfl h1 (by rw [← hL.1]; exact hi) rfl (fun ls' h' => kk ls' H locs cells slots (by simp) (by simp) (h2 ls' h') hW hI hS)
  | iinc i n =>
    (unfold q_ln at hln; dsimp only at hln; subst hln)
    obtain ⟨x, hl, hs⟩ := q_lI_s hs
    obtain ⟨hi, hs⟩ := q_st_s hs
    cases hs
    obtain ⟨lv, h1, h3, h2⟩ := q_LR_st (v := .int (x + Int32.ofInt n)) hL hi rfl
    obtain ⟨j, hj⟩ := List.getElem?_of_mem (h3 i _ hl (by simp))
    exact lv_iinc hx hb hdg h1 hj rfl (by rw [← hL.1]; exact hi) rfl (fun ls' h' => kk ls' H locs cells slots (by simp) (by simp) (h2 ls' h') hW hI hS)
  | dup =>
    (unfold q_ln at hln; dsimp only at hln; subst hln)
    unfold q_stp at hs
    dsimp only at hs
    split at hs
    · obtain ⟨h1, hs⟩ := q_if_s hs
      cases hs
      exact lv_dup hx hb hdg (by rw [q_rv_cat]; exact h1) (kk ls H locs cells slots (by simp) (by simp) hL hW hI hS)
    · cases hs
  | dup2 =>
    (unfold q_ln at hln; dsimp only at hln; subst hln)
    unfold q_stp at hs
    dsimp only at hs
    split at hs
    · obtain ⟨h1, hs⟩ := q_if_s hs
      cases hs
      exact lv_dup2_11 hx hb hdg (by rw [q_rv_cat]; exact h1.1) (by rw [q_rv_cat]; exact h1.2) (kk ls H locs cells slots (by simp) (by simp) hL hW hI hS)
    · cases hs
  | iadd =>
    (unfold q_ln at hln; dsimp only at hln; subst hln)
    obtain ⟨y, t, rfl, hs⟩ := q_pI_s hs
    obtain ⟨x, t, rfl, hs⟩ := q_pI_s hs
    cases hs
    exact lv_iadd hx hb hdg (kk ls H locs cells slots (by simp) (by simp) hL hW hI hS)
  | isub =>
    (unfold q_ln at hln; dsimp only at hln; subst hln)
    obtain ⟨y, t, rfl, hs⟩ := q_pI_s hs
    obtain ⟨x, t, rfl, hs⟩ := q_pI_s hs
    cases hs
    exact lv_isub hx hb hdg (kk ls H locs cells slots (by simp) (by simp) hL hW hI hS)
  | imul =>
    (unfold q_ln at hln; dsimp only at hln; subst hln)
    obtain ⟨y, t, rfl, hs⟩ := q_pI_s hs
    obtain ⟨x, t, rfl, hs⟩ := q_pI_s hs
    cases hs
    exact lv_imul hx hb hdg (kk ls H locs cells slots (by simp) (by simp) hL hW hI hS)
  | idiv =>
    (unfold q_ln at hln; dsimp only at hln; subst hln)
    obtain ⟨y, t, rfl, hs⟩ := q_pI_s hs
    obtain ⟨x, t, rfl, hs⟩ := q_pI_s hs
    obtain ⟨h1, hs⟩ := q_ifn_s hs
    cases hs
    exact lv_idiv hx hb hdg h1 (kk ls H locs cells slots (by simp) (by simp) hL hW hI hS)
  | irem =>
    (unfold q_ln at hln; dsimp only at hln; subst hln)
    obtain ⟨y, t, rfl, hs⟩ := q_pI_s hs
    obtain ⟨x, t, rfl, hs⟩ := q_pI_s hs
    obtain ⟨h1, hs⟩ := q_ifn_s hs
    cases hs
    exact lv_irem hx hb hdg h1 (kk ls H locs cells slots (by simp) (by simp) hL hW hI hS)
  | ineg =>
    (unfold q_ln at hln; dsimp only at hln; subst hln)
    obtain ⟨x, t, rfl, hs⟩ := q_pI_s hs
    cases hs
    exact lv_ineg hx hb hdg (kk ls H locs cells slots (by simp) (by simp) hL hW hI hS)
  | iand =>
    (unfold q_ln at hln; dsimp only at hln; subst hln)
    obtain ⟨y, t, rfl, hs⟩ := q_pI_s hs
    obtain ⟨x, t, rfl, hs⟩ := q_pI_s hs
    cases hs
    exact lv_iand hx hb hdg (kk ls H locs cells slots (by simp) (by simp) hL hW hI hS)
  | ior =>
    (unfold q_ln at hln; dsimp only at hln; subst hln)
    obtain ⟨y, t, rfl, hs⟩ := q_pI_s hs
    obtain ⟨x, t, rfl, hs⟩ := q_pI_s hs
    cases hs
    exact lv_ior hx hb hdg (kk ls H locs cells slots (by simp) (by simp) hL hW hI hS)
  | ixor =>
    (unfold q_ln at hln; dsimp only at hln; subst hln)
    obtain ⟨y, t, rfl, hs⟩ := q_pI_s hs
    obtain ⟨x, t, rfl, hs⟩ := q_pI_s hs
    cases hs
    exact lv_ixor hx hb hdg (kk ls H locs cells slots (by simp) (by simp) hL hW hI hS)
  | ishl =>
    (unfold q_ln at hln; dsimp only at hln; subst hln)
    obtain ⟨y, t, rfl, hs⟩ := q_pI_s hs
    obtain ⟨x, t, rfl, hs⟩ := q_pI_s hs
    cases hs
    exact lv_ishl hx hb hdg (kk ls H locs cells slots (by simp) (by simp) hL hW hI hS)
  | ishr =>
    (unfold q_ln at hln; dsimp only at hln; subst hln)
    obtain ⟨y, t, rfl, hs⟩ := q_pI_s hs
    obtain ⟨x, t, rfl, hs⟩ := q_pI_s hs
    cases hs
    exact lv_ishr hx hb hdg (kk ls H locs cells slots (by simp) (by simp) hL hW hI hS)
  | i2c =>
    (unfold q_ln at hln; dsimp only at hln; subst hln)
    obtain ⟨x, t, rfl, hs⟩ := q_pI_s hs
    cases hs
    exact lv_i2c hx hb hdg rfl (kk ls H locs cells slots (by simp) (by simp) hL hW hI hS)
  | i2f =>
    (unfold q_ln at hln; dsimp only at hln; subst hln)
    obtain ⟨x, t, rfl, hs⟩ := q_pI_s hs
    cases hs
    exact lv_i2f hx hb hdg (kk ls H locs cells slots (by simp) (by simp) hL hW hI hS)
  | f2i =>
    (unfold q_ln at hln; dsimp only at hln; subst hln)
    obtain ⟨x, t, rfl, hs⟩ := q_pF_s hs
    cases hs
    exact lv_f2i hx hb hdg (kk ls H locs cells slots (by simp) (by simp) hL hW hI hS)
  | fmul =>
    (unfold q_ln at hln; dsimp only at hln; subst hln)
    obtain ⟨y, t, rfl, hs⟩ := q_pF_s hs
    obtain ⟨x, t, rfl, hs⟩ := q_pF_s hs
    obtain ⟨h1, hs⟩ := q_if_s hs
    cases hs
    exact lv_fmul hx hb hdg h1 (kk ls H locs cells slots (by simp) (by simp) hL hW hI hS)
  | fdiv =>
    (unfold q_ln at hln; dsimp only at hln; subst hln)
    obtain ⟨y, t, rfl, hs⟩ := q_pF_s hs
    obtain ⟨x, t, rfl, hs⟩ := q_pF_s hs
    obtain ⟨h1, hs⟩ := q_if_s hs
    cases hs
    exact lv_fdiv hx hb hdg h1 (kk ls H locs cells slots (by simp) (by simp) hL hW hI hS)
  | fsub =>
    (unfold q_ln at hln; dsimp only at hln; subst hln)
    obtain ⟨y, t, rfl, hs⟩ := q_pF_s hs
    obtain ⟨x, t, rfl, hs⟩ := q_pF_s hs
    obtain ⟨h1, hs⟩ := q_if_s hs
    cases hs
    exact lv_fsub hx hb hdg h1 (kk ls H locs cells slots (by simp) (by simp) hL hW hI hS)
  | fcmp op =>
    (unfold q_ln at hln; dsimp only at hln; subst hln)
    obtain ⟨y, t, rfl, hs⟩ := q_pF_s hs
    obtain ⟨x, t, rfl, hs⟩ := q_pF_s hs
    cases hs
    exact lv_fcmp hx hb hdg (kk ls H locs cells slots (by simp) (by simp) hL hW hI hS)
  | goto off =>
    cases hs; (unfold q_ln at hln; dsimp only at hln; subst hln)
    exact lv_goto hx hb hdg (q_jt (of_decide_eq_true hox)) (kk ls H locs cells slots (by simp) (by simp) hL hW hI hS)
  | ifCond cd off =>
    (unfold q_ln at hln; dsimp only at hln; subst hln)
    obtain ⟨x, t, rfl, hs⟩ := q_pI_s hs
    cases hs
    exact q_ifc hx hb hdg (of_decide_eq_true hox) (kk ls H locs cells slots (by simp) (by simp) hL hW hI hS)
  | if_icmp cd off =>
    (unfold q_ln at hln; dsimp only at hln; subst hln)
    obtain ⟨y, t, rfl, hs⟩ := q_pI_s hs
    obtain ⟨x, t, rfl, hs⟩ := q_pI_s hs
    cases hs
    exact q_icmp hx hb hdg (of_decide_eq_true hox) (kk ls H locs cells slots (by simp) (by simp) hL hW hI hS)
  | tableswitch d lo hi offs =>
    obtain ⟨x, t, rfl, hs⟩ := q_pI_s hs
    unfold q_okx at hox
    simp only [Bool.and_eq_true, decide_eq_true_eq, List.all_eq_true] at hox
    have hs : (q_sw pc' x d lo hi offs).map (fun pc => (pc, L, t, E, g)) = some o := hs
    unfold q_sw at hs
    by_cases h : x.toInt < lo ∨ hi < x.toInt
    · rw [if_pos h] at hs
      cases hs
      exact lv_tableOut hx hb hdg h (q_jt hox.1) (kk ls H locs cells slots (by simp) (by simp) hL hW hI hS)
    · rw [if_neg h] at hs
      cases ho : offs[(x.toInt - lo).toNat]? with
      | none => rw [ho] at hs; cases hs
      | some off =>
        rw [ho] at hs
        cases hs
        exact lv_tableIn hx hb hdg (fun q => h (Or.inl q)) (fun q => h (Or.inr q)) ho (q_jt (hox.2 off (Array.mem_toList_iff.mpr (Array.mem_of_getElem? ho)))) (kk ls H locs cells slots (by simp) (by simp) hL hW hI hS)
  | lookupswitch d ps =>
    obtain ⟨x, t, rfl, hs⟩ := q_pI_s hs
    unfold q_okx at hox
    simp only [Bool.and_eq_true] at hox
    obtain ⟨⟨h1, h2⟩, h3⟩ := hox
    cases hs
    exact lv_lookup hx hb hdg h3 rfl (q_jt (q_look _ (fun o ho => of_decide_eq_true (List.all_eq_true.mp h2 o ho)) (of_decide_eq_true h1))) (kk ls H locs cells slots (by simp) (by simp) hL hW hI hS)
  | getfield idx =>
    (unfold q_ln at hln; dsimp only at hln; subst hln)
    obtain ⟨a, t, rfl, hs⟩ := q_pR_s hs
    obtain ⟨hkd, hs⟩ := q_if_s hs
    unfold q_okx at hox
    dsimp only at hox hkd hs
    simp only [Bool.and_eq_true, decide_eq_true_eq] at hox
    obtain ⟨⟨⟨hci, hkf⟩, hisR⟩, hw⟩ := hox
    obtain ⟨ha3, haE⟩ := hI.2.1 a (by omega)
    have hat := q_ws_at (Z := Z) (g := g) ha3 haE
    rw [q_en_4 hkd] at hat
    have hfs : ((List.range (q_cl (ax.getD 0 0)).2.2).map (q_fv Z E g a (ax.getD 0 0)))[ax.getD 1 0]? = some (q_fv Z E g a (ax.getD 0 0) (ax.getD 1 0)) := by
      rw [List.getElem?_map, List.getElem?_range hkf]; rfl
    by_cases h2 : ax.getD 2 0 = 1
    · rw [if_pos h2] at hs
      obtain ⟨hz, hs⟩ := q_ifn_s hs
      cases hs
      have hv : q_fv Z E g a (ax.getD 0 0) (ax.getD 1 0) = .ref (q_ad Z (q_rf E a (ax.getD 1 0))) := by
        unfold q_fv
        rw [if_pos (by rw [← hisR]; exact h2), if_neg hz]
      rw [hv] at hfs
      exact va_get hx hb hts (q_in _ hci) hown hK.1 hW _ hat (q_cl_some _ hci) _ hkf (hts' hw) (fun _ h => h) hfs hdg (kk ls H locs cells slots (by simp) (by simp) hL hW hI hS)
    · rw [if_neg h2] at hs
      cases hs
      have hv : q_fv Z E g a (ax.getD 0 0) (ax.getD 1 0) = .int (g a (ax.getD 1 0)) := by
        unfold q_fv
        rw [if_neg (by rw [← hisR]; exact h2)]
      rw [hv] at hfs
      exact va_get hx hb hts (q_in _ hci) hown hK.1 hW _ hat (q_cl_some _ hci) _ hkf (hts' hw) (fun _ h => h) hfs hdg (kk ls H locs cells slots (by simp) (by simp) hL hW hI hS)
  | putfield idx =>
    (unfold q_ln at hln; dsimp only at hln; subst hln)
    unfold q_okx at hox
    dsimp only at hox
    simp only [Bool.and_eq_true, decide_eq_true_eq] at hox
    obtain ⟨⟨⟨⟨hci, hkf⟩, hw⟩, hty⟩, hfin⟩ := hox
    have hd := q_ty_ok _ hci _ hkf
    -- the write itself
    have put : ∀ (a : Nat) (v w : Value) (t : List Value) (E' : q_E) (g' : q_G), (q_kd E a).1 = 4 + ax.getD 0 0 → q_rv Z w = v → narrow (q_ty (ax.getD 0 0) (ax.getD 1 0)) v = v → fits (q_ty (ax.getD 0 0) (ax.getD 1 0)) v = true → E'.1 = E.1 → E'.2.1 = E.2.1 → q_kd E' a = q_kd E a → q_fv Z E' g' a (ax.getD 0 0) (ax.getD 1 0) = v → (∀ i, i ≠ ax.getD 1 0 → q_fv Z E' g' a (ax.getD 0 0) i = q_fv Z E g a (ax.getD 0 0) i) → (∀ b, b ≠ a → q_en Z E' g' b = q_en Z E g b) → q_I Z E' g' → q_KK Z p l e R s m args below meth c cells slots Q E (q_mi k).2.2.1 (pc' + 3, L, t, E', g') →
        W p l e R s m args below meth c H locs cells slots Q (F0 m pc' ls (v :: .ref (q_ad Z a) :: t.map (q_rv Z))) := by
      intro a v w t E' g' hkd hwv hn hfit e1 e2 hkd' hfv hfo ho hI' kk
      obtain ⟨ha3, haE⟩ := hI.2.1 a (by omega)
      have hat := q_ws_at (Z := Z) (g := g) ha3 haE
      rw [q_en_4 hkd] at hat
      have hset : ((List.range (q_cl (ax.getD 0 0)).2.2).map (q_fv Z E g a (ax.getD 0 0))).set (ax.getD 1 0) v = (List.range (q_cl (ax.getD 0 0)).2.2).map (q_fv Z E' g' a (ax.getD 0 0)) := q_map_set hkf hfv hfo
      have hen : q_en Z E' g' a = .inr (ax.getD 0 0, (List.range (q_cl (ax.getD 0 0)).2.2).map (q_fv Z E' g' a (ax.getD 0 0))) := q_en_4 (by rw [hkd']; exact hkd)
      have hws : (q_ws Z E g).set (a - 3) (q_ad Z a, .inr (ax.getD 0 0, ((List.range (q_cl (ax.getD 0 0)).2.2).map (q_fv Z E g a (ax.getD 0 0))).set (ax.getD 1 0) v)) = q_ws Z E' g' := by
        rw [hset, ← hen]
        exact q_ws_set ha3 haE e1 ho
      have hlen : ax.getD 1 0 < ((List.range (q_cl (ax.getD 0 0)).2.2).map (q_fv Z E g a (ax.getD 0 0))).length := by simpa using hkf
      have K : ∀ (H1 : Heap) (locs1 : List Loc), va_P Z.1 vwCl ((q_ws Z E g).set (a - 3) (q_ad Z a, .inr (ax.getD 0 0, ((List.range (q_cl (ax.getD 0 0)).2.2).map (q_fv Z E g a (ax.getD 0 0))).set (ax.getD 1 0) v))) H1 → va_D (q_A Z) ((q_ws Z E g).set (a - 3) (q_ad Z a, .inr (ax.getD 0 0, ((List.range (q_cl (ax.getD 0 0)).2.2).map (q_fv Z E g a (ax.getD 0 0))).set (ax.getD 1 0) v))) → va_S (q_A Z) s.heap H1 locs1 → W p l e R s m args below meth c H1 locs1 cells slots Q (F0 m (pc' + 3) ls (t.map (q_rv Z))) := by
        intro H1 locs1 h1 _ h3
        rw [hws] at h1
        exact kk ls H1 locs1 cells slots (by show cells = cells + (E'.1 - E.1); omega) (by show slots = slots + (E'.2.1 - E.2.1); omega) hL h1 hI' h3
      cases hfl : ((q_cl (ax.getD 0 0)).2.1 (ax.getD 1 0)).2.2.2 with
      | false => exact va_put hx hb hts (q_in _ hci) (q_ty (ax.getD 0 0)) (q_ty_ok _ hci) (q_nm _ hci) hown hK.1 hW q_ws_D hS _ hat (q_cl_some _ hci) _ hkf (hts' hw) (fun _ h => h) hfl hd hn hfit hlen hdg K
      | true =>
        rw [hfl] at hfin
        simp only [Bool.not_true, Bool.false_or, Bool.and_eq_true, decide_eq_true_eq] at hfin
        exact va_putF hx hb hts (q_in _ hci) (q_ty (ax.getD 0 0)) (q_ty_ok _ hci) (q_nm _ hci) hown hK.1 hW q_ws_D hS _ hat (q_cl_some _ hci) _ hkf (hts' hw) (fun _ h => h) hfl (hnm hfin.2) hfin.1 hd hn hfit hlen hdg K
    have hrefs : ax.getD 2 0 = 1 → (∃ n, q_ty (ax.getD 0 0) (ax.getD 1 0) = .object n) ∨ ∃ n, q_ty (ax.getD 0 0) (ax.getD 1 0) = .array n := by
      intro h
      rw [h] at hty
      cases hq : q_ty (ax.getD 0 0) (ax.getD 1 0) <;> rw [hq] at hty <;> first | exact Or.inl ⟨_, rfl⟩ | exact Or.inr ⟨_, rfl⟩ | exact absurd hty (by decide)
    have hints : ax.getD 2 0 ≠ 1 → q_ty (ax.getD 0 0) (ax.getD 1 0) = .int ∨ (q_ty (ax.getD 0 0) (ax.getD 1 0) = .char ∧ ax.getD 2 0 = 2) := by
      intro h
      cases hq : q_ty (ax.getD 0 0) (ax.getD 1 0) <;> rw [hq] at hty <;> first | exact Or.inl rfl | exact Or.inr ⟨rfl, eq_of_beq hty⟩ | exact absurd (eq_of_beq hty) h | exact absurd (show false = true from hty) (by decide)
    unfold q_stp at hs
    dsimp only at hs
    by_cases h2 : ax.getD 2 0 = 1
    · rw [if_pos h2] at hs
      obtain ⟨v, t1, e1, hs1⟩ := q_pR_s hs
      obtain ⟨a, t2, e2, hs2⟩ := q_pR_s hs1
      obtain ⟨⟨hkd, hv0⟩, hs3⟩ := q_if_s hs2
      clear hs hs1 hs2
      subst e2
      subst e1
      cases hs3
      have hR : q_isR (ax.getD 0 0) (ax.getD 1 0) = true := by
        unfold q_isR
        rcases hrefs h2 with ⟨n, h⟩ | ⟨n, h⟩ <;> rw [h]
      refine put a (.ref (q_ad Z v)) (.ref v) t2 (q_setR E a (ax.getD 1 0) v) g hkd rfl ?_ ?_ rfl rfl rfl ?_ (fun i hi => ?_) (fun b hb => q_en_setR hb) hI kk
      · rcases hrefs h2 with ⟨n, h⟩ | ⟨n, h⟩ <;> rw [h] <;> rfl
      · rcases hrefs h2 with ⟨n, h⟩ | ⟨n, h⟩ <;> rw [h] <;> rfl
      · unfold q_fv
        rw [if_pos hR, q_setR_s, if_neg hv0]
      · unfold q_fv
        rw [q_setR_n (fun q => hi q.2)]
    · rw [if_neg h2] at hs
      obtain ⟨v, t1, e1, hs1⟩ := q_pI_s hs
      obtain ⟨a, t2, e2, hs2⟩ := q_pR_s hs1
      obtain ⟨⟨hkd, hch⟩, hs3⟩ := q_if_s hs2
      clear hs hs1 hs2
      subst e2
      subst e1
      cases hs3
      have hR : q_isR (ax.getD 0 0) (ax.getD 1 0) = false := by
        unfold q_isR
        rcases hints h2 with h | ⟨h, -⟩ <;> rw [h]
      refine put a (.int v) (.int v) t2 E (q_up g a (ax.getD 1 0) v) hkd rfl ?_ ?_ rfl rfl rfl ?_ (fun i hi => ?_) (fun b hb => q_en_up _ hb) (q_I_up (a := a) _ hI (by omega)) kk
      · rcases hints h2 with h | ⟨h, h'⟩
        · rw [h]; rfl
        · rw [h]; exact (hch h').1
      · rcases hints h2 with h | ⟨h, h'⟩
        · rw [h]; rfl
        · rw [h]; exact (hch h').2
      · unfold q_fv
        rw [hR, if_neg (by decide), q_up_s]
        simp [upd]
      · unfold q_fv
        rw [q_up_s]
        simp only [upd, if_neg hi]
  | getstatic idx =>
    cases hs; (unfold q_ln at hln; dsimp only at hln; subst hln)
    unfold q_okx at hox
    dsimp only at hox
    simp only [Bool.or_eq_true, Bool.and_eq_true, decide_eq_true_eq] at hox
    have K := kk ls H locs cells slots (by simp) (by simp) hL hW hI hS
    rcases hox with ⟨-, h⟩ | ⟨-, h⟩
    · exact va_gets hx hb hK.2.2.2.1 hS hown (hts' h) (fun _ h => h) hdg K
    · exact va_getsN hx hb hK.2.2.2.1 hS hown (va_Nw.use rfl (hK.2.2.2.2 _ h)) (fun _ h => h) hdg K
  | new idx =>
    cases hs; (unfold q_ln at hln; dsimp only at hln; subst hln)
    unfold q_okx at hox
    dsimp only at hox
    simp only [Bool.and_eq_true, decide_eq_true_eq] at hox
    obtain ⟨⟨⟨⟨hci, hnf⟩, h1⟩, h2⟩, h3⟩ := hox
    have hKn := hK.1.1 _ _ (q_cl_some _ hci)
    have hc1 : cells + 1 ≤ R.cells := by
      have : cells + (E.1 + 1 - E.1) ≤ R.cells := hc
      omega
    have hs1 : slots + (q_cl (ax.getD 0 0)).2.2 ≤ R.slots := by
      have : slots + (E.2.1 + ax.getD 1 0 - E.2.1) ≤ R.slots := hsl
      omega
    refine W.newcK hx hb hown (hts' h1) (hts' h2) (hts' h3) rfl hdg hc1 hs1 hKn.2.1 rfl fun H1 kC hkC e1 z1 o1 => ?_
    have hk : ∀ (k : Nat) (x : Nat × va_E), (q_ws Z E g)[k]? = some x → H1[x.1]? = H[x.1]? := fun k x hx => o1 x.1 ((hW k x hx).lt)
    have hen : q_en Z (q_new E (4 + ax.getD 0 0) (ax.getD 1 0)) (q_upA g E.1 (fun _ => 0)) E.1 = .inr (ax.getD 0 0, (List.range (q_cl (ax.getD 0 0)).2.2).map (q_fv Z (q_new E (4 + ax.getD 0 0) (ax.getD 1 0)) (q_upA g E.1 (fun _ => 0)) E.1 (ax.getD 0 0))) := q_en_4 (by rw [q_kd_news])
    have hP1 : q_Pi Z (q_new E (4 + ax.getD 0 0) (ax.getD 1 0)) (q_upA g E.1 (fun _ => 0)) H1 := by
      show va_P _ _ _ _
      rw [← q_ws_push (E := E) (g := g) hI.1 rfl (fun b hb => q_en_new _ hb)]
      refine (hW.kept hk).app fun j x hx => ?_
      have hz : j < 1 := (List.getElem?_eq_some_iff.mp hx).1
      rw [show j = 0 by omega] at hx
      cases hx
      show va_at _ _ (_, q_en _ _ _ _) _
      rw [hen]
      refine ⟨_, q_cl_some _ hci, ?_⟩
      have hb1 := u_born (q_ty (ax.getD 0 0)) hts (q_in _ hci) hKn hkC e1 (q_ty_ok _ hci)
      rw [hsz] at hb1
      refine hb1.to fun j hj => ?_
      refine Eq.trans ?_ (q_map_getD hj).symm
      unfold q_fv
      rw [q_upA_s, show q_rf (q_new E (4 + ax.getD 0 0) (ax.getD 1 0)) E.1 j = 0 by unfold q_rf q_new; exact if_pos rfl]
      have := q_tyk _ hci j hj
      unfold q_isR
      rcases this with h | h | ⟨n, h⟩ | ⟨n, h⟩ <;> rw [h] <;> rfl
    have K := kk ls H1 locs (cells + 1) (slots + (q_cl (ax.getD 0 0)).2.2) (by show cells + 1 = cells + (E.1 + 1 - E.1); omega) (by show _ = slots + (E.2.1 + ax.getD 1 0 - E.2.1); omega) hL hP1 (q_I_new _ hI (by omega)) ⟨Nat.le_trans hS.1 (by omega), fun x h1 h2 => (o1 x (Nat.lt_of_lt_of_le h1 hS.1)).trans (hS.2.1 x h1 h2), hS.2.2⟩
    have e3 : q_rv Z (.ref E.1) = .ref H.size := by
      show Value.ref (q_ad Z E.1) = _
      rw [q_ad_n hI.1, hsz]
    have K : W p l e R s m args below meth c H1 locs (cells + 1) (slots + (q_cl (ax.getD 0 0)).2.2) Q (F0 m (pc' + 3) ls (q_rv Z (.ref E.1) :: S.map (q_rv Z))) := K
    rw [e3] at K
    exact K
  | newarray ty =>
    (unfold q_ln at hln; dsimp only at hln; subst hln)
    obtain ⟨n, t, rfl, hs⟩ := q_pI_s hs
    obtain ⟨hn, hs⟩ := q_ifn_s hs
    have hn1 : ¬ n < 0 := fun q => hn (Or.inl q)
    have hn2 : n.toNatClampNeg ≤ 100000 := Nat.not_lt.mp fun q => hn (Or.inr q)
    have arr : ∀ (tg : Nat) (cA0 : ClassId) (ft : FieldType) (t0 : Nat), newarray.typeOf ty = ft → componentBytes ft ≤ 4 → (tg = 2 ∧ cA0 = Z.2.1.1 ∨ tg = 3 ∧ cA0 = Z.2.1.2) → defaultValue ft = .int 0 → ([(Z.2.1.1, .int), (Z.2.1.2, .char)] : List (ClassId × FieldType))[t0]? = some (cA0, ft) → (ft = .int ∨ ft = .char) → cells + 1 ≤ R.cells → slots + n.toNatClampNeg ≤ R.slots → q_KK Z p l e R s m args below meth c cells slots Q E (q_mi k).2.2.1 (pc' + 2, L, .ref E.1 :: t, q_new E tg n.toNatClampNeg, q_upA g E.1 (fun _ => 0)) →
        W p l e R s m args below meth c H locs cells slots Q (F0 m pc' ls (.int n :: t.map (q_rv Z))) := by
      intro tg cA0 ft t0 hft hcb htg hdv ht0 hft2 hc1 hs1 kk
      subst hft
      refine va_newaK hx hb (hts' hox) rfl hdg rfl hn1 rfl (by
        have := Nat.mul_le_mul hn2 hcb
        omega) hc1 hs1 rfl fun H1 cA e1 z1 o1 hAr hNm => ?_
      have hcA : cA = cA0 := by
        have h9 := (hK.1.2 t0 _ ht0).2
        rcases hft2 with h | h
        · rw [h] at h9 hNm
          exact Option.some.inj (hNm.symm.trans h9)
        · rw [h] at h9 hNm
          exact Option.some.inj (hNm.symm.trans h9)
      have hk : ∀ (k : Nat) (x : Nat × va_E), (q_ws Z E g)[k]? = some x → H1[x.1]? = H[x.1]? := fun k x hx => o1 x.1 ((hW k x hx).lt)
      have hen : q_en Z (q_new E tg n.toNatClampNeg) (q_upA g E.1 (fun _ => 0)) E.1 = .inl (cA0, (n.toNatClampNeg, .inl (fun _ => 0))) := by
        rcases htg with ⟨h1, h2⟩ | ⟨h1, h2⟩
        · subst h1; rw [q_en_2 (by rw [q_kd_news]), q_kd_news, q_upA_s, h2]
        · subst h1; rw [q_en_3 (by rw [q_kd_news]), q_kd_news, q_upA_s, h2]
      have hP1 : q_Pi Z (q_new E tg n.toNatClampNeg) (q_upA g E.1 (fun _ => 0)) H1 := by
        show va_P _ _ _ _
        rw [← q_ws_push (E := E) (g := g) hI.1 rfl (fun b hb => q_en_new _ hb)]
        refine (hW.kept hk).app fun j x hx => ?_
        have hz : j < 1 := (List.getElem?_eq_some_iff.mp hx).1
        rw [show j = 0 by omega] at hx
        cases hx
        show va_at _ _ (_, q_en _ _ _ _) _
        rw [hen]
        show H1[_]? = some (vp_cell cA0 (n.toNatClampNeg, .inl (fun _ => 0)))
        rw [← hsz, e1, vp_cell_i, hcA, hdv]
      have K := kk ls H1 locs (cells + 1) (slots + n.toNatClampNeg) (by show cells + 1 = cells + (E.1 + 1 - E.1); omega) (by show _ = slots + (E.2.1 + n.toNatClampNeg - E.2.1); omega) hL hP1 (q_I_new _ hI (by omega)) ⟨Nat.le_trans hS.1 (by omega), fun x h1 h2 => (o1 x (Nat.lt_of_lt_of_le h1 hS.1)).trans (hS.2.1 x h1 h2), hS.2.2⟩
      have e3 : q_rv Z (.ref E.1) = .ref H.size := by
        show Value.ref (q_ad Z E.1) = _
        rw [q_ad_n hI.1, hsz]
      have K : W p l e R s m args below meth c H1 locs (cells + 1) (slots + n.toNatClampNeg) Q (F0 m (pc' + 2) ls (q_rv Z (.ref E.1) :: t.map (q_rv Z))) := K
      rw [e3] at K
      exact K
    cases ty with
    | int =>
      cases hs
      exact arr 2 _ .int 0 rfl (by decide) (Or.inl ⟨rfl, rfl⟩) rfl rfl (Or.inl rfl) (by have : cells + (E.1 + 1 - E.1) ≤ R.cells := hc; omega) (by have : slots + (E.2.1 + n.toNatClampNeg - E.2.1) ≤ R.slots := hsl; omega) kk
    | char =>
      cases hs
      exact arr 3 _ .char 1 rfl (by decide) (Or.inr ⟨rfl, rfl⟩) rfl rfl (Or.inr rfl) (by have : cells + (E.1 + 1 - E.1) ≤ R.cells := hc; omega) (by have : slots + (E.2.1 + n.toNatClampNeg - E.2.1) ≤ R.slots := hsl; omega) kk
    | _ => cases hs
  | arraylength =>
    (unfold q_ln at hln; dsimp only at hln; subst hln)
    obtain ⟨a, t, rfl, hs⟩ := q_pR_s hs
    obtain ⟨h1, hs⟩ := q_if_s hs
    cases hs
    have K := kk ls H locs cells slots (by simp) (by simp) hL hW hI hS
    rcases h1 with h | h | h
    · rcases hI.2.2 a h with ⟨rfl, h2, -⟩ | ⟨rfl, h2, -⟩
      · rw [h2] at K
        exact va_tlen hx hb hK.2.1 hS rfl hdg K
      · rw [h2] at K
        exact va_tlen hx hb hK.2.2.1 hS rfl hdg K
    · obtain ⟨ha3, haE⟩ := hI.2.1 a (by omega)
      have hat := q_ws_at (Z := Z) (g := g) ha3 haE
      rw [q_en_2 h] at hat
      exact va_alen hx hb hK.1 hW _ 0 hat rfl rfl hdg K
    · obtain ⟨ha3, haE⟩ := hI.2.1 a (by omega)
      have hat := q_ws_at (Z := Z) (g := g) ha3 haE
      rw [q_en_3 h] at hat
      exact va_alen hx hb hK.1 hW _ 1 hat rfl rfl hdg K
  | iaload =>
    (unfold q_ln at hln; dsimp only at hln; subst hln)
    obtain ⟨i, t, rfl, hs⟩ := q_pI_s hs
    obtain ⟨a, t, rfl, hs⟩ := q_pR_s hs
    obtain ⟨⟨h1, hin⟩, hs⟩ := q_if_s hs
    cases hs
    have K := kk ls H locs cells slots (by simp) (by simp) hL hW hI hS
    have hlt : i.toNatClampNeg < (q_kd E a).2 := Nat.not_le.mp fun q => hin (Or.inr q)
    rcases h1 with h | h
    · rcases hI.2.2 a h with ⟨rfl, h2, h3⟩ | ⟨rfl, h2, h3⟩
      · rw [h2] at hin hlt
        exact va_ti (v := .int (g 1 i.toNatClampNeg)) hx hb hK.2.1 hS hin (by show Value.int _ = Value.int _; rw [h3 _ hlt]) hdg K
      · rw [h2] at hin hlt
        exact va_ti (v := .int (g 2 i.toNatClampNeg)) hx hb hK.2.2.1 hS hin (by show Value.int _ = Value.int _; rw [h3 _ hlt]) hdg K
    · obtain ⟨ha3, haE⟩ := hI.2.1 a (by omega)
      have hat := q_ws_at (Z := Z) (g := g) ha3 haE
      rw [q_en_2 h] at hat
      exact va_iald hx hb hK.1 hW _ 0 hat rfl hin hdg K
  | caload =>
    (unfold q_ln at hln; dsimp only at hln; subst hln)
    obtain ⟨i, t, rfl, hs⟩ := q_pI_s hs
    obtain ⟨a, t, rfl, hs⟩ := q_pR_s hs
    obtain ⟨⟨h, hin⟩, hs⟩ := q_if_s hs
    cases hs
    have K := kk ls H locs cells slots (by simp) (by simp) hL hW hI hS
    obtain ⟨ha3, haE⟩ := hI.2.1 a (by omega)
    have hat := q_ws_at (Z := Z) (g := g) ha3 haE
    rw [q_en_3 h] at hat
    exact va_cald hx hb hK.1 hW _ 1 hat rfl hin hdg K
  | iastore =>
    (unfold q_ln at hln; dsimp only at hln; subst hln)
    obtain ⟨x, t, rfl, hs⟩ := q_pI_s hs
    obtain ⟨i, t, rfl, hs⟩ := q_pI_s hs
    obtain ⟨a, t, rfl, hs⟩ := q_pR_s hs
    obtain ⟨⟨h, hin⟩, hs⟩ := q_if_s hs
    cases hs
    obtain ⟨ha3, haE⟩ := hI.2.1 a (by omega)
    have hat := q_ws_at (Z := Z) (g := g) ha3 haE
    rw [q_en_2 h] at hat
    have hws : (q_ws Z E g).set (a - 3) (q_ad Z a, .inl (Z.2.1.1, ((q_kd E a).2, .inl (upd (g a) i.toNatClampNeg x)))) = q_ws Z E (q_up g a i.toNatClampNeg x) := by
      rw [← q_ws_set (Z := Z) (E := E) (E' := E) (g := g) (g' := q_up g a i.toNatClampNeg x) ha3 haE rfl (fun b hb => q_en_up _ hb), q_en_2 h, q_up_s]
    refine va_iast hx hb hK.1 hW q_ws_D hS _ 0 hat rfl hin hdg fun H1 locs1 h1 _ h3 => ?_
    rw [hws] at h1
    exact kk ls H1 locs1 cells slots (by simp) (by simp) hL h1 (q_I_up (a := a) _ hI (show 2 ≤ (q_kd E a).1 by omega)) h3
  | castore =>
    (unfold q_ln at hln; dsimp only at hln; subst hln)
    obtain ⟨x, t, rfl, hs⟩ := q_pI_s hs
    obtain ⟨i, t, rfl, hs⟩ := q_pI_s hs
    obtain ⟨a, t, rfl, hs⟩ := q_pR_s hs
    obtain ⟨⟨h, hin⟩, hs⟩ := q_if_s hs
    cases hs
    obtain ⟨ha3, haE⟩ := hI.2.1 a (by omega)
    have hat := q_ws_at (Z := Z) (g := g) ha3 haE
    rw [q_en_3 h] at hat
    have hws : (q_ws Z E g).set (a - 3) (q_ad Z a, .inl (Z.2.1.2, ((q_kd E a).2, .inl (upd (g a) i.toNatClampNeg (vp_nar .char x))))) = q_ws Z E (q_up g a i.toNatClampNeg (vp_nar .char x)) := by
      rw [← q_ws_set (Z := Z) (E := E) (E' := E) (g := g) (g' := q_up g a i.toNatClampNeg (vp_nar .char x)) ha3 haE rfl (fun b hb => q_en_up _ hb), q_en_3 h, q_up_s]
    refine va_cast hx hb hK.1 hW q_ws_D hS _ 1 hat rfl hin hdg fun H1 locs1 h1 _ h3 => ?_
    rw [hws] at h1
    exact kk ls H1 locs1 cells slots (by simp) (by simp) hL h1 (q_I_up (a := a) _ hI (show 2 ≤ (q_kd E a).1 by omega)) h3
  | invokespecial idx =>
    (unfold q_ln at hln; dsimp only at hln; subst hln)
    unfold q_cls at h0
    dsimp only at h0
    have h6 : ¬ ax.getD 2 0 < 6 := by
      intro h
      rw [if_pos h] at h0
      cases h0
    unfold q_okn at hon
    dsimp only at hon
    rw [if_neg h6] at hon
    simp only [Bool.and_eq_true, decide_eq_true_eq] at hon
    obtain ⟨⟨⟨h1, h2⟩, h3⟩, h4⟩ := hon
    obtain ⟨a, t, rfl, hs⟩ := q_pR_s hs
    obtain ⟨rfl, hs⟩ := q_if_s hs
    cases hs
    refine W.objInit hx hb hown (hts' h2) (hts' h3) (hts' h4) rfl (by rw [hml]; exact hlsz) rfl hdg (by omega) (by show 2 * 0 + 0 + 12 ≤ _; omega) ?_
    exact kk ls H locs cells slots (by simp) (by simp) hL hW hI hS
  | invokestatic idx =>
    (unfold q_ln at hln; dsimp only at hln; subst hln)
    unfold q_cls at h0
    dsimp only at h0
    have h6 : ¬ ax.getD 2 0 < 6 := by
      intro h
      rw [if_pos h] at h0
      cases h0
    unfold q_okn at hon
    dsimp only at hon
    rw [if_neg h6] at hon
    unfold q_stp at hs
    dsimp only at hs
    by_cases h8 : ax.getD 2 0 = 8
    · rw [if_pos h8] at hs hon
      simp only [Bool.and_eq_true, decide_eq_true_eq] at hon
      obtain ⟨⟨⟨⟨h1, h2⟩, h3⟩, h4⟩, h5⟩ := hon
      obtain ⟨b, t, rfl, hs⟩ := q_pF_s hs
      obtain ⟨ht, hs⟩ := q_if_s hs
      cases hs
      have hcat : ((t.map (q_rv Z)).map fun v => v.category).sum ≤ 16 := by
        have : ∀ (t : List Value), (t.map fun v => v.category).sum ≤ 2 * t.length := by
          intro t
          induction t with
          | nil => simp
          | cons v t ih =>
            have hv : v.category ≤ 2 := by cases v <;> simp [Value.category]
            simp only [List.map_cons, List.sum_cons, List.length_cons]
            omega
        have := this (t.map (q_rv Z))
        rw [List.length_map] at this
        omega
      exact vn_f2i hx hb (by rw [hml]; exact hlsz.symm) hown (hts' h2) (hts' h3) (hts' h4) (hts' h5) (by omega) (by omega) hdg (kk ls H locs cells slots (by simp) (by simp) hL hW hI hS)
    · rw [if_neg h8] at hs hon
      simp only [Bool.and_eq_true, decide_eq_true_eq] at hon
      obtain ⟨⟨⟨⟨h1, h2⟩, h3⟩, h4⟩, h5⟩ := hon
      obtain ⟨n, t1, e1, hs1⟩ := q_pI_s hs
      obtain ⟨dp, t2, e2, hs2⟩ := q_pI_s hs1
      obtain ⟨a, t3, e3, hs3⟩ := q_pR_s hs2
      obtain ⟨sp, t4, e4, hs4⟩ := q_pI_s hs3
      obtain ⟨a0, t, e5, hs5⟩ := q_pR_s hs4
      obtain ⟨⟨ka, ka0, e6, p1, p2, p3, p4, p5⟩, hs6⟩ := q_if_s hs5
      clear hs hs1 hs2 hs3 hs4 hs5
      subst e6; subst e5; subst e4; subst e3; subst e2; subst e1
      cases hs6
      obtain ⟨ha3, haE⟩ := hI.2.1 a (by omega)
      obtain ⟨hb3, hbE⟩ := hI.2.1 a0 (by omega)
      have hat := q_ws_at (Z := Z) (g := g) ha3 haE
      rw [q_en_2 ka] at hat
      have hbt := q_ws_at (Z := Z) (g := g) hb3 hbE
      rw [q_en_2 ka0] at hbt
      have hws : (q_ws Z E g).set (a - 3) (q_ad Z a, .inl (Z.2.1.1, ((q_kd E a).2, .inl (va_cpy (g a0) (g a) sp.toNatClampNeg dp.toNatClampNeg n.toNatClampNeg)))) = q_ws Z E (q_upA g a (va_cpy (g a0) (g a) sp.toNatClampNeg dp.toNatClampNeg n.toNatClampNeg)) := by
        rw [← q_ws_set (Z := Z) (E := E) (E' := E) (g := g) (g' := q_upA g a (va_cpy (g a0) (g a) sp.toNatClampNeg dp.toNatClampNeg n.toNatClampNeg)) ha3 haE rfl (fun b hb => q_en_up _ hb), q_en_2 ka, q_upA_s]
      refine va_copyi hx hb (by rw [hml]; exact hlsz.symm) hown (hts' h2) (hts' h3) (hts' h4) (hts' h5) hK.1 hW q_ws_D hS _ _ 0 0 hbt hat rfl rfl rfl p1 p2 p3 p4 p5 (fun _ _ => rfl) (by omega) (by
        have hw : nativeFrameWords "java/lang/System" "arraycopy" 5 = 7 := by decide
        rw [hw]
        show 0 + (7 + 11) ≤ _
        omega) hdg fun H1 locs1 q1 _ q3 => ?_
      rw [hws] at q1
      exact kk ls H1 locs1 cells slots (by simp) (by simp) hL q1 (q_I_up (a := a) _ hI (show 2 ≤ (q_kd E a).1 by omega)) q3
  | _ => exact absurd hs (by intro q; cases q)
end
