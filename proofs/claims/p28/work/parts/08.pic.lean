/-! WHAT THE SMALL MACHINE'S HEAP IS of the real one. Z: the tables' numbers of classes and fields; int[] and char[]; where the new cells begin, the script's cell, the static row's cell; the script's length, the script -/
abbrev q_Z : Type := va_G × (ClassId × ClassId) × (Nat × Nat × Nat) × Nat × (Nat → Int32)
def q_bes (j : Nat) : Int32 := ([34, 69, 138, 276, 520, 65, 162, 324, 648, 272] : List Int32).getD j 0
def q_ad (Z : q_Z) (a : Nat) : Nat := if a = 1 then Z.2.2.1.2.1 else if a = 2 then Z.2.2.1.2.2 else Z.2.2.1.1 + (a - 3)
def q_rv (Z : q_Z) (v : Value) : Value := match v with
  | .ref a => .ref (q_ad Z a)
  | v => v
def q_A (Z : q_Z) : Nat → Prop := fun q => Z.2.2.1.1 ≤ q
def q_fv (Z : q_Z) (E : q_E) (g : q_G) (a ci k : Nat) : Value := if q_isR ci k = true then (if q_rf E a k = 0 then .null else .ref (q_ad Z (q_rf E a k))) else .int (g a k)
def q_en (Z : q_Z) (E : q_E) (g : q_G) (a : Nat) : va_E :=
  if (q_kd E a).1 = 2 then .inl (Z.2.1.1, ((q_kd E a).2, .inl (g a)))
  else if (q_kd E a).1 = 3 then .inl (Z.2.1.2, ((q_kd E a).2, .inl (g a)))
  else .inr ((q_kd E a).1 - 4, (List.range (q_cl ((q_kd E a).1 - 4)).2.2).map (q_fv Z E g a ((q_kd E a).1 - 4)))
def q_ws (Z : q_Z) (E : q_E) (g : q_G) : va_W := (List.range (E.1 - 3)).map (fun i => (Z.2.2.1.1 + i, q_en Z E g (i + 3)))
def q_I (Z : q_Z) (E : q_E) (g : q_G) : Prop := 3 ≤ E.1 ∧ (∀ a, 2 ≤ (q_kd E a).1 → 3 ≤ a ∧ a < E.1) ∧ (∀ a, (q_kd E a).1 = 1 → (a = 1 ∧ (q_kd E a).2 = Z.2.2.2.1 ∧ ∀ j, j < Z.2.2.2.1 → g a j = Z.2.2.2.2 j) ∨ (a = 2 ∧ (q_kd E a).2 = 10 ∧ ∀ j, j < 10 → g a j = q_bes j))
abbrev q_Pi (Z : q_Z) (E : q_E) (g : q_G) (H : Heap) : Prop := va_P Z.1 vwCl (q_ws Z E g) H
def q_Wd (Z : q_Z) (E : q_E) (g : q_G) (H : Heap) : Prop := q_Pi Z E g H ∧ H.size = Z.2.2.1.1 + (E.1 - 3) ∧ q_I Z E g
def q_Ks (Z : q_Z) (s : State) : Prop := va_K Z.1 vwCl [(Z.2.1.1, .int), (Z.2.1.2, .char)] s ∧ va_T .int Z.2.2.1.2.1 Z.2.2.2.1 (fun j => .int (Z.2.2.2.2 j)) (q_A Z) s s.heap ∧ va_T .int Z.2.2.1.2.2 10 (fun j => .int (q_bes j)) (q_A Z) s s.heap ∧ va_Z "CardRacks" "BESIDE" "[I" (.ref Z.2.2.1.2.2) (q_A Z) s s.heap ∧ ∀ w ∈ q_NW, va_Nw w s
theorem q_NW_warm {s U : State} (hW : s.WarmedH U.vm) : ∀ w ∈ q_NW, va_Nw w s → va_Nw w U := by
  intro w hw
  simp only [q_NW, List.mem_cons, List.not_mem_nil, or_false] at hw
  rcases hw with rfl | rfl | rfl | rfl | rfl | rfl | rfl | rfl | rfl | rfl | rfl | rfl | rfl | rfl | rfl | rfl | rfl <;> first | exact va_Nw.warmM hW | exact va_Nw.warmF hW
theorem q_Ks_mv {Z : q_Z} {u U : State} (hv : u.vm = U.vm) (hh : u.heap = U.heap) (h : q_Ks Z u) : q_Ks Z U := by
  obtain ⟨h1, h2, h3, h4, h5⟩ := h
  have ha : u.vm.Alike U.vm := by rw [hv]; exact Vm.Alike.refl _
  refine ⟨h1.moved ha, ?_, ?_, ?_, fun w hw => va_Nw.same (q_NW_tab w hw) hv (h5 w hw)⟩
  · rw [← hh]; exact h2.moved ha
  · rw [← hh]; exact h3.moved ha
  · rw [← hh]; exact h4.moved ha
theorem q_Ks_nx {Z : q_Z} {s U : State} {H : Heap} {locs : List Loc} (h : q_Ks Z s) (hS : va_S (q_A Z) s.heap H locs) (hW : s.WarmedH U.vm) (hU : U.heap = H) : q_Ks Z U := by
  obtain ⟨h1, h2, h3, h4, h5⟩ := h
  refine ⟨h1.moved hW.alike, ?_, ?_, ?_, fun w hw => q_NW_warm hW w hw (h5 w hw)⟩
  · rw [hU]; exact (h2.kept hS.2.1).moved hW.alike
  · rw [hU]; exact (h3.kept hS.2.1).moved hW.alike
  · rw [hU]; exact (h4.kept hS.2.1).moved hW.alike
theorem q_rv_cat (Z : q_Z) (v : Value) : (q_rv Z v).category = v.category := by cases v <;> rfl
theorem q_rv_cats (Z : q_Z) (S : List Value) : ((S.map (q_rv Z)).map fun v => v.category) = S.map fun v => v.category := by
  rw [List.map_map]
  exact List.map_congr_left (fun v _ => q_rv_cat Z v)
theorem q_ad_n {Z : q_Z} {a : Nat} (h : 3 ≤ a) : q_ad Z a = Z.2.2.1.1 + (a - 3) := by
  unfold q_ad
  rw [if_neg (by omega), if_neg (by omega)]
theorem q_ws_get {Z : q_Z} {E : q_E} {g : q_G} {i : Nat} {q : Nat × va_E} (h : (q_ws Z E g)[i]? = some q) : i < E.1 - 3 ∧ q = (Z.2.2.1.1 + i, q_en Z E g (i + 3)) := by
  unfold q_ws at h
  rw [List.getElem?_map] at h
  by_cases hi : i < E.1 - 3
  · rw [List.getElem?_range hi] at h
    exact ⟨hi, (Option.some.inj h).symm⟩
  · rw [List.getElem?_eq_none (by simp; omega)] at h
    cases h
theorem q_ws_at {Z : q_Z} {E : q_E} {g : q_G} {a : Nat} (h3 : 3 ≤ a) (h : a < E.1) : (q_ws Z E g)[a - 3]? = some (q_ad Z a, q_en Z E g a) := by
  unfold q_ws
  rw [List.getElem?_map, List.getElem?_range (by omega), Option.map_some, q_ad_n h3, show a - 3 + 3 = a by omega]
theorem q_ws_D {Z : q_Z} {E : q_E} {g : q_G} : va_D (q_A Z) (q_ws Z E g) := by
  refine ⟨fun i j p q hp hq hpq => ?_, fun k q hq => ?_⟩
  · obtain ⟨-, rfl⟩ := q_ws_get hp
    obtain ⟨-, rfl⟩ := q_ws_get hq
    have : Z.2.2.1.1 + i = Z.2.2.1.1 + j := hpq
    omega
  · obtain ⟨-, rfl⟩ := q_ws_get hq
    exact Nat.le_add_right _ _
theorem q_ws_ext {Z : q_Z} {E : q_E} {g : q_G} {w : va_W} (hl : w.length = E.1 - 3) (h : ∀ i, i < E.1 - 3 → w[i]? = some (Z.2.2.1.1 + i, q_en Z E g (i + 3))) : w = q_ws Z E g := by
  refine List.ext_getElem? fun i => ?_
  by_cases hi : i < E.1 - 3
  · rw [h i hi]
    unfold q_ws
    rw [List.getElem?_map, List.getElem?_range hi]
    rfl
  · rw [List.getElem?_eq_none (by omega), List.getElem?_eq_none (by unfold q_ws; simp; omega)]
theorem q_ws_len {Z : q_Z} {E : q_E} {g : q_G} : (q_ws Z E g).length = E.1 - 3 := by unfold q_ws; simp
theorem q_ws_set {Z : q_Z} {E E' : q_E} {g g' : q_G} {a : Nat} (h3 : 3 ≤ a) (h : a < E.1) (he : E'.1 = E.1) (ho : ∀ b, b ≠ a → q_en Z E' g' b = q_en Z E g b) : (q_ws Z E g).set (a - 3) (q_ad Z a, q_en Z E' g' a) = q_ws Z E' g' := by
  refine q_ws_ext (by rw [List.length_set, q_ws_len, he]) fun i hi => ?_
  rw [he] at hi
  by_cases hia : i = a - 3
  · subst hia
    rw [List.getElem?_set_self (by rw [q_ws_len]; omega), q_ad_n h3, show a - 3 + 3 = a by omega]
  · rw [List.getElem?_set_ne (fun q => hia q.symm)]
    have h1 := q_ws_at (Z := Z) (E := E) (g := g) (a := i + 3) (by omega) (by omega)
    rw [show i + 3 - 3 = i by omega] at h1
    rw [h1, q_ad_n (by omega), ho (i + 3) (by omega), show i + 3 - 3 = i by omega]
theorem q_ws_push {Z : q_Z} {E E' : q_E} {g g' : q_G} (h3 : 3 ≤ E.1) (he : E'.1 = E.1 + 1) (ho : ∀ b, b < E.1 → q_en Z E' g' b = q_en Z E g b) : q_ws Z E g ++ [(Z.2.2.1.1 + (E.1 - 3), q_en Z E' g' E.1)] = q_ws Z E' g' := by
  refine q_ws_ext (by rw [List.length_append, q_ws_len, he]; simp; omega) fun i hi => ?_
  rw [he] at hi
  by_cases hl : i < E.1 - 3
  · rw [List.getElem?_append_left (by rw [q_ws_len]; exact hl)]
    have h1 := q_ws_at (Z := Z) (E := E) (g := g) (a := i + 3) (by omega) (by omega)
    rw [show i + 3 - 3 = i by omega] at h1
    rw [h1, q_ad_n (by omega), ho (i + 3) (by omega), show i + 3 - 3 = i by omega]
  · rw [List.getElem?_append_right (by rw [q_ws_len]; omega), q_ws_len, show i - (E.1 - 3) = 0 by omega]
    show some _ = some _
    rw [show i = E.1 - 3 by omega, show E.1 - 3 + 3 = E.1 by omega]
/-- the last cell is there: so many cells at least -/
theorem q_Pi_sz {Z : q_Z} {E : q_E} {g : q_G} {H : Heap} (h : q_Pi Z E g H) (h0 : Z.2.2.1.1 ≤ H.size) : Z.2.2.1.1 + (E.1 - 3) ≤ H.size := by
  by_cases h3 : E.1 ≤ 3
  · omega
  · have h1 := (h _ _ (q_ws_at (Z := Z) (E := E) (g := g) (a := E.1 - 1) (by omega) (by omega))).lt
    rw [q_ad_n (by omega)] at h1
    have h2 : Z.2.2.1.1 + (E.1 - 1 - 3) < H.size := h1
    omega
theorem q_upA_s (g : q_G) (a : Nat) (f : Nat → Int32) : q_upA g a f a = f := by unfold q_upA; rw [if_pos rfl]
theorem q_upA_n (g : q_G) {a b : Nat} (f : Nat → Int32) (h : b ≠ a) : q_upA g a f b = g b := by unfold q_upA; rw [if_neg h]
theorem q_up_s (g : q_G) (a i : Nat) (v : Int32) : q_up g a i v a = upd (g a) i v := q_upA_s _ _ _
theorem q_up_n (g : q_G) {a b : Nat} (i : Nat) (v : Int32) (h : b ≠ a) : q_up g a i v b = g b := q_upA_n _ _ h
theorem q_en_2 {Z : q_Z} {E : q_E} {g : q_G} {a : Nat} (h : (q_kd E a).1 = 2) : q_en Z E g a = .inl (Z.2.1.1, ((q_kd E a).2, .inl (g a))) := by unfold q_en; rw [if_pos h]
theorem q_en_3 {Z : q_Z} {E : q_E} {g : q_G} {a : Nat} (h : (q_kd E a).1 = 3) : q_en Z E g a = .inl (Z.2.1.2, ((q_kd E a).2, .inl (g a))) := by unfold q_en; rw [if_neg (by omega), if_pos h]
theorem q_en_4 {Z : q_Z} {E : q_E} {g : q_G} {a ci : Nat} (h : (q_kd E a).1 = 4 + ci) : q_en Z E g a = .inr (ci, (List.range (q_cl ci).2.2).map (q_fv Z E g a ci)) := by
  unfold q_en
  rw [if_neg (by omega), if_neg (by omega), h, show 4 + ci - 4 = ci by omega]
theorem q_en_up {Z : q_Z} {E : q_E} {g : q_G} {a b : Nat} (f : Nat → Int32) (h : b ≠ a) : q_en Z E (q_upA g a f) b = q_en Z E g b := by
  unfold q_en q_fv
  rw [q_upA_n g f h]
theorem q_setR_n {E : q_E} {a k v b j : Nat} (h : ¬ (b = a ∧ j = k)) : q_rf (q_setR E a k v) b j = q_rf E b j := by unfold q_rf q_setR; exact if_neg h
theorem q_setR_s {E : q_E} {a k v : Nat} : q_rf (q_setR E a k v) a k = v := by unfold q_rf q_setR; exact if_pos ⟨rfl, rfl⟩
theorem q_en_setR {Z : q_Z} {E : q_E} {g : q_G} {a k v b : Nat} (h : b ≠ a) : q_en Z (q_setR E a k v) g b = q_en Z E g b := by
  have e : ∀ ci j, q_fv Z (q_setR E a k v) g b ci j = q_fv Z E g b ci j := by
    intro ci j
    unfold q_fv
    rw [q_setR_n (fun q => h q.1)]
  have e2 : q_fv Z (q_setR E a k v) g b = q_fv Z E g b := by funext ci j; exact e ci j
  unfold q_en
  rw [e2]
  rfl
theorem q_I_up {Z : q_Z} {E : q_E} {g : q_G} {a : Nat} (f : Nat → Int32) (h : q_I Z E g) (ha : 2 ≤ (q_kd E a).1) : q_I Z E (q_upA g a f) := by
  refine ⟨h.1, h.2.1, fun b hb => ?_⟩
  have hne : b ≠ a := by intro q; rw [q] at hb; omega
  rw [q_upA_n g f hne]
  exact h.2.2 b hb
theorem q_kd_new {E : q_E} {t n b : Nat} (h : b ≠ E.1) : q_kd (q_new E t n) b = q_kd E b := by unfold q_kd q_new; exact if_neg h
theorem q_kd_news {E : q_E} {t n : Nat} : q_kd (q_new E t n) E.1 = (t, n) := by unfold q_kd q_new; exact if_pos rfl
theorem q_I_new {Z : q_Z} {E : q_E} {g : q_G} {t n : Nat} (f : Nat → Int32) (h : q_I Z E g) (ht : 2 ≤ t) : q_I Z (q_new E t n) (q_upA g E.1 f) := by
  refine ⟨Nat.le_succ_of_le h.1, fun b hb => ?_, fun b hb => ?_⟩
  · by_cases e : b = E.1
    · subst e; exact ⟨h.1, Nat.lt_succ_self _⟩
    · rw [q_kd_new e] at hb
      have h2 := h.2.1 b hb
      exact ⟨h2.1, Nat.lt_succ_of_lt h2.2⟩
  · by_cases e : b = E.1
    · subst e; rw [q_kd_news] at hb; exact absurd hb (by show ¬ t = 1; omega)
    · rw [q_kd_new e] at hb ⊢
      rw [q_upA_n g f e]
      exact h.2.2 b hb
theorem q_en_new {Z : q_Z} {E : q_E} {g : q_G} {t n b : Nat} (f : Nat → Int32) (h : b < E.1) : q_en Z (q_new E t n) (q_upA g E.1 f) b = q_en Z E g b := by
  have hne : b ≠ E.1 := by omega
  have e : q_fv Z (q_new E t n) (q_upA g E.1 f) b = q_fv Z E g b := by
    funext ci j
    unfold q_fv
    rw [q_upA_n g f hne, show q_rf (q_new E t n) b j = q_rf E b j by unfold q_rf q_new; exact if_neg hne]
  unfold q_en
  rw [e, q_kd_new hne, q_upA_n g f hne]
/-- the locals -/
def q_LR (Z : q_Z) (ls : Array Slot) (nL : Nat) (L : List Value) : Prop := L.length = nL ∧ lv_has ls nL [] ∧ (∀ v ∈ L, v.category = 1) ∧ ∀ (i : Nat) (v : Value), L[i]? = some v → v ≠ .null → ls[i]? = some (.val (q_rv Z v))
theorem q_LR_st {Z : q_Z} {ls : Array Slot} {nL : Nat} {L : List Value} (h : q_LR Z ls nL L) {i : Nat} {v : Value} (hi : i < L.length) (hv : v.category = 1) :
    ∃ lv, lv_has ls nL lv ∧ (∀ (j : Nat) (x : Value), L[j]? = some x → x ≠ .null → (j, q_rv Z x) ∈ lv) ∧ ∀ ls', lv_has ls' nL ((i, q_rv Z v) :: lv.filter (fun q => !(q.1 == i) && !(q.1 + 1 == i && q.2.category == 2))) → q_LR Z ls' nL (L.set i v) := by
  refine ⟨(List.range nL).filterMap (fun j => match L[j]? with | some x => if x = .null then none else some (j, q_rv Z x) | none => none), ⟨h.2.1.1, h.2.1.2.1, fun q hq => ?_⟩, fun j x hj hx => ?_, fun ls' h' => ⟨by rw [List.length_set]; exact h.1, ⟨h'.1, h'.2.1, fun q hq => by cases hq⟩, fun w hw => ?_, fun j w hj hw => ?_⟩⟩
  · obtain ⟨j, hj, hq⟩ := List.mem_filterMap.mp hq
    cases hL : L[j]? with
    | none => rw [hL] at hq; cases hq
    | some x =>
      rw [hL] at hq
      dsimp only at hq
      by_cases hx : x = .null
      · rw [if_pos hx] at hq; cases hq
      · rw [if_neg hx] at hq; cases hq
        exact h.2.2.2 j x hL hx
  · refine List.mem_filterMap.mpr ⟨j, List.mem_range.mpr (by rw [← h.1]; exact (List.getElem?_eq_some_iff.mp hj).1), ?_⟩
    rw [hj]
    dsimp only
    rw [if_neg hx]
  · rcases List.mem_or_eq_of_mem_set hw with hw | hw
    · exact h.2.2.1 w hw
    · rw [hw]; exact hv
  · by_cases hji : j = i
    · subst hji
      rw [List.getElem?_set_self hi] at hj
      cases hj
      exact h'.2.2 _ List.mem_cons_self
    · rw [List.getElem?_set_ne (fun q => hji q.symm)] at hj
      refine h'.2.2 (j, q_rv Z w) (List.mem_cons_of_mem _ (List.mem_filter.mpr ⟨List.mem_filterMap.mpr ⟨j, List.mem_range.mpr (by rw [← h.1]; exact (List.getElem?_eq_some_iff.mp hj).1), ?_⟩, ?_⟩))
      · rw [hj]
        dsimp only
        rw [if_neg hw]
      · have hc := h.2.2.1 w (List.mem_of_getElem? hj)
        simp [hji, q_rv_cat, hc]
theorem q_args_in (vs : List Value) (hc : ∀ v ∈ vs, v.category = 1) : ∀ (n i : Nat) (v : Value), vs[i]? = some v → (n + i, v) ∈ lv_args n vs := by
  induction vs with
  | nil => intro n i v h; simp at h
  | cons w vs ih =>
    intro n i v h
    unfold lv_args
    rw [if_neg (by rw [hc w List.mem_cons_self]; decide)]
    cases i with
    | zero => simp at h; subst h; exact List.mem_cons_self
    | succ i =>
      have := ih (fun v hv => hc v (List.mem_cons_of_mem _ hv)) (n + 1) i v (by simpa using h)
      rw [show n + 1 + i = n + (i + 1) by omega] at this
      exact List.mem_cons_of_mem _ this
theorem q_sl_len (vs : List Value) (hc : ∀ v ∈ vs, v.category = 1) : (lg_sl vs).length = vs.length := by
  induction vs with
  | nil => rfl
  | cons w vs ih =>
    have h1 := hc w List.mem_cons_self
    have h2 := ih (fun v hv => hc v (List.mem_cons_of_mem _ hv))
    unfold lg_sl at h2 ⊢
    rw [List.flatMap_cons, if_neg (by rw [h1]; decide)]
    simp only [List.length_append, List.length_cons, List.length_nil, h2]
    omega
theorem q_LR_in {Z : q_Z} {as : List Value} {n : Nat} (hc : ∀ v ∈ as, v.category = 1) (hn : as.length ≤ n) : q_LR Z ((lg_sl (as.map (q_rv Z)) ++ List.replicate (n - (lg_sl (as.map (q_rv Z))).length) Slot.unset).toArray) n (q_loc as n) := by
  have hc' : ∀ v ∈ as.map (q_rv Z), v.category = 1 := by
    intro v hv
    obtain ⟨w, hw, rfl⟩ := List.mem_map.mp hv
    rw [q_rv_cat]; exact hc w hw
  have hl := lv_entry (as.map (q_rv Z)) (n := n) (by rw [q_sl_len _ hc']; simpa using hn)
  refine ⟨by unfold q_loc; simp; omega, ⟨hl.1, hl.2.1, fun q hq => by cases hq⟩, fun v hv => ?_, fun i v hi hv => ?_⟩
  · unfold q_loc at hv
    rcases List.mem_append.mp hv with hv | hv
    · exact hc v hv
    · rw [List.eq_of_mem_replicate hv]; rfl
  · unfold q_loc at hi
    by_cases hia : i < as.length
    · rw [List.getElem?_append_left hia] at hi
      have := q_args_in (as.map (q_rv Z)) hc' 0 i (q_rv Z v) (by rw [List.getElem?_map, hi]; rfl)
      rw [Nat.zero_add] at this
      exact hl.2.2 _ this
    · rw [List.getElem?_append_right (by omega)] at hi
      exact absurd (List.eq_of_mem_replicate (List.mem_of_getElem? hi)) hv
