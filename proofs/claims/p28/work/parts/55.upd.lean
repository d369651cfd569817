/-! a cell of the State written, and its place in the model's row -/
theorem q_pr_b {i j : Nat} (hi : i < 12) (hj : j < 12) : 162 ≤ q_pr i j ∧ q_pr i j < 306 := by unfold q_pr; split <;> omega
theorem q_V_c {g : q_G} {B : Nat} {f f' : q_St} (hV : q_Vsta g B f) (hq : q_no f ≤ 8) (h : ∀ i, i < 312 → f' i = f i) : q_Vsta g B f' := by
  obtain ⟨⟨a5, a6, a7, a8⟩, ⟨c0, c1, c2⟩, ⟨n0, n1, n2, n3, n4, n5, n6, n7, n8⟩, P, ⟨r1, r2, r3⟩, ⟨d0, d1⟩⟩ := hV
  have e1 : q_no f' = q_no f := by unfold q_no; rw [h _ (by omega)]
  refine ⟨⟨?_, ?_, ?_, ?_⟩, ⟨?_, fun o ho => ?_, fun o ho => ?_⟩, ⟨?_, fun o ho => ?_, fun o ho => ?_, fun o ho => ?_, fun o ho => ?_, fun o ho => ?_, fun o ho => ?_, fun o ho => ?_, fun o ho => ?_⟩, fun i j hi hj => ?_, ⟨fun k hk => ?_, fun k hk => ?_, fun k hk => ?_⟩, ⟨?_, ?_⟩⟩
  · rw [h _ (by omega)]; exact a5
  · rw [h _ (by omega)]; exact a6
  · rw [h _ (by omega)]; exact a7
  · rw [h _ (by omega)]; exact a8
  · rw [h _ (by omega)]; exact c0
  · rw [h _ (by omega)]; exact c1 o ho
  · rw [h _ (by omega)]; exact c2 o ho
  · rw [h _ (by omega)]; exact n0
  · rw [h _ (by omega)]; exact n1 o ho
  · rw [h _ (by omega)]; exact n2 o ho
  · rw [h _ (by omega)]; exact n3 o ho
  · rw [h _ (by omega)]; exact n4 o ho
  · rw [h _ (by omega)]; exact n5 o ho
  · rw [h _ (by omega)]; exact n6 o ho
  · rw [h _ (by omega)]; exact n7 o ho
  · rw [h _ (by omega)]; exact n8 o ho
  · rw [h _ (by have := q_pr_b hi hj; omega)]; exact P i j hi hj
  · rw [h _ (by omega)]; exact r1 k hk
  · rw [h _ (by omega)]; exact r2 k hk
  · rw [h _ (by omega)]; exact r3 k hk
  · rw [h _ (by omega)]; exact d0
  · rw [e1, q_os_c _ (fun i h1 h2 => h i (by omega))]; exact d1
/-- where the row's number i lies: at j of the object o behind the base -/
def q_lc (o j i : Nat) : Prop := (o = 0 ∧ ((j = 5 ∧ i = 306) ∨ (j = 6 ∧ i = 307) ∨ (j = 7 ∧ i = 309) ∨ (j = 8 ∧ i = 310))) ∨ (o = 1 ∧ j = 0 ∧ i = 308) ∨ (o = 2 ∧ j < 5 ∧ i = 2 * j) ∨ (o = 3 ∧ j < 5 ∧ i = 2 * j + 1) ∨ (o = 4 ∧ j = 0 ∧ i = 10) ∨ (5 ≤ o ∧ o ≤ 12 ∧ j < 12 ∧ i = 11 + 8 * j + (o - 5)) ∨ (16 ≤ o ∧ o ≤ 18 ∧ j < 10 ∧ i = 107 + 3 * j + (o - 16))
theorem q_up_upd {g : q_G} {a j : Nat} {x : Int32} {f : q_St} {i b k m : Nat} (h : g b k = f m) (e : (b = a ∧ k = j) ↔ m = i) : q_up g a j x b k = upd f i x m := by
  rw [q_upg]
  unfold upd
  by_cases c : m = i
  · rw [if_pos (e.mpr c), if_pos c]
  · rw [if_neg (fun q => c (e.mp q)), if_neg c]; exact h
theorem q_V_up {g : q_G} {B : Nat} {f : q_St} {o j i : Nat} {x : Int32} (hV : q_Vsta g B f) (hq : q_no f ≤ 8) (hl : q_lc o j i) : q_Vsta (q_up g (B + o) j x) B (upd f i x) := by
  unfold q_lc at hl
  obtain ⟨⟨a5, a6, a7, a8⟩, ⟨c0, c1, c2⟩, ⟨n0, n1, n2, n3, n4, n5, n6, n7, n8⟩, P, ⟨r1, r2, r3⟩, ⟨d0, d1⟩⟩ := hV
  refine ⟨⟨?_, ?_, ?_, ?_⟩, ⟨?_, fun o ho => ?_, fun o ho => ?_⟩, ⟨?_, fun o ho => ?_, fun o ho => ?_, fun o ho => ?_, fun o ho => ?_, fun o ho => ?_, fun o ho => ?_, fun o ho => ?_, fun o ho => ?_⟩, fun i' j' hi hj => ?_, ⟨fun k hk => ?_, fun k hk => ?_, fun k hk => ?_⟩, ⟨?_, ?_⟩⟩
  · exact q_up_upd a5 (by omega)
  · exact q_up_upd a6 (by omega)
  · exact q_up_upd a7 (by omega)
  · exact q_up_upd a8 (by omega)
  · exact q_up_upd c0 (by omega)
  · exact q_up_upd (c1 o ho) (by omega)
  · exact q_up_upd (c2 o ho) (by omega)
  · exact q_up_upd n0 (by omega)
  · exact q_up_upd (n1 o ho) (by omega)
  · exact q_up_upd (n2 o ho) (by omega)
  · exact q_up_upd (n3 o ho) (by omega)
  · exact q_up_upd (n4 o ho) (by omega)
  · exact q_up_upd (n5 o ho) (by omega)
  · exact q_up_upd (n6 o ho) (by omega)
  · exact q_up_upd (n7 o ho) (by omega)
  · exact q_up_upd (n8 o ho) (by omega)
  · exact q_up_upd (P i' j' hi hj) (by have := q_pr_b hi hj; omega)
  · exact q_up_upd (r1 k hk) (by omega)
  · exact q_up_upd (r2 k hk) (by omega)
  · exact q_up_upd (r3 k hk) (by omega)
  · exact q_up_upd d0 (by omega)
  · rw [q_no_u (by omega), q_os_c _ (fun i h1 h2 => q_updn (by omega)), ← d1]
    unfold q_ol
    rw [q_upf (by omega), q_upf (by omega), q_upf (by omega)]
theorem q_V_pr {g : q_G} {B : Nat} {f : q_St} {a b : Nat} {x : Int32} (hV : q_Vsta g B f) (hq : q_no f ≤ 8) (ha : a < 12) (hb : b < 12) {g' : q_G} (h1 : ∀ c, ¬ c = B + 14 → g' c = g c) (h2 : ∀ j, g' (B + 14) j = if j = a * 12 + b ∨ j = b * 12 + a then x else g (B + 14) j) : q_Vsta g' B (upd f (q_pr a b) x) := by
  obtain ⟨⟨a5, a6, a7, a8⟩, ⟨c0, c1, c2⟩, ⟨n0, n1, n2, n3, n4, n5, n6, n7, n8⟩, P, ⟨r1, r2, r3⟩, ⟨d0, d1⟩⟩ := hV
  have hp := q_pr_b ha hb
  refine ⟨⟨?_, ?_, ?_, ?_⟩, ⟨?_, fun o ho => ?_, fun o ho => ?_⟩, ⟨?_, fun o ho => ?_, fun o ho => ?_, fun o ho => ?_, fun o ho => ?_, fun o ho => ?_, fun o ho => ?_, fun o ho => ?_, fun o ho => ?_⟩, fun i' j' hi hj => ?_, ⟨fun k hk => ?_, fun k hk => ?_, fun k hk => ?_⟩, ⟨?_, ?_⟩⟩
  · rw [h1 _ (by omega), q_updn (by omega)]; exact a5
  · rw [h1 _ (by omega), q_updn (by omega)]; exact a6
  · rw [h1 _ (by omega), q_updn (by omega)]; exact a7
  · rw [h1 _ (by omega), q_updn (by omega)]; exact a8
  · rw [h1 _ (by omega), q_updn (by omega)]; exact c0
  · rw [h1 _ (by omega), q_updn (by omega)]; exact c1 o ho
  · rw [h1 _ (by omega), q_updn (by omega)]; exact c2 o ho
  · rw [h1 _ (by omega), q_updn (by omega)]; exact n0
  · rw [h1 _ (by omega), q_updn (by omega)]; exact n1 o ho
  · rw [h1 _ (by omega), q_updn (by omega)]; exact n2 o ho
  · rw [h1 _ (by omega), q_updn (by omega)]; exact n3 o ho
  · rw [h1 _ (by omega), q_updn (by omega)]; exact n4 o ho
  · rw [h1 _ (by omega), q_updn (by omega)]; exact n5 o ho
  · rw [h1 _ (by omega), q_updn (by omega)]; exact n6 o ho
  · rw [h1 _ (by omega), q_updn (by omega)]; exact n7 o ho
  · rw [h1 _ (by omega), q_updn (by omega)]; exact n8 o ho
  · rw [show B + 13 + 1 = B + 14 from rfl, h2]
    unfold upd
    have e : (i' * 12 + j' = a * 12 + b ∨ i' * 12 + j' = b * 12 + a) ↔ q_pr i' j' = q_pr a b := by unfold q_pr; split <;> split <;> omega
    by_cases c : q_pr i' j' = q_pr a b
    · rw [if_pos (e.mpr c), if_pos c]
    · rw [if_neg (fun q => c (e.mp q)), if_neg c]; exact P i' j' hi hj
  · rw [h1 _ (by omega), q_updn (by omega)]; exact r1 k hk
  · rw [h1 _ (by omega), q_updn (by omega)]; exact r2 k hk
  · rw [h1 _ (by omega), q_updn (by omega)]; exact r3 k hk
  · rw [h1 _ (by omega), q_updn (by omega)]; exact d0
  · rw [q_no_u (by omega), q_os_c _ (fun i h1 h2 => q_updn (by omega)), ← d1]
    unfold q_ol
    rw [h1 _ (by omega), h1 _ (by omega), h1 _ (by omega)]
/-- another list of orders -/
theorem q_V_de {g g' : q_G} {B : Nat} {f f' : q_St} (hV : q_Vsta g B f) (h1 : ∀ c, ¬ c = B + 19 → ¬ c = B + 20 → ¬ c = B + 21 → ¬ c = B + 22 → g' c = g c) (h2 : ∀ i, i < 312 → (i < 137 ∨ 162 ≤ i) → f' i = f i) (h3 : q_Vdel g' (B + 19) f') : q_Vsta g' B f' := by
  obtain ⟨⟨a5, a6, a7, a8⟩, ⟨c0, c1, c2⟩, ⟨n0, n1, n2, n3, n4, n5, n6, n7, n8⟩, P, ⟨r1, r2, r3⟩, -⟩ := hV
  refine ⟨⟨?_, ?_, ?_, ?_⟩, ⟨?_, fun o ho => ?_, fun o ho => ?_⟩, ⟨?_, fun o ho => ?_, fun o ho => ?_, fun o ho => ?_, fun o ho => ?_, fun o ho => ?_, fun o ho => ?_, fun o ho => ?_, fun o ho => ?_⟩, fun i' j' hi hj => ?_, ⟨fun k hk => ?_, fun k hk => ?_, fun k hk => ?_⟩, h3⟩
  · rw [h1 _ (by omega) (by omega) (by omega) (by omega), h2 _ (by omega) (by omega)]; exact a5
  · rw [h1 _ (by omega) (by omega) (by omega) (by omega), h2 _ (by omega) (by omega)]; exact a6
  · rw [h1 _ (by omega) (by omega) (by omega) (by omega), h2 _ (by omega) (by omega)]; exact a7
  · rw [h1 _ (by omega) (by omega) (by omega) (by omega), h2 _ (by omega) (by omega)]; exact a8
  · rw [h1 _ (by omega) (by omega) (by omega) (by omega), h2 _ (by omega) (by omega)]; exact c0
  · rw [h1 _ (by omega) (by omega) (by omega) (by omega), h2 _ (by omega) (by omega)]; exact c1 o ho
  · rw [h1 _ (by omega) (by omega) (by omega) (by omega), h2 _ (by omega) (by omega)]; exact c2 o ho
  · rw [h1 _ (by omega) (by omega) (by omega) (by omega), h2 _ (by omega) (by omega)]; exact n0
  · rw [h1 _ (by omega) (by omega) (by omega) (by omega), h2 _ (by omega) (by omega)]; exact n1 o ho
  · rw [h1 _ (by omega) (by omega) (by omega) (by omega), h2 _ (by omega) (by omega)]; exact n2 o ho
  · rw [h1 _ (by omega) (by omega) (by omega) (by omega), h2 _ (by omega) (by omega)]; exact n3 o ho
  · rw [h1 _ (by omega) (by omega) (by omega) (by omega), h2 _ (by omega) (by omega)]; exact n4 o ho
  · rw [h1 _ (by omega) (by omega) (by omega) (by omega), h2 _ (by omega) (by omega)]; exact n5 o ho
  · rw [h1 _ (by omega) (by omega) (by omega) (by omega), h2 _ (by omega) (by omega)]; exact n6 o ho
  · rw [h1 _ (by omega) (by omega) (by omega) (by omega), h2 _ (by omega) (by omega)]; exact n7 o ho
  · rw [h1 _ (by omega) (by omega) (by omega) (by omega), h2 _ (by omega) (by omega)]; exact n8 o ho
  · have := q_pr_b hi hj
    rw [h1 _ (by omega) (by omega) (by omega) (by omega), h2 _ (by omega) (by omega)]; exact P i' j' hi hj
  · rw [h1 _ (by omega) (by omega) (by omega) (by omega), h2 _ (by omega) (by omega)]; exact r1 k hk
  · rw [h1 _ (by omega) (by omega) (by omega) (by omega), h2 _ (by omega) (by omega)]; exact r2 k hk
  · rw [h1 _ (by omega) (by omega) (by omega) (by omega), h2 _ (by omega) (by omega)]; exact r3 k hk
/-- outside a State nothing changed -/
def q_Out (B : Nat) (g g' : q_G) : Prop := ∀ b, b < B ∨ B + 23 ≤ b → g' b = g b
theorem q_Out_r (B : Nat) (g : q_G) : q_Out B g g := fun _ _ => rfl
theorem q_Out_u {B : Nat} {g g' : q_G} (h : q_Out B g g') {a j : Nat} {x : Int32} (ha : B ≤ a ∧ a < B + 23) : q_Out B g (q_up g' a j x) := fun b hb => (q_upf (by omega)).trans (h b hb)
theorem q_Out_t {B : Nat} {g g' g'' : q_G} (h : q_Out B g g') (h2 : q_Out B g' g'') : q_Out B g g'' := fun b hb => (h2 b hb).trans (h b hb)
theorem q_Bes_o {E : q_E} {B : Nat} {g g' : q_G} (h : q_BesB E g) (ho : q_Out B g g') (hB : 2 < B) : q_BesB E g' := ⟨h.1, fun i hi => by rw [ho 2 (Or.inl hB)]; exact h.2 i hi⟩
/-- a change of the class's State at B: what it answers and what it leaves -/
def q_Cop (E : q_E) (g : q_G) (B k : Nat) (A : List Value) (p : Int32 × q_St) : Prop :=
  ∃ g' : q_G, (∀ Q : Option Value → q_E → q_G → Prop, q_X k 0 A [] E g Q = Q (some (.int p.1)) E g') ∧ q_Out B g g' ∧ (¬ q_Er p.1 → q_Vsta g' B p.2)
theorem q_Cop_er {E : q_E} {g : q_G} {B k : Nat} {A : List Value} {p : Int32 × q_St} (he : q_Er p.1) (h : ∀ Q : Option Value → q_E → q_G → Prop, q_X k 0 A [] E g Q = Q (some (.int p.1)) E g) : q_Cop E g B k A p := ⟨g, h, q_Out_r B g, fun q => absurd he q⟩
theorem q_upd_cm {f : q_St} {i j : Nat} {x y : Int32} (h : ¬ i = j) : upd (upd f i x) j y = upd (upd f j y) i x := by
  funext k
  unfold upd
  by_cases a : k = j <;> by_cases b : k = i <;> simp [a, b] <;> omega
def q_W (g : q_G) (B : Nat) (f : q_St) : Prop := q_Vsta g B f ∧ q_no f ≤ 8
theorem q_W_up {g : q_G} {B : Nat} {f : q_St} {o j i : Nat} {x : Int32} (hV : q_W g B f) (hl : q_lc o j i) : q_W (q_up g (B + o) j x) B (upd f i x) :=
  ⟨q_V_up hV.1 hV.2 hl, by rw [q_no_u (by unfold q_lc at hl; omega)]; exact hV.2⟩
theorem q_W_i {g : q_G} {B : Nat} {f : q_St} (hV : q_Vsta g B f) (hI : q_In f) : q_W g B f := ⟨hV, hI.2.1.1⟩
theorem q_er_b (c : Bool) : ¬ q_Er (q_b c) := by
  cases c
  · rintro (h | h | h) <;> exact absurd h (by decide)
  · rintro (h | h | h) <;> exact absurd h (by decide)
theorem q_V_get {g : q_G} {B : Nat} {f : q_St} (hV : q_Vsta g B f) {o j i : Nat} (hl : q_lc o j i) : g (B + o) j = f i := by
  obtain ⟨⟨a5, a6, a7, a8⟩, ⟨c0, c1, c2⟩, ⟨n0, n1, n2, n3, n4, n5, n6, n7, n8⟩, P, ⟨r1, r2, r3⟩, -⟩ := hV
  rcases hl with ⟨rfl, h⟩ | ⟨rfl, rfl, rfl⟩ | ⟨rfl, h, rfl⟩ | ⟨rfl, h, rfl⟩ | ⟨rfl, rfl, rfl⟩ | ⟨h1, h2, h3, rfl⟩ | ⟨h1, h2, h3, rfl⟩
  · rcases h with ⟨rfl, rfl⟩ | ⟨rfl, rfl⟩ | ⟨rfl, rfl⟩ | ⟨rfl, rfl⟩
    · exact a5
    · exact a6
    · exact a7
    · exact a8
  · exact c0
  · exact c1 j h
  · exact c2 j h
  · exact n0
  · rcases (by omega : o = 5 ∨ o = 6 ∨ o = 7 ∨ o = 8 ∨ o = 9 ∨ o = 10 ∨ o = 11 ∨ o = 12) with rfl | rfl | rfl | rfl | rfl | rfl | rfl | rfl
    · exact n1 j h3
    · exact n2 j h3
    · exact n3 j h3
    · exact n4 j h3
    · exact n5 j h3
    · exact n6 j h3
    · exact n7 j h3
    · exact n8 j h3
  · rcases (by omega : o = 16 ∨ o = 17 ∨ o = 18) with rfl | rfl | rfl
    · exact r1 j h3
    · exact r2 j h3
    · exact r3 j h3
theorem q_V_mk {g : q_G} {B : Nat} {f : q_St} (h : ∀ o j i, q_lc o j i → g (B + o) j = f i) (hP : q_Vpai g (B + 13) f) (hD : q_Vdel g (B + 19) f) : q_Vsta g B f := by
  refine ⟨⟨?_, ?_, ?_, ?_⟩, ⟨?_, fun o ho => ?_, fun o ho => ?_⟩, ⟨?_, fun o ho => ?_, fun o ho => ?_, fun o ho => ?_, fun o ho => ?_, fun o ho => ?_, fun o ho => ?_, fun o ho => ?_, fun o ho => ?_⟩, hP, ⟨fun k hk => ?_, fun k hk => ?_, fun k hk => ?_⟩, hD⟩
  · exact h 0 5 306 (by unfold q_lc; omega)
  · exact h 0 6 307 (by unfold q_lc; omega)
  · exact h 0 7 309 (by unfold q_lc; omega)
  · exact h 0 8 310 (by unfold q_lc; omega)
  · exact h 1 0 308 (by unfold q_lc; omega)
  · exact h 2 o (2 * o) (by unfold q_lc; omega)
  · exact h 3 o (2 * o + 1) (by unfold q_lc; omega)
  · exact h 4 0 10 (by unfold q_lc; omega)
  · exact h 5 o (11 + 8 * o) (by unfold q_lc; omega)
  · exact h 6 o (11 + 8 * o + 1) (by unfold q_lc; omega)
  · exact h 7 o (11 + 8 * o + 2) (by unfold q_lc; omega)
  · exact h 8 o (11 + 8 * o + 3) (by unfold q_lc; omega)
  · exact h 9 o (11 + 8 * o + 4) (by unfold q_lc; omega)
  · exact h 10 o (11 + 8 * o + 5) (by unfold q_lc; omega)
  · exact h 11 o (11 + 8 * o + 6) (by unfold q_lc; omega)
  · exact h 12 o (11 + 8 * o + 7) (by unfold q_lc; omega)
  · exact h 16 k (107 + 3 * k) (by unfold q_lc; omega)
  · exact h 17 k (107 + 3 * k + 1) (by unfold q_lc; omega)
  · exact h 18 k (107 + 3 * k + 2) (by unfold q_lc; omega)

