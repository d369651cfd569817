def q_LW : List Cond := lw_tbl.filter goodWord
def q_w (i : Nat) (w : Cond) : Bool := decide (lw_tbl[i]? = some w) && goodWord w
theorem q_w_in {i : Nat} {w : Cond} (h : q_w i w = true) : w ∈ q_LW := by
  unfold q_w at h
  simp only [Bool.and_eq_true, decide_eq_true_eq] at h
  exact List.mem_filter.mpr ⟨List.mem_of_getElem? h.1, h.2⟩
theorem q_LW_sub {w : Cond} (h : w ∈ q_LW) : w ∈ lw_tbl := (List.mem_filter.mp h).1
theorem q_LW_good : GoodIn q_LW q_LW := fun w h => ⟨h, good_of_word (List.mem_filter.mp h).2⟩
/-- the words on links between nest mates -/
def q_NW : List Cond := [(.methodLinkNest "CardRacks" 9 ⟨"CardRacks$State","<init>","()V"⟩ "CardRacks"),
  (.methodLinkNest "CardRacks$State" 20 ⟨"CardRacks$Verses","<init>","()V"⟩ "CardRacks"),
  (.methodLinkNest "CardRacks$State" 27 ⟨"CardRacks$Pairs","<init>","()V"⟩ "CardRacks"),
  (.methodLinkNest "CardRacks$State" 41 ⟨"CardRacks$Deliveries","<init>","()V"⟩ "CardRacks"),
  (.methodLinkNest "CardRacks" 37 ⟨"CardRacks$Text","<init>","()V"⟩ "CardRacks"),
  (.methodLinkNest "CardRacks" 44 ⟨"CardRacks$Rehearsal","<init>","()V"⟩ "CardRacks"),
  (.methodLinkNest "CardRacks$Calendar" 22 ⟨"CardRacks","copyRow","([I[I)V"⟩ "CardRacks"),
  (.methodLinkNest "CardRacks$Verses" 40 ⟨"CardRacks","copyRow","([I[I)V"⟩ "CardRacks"),
  (.methodLinkNest "CardRacks$Pairs" 15 ⟨"CardRacks","copyRow","([I[I)V"⟩ "CardRacks"),
  (.methodLinkNest "CardRacks$Rack" 21 ⟨"CardRacks","copyRow","([I[I)V"⟩ "CardRacks"),
  (.methodLinkNest "CardRacks$Deliveries" 25 ⟨"CardRacks","copyRow","([I[I)V"⟩ "CardRacks"),
  (.methodLinkNest "CardRacks$State" 75 ⟨"CardRacks","isOccasion","(I)Z"⟩ "CardRacks"),
  (.methodLinkNest "CardRacks$State" 79 ⟨"CardRacks","isWithin","(III)Z"⟩ "CardRacks"),
  (.methodLinkNest "CardRacks$State" 132 ⟨"CardRacks","isSlot","(I)Z"⟩ "CardRacks"),
  (.methodLinkNest "CardRacks$Rack" 25 ⟨"CardRacks","areBeside","(II)Z"⟩ "CardRacks"),
  (.fieldLinkNest "CardRacks$State" 203 "CardRacks" "BESIDE" "[I" "CardRacks"),
  (.methodLinkNest "CardRacks$State" 209 ⟨"CardRacks","areBeside","(II)Z"⟩ "CardRacks")]
theorem q_NW_in : ∀ w ∈ q_NW, w ∈ lw_tbl := by
  have h : q_NW.map some = [26, 53, 100, 131, 192, 216, 277, 290, 295, 300, 305, 310, 316, 384, 424, 513, 518].map (fun i => lw_tbl[i]?) := by decide +kernel
  intro w hw
  have h1 : some w ∈ q_NW.map some := List.mem_map.mpr ⟨w, hw, rfl⟩
  rw [h] at h1
  obtain ⟨i, -, hi⟩ := List.mem_map.mp h1
  exact List.mem_of_getElem? hi
theorem q_NW_tab : ∀ w ∈ q_NW, w.onTables = true := by decide +kernel
def q_cl (ci : Nat) : vw_C := vwCl.getD ci ("", fun _ => ("", "", "", false), 0)
theorem q_lt10 {p : Nat → Prop} (h0 : p 0) (h1 : p 1) (h2 : p 2) (h3 : p 3) (h4 : p 4) (h5 : p 5) (h6 : p 6) (h7 : p 7) (h8 : p 8) (h9 : p 9) : ∀ ci, ci < 10 → p ci := by
  intro ci h
  match ci, h with
  | 0, _ => exact h0
  | 1, _ => exact h1
  | 2, _ => exact h2
  | 3, _ => exact h3
  | 4, _ => exact h4
  | 5, _ => exact h5
  | 6, _ => exact h6
  | 7, _ => exact h7
  | 8, _ => exact h8
  | 9, _ => exact h9
  | k + 10, h => exact absurd h (by omega)
theorem q_lt9 {p : Nat → Prop} (h0 : p 0) (h1 : p 1) (h2 : p 2) (h3 : p 3) (h4 : p 4) (h5 : p 5) (h6 : p 6) (h7 : p 7) (h8 : p 8) : ∀ ci, ci < 9 → p ci := by
  intro ci h
  match ci, h with
  | 0, _ => exact h0
  | 1, _ => exact h1
  | 2, _ => exact h2
  | 3, _ => exact h3
  | 4, _ => exact h4
  | 5, _ => exact h5
  | 6, _ => exact h6
  | 7, _ => exact h7
  | 8, _ => exact h8
  | k + 9, h => exact absurd h (by omega)
theorem q_cl_some : ∀ ci, ci < 9 → vwCl[ci]? = some ((q_cl ci).1, (q_cl ci).2.1, (q_cl ci).2.2) := q_lt9 rfl rfl rfl rfl rfl rfl rfl rfl rfl
def q_ty (ci k : Nat) : FieldType := match ci with
  | 0 => tyX0 k
  | 1 => tyX1 k
  | 2 => tyX2 k
  | 3 => tyX3 k
  | 4 => tyX4 k
  | 5 => tyX5 k
  | 6 => tyX6 k
  | 7 => tyX7 k
  | 8 => tyX8 k
  | _ => .int
theorem q_ty_ok : ∀ ci, ci < 9 → ∀ k, k < (q_cl ci).2.2 → parseFieldDescriptor ((q_cl ci).2.1 k).2.2.1 = some (q_ty ci k) := q_lt9 tyX0_ok tyX1_ok tyX2_ok tyX3_ok tyX4_ok tyX5_ok tyX6_ok tyX7_ok tyX8_ok
theorem q_nm : ∀ ci, ci < 9 → ∀ a, a < (q_cl ci).2.2 → ∀ b, b < (q_cl ci).2.2 → a ≠ b → ((q_cl ci).2.1 a).2.1 ≠ ((q_cl ci).2.1 b).2.1 := q_lt9 nmX0 nmX1 nmX2 nmX3 nmX4 nmX5 nmX6 nmX7 nmX8
def q_uw (ci k : Nat) : Nat := match ci with
  | 0 => [43, 45, 47].getD k 0
  | 1 => [144, 146, 148, 150].getD k 0
  | 2 => [105].getD k 0
  | 3 => [122, 124, 126].getD k 0
  | 4 => [224, 226, 228, 230].getD k 0
  | 5 => [171, 173, 175, 177, 179, 181, 183, 185, 187].getD k 0
  | 6 => [202, 204, 206, 208, 210].getD k 0
  | 7 => [79, 81, 83, 85, 87, 89, 91, 93, 95].getD k 0
  | 8 => [242, 244, 246, 248, 250, 252, 254, 256, 258].getD k 0
  | _ => 0
theorem q_in : ∀ ci, ci < 9 → ∀ w ∈ u_ws (q_cl ci).1 (q_cl ci).2.1 (q_cl ci).2.2, w ∈ q_LW := by
  have h : ∀ ci, ci < 9 → ∀ k, k < (q_cl ci).2.2 → q_w (q_uw ci k) (u_lay (q_cl ci).1 (q_cl ci).2.1 k) = true := q_lt9 (by decide +kernel) (by decide +kernel) (by decide +kernel) (by decide +kernel) (by decide +kernel) (by decide +kernel) (by decide +kernel) (by decide +kernel) (by decide +kernel)
  intro ci hc w hw
  obtain ⟨k, hk, rfl⟩ := List.mem_map.mp hw
  exact q_w_in (h ci hc k (List.mem_range.mp hk))
def q_isR (ci k : Nat) : Bool := match q_ty ci k with
  | .int => false
  | .char => false
  | _ => true
def q_own (k : Nat) : String := (q_mi k).1.cls
/-- what a row of the tables says is so: its instruction is decoded there, the words that it needs are among the tables' -/
def q_okx (k : Nat) (r : q_R) : Bool := match r.2.1 with
  | .getfield idx => decide (r.2.2.2.1.getD 0 0 < 9) && decide (r.2.2.2.1.getD 1 0 < (q_cl (r.2.2.2.1.getD 0 0)).2.2) && decide ((r.2.2.2.1.getD 2 0 = 1) = (q_isR (r.2.2.2.1.getD 0 0) (r.2.2.2.1.getD 1 0) = true)) && q_w (r.2.2.2.1.getD 3 0) (.fieldLink (q_own k) idx ((q_cl (r.2.2.2.1.getD 0 0)).2.1 (r.2.2.2.1.getD 1 0)).1 ((q_cl (r.2.2.2.1.getD 0 0)).2.1 (r.2.2.2.1.getD 1 0)).2.1 ((q_cl (r.2.2.2.1.getD 0 0)).2.1 (r.2.2.2.1.getD 1 0)).2.2.1)
  | .putfield idx => decide (r.2.2.2.1.getD 0 0 < 9) && decide (r.2.2.2.1.getD 1 0 < (q_cl (r.2.2.2.1.getD 0 0)).2.2) && q_w (r.2.2.2.1.getD 3 0) (.fieldLink (q_own k) idx ((q_cl (r.2.2.2.1.getD 0 0)).2.1 (r.2.2.2.1.getD 1 0)).1 ((q_cl (r.2.2.2.1.getD 0 0)).2.1 (r.2.2.2.1.getD 1 0)).2.1 ((q_cl (r.2.2.2.1.getD 0 0)).2.1 (r.2.2.2.1.getD 1 0)).2.2.1)
      && (match q_ty (r.2.2.2.1.getD 0 0) (r.2.2.2.1.getD 1 0) with | .int => r.2.2.2.1.getD 2 0 == 0 | .char => r.2.2.2.1.getD 2 0 == 2 | .object _ => r.2.2.2.1.getD 2 0 == 1 | .array _ => r.2.2.2.1.getD 2 0 == 1 | _ => false)
      && (!((q_cl (r.2.2.2.1.getD 0 0)).2.1 (r.2.2.2.1.getD 1 0)).2.2.2 || (decide (((q_cl (r.2.2.2.1.getD 0 0)).2.1 (r.2.2.2.1.getD 1 0)).1 = q_own k) && decide ((q_mi k).1.name = "<init>")))
  | .getstatic idx => (r.2.2.2.1.getD 0 0 == 0 && q_w (r.2.2.2.1.getD 1 0) (.fieldLink (q_own k) idx "CardRacks" "BESIDE" "[I")) || (r.2.2.2.1.getD 0 0 == 1 && decide (Cond.fieldLinkNest (q_own k) idx "CardRacks" "BESIDE" "[I" "CardRacks" ∈ q_NW))
  | .new idx => decide (r.2.2.2.1.getD 0 0 < 9) && decide (r.2.2.2.1.getD 1 0 = (q_cl (r.2.2.2.1.getD 0 0)).2.2) && q_w (r.2.2.2.1.getD 2 0) (.classLink (q_own k) idx (q_cl (r.2.2.2.1.getD 0 0)).1) && q_w (r.2.2.2.1.getD 3 0) (.instantiable (q_cl (r.2.2.2.1.getD 0 0)).1 (q_cl (r.2.2.2.1.getD 0 0)).2.2) && q_w (r.2.2.2.1.getD 4 0) (.initialized (q_cl (r.2.2.2.1.getD 0 0)).1)
  | .newarray ty => q_w (r.2.2.2.1.getD 0 0) (.arrayClass (newarray.typeOf ty))
  | .ldc idx => if r.2.2.2.1.getD 0 0 = 0 then q_w (r.2.2.2.1.getD 1 0) (.constant (q_own k) idx (Int32.ofInt r.2.2.2.2)) else q_w (r.2.2.2.1.getD 1 0) (.constantFloat (q_own k) idx (UInt32.ofNat r.2.2.2.2.toNat))
  | .ldc_w idx => q_w (r.2.2.2.1.getD 1 0) (.constantFloat (q_own k) idx (UInt32.ofNat r.2.2.2.2.toNat))
  | .goto off => decide (0 ≤ (r.1 : Int) + off)
  | .ifCond _ off => decide (0 ≤ (r.1 : Int) + off)
  | .if_icmp _ off => decide (0 ≤ (r.1 : Int) + off)
  | .tableswitch d _ _ offs => decide (0 ≤ (r.1 : Int) + d) && offs.toList.all (fun o => decide (0 ≤ (r.1 : Int) + o))
  | .lookupswitch d ps => decide (0 ≤ (r.1 : Int) + d) && ps.toList.all (fun o => decide (0 ≤ (r.1 : Int) + o.2)) && (ps.toList.zip (ps.toList.drop 1)).all (fun (a, next) => a.1 < next.1)
  | _ => true
def q_cnt (a : List Nat) : Nat := if a.getD 2 0 = 2 ∨ a.getD 2 0 = 3 then a.getD 1 0 else a.getD 1 0 + 1
def q_okc (k : Nat) (r : q_R) (idx : Nat) : Bool :=
  let a := r.2.2.2.1
  let z := q_mi (a.getD 0 0)
  decide (a.getD 0 0 < 86) && q_w (a.getD 6 0) (.initialized z.1.cls) && decide (z.2.2.2.2.1 + 1 ≤ (q_mi k).2.2.2.2.1) && decide (z.2.2.1 ≤ 18)
  && decide (z.1.cls ≠ "java/lang/invoke/MethodHandle" ∧ z.1.cls ≠ "java/lang/invoke/VarHandle" ∧ (parseMethodDescriptor z.1.desc).map (fun d => d.parameters.length) = some (a.getD 1 0)) && decide (q_cnt a ≤ z.2.2.1)
  && (match a.getD 2 0 with
    | 0 => decide (a.getD 7 0 < 9) && decide ((q_cl (a.getD 7 0)).1 = z.1.cls) && q_w (a.getD 3 0) (.methodLink (q_own k) idx z.1) && q_w (a.getD 4 0) (.instanceMethod z.1) && q_w (a.getD 5 0) (.selects z.1.cls z.1 z.1)
    | 2 => q_w (a.getD 3 0) (.methodLink (q_own k) idx z.1) && q_w (a.getD 4 0) (.static z.1)
    | 3 => decide (Cond.methodLinkNest (q_own k) idx z.1 "CardRacks" ∈ q_NW) && q_w (a.getD 4 0) (.static z.1)
    | 4 => q_w (a.getD 3 0) (.methodLink (q_own k) idx z.1) && q_w (a.getD 4 0) (.instanceMethod z.1) && decide (z.1.name = "<init>") && decide (z.2.2.2.1 = none)
    | 5 => decide (Cond.methodLinkNest (q_own k) idx z.1 "CardRacks" ∈ q_NW) && q_w (a.getD 4 0) (.instanceMethod z.1) && decide (z.1.name = "<init>") && decide (z.2.2.2.1 = none)
    | _ => false)
def q_okn (k : Nat) (r : q_R) : Bool := match r.2.1 with
  | .invokevirtual idx => decide (r.2.2.2.1.getD 2 0 = 0) && q_okc k r idx
  | .invokespecial idx => if r.2.2.2.1.getD 2 0 < 6 then (decide (r.2.2.2.1.getD 2 0 = 4) || decide (r.2.2.2.1.getD 2 0 = 5)) && q_okc k r idx
      else decide (1 ≤ (q_mi k).2.2.2.2.1) && q_w (r.2.2.2.1.getD 3 0) (.methodLink (q_own k) idx Lib.objectInit) && q_w (r.2.2.2.1.getD 4 0) (.instanceMethod Lib.objectInit) && q_w (r.2.2.2.1.getD 5 0) (.code Lib.objectInit ⟨#[0xb1]⟩ 1 none)
  | .invokestatic idx => if r.2.2.2.1.getD 2 0 < 6 then (decide (r.2.2.2.1.getD 2 0 = 2) || decide (r.2.2.2.1.getD 2 0 = 3)) && q_okc k r idx
      else if r.2.2.2.1.getD 2 0 = 8 then decide (1 ≤ (q_mi k).2.2.2.2.1) && q_w (r.2.2.2.1.getD 3 0) (.methodLink (q_own k) idx ⟨"java/lang/Float", "floatToRawIntBits", "(F)I"⟩) && q_w (r.2.2.2.1.getD 4 0) (.native ⟨"java/lang/Float", "floatToRawIntBits", "(F)I"⟩) && q_w (r.2.2.2.1.getD 5 0) (.static ⟨"java/lang/Float", "floatToRawIntBits", "(F)I"⟩) && q_w (r.2.2.2.1.getD 6 0) (.initialized "java/lang/Float")
      else decide (1 ≤ (q_mi k).2.2.2.2.1) && q_w (r.2.2.2.1.getD 3 0) (.methodLink (q_own k) idx arraycopyName) && q_w (r.2.2.2.1.getD 4 0) (.native arraycopyName) && q_w (r.2.2.2.1.getD 5 0) (.static arraycopyName) && q_w (r.2.2.2.1.getD 6 0) (.initialized "java/lang/System")
  | _ => true
def q_ln (r : q_R) : Nat := match r.2.1 with
  | .iload _ => 2
  | .istore _ => 2
  | .fload _ => 2
  | .fstore _ => 2
  | .bipush _ => 2
  | .ldc _ => 2
  | .newarray _ => 2
  | .sipush _ => 3
  | .ldc_w _ => 3
  | .getfield _ => 3
  | .putfield _ => 3
  | .getstatic _ => 3
  | .new _ => 3
  | .invokevirtual _ => 3
  | .invokespecial _ => 3
  | .invokestatic _ => 3
  | .goto _ => 3
  | .ifCond _ _ => 3
  | .if_icmp _ _ => 3
  | .iinc _ _ => 3
  | .tableswitch _ _ _ _ => r.2.2.1
  | .lookupswitch _ _ => r.2.2.1
  | _ => 1
def q_okr (k : Nat) (r : q_R) : Bool := decide (r.2.2.1 = q_ln r) && decide (Jvm.ClassFile.decode (q_mi k).2.1 r.1 = .ok (r.2.1, r.2.2.1)) && q_okx k r && q_okn k r
