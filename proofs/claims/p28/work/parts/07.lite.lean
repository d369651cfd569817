/-! A SMALL MACHINE of our own over numbered objects: q_run. Its heap: how many objects there are (1 the script, 2 the static row, 3 .. the new ones), how many slots they take, each object's kind and length,
what its reference fields refer to (0: null), and its numbers. Kinds: 1 a row that is only read, 2 an int row, 3 a char row, 4 + c an object of class c. -/
abbrev q_E : Type := Nat × Nat × (Nat → Nat × Nat) × (Nat → Nat → Nat)
abbrev q_G : Type := Nat → Nat → Int32
abbrev q_O : Type := Nat × List Value × List Value × q_E × q_G
def q_kd (E : q_E) (a : Nat) : Nat × Nat := E.2.2.1 a
def q_rf (E : q_E) (a k : Nat) : Nat := E.2.2.2 a k
def q_upA (g : q_G) (a : Nat) (f : Nat → Int32) : q_G := fun b => if b = a then f else g b
def q_up (g : q_G) (a i : Nat) (v : Int32) : q_G := q_upA g a (upd (g a) i v)
def q_setR (E : q_E) (a k v : Nat) : q_E := (E.1, E.2.1, E.2.2.1, fun b j => if b = a ∧ j = k then v else E.2.2.2 b j)
def q_new (E : q_E) (t n : Nat) : q_E := (E.1 + 1, E.2.1 + n, fun b => if b = E.1 then (t, n) else E.2.2.1 b, fun b j => if b = E.1 then 0 else E.2.2.2 b j)
def q_pI {β : Type} (S : List Value) (f : Int32 → List Value → Option β) : Option β := match S with
  | .int x :: t => f x t
  | _ => none
def q_pF {β : Type} (S : List Value) (f : UInt32 → List Value → Option β) : Option β := match S with
  | .float x :: t => f x t
  | _ => none
def q_pR {β : Type} (S : List Value) (f : Nat → List Value → Option β) : Option β := match S with
  | .ref x :: t => f x t
  | _ => none
def q_lI {β : Type} (L : List Value) (i : Nat) (f : Int32 → Option β) : Option β := match L[i]? with
  | some (.int x) => f x
  | _ => none
def q_lF {β : Type} (L : List Value) (i : Nat) (f : UInt32 → Option β) : Option β := match L[i]? with
  | some (.float x) => f x
  | _ => none
def q_lR {β : Type} (L : List Value) (i : Nat) (f : Nat → Option β) : Option β := match L[i]? with
  | some (.ref x) => f x
  | _ => none
def q_st (L : List Value) (i : Nat) (v : Value) (f : List Value → Option q_O) : Option q_O := if i < L.length then f (L.set i v) else none
def q_j (pc : Nat) (off : Int) : Nat := ((pc : Int) + off).toNat
def q_c (c : Jvm.ClassFile.Cond) (x y : Int32) : Bool := match c with
  | .eq => decide (x = y)
  | .ne => !decide (x = y)
  | .lt => decide (x < y)
  | .ge => decide (y ≤ x)
  | .gt => decide (y < x)
  | .le => decide (x ≤ y)
def q_sw (pc : Nat) (x : Int32) (dflt lo hi : Int) (offs : Array Int) : Option Nat :=
  if x.toInt < lo ∨ hi < x.toInt then some (q_j pc dflt) else (offs[(x.toInt - lo).toNat]?).map (q_j pc)
def q_stp (r : q_R) (L S : List Value) (E : q_E) (g : q_G) : Option q_O := match r.2.1 with
  | .iconst i => some (r.1 + 1, L, .int (Int32.ofInt i) :: S, E, g)
  | .bipush i => some (r.1 + 2, L, .int (Int8.ofInt i).toInt32 :: S, E, g)
  | .sipush i => some (r.1 + 3, L, .int (Int16.ofInt i).toInt32 :: S, E, g)
  | .ldc _ => if r.2.2.2.1.getD 0 0 = 0 then some (r.1 + 2, L, .int (Int32.ofInt r.2.2.2.2) :: S, E, g) else some (r.1 + 2, L, .float (UInt32.ofNat r.2.2.2.2.toNat) :: S, E, g)
  | .ldc_w _ => some (r.1 + 3, L, .float (UInt32.ofNat r.2.2.2.2.toNat) :: S, E, g)
  | .fconst k => some (r.1 + 1, L, .float (match k with | 0 => FP.fconst0 | 1 => FP.fconst1 | 2 => FP.fconst2) :: S, E, g)
  | .iload i => q_lI L i fun x => some (r.1 + 2, L, .int x :: S, E, g)
  | .iload_n i => q_lI L i fun x => some (r.1 + 1, L, .int x :: S, E, g)
  | .fload i => q_lF L i fun x => some (r.1 + 2, L, .float x :: S, E, g)
  | .fload_n i => q_lF L i fun x => some (r.1 + 1, L, .float x :: S, E, g)
  | .aload_n i => q_lR L i fun x => some (r.1 + 1, L, .ref x :: S, E, g)
  | .istore i => q_pI S fun x t => q_st L i (.int x) fun L' => some (r.1 + 2, L', t, E, g)
  | .istore_n i => q_pI S fun x t => q_st L i (.int x) fun L' => some (r.1 + 1, L', t, E, g)
  | .fstore i => q_pF S fun x t => q_st L i (.float x) fun L' => some (r.1 + 2, L', t, E, g)
  | .fstore_n i => q_pF S fun x t => q_st L i (.float x) fun L' => some (r.1 + 1, L', t, E, g)
  | .astore_n i => q_pR S fun x t => q_st L i (.ref x) fun L' => some (r.1 + 1, L', t, E, g)
  | .iinc i n => q_lI L i fun x => q_st L i (.int (x + Int32.ofInt n)) fun L' => some (r.1 + 3, L', S, E, g)
  | .dup => match S with
    | v :: t => if v.category = 1 then some (r.1 + 1, L, v :: v :: t, E, g) else none
    | _ => none
  | .dup2 => match S with
    | v :: w :: t => if v.category = 1 ∧ w.category = 1 then some (r.1 + 1, L, v :: w :: v :: w :: t, E, g) else none
    | _ => none
  | .iadd => q_pI S fun y t => q_pI t fun x t => some (r.1 + 1, L, .int (x + y) :: t, E, g)
  | .isub => q_pI S fun y t => q_pI t fun x t => some (r.1 + 1, L, .int (x - y) :: t, E, g)
  | .imul => q_pI S fun y t => q_pI t fun x t => some (r.1 + 1, L, .int (x * y) :: t, E, g)
  | .idiv => q_pI S fun y t => q_pI t fun x t => if y = 0 then none else some (r.1 + 1, L, .int (x / y) :: t, E, g)
  | .irem => q_pI S fun y t => q_pI t fun x t => if y = 0 then none else some (r.1 + 1, L, .int (x - x / y * y) :: t, E, g)
  | .ineg => q_pI S fun x t => some (r.1 + 1, L, .int (-x) :: t, E, g)
  | .iand => q_pI S fun y t => q_pI t fun x t => some (r.1 + 1, L, .int (x &&& y) :: t, E, g)
  | .ior => q_pI S fun y t => q_pI t fun x t => some (r.1 + 1, L, .int (x ||| y) :: t, E, g)
  | .ixor => q_pI S fun y t => q_pI t fun x t => some (r.1 + 1, L, .int (x ^^^ y) :: t, E, g)
  | .ishl => q_pI S fun y t => q_pI t fun x t => some (r.1 + 1, L, .int (x <<< (y &&& 31)) :: t, E, g)
  | .ishr => q_pI S fun y t => q_pI t fun x t => some (r.1 + 1, L, .int (x >>> (y &&& 31)) :: t, E, g)
  | .i2c => q_pI S fun x t => some (r.1 + 1, L, .int (x.toUInt32 % 65536).toInt32 :: t, E, g)
  | .i2f => q_pI S fun x t => some (r.1 + 1, L, .float (FP.i2f x) :: t, E, g)
  | .f2i => q_pF S fun x t => some (r.1 + 1, L, .int (FP.f2i x) :: t, E, g)
  | .fmul => q_pF S fun y t => q_pF t fun x t => if FP.fmul x y &&& 0x7fffffff ≤ 0x7f800000 then some (r.1 + 1, L, .float (FP.fmul x y) :: t, E, g) else none
  | .fdiv => q_pF S fun y t => q_pF t fun x t => if FP.fdiv x y &&& 0x7fffffff ≤ 0x7f800000 then some (r.1 + 1, L, .float (FP.fdiv x y) :: t, E, g) else none
  | .fsub => q_pF S fun y t => q_pF t fun x t => if FP.fsub x y &&& 0x7fffffff ≤ 0x7f800000 then some (r.1 + 1, L, .float (FP.fsub x y) :: t, E, g) else none
  | .fcmp op => q_pF S fun y t => q_pF t fun x t => some (r.1 + 1, L, .int (Op.cmpValue (FP.fcmp x y) op) :: t, E, g)
  | .goto off => some (q_j r.1 off, L, S, E, g)
  | .ifCond c off => q_pI S fun x t => some (if q_c c x 0 = true then q_j r.1 off else r.1 + 3, L, t, E, g)
  | .if_icmp c off => q_pI S fun y t => q_pI t fun x t => some (if q_c c x y = true then q_j r.1 off else r.1 + 3, L, t, E, g)
  | .tableswitch d lo hi offs => q_pI S fun x t => (q_sw r.1 x d lo hi offs).map fun pc => (pc, L, t, E, g)
  | .lookupswitch d ps => q_pI S fun x t => some (q_j r.1 (Op.lookupswitch.offset ps.toList d x.toInt), L, t, E, g)
  | .getfield _ => q_pR S fun a t => if (q_kd E a).1 = 4 + r.2.2.2.1.getD 0 0 then
      (if r.2.2.2.1.getD 2 0 = 1 then (if q_rf E a (r.2.2.2.1.getD 1 0) = 0 then none else some (r.1 + 3, L, .ref (q_rf E a (r.2.2.2.1.getD 1 0)) :: t, E, g)) else some (r.1 + 3, L, .int (g a (r.2.2.2.1.getD 1 0)) :: t, E, g)) else none
  | .putfield _ => if r.2.2.2.1.getD 2 0 = 1 then q_pR S fun v t => q_pR t fun a t => if (q_kd E a).1 = 4 + r.2.2.2.1.getD 0 0 ∧ v ≠ 0 then some (r.1 + 3, L, t, q_setR E a (r.2.2.2.1.getD 1 0) v, g) else none
      else q_pI S fun v t => q_pR t fun a t => if (q_kd E a).1 = 4 + r.2.2.2.1.getD 0 0 ∧ (r.2.2.2.1.getD 2 0 = 2 → narrow .char (.int v) = .int v ∧ fits .char (.int v) = true) then some (r.1 + 3, L, t, E, q_up g a (r.2.2.2.1.getD 1 0) v) else none
  | .getstatic _ => some (r.1 + 3, L, .ref 2 :: S, E, g)
  | .new _ => some (r.1 + 3, L, .ref E.1 :: S, q_new E (4 + r.2.2.2.1.getD 0 0) (r.2.2.2.1.getD 1 0), q_upA g E.1 (fun _ => 0))
  | .newarray ty => q_pI S fun n t => if n < 0 ∨ 100000 < n.toNatClampNeg then none else
      match ty with
      | .int => some (r.1 + 2, L, .ref E.1 :: t, q_new E 2 n.toNatClampNeg, q_upA g E.1 (fun _ => 0))
      | .char => some (r.1 + 2, L, .ref E.1 :: t, q_new E 3 n.toNatClampNeg, q_upA g E.1 (fun _ => 0))
      | _ => none
  | .arraylength => q_pR S fun a t => if (q_kd E a).1 = 1 ∨ (q_kd E a).1 = 2 ∨ (q_kd E a).1 = 3 then some (r.1 + 1, L, .int (Int32.ofNat (q_kd E a).2) :: t, E, g) else none
  | .iaload => q_pI S fun i t => q_pR t fun a t => if ((q_kd E a).1 = 1 ∨ (q_kd E a).1 = 2) ∧ ¬ (i < 0 ∨ (q_kd E a).2 ≤ i.toNatClampNeg) then some (r.1 + 1, L, .int (g a i.toNatClampNeg) :: t, E, g) else none
  | .caload => q_pI S fun i t => q_pR t fun a t => if (q_kd E a).1 = 3 ∧ ¬ (i < 0 ∨ (q_kd E a).2 ≤ i.toNatClampNeg) then some (r.1 + 1, L, .int (g a i.toNatClampNeg) :: t, E, g) else none
  | .iastore => q_pI S fun x t => q_pI t fun i t => q_pR t fun a t => if (q_kd E a).1 = 2 ∧ ¬ (i < 0 ∨ (q_kd E a).2 ≤ i.toNatClampNeg) then some (r.1 + 1, L, t, E, q_up g a i.toNatClampNeg x) else none
  | .castore => q_pI S fun x t => q_pI t fun i t => q_pR t fun a t => if (q_kd E a).1 = 3 ∧ ¬ (i < 0 ∨ (q_kd E a).2 ≤ i.toNatClampNeg) then some (r.1 + 1, L, t, E, q_up g a i.toNatClampNeg (vp_nar .char x)) else none
  | .invokespecial _ => q_pR S fun _ t => if t = [] then some (r.1 + 3, L, t, E, g) else none
  | .invokestatic _ => if r.2.2.2.1.getD 2 0 = 8 then q_pF S fun b t => if t.length ≤ 8 then some (r.1 + 3, L, .int b.toInt32 :: t, E, g) else none
      else q_pI S fun n t => q_pI t fun dp t => q_pR t fun a t => q_pI t fun sp t => q_pR t fun a0 t =>
        if (q_kd E a).1 = 2 ∧ (q_kd E a0).1 = 2 ∧ t = [] ∧ ¬ sp < 0 ∧ ¬ dp < 0 ∧ ¬ n < 0 ∧ sp.toNatClampNeg + n.toNatClampNeg ≤ (q_kd E a0).2 ∧ dp.toNatClampNeg + n.toNatClampNeg ≤ (q_kd E a).2 then
          some (r.1 + 3, L, t, E, q_upA g a (va_cpy (g a0) (g a) sp.toNatClampNeg dp.toNatClampNeg n.toNatClampNeg)) else none
  | _ => none
/-- 1: it returns, 2: it calls one of ours, 0: a step -/
def q_cls (r : q_R) : Nat := match r.2.1 with
  | .ireturn => 1
  | .areturn => 1
  | .return_ => 1
  | .invokevirtual _ => 2
  | .invokespecial _ => if r.2.2.2.1.getD 2 0 < 6 then 2 else 0
  | .invokestatic _ => if r.2.2.2.1.getD 2 0 < 6 then 2 else 0
  | _ => 0
def q_ret (k : Nat) (r : q_R) (S : List Value) : Option (Option Value) := match r.2.1 with
  | .ireturn => match S with
    | [.int v] => if ((q_mi k).2.2.2.1.map fun ty => narrow ty (.int v)) = some (.int v) then some (some (.int v)) else none
    | _ => none
  | .areturn => match S with
    | [.ref v] => some (some (.ref v))
    | _ => none
  | .return_ => match S with
    | [] => some none
    | _ => none
  | _ => none
def q_rok (m ci : Nat) (E : q_E) (as : List Value) : Bool := match m with
  | 0 => match as with
    | .ref b :: _ => (q_kd E b).1 == 4 + ci
    | _ => false
  | 2 => true
  | 3 => true
  | _ => match as with
    | .ref _ :: _ => true
    | _ => false
def q_cal (r : q_R) (S : List Value) (E : q_E) : Option (List Value × List Value) :=
  if q_cnt r.2.2.2.1 ≤ S.length ∧ ((S.drop (q_cnt r.2.2.2.1)).map (fun v => v.category)).sum ≤ 8 ∧ (S.take (q_cnt r.2.2.2.1)).all (fun v => v.category == 1) = true ∧ q_rok (r.2.2.2.1.getD 2 0) (r.2.2.2.1.getD 7 0) E (S.take (q_cnt r.2.2.2.1)).reverse = true then
    some ((S.take (q_cnt r.2.2.2.1)).reverse, S.drop (q_cnt r.2.2.2.1)) else none
def q_loc (as : List Value) (n : Nat) : List Value := as ++ List.replicate (n - as.length) .null
def q_run : Nat → Nat → Nat → List Value → List Value → q_E → q_G → Option (Option Value × q_E × q_G)
  | 0, _, _, _, _, _, _ => none
  | n + 1, k, pc, L, S, E, g => match q_P k pc with
    | none => none
    | some r =>
      if q_cls r = 1 then (q_ret k r S).map fun v => (v, E, g)
      else if q_cls r = 2 then
        match q_cal r S E with
        | none => none
        | some q => match q_run n (r.2.2.2.1.getD 0 0) 0 (q_loc q.1 (q_mi (r.2.2.2.1.getD 0 0)).2.2.1) [] E g with
          | none => none
          | some z => q_run n k (pc + 3) L (z.1.toList ++ q.2) z.2.1 z.2.2
      else match q_stp r L S E g with
        | none => none
        | some z => q_run n k z.1 z.2.1 z.2.2.1 z.2.2.2.1 z.2.2.2.2
theorem q_run_s (n k pc : Nat) (L S : List Value) (E : q_E) (g : q_G) : q_run (n + 1) k pc L S E g = match q_P k pc with
    | none => none
    | some r =>
      if q_cls r = 1 then (q_ret k r S).map fun v => (v, E, g)
      else if q_cls r = 2 then
        match q_cal r S E with
        | none => none
        | some q => match q_run n (r.2.2.2.1.getD 0 0) 0 (q_loc q.1 (q_mi (r.2.2.2.1.getD 0 0)).2.2.1) [] E g with
          | none => none
          | some z => q_run n k (pc + 3) L (z.1.toList ++ q.2) z.2.1 z.2.2
      else match q_stp r L S E g with
        | none => none
        | some z => q_run n k z.1 z.2.1 z.2.2.1 z.2.2.2.1 z.2.2.2.2 := rfl
theorem q_run_mono (n : Nat) : ∀ (k pc : Nat) (L S : List Value) (E : q_E) (g : q_G) (z : Option Value × q_E × q_G), q_run n k pc L S E g = some z → q_run (n + 1) k pc L S E g = some z := by
  induction n with
  | zero => intro k pc L S E g z h; cases h
  | succ n ih =>
    intro k pc L S E g z h
    rw [q_run_s] at h ⊢
    cases hP : q_P k pc with
    | none => rw [hP] at h; cases h
    | some r =>
      rw [hP] at h
      dsimp only at h ⊢
      by_cases h1 : q_cls r = 1
      · rw [if_pos h1] at h ⊢; exact h
      · rw [if_neg h1] at h ⊢
        by_cases h2 : q_cls r = 2
        · rw [if_pos h2] at h ⊢
          cases hc : q_cal r S E with
          | none => rw [hc] at h; cases h
          | some q =>
            rw [hc] at h
            dsimp only at h ⊢
            cases hz : q_run n (r.2.2.2.1.getD 0 0) 0 (q_loc q.1 (q_mi (r.2.2.2.1.getD 0 0)).2.2.1) [] E g with
            | none => rw [hz] at h; cases h
            | some w =>
              rw [hz] at h
              rw [ih _ _ _ _ _ _ _ hz]
              exact ih _ _ _ _ _ _ _ h
        · rw [if_neg h2] at h ⊢
          cases hs : q_stp r L S E g with
          | none => rw [hs] at h; cases h
          | some w =>
            rw [hs] at h
            exact ih _ _ _ _ _ _ _ h
theorem q_run_le {n m : Nat} (h : n ≤ m) {k pc : Nat} {L S : List Value} {E : q_E} {g : q_G} {z : Option Value × q_E × q_G} (hr : q_run n k pc L S E g = some z) : q_run m k pc L S E g = some z := by
  induction h with
  | refl => exact hr
  | step _ ih => exact q_run_mono _ _ _ _ _ _ _ _ ih
/-- from here the run ends, with Q of what it answers and of the heap then -/
def q_X (k pc : Nat) (L S : List Value) (E : q_E) (g : q_G) (Q : Option Value → q_E → q_G → Prop) : Prop := ∃ (n : Nat) (v : Option Value) (E' : q_E) (g' : q_G), q_run n k pc L S E g = some (v, E', g') ∧ Q v E' g'
theorem q_X_stp {k pc : Nat} {L S : List Value} {E : q_E} {g : q_G} {Q : Option Value → q_E → q_G → Prop} {r : q_R} (hP : q_P k pc = some r) (h0 : q_cls r = 0) {pc' : Nat} {L' S' : List Value} {E' : q_E} {g' : q_G} (hs : q_stp r L S E g = some (pc', L', S', E', g')) : q_X k pc L S E g Q = q_X k pc' L' S' E' g' Q := by
  have key : ∀ n, q_run (n + 1) k pc L S E g = q_run n k pc' L' S' E' g' := by
    intro n
    rw [q_run_s, hP]
    dsimp only
    rw [if_neg (by rw [h0]; decide), if_neg (by rw [h0]; decide), hs]
  apply propext
  constructor
  · rintro ⟨n, v, E1, g1, h, hq⟩
    cases n with
    | zero => cases h
    | succ n => exact ⟨n, v, E1, g1, by rw [← key]; exact h, hq⟩
  · rintro ⟨n, v, E1, g1, h, hq⟩
    exact ⟨n + 1, v, E1, g1, by rw [key]; exact h, hq⟩
theorem q_X_non {k pc : Nat} {L S : List Value} {E : q_E} {g : q_G} {Q : Option Value → q_E → q_G → Prop} {r : q_R} (hP : q_P k pc = some r) (h0 : q_cls r = 0) (hs : q_stp r L S E g = none) : q_X k pc L S E g Q = False := by
  apply propext
  constructor
  · rintro ⟨n, v, E1, g1, h, hq⟩
    cases n with
    | zero => cases h
    | succ n =>
      rw [q_run_s, hP] at h
      dsimp only at h
      rw [if_neg (by rw [h0]; decide), if_neg (by rw [h0]; decide), hs] at h
      cases h
  · exact False.elim
theorem q_X_cnd {k pc : Nat} {L S : List Value} {E : q_E} {g : q_G} {Q : Option Value → q_E → q_G → Prop} {r : q_R} (hP : q_P k pc = some r) (h0 : q_cls r = 0) {c : Prop} [hd : Decidable c] {pc' : Nat} {L' S' : List Value} {E' : q_E} {g' : q_G} (hs : q_stp r L S E g = if c then some (pc', L', S', E', g') else none) : q_X k pc L S E g Q = (c ∧ q_X k pc' L' S' E' g' Q) := by
  by_cases hc : c
  · rw [if_pos hc] at hs
    rw [q_X_stp hP h0 hs, eq_true hc, true_and]
  · rw [if_neg hc] at hs
    rw [q_X_non hP h0 hs, eq_false hc, false_and]
theorem q_X_cnn {k pc : Nat} {L S : List Value} {E : q_E} {g : q_G} {Q : Option Value → q_E → q_G → Prop} {r : q_R} (hP : q_P k pc = some r) (h0 : q_cls r = 0) {c : Prop} [hd : Decidable c] {pc' : Nat} {L' S' : List Value} {E' : q_E} {g' : q_G} (hs : q_stp r L S E g = if c then none else some (pc', L', S', E', g')) : q_X k pc L S E g Q = (¬ c ∧ q_X k pc' L' S' E' g' Q) := by
  by_cases hc : c
  · rw [if_pos hc] at hs
    rw [q_X_non hP h0 hs, eq_true hc, not_true, false_and]
  · rw [if_neg hc] at hs
    rw [q_X_stp hP h0 hs, eq_false hc, not_false_eq_true, true_and]
theorem q_X_bra {k pc : Nat} {L S : List Value} {E : q_E} {g : q_G} {Q : Option Value → q_E → q_G → Prop} {r : q_R} (hP : q_P k pc = some r) (h0 : q_cls r = 0) {c : Bool} {t f : Nat} {S' : List Value} (hs : q_stp r L S E g = some (if c = true then t else f, L, S', E, g)) : q_X k pc L S E g Q = (if c = true then q_X k t L S' E g Q else q_X k f L S' E g Q) := by
  by_cases hc : c = true
  · rw [if_pos hc] at hs ⊢
    exact q_X_stp hP h0 hs
  · rw [if_neg hc] at hs ⊢
    exact q_X_stp hP h0 hs
theorem q_X_ret {k pc : Nat} {L S : List Value} {E : q_E} {g : q_G} {Q : Option Value → q_E → q_G → Prop} {r : q_R} (hP : q_P k pc = some r) (h0 : q_cls r = 1) {v : Option Value} (hs : q_ret k r S = some v) : q_X k pc L S E g Q = Q v E g := by
  apply propext
  have key : ∀ n, q_run (n + 1) k pc L S E g = some (v, E, g) := by
    intro n
    rw [q_run_s, hP]
    dsimp only
    rw [if_pos h0, hs]
    rfl
  constructor
  · rintro ⟨n, v1, E1, g1, h, hq⟩
    cases n with
    | zero => cases h
    | succ n =>
      rw [key] at h
      cases h
      exact hq
  · intro h
    exact ⟨1, v, E, g, key 0, h⟩
theorem q_X_rti {k pc : Nat} {L : List Value} {E : q_E} {g : q_G} {Q : Option Value → q_E → q_G → Prop} {r : q_R} (hP : q_P k pc = some r) (h0 : r.2.1 = .ireturn) {v : Int32} {ty : FieldType} (hty : (q_mi k).2.2.2.1 = some ty) : q_X k pc L [.int v] E g Q = (narrow ty (.int v) = .int v ∧ Q (some (.int v)) E g) := by
  have hc : q_cls r = 1 := by unfold q_cls; rw [h0]
  by_cases hn : narrow ty (.int v) = .int v
  · rw [q_X_ret hP hc (v := some (.int v)) (by unfold q_ret; rw [h0]; dsimp only; rw [hty]; simp [hn]), eq_true hn, true_and]
  · rw [eq_false hn, false_and]
    apply propext
    constructor
    · rintro ⟨n, v1, E1, g1, h, hq⟩
      cases n with
      | zero => cases h
      | succ n =>
        rw [q_run_s, hP] at h
        dsimp only at h
        rw [if_pos hc] at h
        unfold q_ret at h
        rw [h0] at h
        dsimp only at h
        rw [hty] at h
        simp [hn] at h
    · exact False.elim
theorem q_X_cl {k pc : Nat} {L S : List Value} {E : q_E} {g : q_G} {Q : Option Value → q_E → q_G → Prop} {r : q_R} (hP : q_P k pc = some r) (h0 : q_cls r = 2) {as rest L1 : List Value} (hc : q_cal r S E = some (as, rest)) (hl : q_loc as (q_mi (r.2.2.2.1.getD 0 0)).2.2.1 = L1) : q_X k pc L S E g Q = q_X (r.2.2.2.1.getD 0 0) 0 L1 [] E g (fun v E' g' => q_X k (pc + 3) L (v.toList ++ rest) E' g' Q) := by
  subst hl
  apply propext
  constructor
  · rintro ⟨n, v, E1, g1, h, hq⟩
    cases n with
    | zero => cases h
    | succ n =>
      rw [q_run_s, hP] at h
      dsimp only at h
      rw [if_neg (by rw [h0]; decide), if_pos h0, hc] at h
      dsimp only at h
      cases hz : q_run n (r.2.2.2.1.getD 0 0) 0 (q_loc as (q_mi (r.2.2.2.1.getD 0 0)).2.2.1) [] E g with
      | none => rw [hz] at h; cases h
      | some w =>
        rw [hz] at h
        exact ⟨n, w.1, w.2.1, w.2.2, hz, n, v, E1, g1, h, hq⟩
  · rintro ⟨n, v, E1, g1, h, n2, v2, E2, g2, h2, hq⟩
    refine ⟨n + n2 + 1, v2, E2, g2, ?_, hq⟩
    rw [q_run_s, hP]
    dsimp only
    rw [if_neg (by rw [h0]; decide), if_pos h0, hc]
    dsimp only
    rw [q_run_le (by omega : n ≤ n + n2) h]
    exact q_run_le (by omega : n2 ≤ n + n2) h2
theorem q_X_cv {k pc : Nat} {L S : List Value} {E : q_E} {g : q_G} {Q : Option Value → q_E → q_G → Prop} {r : q_R} (hP : q_P k pc = some r) (h0 : q_cls r = 2) {as rest L1 : List Value} {c : Prop} [hd : Decidable c] (hc : q_cal r S E = if c then some (as, rest) else none) (hl : q_loc as (q_mi (r.2.2.2.1.getD 0 0)).2.2.1 = L1) : q_X k pc L S E g Q = (c ∧ q_X (r.2.2.2.1.getD 0 0) 0 L1 [] E g (fun v E' g' => q_X k (pc + 3) L (v.toList ++ rest) E' g' Q)) := by
  by_cases h : c
  · rw [if_pos h] at hc
    rw [q_X_cl hP h0 hc hl, eq_true h, true_and]
  · rw [if_neg h] at hc
    rw [eq_false h, false_and]
    apply propext
    constructor
    · rintro ⟨n, v, E1, g1, h, hq⟩
      cases n with
      | zero => cases h
      | succ n =>
        rw [q_run_s, hP] at h
        dsimp only at h
        rw [if_neg (by rw [h0]; decide), if_pos h0, hc] at h
        cases h
    · exact False.elim
theorem q_X_mono {k pc : Nat} {L S : List Value} {E : q_E} {g : q_G} {Q Q' : Option Value → q_E → q_G → Prop} (h : q_X k pc L S E g Q) (hq : ∀ v E' g', Q v E' g' → Q' v E' g') : q_X k pc L S E g Q' := by
  obtain ⟨n, v, E', g', h1, h2⟩ := h
  exact ⟨n, v, E', g', h1, hq _ _ _ h2⟩
