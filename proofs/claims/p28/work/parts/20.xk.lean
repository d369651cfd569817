/-! EQUATIONS OF THE SMALL MACHINE, one for each kind of instruction -/
section
variable {k pc ln : Nat} {ax : List Nat} {z : Int} {L S : List Value} {E : q_E} {g : q_G} {Q : Option Value → q_E → q_G → Prop}
theorem x_iconst {i : Int} {v : Int32} (hP : q_P k pc = some (pc, .iconst i, ln, ax, z)) (hv : Int32.ofInt i = v) : q_X k pc L S E g Q = q_X k (pc + 1) L (.int v :: S) E g Q := by subst hv; exact q_X_stp hP rfl rfl
theorem x_bipush {i : Int} {v : Int32} (hP : q_P k pc = some (pc, .bipush i, ln, ax, z)) (hv : (Int8.ofInt i).toInt32 = v) : q_X k pc L S E g Q = q_X k (pc + 2) L (.int v :: S) E g Q := by subst hv; exact q_X_stp hP rfl rfl
theorem x_sipush {i : Int} {v : Int32} (hP : q_P k pc = some (pc, .sipush i, ln, ax, z)) (hv : (Int16.ofInt i).toInt32 = v) : q_X k pc L S E g Q = q_X k (pc + 3) L (.int v :: S) E g Q := by subst hv; exact q_X_stp hP rfl rfl
theorem x_ldc {i i1 : Nat} {v : Int32} (hP : q_P k pc = some (pc, .ldc i, ln, [0, i1], z)) (hv : Int32.ofInt z = v) : q_X k pc L S E g Q = q_X k (pc + 2) L (.int v :: S) E g Q := by subst hv; exact q_X_stp hP rfl rfl
theorem x_ldcw {i i1 : Nat} {v : UInt32} (hP : q_P k pc = some (pc, .ldc_w i, ln, [1, i1], z)) (hv : UInt32.ofNat z.toNat = v) : q_X k pc L S E g Q = q_X k (pc + 3) L (.float v :: S) E g Q := by subst hv; exact q_X_stp hP rfl rfl
theorem x_ldI {i i' : Instr} {o : Nat} {x : Int32} (hP : q_P k pc = some (pc, i, ln, ax, z)) (h0 : q_cls (pc, i, ln, ax, z) = 0) (hs : q_stp (pc, i, ln, ax, z) L S E g = some (o, L, .int x :: S, E, g)) : q_X k pc L S E g Q = q_X k o L (.int x :: S) E g Q := q_X_stp hP h0 hs
theorem x_iadd {x y : Int32} (hP : q_P k pc = some (pc, .iadd, ln, ax, z)) : q_X k pc L (.int y :: .int x :: S) E g Q = q_X k (pc + 1) L (.int (x + y) :: S) E g Q := q_X_stp hP rfl rfl
theorem x_isub {x y : Int32} (hP : q_P k pc = some (pc, .isub, ln, ax, z)) : q_X k pc L (.int y :: .int x :: S) E g Q = q_X k (pc + 1) L (.int (x - y) :: S) E g Q := q_X_stp hP rfl rfl
theorem x_imul {x y : Int32} (hP : q_P k pc = some (pc, .imul, ln, ax, z)) : q_X k pc L (.int y :: .int x :: S) E g Q = q_X k (pc + 1) L (.int (x * y) :: S) E g Q := q_X_stp hP rfl rfl
theorem x_iand {x y : Int32} (hP : q_P k pc = some (pc, .iand, ln, ax, z)) : q_X k pc L (.int y :: .int x :: S) E g Q = q_X k (pc + 1) L (.int (x &&& y) :: S) E g Q := q_X_stp hP rfl rfl
theorem x_ior {x y : Int32} (hP : q_P k pc = some (pc, .ior, ln, ax, z)) : q_X k pc L (.int y :: .int x :: S) E g Q = q_X k (pc + 1) L (.int (x ||| y) :: S) E g Q := q_X_stp hP rfl rfl
theorem x_ixor {x y : Int32} (hP : q_P k pc = some (pc, .ixor, ln, ax, z)) : q_X k pc L (.int y :: .int x :: S) E g Q = q_X k (pc + 1) L (.int (x ^^^ y) :: S) E g Q := q_X_stp hP rfl rfl
theorem x_ishl {x y : Int32} (hP : q_P k pc = some (pc, .ishl, ln, ax, z)) : q_X k pc L (.int y :: .int x :: S) E g Q = q_X k (pc + 1) L (.int (x <<< (y &&& 31)) :: S) E g Q := q_X_stp hP rfl rfl
theorem x_ishr {x y : Int32} (hP : q_P k pc = some (pc, .ishr, ln, ax, z)) : q_X k pc L (.int y :: .int x :: S) E g Q = q_X k (pc + 1) L (.int (x >>> (y &&& 31)) :: S) E g Q := q_X_stp hP rfl rfl
theorem x_ineg {x : Int32} (hP : q_P k pc = some (pc, .ineg, ln, ax, z)) : q_X k pc L (.int x :: S) E g Q = q_X k (pc + 1) L (.int (-x) :: S) E g Q := q_X_stp hP rfl rfl
theorem x_i2c {x : Int32} (hP : q_P k pc = some (pc, .i2c, ln, ax, z)) : q_X k pc L (.int x :: S) E g Q = q_X k (pc + 1) L (.int (x.toUInt32 % 65536).toInt32 :: S) E g Q := q_X_stp hP rfl rfl
theorem x_i2f {x : Int32} (hP : q_P k pc = some (pc, .i2f, ln, ax, z)) : q_X k pc L (.int x :: S) E g Q = q_X k (pc + 1) L (.float (FP.i2f x) :: S) E g Q := q_X_stp hP rfl rfl
theorem x_f2i {x : UInt32} (hP : q_P k pc = some (pc, .f2i, ln, ax, z)) : q_X k pc L (.float x :: S) E g Q = q_X k (pc + 1) L (.int (FP.f2i x) :: S) E g Q := q_X_stp hP rfl rfl
theorem x_idiv {x y : Int32} (hP : q_P k pc = some (pc, .idiv, ln, ax, z)) : q_X k pc L (.int y :: .int x :: S) E g Q = (¬ y = 0 ∧ q_X k (pc + 1) L (.int (x / y) :: S) E g Q) := q_X_cnn hP rfl rfl
theorem x_irem {x y : Int32} (hP : q_P k pc = some (pc, .irem, ln, ax, z)) : q_X k pc L (.int y :: .int x :: S) E g Q = (¬ y = 0 ∧ q_X k (pc + 1) L (.int (x - x / y * y) :: S) E g Q) := q_X_cnn hP rfl rfl
theorem x_fmul {x y : UInt32} (hP : q_P k pc = some (pc, .fmul, ln, ax, z)) : q_X k pc L (.float y :: .float x :: S) E g Q = (FP.fmul x y &&& 0x7fffffff ≤ 0x7f800000 ∧ q_X k (pc + 1) L (.float (FP.fmul x y) :: S) E g Q) := q_X_cnd hP rfl rfl
theorem x_fdiv {x y : UInt32} (hP : q_P k pc = some (pc, .fdiv, ln, ax, z)) : q_X k pc L (.float y :: .float x :: S) E g Q = (FP.fdiv x y &&& 0x7fffffff ≤ 0x7f800000 ∧ q_X k (pc + 1) L (.float (FP.fdiv x y) :: S) E g Q) := q_X_cnd hP rfl rfl
theorem x_fsub {x y : UInt32} (hP : q_P k pc = some (pc, .fsub, ln, ax, z)) : q_X k pc L (.float y :: .float x :: S) E g Q = (FP.fsub x y &&& 0x7fffffff ≤ 0x7f800000 ∧ q_X k (pc + 1) L (.float (FP.fsub x y) :: S) E g Q) := q_X_cnd hP rfl rfl
theorem x_fcmp {x y : UInt32} {op : CmpOp} (hP : q_P k pc = some (pc, .fcmp op, ln, ax, z)) : q_X k pc L (.float y :: .float x :: S) E g Q = q_X k (pc + 1) L (.int (Op.cmpValue (FP.fcmp x y) op) :: S) E g Q := q_X_stp hP rfl rfl
theorem x_goto {off : Int} {t : Nat} (hP : q_P k pc = some (pc, .goto off, ln, ax, z)) (ht : q_j pc off = t) : q_X k pc L S E g Q = q_X k t L S E g Q := by subst ht; exact q_X_stp hP rfl rfl
theorem x_ieq {off : Int} {t : Nat} {x y : Int32} (hP : q_P k pc = some (pc, .if_icmp .eq off, ln, ax, z)) (ht : q_j pc off = t) : q_X k pc L (.int y :: .int x :: S) E g Q = (if x = y then q_X k t L S E g Q else q_X k (pc + 3) L S E g Q) := by subst ht; rw [q_X_bra hP rfl (c := decide (x = y)) (S' := S) rfl]; by_cases h : x = y <;> simp [h]
theorem x_ine {off : Int} {t : Nat} {x y : Int32} (hP : q_P k pc = some (pc, .if_icmp .ne off, ln, ax, z)) (ht : q_j pc off = t) : q_X k pc L (.int y :: .int x :: S) E g Q = (if x = y then q_X k (pc + 3) L S E g Q else q_X k t L S E g Q) := by subst ht; rw [q_X_bra hP rfl (c := !decide (x = y)) (S' := S) rfl]; by_cases h : x = y <;> simp [h]
theorem x_ilt {off : Int} {t : Nat} {x y : Int32} (hP : q_P k pc = some (pc, .if_icmp .lt off, ln, ax, z)) (ht : q_j pc off = t) : q_X k pc L (.int y :: .int x :: S) E g Q = (if x < y then q_X k t L S E g Q else q_X k (pc + 3) L S E g Q) := by subst ht; rw [q_X_bra hP rfl (c := decide (x < y)) (S' := S) rfl]; by_cases h : x < y <;> simp [h]
theorem x_ige {off : Int} {t : Nat} {x y : Int32} (hP : q_P k pc = some (pc, .if_icmp .ge off, ln, ax, z)) (ht : q_j pc off = t) : q_X k pc L (.int y :: .int x :: S) E g Q = (if y ≤ x then q_X k t L S E g Q else q_X k (pc + 3) L S E g Q) := by subst ht; rw [q_X_bra hP rfl (c := decide (y ≤ x)) (S' := S) rfl]; by_cases h : y ≤ x <;> simp [h]
theorem x_igt {off : Int} {t : Nat} {x y : Int32} (hP : q_P k pc = some (pc, .if_icmp .gt off, ln, ax, z)) (ht : q_j pc off = t) : q_X k pc L (.int y :: .int x :: S) E g Q = (if y < x then q_X k t L S E g Q else q_X k (pc + 3) L S E g Q) := by subst ht; rw [q_X_bra hP rfl (c := decide (y < x)) (S' := S) rfl]; by_cases h : y < x <;> simp [h]
theorem x_ile {off : Int} {t : Nat} {x y : Int32} (hP : q_P k pc = some (pc, .if_icmp .le off, ln, ax, z)) (ht : q_j pc off = t) : q_X k pc L (.int y :: .int x :: S) E g Q = (if x ≤ y then q_X k t L S E g Q else q_X k (pc + 3) L S E g Q) := by subst ht; rw [q_X_bra hP rfl (c := decide (x ≤ y)) (S' := S) rfl]; by_cases h : x ≤ y <;> simp [h]
theorem x_zeq {off : Int} {t : Nat} {x : Int32} (hP : q_P k pc = some (pc, .ifCond .eq off, ln, ax, z)) (ht : q_j pc off = t) : q_X k pc L (.int x :: S) E g Q = (if x = nI 0 then q_X k t L S E g Q else q_X k (pc + 3) L S E g Q) := by subst ht; rw [nI_0, q_X_bra hP rfl (c := decide (x = 0)) (S' := S) rfl]; by_cases h : x = 0 <;> simp [h]
theorem x_zne {off : Int} {t : Nat} {x : Int32} (hP : q_P k pc = some (pc, .ifCond .ne off, ln, ax, z)) (ht : q_j pc off = t) : q_X k pc L (.int x :: S) E g Q = (if x = nI 0 then q_X k (pc + 3) L S E g Q else q_X k t L S E g Q) := by subst ht; rw [nI_0, q_X_bra hP rfl (c := !decide (x = 0)) (S' := S) rfl]; by_cases h : x = 0 <;> simp [h]
theorem x_zlt {off : Int} {t : Nat} {x : Int32} (hP : q_P k pc = some (pc, .ifCond .lt off, ln, ax, z)) (ht : q_j pc off = t) : q_X k pc L (.int x :: S) E g Q = (if x < nI 0 then q_X k t L S E g Q else q_X k (pc + 3) L S E g Q) := by subst ht; rw [nI_0, q_X_bra hP rfl (c := decide (x < 0)) (S' := S) rfl]; by_cases h : x < 0 <;> simp [h]
theorem x_zge {off : Int} {t : Nat} {x : Int32} (hP : q_P k pc = some (pc, .ifCond .ge off, ln, ax, z)) (ht : q_j pc off = t) : q_X k pc L (.int x :: S) E g Q = (if nI 0 ≤ x then q_X k t L S E g Q else q_X k (pc + 3) L S E g Q) := by subst ht; rw [nI_0, q_X_bra hP rfl (c := decide (0 ≤ x)) (S' := S) rfl]; by_cases h : 0 ≤ x <;> simp [h]
theorem x_zgt {off : Int} {t : Nat} {x : Int32} (hP : q_P k pc = some (pc, .ifCond .gt off, ln, ax, z)) (ht : q_j pc off = t) : q_X k pc L (.int x :: S) E g Q = (if nI 0 < x then q_X k t L S E g Q else q_X k (pc + 3) L S E g Q) := by subst ht; rw [nI_0, q_X_bra hP rfl (c := decide (0 < x)) (S' := S) rfl]; by_cases h : 0 < x <;> simp [h]
theorem x_zle {off : Int} {t : Nat} {x : Int32} (hP : q_P k pc = some (pc, .ifCond .le off, ln, ax, z)) (ht : q_j pc off = t) : q_X k pc L (.int x :: S) E g Q = (if x ≤ nI 0 then q_X k t L S E g Q else q_X k (pc + 3) L S E g Q) := by subst ht; rw [nI_0, q_X_bra hP rfl (c := decide (x ≤ 0)) (S' := S) rfl]; by_cases h : x ≤ 0 <;> simp [h]
theorem x_getI {idx ci sl iw ty a t : Nat} (hP : q_P k pc = some (pc, .getfield idx, ln, [ci, sl, ty, iw], z)) (hty : ¬ ty = 1) (ht : 4 + ci = t) : q_X k pc L (.ref a :: S) E g Q = ((q_kd E a).1 = t ∧ q_X k (pc + 3) L (.int (g a sl) :: S) E g Q) := by
  subst ht
  exact q_X_cnd hP rfl (by show (if _ then _ else none) = _; simp [hty])
theorem x_getR {idx ci sl iw a t : Nat} (hP : q_P k pc = some (pc, .getfield idx, ln, [ci, sl, 1, iw], z)) (ht : 4 + ci = t) : q_X k pc L (.ref a :: S) E g Q = ((q_kd E a).1 = t ∧ ¬ q_rf E a sl = 0 ∧ q_X k (pc + 3) L (.ref (q_rf E a sl) :: S) E g Q) := by
  subst ht
  by_cases h1 : (q_kd E a).1 = 4 + ci
  · by_cases h2 : q_rf E a sl = 0
    · rw [q_X_non hP rfl (by show (if (q_kd E a).1 = 4 + ci then _ else none) = none; rw [if_pos h1]; show (if q_rf E a sl = 0 then none else _) = none; rw [if_pos h2])]
      simp [h2]
    · rw [q_X_stp hP rfl (by show (if (q_kd E a).1 = 4 + ci then _ else none) = _; rw [if_pos h1]; show (if q_rf E a sl = 0 then none else _) = _; rw [if_neg h2])]
      simp [h1, h2]
  · rw [q_X_non hP rfl (by show (if (q_kd E a).1 = 4 + ci then _ else none) = none; rw [if_neg h1])]
    simp [h1]
theorem x_putR {idx ci sl iw f a v t : Nat} (hP : q_P k pc = some (pc, .putfield idx, ln, [ci, sl, 1, iw, f], z)) (ht : 4 + ci = t) : q_X k pc L (.ref v :: .ref a :: S) E g Q = (((q_kd E a).1 = t ∧ v ≠ 0) ∧ q_X k (pc + 3) L S (q_setR E a sl v) g Q) := by subst ht; exact q_X_cnd hP rfl rfl
theorem x_putI {idx ci sl iw f a t : Nat} {v : Int32} (hP : q_P k pc = some (pc, .putfield idx, ln, [ci, sl, 0, iw, f], z)) (ht : 4 + ci = t) : q_X k pc L (.int v :: .ref a :: S) E g Q = ((q_kd E a).1 = t ∧ q_X k (pc + 3) L S E (q_up g a sl v) Q) := by
  subst ht
  rw [q_X_cnd hP rfl (c := (q_kd E a).1 = 4 + ci ∧ ((0 : Nat) = 2 → narrow .char (.int v) = .int v ∧ fits .char (.int v) = true)) rfl]
  simp
theorem x_putC {idx ci sl iw f a t : Nat} {v : Int32} (hP : q_P k pc = some (pc, .putfield idx, ln, [ci, sl, 2, iw, f], z)) (ht : 4 + ci = t) : q_X k pc L (.int v :: .ref a :: S) E g Q = ((q_kd E a).1 = t ∧ (narrow .char (.int v) = .int v ∧ fits .char (.int v) = true) ∧ q_X k (pc + 3) L S E (q_up g a sl v) Q) := by
  subst ht
  rw [q_X_cnd hP rfl (c := (q_kd E a).1 = 4 + ci ∧ ((2 : Nat) = 2 → narrow .char (.int v) = .int v ∧ fits .char (.int v) = true)) rfl]
  simp only [true_implies, and_assoc]
  rfl
theorem x_gets {idx : Nat} (hP : q_P k pc = some (pc, .getstatic idx, ln, ax, z)) : q_X k pc L S E g Q = q_X k (pc + 3) L (.ref 2 :: S) E g Q := q_X_stp hP rfl rfl
theorem x_new {idx ci nf i1 i2 i3 t : Nat} (hP : q_P k pc = some (pc, .new idx, ln, [ci, nf, i1, i2, i3], z)) (ht : 4 + ci = t) : q_X k pc L S E g Q = q_X k (pc + 3) L (.ref E.1 :: S) (q_new E t nf) (q_upA g E.1 (fun _ => nI 0)) Q := by subst ht; exact q_X_stp hP rfl rfl
theorem x_newI {n : Nat} (hP : q_P k pc = some (pc, .newarray .int, ln, ax, z)) (hn : n ≤ 100000) : q_X k pc L (.int (nI n) :: S) E g Q = q_X k (pc + 2) L (.ref E.1 :: S) (q_new E 2 n) (q_upA g E.1 (fun _ => nI 0)) Q := by
  refine q_X_stp hP rfl ?_
  show (if _ then none else _) = _
  rw [if_neg (by rw [nI_clamp (by omega)]; intro h; rcases h with h | h; exact nI_pos (by omega) h; omega), nI_clamp (by omega)]
  rfl
theorem x_newC {n : Nat} (hP : q_P k pc = some (pc, .newarray .char, ln, ax, z)) (hn : n ≤ 100000) : q_X k pc L (.int (nI n) :: S) E g Q = q_X k (pc + 2) L (.ref E.1 :: S) (q_new E 3 n) (q_upA g E.1 (fun _ => nI 0)) Q := by
  refine q_X_stp hP rfl ?_
  show (if _ then none else _) = _
  rw [if_neg (by rw [nI_clamp (by omega)]; intro h; rcases h with h | h; exact nI_pos (by omega) h; omega), nI_clamp (by omega)]
  rfl
theorem x_alen {a : Nat} (hP : q_P k pc = some (pc, .arraylength, ln, ax, z)) : q_X k pc L (.ref a :: S) E g Q = (((q_kd E a).1 = 1 ∨ (q_kd E a).1 = 2 ∨ (q_kd E a).1 = 3) ∧ q_X k (pc + 1) L (.int (nI (q_kd E a).2) :: S) E g Q) := q_X_cnd hP rfl rfl
theorem x_iald {a : Nat} {i : Int32} (hP : q_P k pc = some (pc, .iaload, ln, ax, z)) : q_X k pc L (.int i :: .ref a :: S) E g Q = ((((q_kd E a).1 = 1 ∨ (q_kd E a).1 = 2) ∧ vp_in i (q_kd E a).2) ∧ q_X k (pc + 1) L (.int (g a i.toNatClampNeg) :: S) E g Q) := (q_X_cnd hP rfl (c := ((q_kd E a).1 = 1 ∨ (q_kd E a).1 = 2) ∧ ¬ (i < 0 ∨ (q_kd E a).2 ≤ i.toNatClampNeg)) rfl).trans rfl
theorem x_cald {a : Nat} {i : Int32} (hP : q_P k pc = some (pc, .caload, ln, ax, z)) : q_X k pc L (.int i :: .ref a :: S) E g Q = (((q_kd E a).1 = 3 ∧ vp_in i (q_kd E a).2) ∧ q_X k (pc + 1) L (.int (g a i.toNatClampNeg) :: S) E g Q) := (q_X_cnd hP rfl (c := (q_kd E a).1 = 3 ∧ ¬ (i < 0 ∨ (q_kd E a).2 ≤ i.toNatClampNeg)) rfl).trans rfl
theorem x_iast {a : Nat} {i x : Int32} (hP : q_P k pc = some (pc, .iastore, ln, ax, z)) : q_X k pc L (.int x :: .int i :: .ref a :: S) E g Q = (((q_kd E a).1 = 2 ∧ vp_in i (q_kd E a).2) ∧ q_X k (pc + 1) L S E (q_up g a i.toNatClampNeg x) Q) := (q_X_cnd hP rfl (c := (q_kd E a).1 = 2 ∧ ¬ (i < 0 ∨ (q_kd E a).2 ≤ i.toNatClampNeg)) rfl).trans rfl
theorem x_cast {a : Nat} {i x : Int32} (hP : q_P k pc = some (pc, .castore, ln, ax, z)) : q_X k pc L (.int x :: .int i :: .ref a :: S) E g Q = (((q_kd E a).1 = 3 ∧ vp_in i (q_kd E a).2) ∧ q_X k (pc + 1) L S E (q_up g a i.toNatClampNeg (vp_nar .char x)) Q) := (q_X_cnd hP rfl (c := (q_kd E a).1 = 3 ∧ ¬ (i < 0 ∨ (q_kd E a).2 ≤ i.toNatClampNeg)) rfl).trans rfl
theorem x_oini {idx i1 i2 i3 a : Nat} (hP : q_P k pc = some (pc, .invokespecial idx, ln, [0, 0, 6, i1, i2, i3], z)) : q_X k pc L [.ref a] E g Q = q_X k (pc + 3) L [] E g Q := q_X_stp hP rfl rfl
theorem x_f2b {idx i1 i2 i3 i4 : Nat} {b : UInt32} (hP : q_P k pc = some (pc, .invokestatic idx, ln, [0, 1, 8, i1, i2, i3, i4], z)) : q_X k pc L [.float b] E g Q = q_X k (pc + 3) L [.int b.toInt32] E g Q := q_X_stp hP rfl rfl
theorem x_acpy {idx i1 i2 i3 i4 a a0 : Nat} {n dp sp : Int32} (hP : q_P k pc = some (pc, .invokestatic idx, ln, [0, 5, 7, i1, i2, i3, i4], z)) : q_X k pc L [.int n, .int dp, .ref a, .int sp, .ref a0] E g Q = (((q_kd E a).1 = 2 ∧ (q_kd E a0).1 = 2 ∧ ([] : List Value) = [] ∧ ¬ sp < 0 ∧ ¬ dp < 0 ∧ ¬ n < 0 ∧ sp.toNatClampNeg + n.toNatClampNeg ≤ (q_kd E a0).2 ∧ dp.toNatClampNeg + n.toNatClampNeg ≤ (q_kd E a).2) ∧ q_X k (pc + 3) L [] E (q_upA g a (va_cpy (g a0) (g a) sp.toNatClampNeg dp.toNatClampNeg n.toNatClampNeg)) Q) := q_X_cnd hP rfl rfl
theorem x_reti {v : Int32} {ty : FieldType} (hP : q_P k pc = some (pc, .ireturn, ln, ax, z)) (hty : (q_mi k).2.2.2.1 = some ty) : q_X k pc L [.int v] E g Q = (narrow ty (.int v) = .int v ∧ Q (some (.int v)) E g) := q_X_rti hP rfl hty
theorem x_retI {v : Int32} (hP : q_P k pc = some (pc, .ireturn, ln, ax, z)) (hty : (q_mi k).2.2.2.1 = some .int) : q_X k pc L [.int v] E g Q = Q (some (.int v)) E g := by
  rw [q_X_rti hP rfl hty]
  exact propext ⟨fun h => h.2, fun h => ⟨rfl, h⟩⟩
theorem x_reta {a : Nat} (hP : q_P k pc = some (pc, .areturn, ln, ax, z)) : q_X k pc L [.ref a] E g Q = Q (some (.ref a)) E g := q_X_ret hP rfl rfl
theorem x_retv (hP : q_P k pc = some (pc, .return_, ln, ax, z)) : q_X k pc L [] E g Q = Q none E g := q_X_ret hP rfl rfl
end
/-- a truth as an int -/
def q_b (c : Bool) : Int32 := if c = true then nI 1 else nI 0
theorem q_b_0 (c : Bool) : (q_b c = nI 0) = (c = false) := by cases c <;> simp [q_b, nI]
theorem q_b_t : q_b true = nI 1 := rfl
theorem q_b_f : q_b false = nI 0 := rfl
theorem q_nz (c : Bool) : (narrow .boolean (.int (q_b c)) = .int (q_b c)) = True := by cases c <;> decide
theorem q_nz1 : (narrow .boolean (.int (nI 1)) = .int (nI 1)) = True := by decide
theorem q_nz0 : (narrow .boolean (.int (nI 0)) = .int (nI 0)) = True := by decide
theorem q_tl (v : Value) (S : List Value) : (some v).toList ++ S = v :: S := rfl
theorem q_tn (S : List Value) : (none : Option Value).toList ++ S = S := rfl
