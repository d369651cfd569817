section
-- ===== PART A: goes FIRST, ahead of the names: the tables' words, and 'selects' of the private methods out of them =====
/-- a private method of a class that the tables say can be made, by its rows of tables_1 -/
def lw_okq (q : MethodName × Nat) : Prop := (q.1.cls ≠ "java/lang/invoke/MethodHandle" ∧ q.1.cls ≠ "java/lang/invoke/VarHandle") ∧ Cond.instantiable q.1.cls q.2 ∈ tables_1 ∧ Cond.privateMethod q.1 ∈ tables_1 ∧ Cond.instanceMethod q.1 ∈ tables_1
theorem lw_p0 : lw_okq (⟨"CardRacks", "freshTrial", "()LCardRacks$State;"⟩, 9) := ⟨⟨by decide +kernel, by decide +kernel⟩, List.mem_of_getElem? (i := 15) (by decide +kernel), List.mem_of_getElem? (i := 273) (by decide +kernel), List.mem_of_getElem? (i := 274) (by decide +kernel)⟩
theorem lw_p1 : lw_okq (⟨"CardRacks", "settle", "(I)I"⟩, 9) := ⟨⟨by decide +kernel, by decide +kernel⟩, List.mem_of_getElem? (i := 15) (by decide +kernel), List.mem_of_getElem? (i := 327) (by decide +kernel), List.mem_of_getElem? (i := 328) (by decide +kernel)⟩
theorem lw_p2 : lw_okq (⟨"CardRacks", "keepTrial", "()V"⟩, 9) := ⟨⟨by decide +kernel, by decide +kernel⟩, List.mem_of_getElem? (i := 15) (by decide +kernel), List.mem_of_getElem? (i := 331) (by decide +kernel), List.mem_of_getElem? (i := 332) (by decide +kernel)⟩
theorem lw_p3 : lw_okq (⟨"CardRacks$Deliveries", "move", "(II)V"⟩, 4) := ⟨⟨by decide +kernel, by decide +kernel⟩, List.mem_of_getElem? (i := 129) (by decide +kernel), List.mem_of_getElem? (i := 380) (by decide +kernel), List.mem_of_getElem? (i := 381) (by decide +kernel)⟩
theorem lw_p4 : lw_okq (⟨"CardRacks$Rehearsal", "blame", "(II)V"⟩, 4) := ⟨⟨by decide +kernel, by decide +kernel⟩, List.mem_of_getElem? (i := 218) (by decide +kernel), List.mem_of_getElem? (i := 672) (by decide +kernel), List.mem_of_getElem? (i := 673) (by decide +kernel)⟩
theorem lw_p5 : lw_okq (⟨"CardRacksModel", "keeps", "()V"⟩, 8) := ⟨⟨by decide +kernel, by decide +kernel⟩, List.mem_of_getElem? (i := 680) (by decide +kernel), List.mem_of_getElem? (i := 715) (by decide +kernel), List.mem_of_getElem? (i := 716) (by decide +kernel)⟩
theorem lw_p6 : lw_okq (⟨"CardRacksModel", "copies", "(II)V"⟩, 8) := ⟨⟨by decide +kernel, by decide +kernel⟩, List.mem_of_getElem? (i := 680) (by decide +kernel), List.mem_of_getElem? (i := 719) (by decide +kernel), List.mem_of_getElem? (i := 720) (by decide +kernel)⟩
theorem lw_p7 : lw_okq (⟨"CardRacksModel", "doVerse", "(III)I"⟩, 8) := ⟨⟨by decide +kernel, by decide +kernel⟩, List.mem_of_getElem? (i := 680) (by decide +kernel), List.mem_of_getElem? (i := 723) (by decide +kernel), List.mem_of_getElem? (i := 724) (by decide +kernel)⟩
theorem lw_p8 : lw_okq (⟨"CardRacksModel", "adds", "(III)V"⟩, 8) := ⟨⟨by decide +kernel, by decide +kernel⟩, List.mem_of_getElem? (i := 680) (by decide +kernel), List.mem_of_getElem? (i := 732) (by decide +kernel), List.mem_of_getElem? (i := 733) (by decide +kernel)⟩
theorem lw_p9 : lw_okq (⟨"CardRacksModel", "acted", "(I)I"⟩, 8) := ⟨⟨by decide +kernel, by decide +kernel⟩, List.mem_of_getElem? (i := 680) (by decide +kernel), List.mem_of_getElem? (i := 736) (by decide +kernel), List.mem_of_getElem? (i := 737) (by decide +kernel)⟩
theorem lw_p10 : lw_okq (⟨"CardRacksModel", "isOn", "(I)Z"⟩, 8) := ⟨⟨by decide +kernel, by decide +kernel⟩, List.mem_of_getElem? (i := 680) (by decide +kernel), List.mem_of_getElem? (i := 744) (by decide +kernel), List.mem_of_getElem? (i := 745) (by decide +kernel)⟩
theorem lw_p11 : lw_okq (⟨"CardRacksModel", "doOrder", "(II)I"⟩, 8) := ⟨⟨by decide +kernel, by decide +kernel⟩, List.mem_of_getElem? (i := 680) (by decide +kernel), List.mem_of_getElem? (i := 752) (by decide +kernel), List.mem_of_getElem? (i := 753) (by decide +kernel)⟩
theorem lw_p12 : lw_okq (⟨"CardRacksModel", "isVerse", "(I)Z"⟩, 8) := ⟨⟨by decide +kernel, by decide +kernel⟩, List.mem_of_getElem? (i := 680) (by decide +kernel), List.mem_of_getElem? (i := 756) (by decide +kernel), List.mem_of_getElem? (i := 757) (by decide +kernel)⟩
theorem lw_p13 : lw_okq (⟨"CardRacksModel", "of", "(II)I"⟩, 8) := ⟨⟨by decide +kernel, by decide +kernel⟩, List.mem_of_getElem? (i := 680) (by decide +kernel), List.mem_of_getElem? (i := 760) (by decide +kernel), List.mem_of_getElem? (i := 761) (by decide +kernel)⟩
theorem lw_p14 : lw_okq (⟨"CardRacksModel", "onWay", "(I)I"⟩, 8) := ⟨⟨by decide +kernel, by decide +kernel⟩, List.mem_of_getElem? (i := 680) (by decide +kernel), List.mem_of_getElem? (i := 764) (by decide +kernel), List.mem_of_getElem? (i := 765) (by decide +kernel)⟩
theorem lw_p15 : lw_okq (⟨"CardRacksModel", "doLay", "(III)I"⟩, 8) := ⟨⟨by decide +kernel, by decide +kernel⟩, List.mem_of_getElem? (i := 680) (by decide +kernel), List.mem_of_getElem? (i := 772) (by decide +kernel), List.mem_of_getElem? (i := 773) (by decide +kernel)⟩
def lw_privs_1 : List (MethodName × Nat) := [(⟨"CardRacks", "freshTrial", "()LCardRacks$State;"⟩, 9), (⟨"CardRacks", "settle", "(I)I"⟩, 9), (⟨"CardRacks", "keepTrial", "()V"⟩, 9), (⟨"CardRacks$Deliveries", "move", "(II)V"⟩, 4), (⟨"CardRacks$Rehearsal", "blame", "(II)V"⟩, 4), (⟨"CardRacksModel", "keeps", "()V"⟩, 8), (⟨"CardRacksModel", "copies", "(II)V"⟩, 8), (⟨"CardRacksModel", "doVerse", "(III)I"⟩, 8), (⟨"CardRacksModel", "adds", "(III)V"⟩, 8), (⟨"CardRacksModel", "acted", "(I)I"⟩, 8), (⟨"CardRacksModel", "isOn", "(I)Z"⟩, 8), (⟨"CardRacksModel", "doOrder", "(II)I"⟩, 8), (⟨"CardRacksModel", "isVerse", "(I)Z"⟩, 8), (⟨"CardRacksModel", "of", "(II)I"⟩, 8), (⟨"CardRacksModel", "onWay", "(I)I"⟩, 8), (⟨"CardRacksModel", "doLay", "(III)I"⟩, 8)]
theorem lw_r1 : ∀ q ∈ lw_privs_1, lw_okq q := List.forall_mem_cons.mpr ⟨lw_p0, List.forall_mem_cons.mpr ⟨lw_p1, List.forall_mem_cons.mpr ⟨lw_p2, List.forall_mem_cons.mpr ⟨lw_p3, List.forall_mem_cons.mpr ⟨lw_p4, List.forall_mem_cons.mpr ⟨lw_p5, List.forall_mem_cons.mpr ⟨lw_p6, List.forall_mem_cons.mpr ⟨lw_p7, List.forall_mem_cons.mpr ⟨lw_p8, List.forall_mem_cons.mpr ⟨lw_p9, List.forall_mem_cons.mpr ⟨lw_p10, List.forall_mem_cons.mpr ⟨lw_p11, List.forall_mem_cons.mpr ⟨lw_p12, List.forall_mem_cons.mpr ⟨lw_p13, List.forall_mem_cons.mpr ⟨lw_p14, List.forall_mem_cons.mpr ⟨lw_p15, fun _ h => absurd h List.not_mem_nil⟩⟩⟩⟩⟩⟩⟩⟩⟩⟩⟩⟩⟩⟩⟩⟩
theorem lw_p16 : lw_okq (⟨"CardRacksModel", "held", "(I)I"⟩, 8) := ⟨⟨by decide +kernel, by decide +kernel⟩, List.mem_of_getElem? (i := 680) (by decide +kernel), List.mem_of_getElem? (i := 776) (by decide +kernel), List.mem_of_getElem? (i := 777) (by decide +kernel)⟩
theorem lw_p17 : lw_okq (⟨"CardRacksModel", "cards", "(I)I"⟩, 8) := ⟨⟨by decide +kernel, by decide +kernel⟩, List.mem_of_getElem? (i := 680) (by decide +kernel), List.mem_of_getElem? (i := 780) (by decide +kernel), List.mem_of_getElem? (i := 781) (by decide +kernel)⟩
theorem lw_p18 : lw_okq (⟨"CardRacksModel", "doSell", "(I)I"⟩, 8) := ⟨⟨by decide +kernel, by decide +kernel⟩, List.mem_of_getElem? (i := 680) (by decide +kernel), List.mem_of_getElem? (i := 793) (by decide +kernel), List.mem_of_getElem? (i := 794) (by decide +kernel)⟩
theorem lw_p19 : lw_okq (⟨"CardRacksModel", "sells", "(I)I"⟩, 8) := ⟨⟨by decide +kernel, by decide +kernel⟩, List.mem_of_getElem? (i := 680) (by decide +kernel), List.mem_of_getElem? (i := 797) (by decide +kernel), List.mem_of_getElem? (i := 798) (by decide +kernel)⟩
theorem lw_p20 : lw_okq (⟨"CardRacksModel", "slotFor", "(I)I"⟩, 8) := ⟨⟨by decide +kernel, by decide +kernel⟩, List.mem_of_getElem? (i := 680) (by decide +kernel), List.mem_of_getElem? (i := 801) (by decide +kernel), List.mem_of_getElem? (i := 802) (by decide +kernel)⟩
theorem lw_p21 : lw_okq (⟨"CardRacksModel", "besides", "(II)I"⟩, 8) := ⟨⟨by decide +kernel, by decide +kernel⟩, List.mem_of_getElem? (i := 680) (by decide +kernel), List.mem_of_getElem? (i := 805) (by decide +kernel), List.mem_of_getElem? (i := 806) (by decide +kernel)⟩
theorem lw_p22 : lw_okq (⟨"CardRacksModel", "inRack", "(I)I"⟩, 8) := ⟨⟨by decide +kernel, by decide +kernel⟩, List.mem_of_getElem? (i := 680) (by decide +kernel), List.mem_of_getElem? (i := 823) (by decide +kernel), List.mem_of_getElem? (i := 824) (by decide +kernel)⟩
theorem lw_p23 : lw_okq (⟨"CardRacksModel", "doPass", "(I)I"⟩, 8) := ⟨⟨by decide +kernel, by decide +kernel⟩, List.mem_of_getElem? (i := 680) (by decide +kernel), List.mem_of_getElem? (i := 831) (by decide +kernel), List.mem_of_getElem? (i := 832) (by decide +kernel)⟩
theorem lw_p24 : lw_okq (⟨"CardRacksModel", "comes", "()I"⟩, 8) := ⟨⟨by decide +kernel, by decide +kernel⟩, List.mem_of_getElem? (i := 680) (by decide +kernel), List.mem_of_getElem? (i := 835) (by decide +kernel), List.mem_of_getElem? (i := 836) (by decide +kernel)⟩
theorem lw_p25 : lw_okq (⟨"CardRacksModel", "sumOf", "(I)I"⟩, 8) := ⟨⟨by decide +kernel, by decide +kernel⟩, List.mem_of_getElem? (i := 680) (by decide +kernel), List.mem_of_getElem? (i := 894) (by decide +kernel), List.mem_of_getElem? (i := 895) (by decide +kernel)⟩
theorem lw_p26 : lw_okq (⟨"CardRacksModel", "pairs", "()I"⟩, 8) := ⟨⟨by decide +kernel, by decide +kernel⟩, List.mem_of_getElem? (i := 680) (by decide +kernel), List.mem_of_getElem? (i := 899) (by decide +kernel), List.mem_of_getElem? (i := 900) (by decide +kernel)⟩
theorem lw_p27 : lw_okq (⟨"CardRacksModel", "goesOn", "()I"⟩, 8) := ⟨⟨by decide +kernel, by decide +kernel⟩, List.mem_of_getElem? (i := 680) (by decide +kernel), List.mem_of_getElem? (i := 919) (by decide +kernel), List.mem_of_getElem? (i := 920) (by decide +kernel)⟩
theorem lw_p28 : lw_okq (⟨"CardRacksModel", "sign", "()I"⟩, 8) := ⟨⟨by decide +kernel, by decide +kernel⟩, List.mem_of_getElem? (i := 680) (by decide +kernel), List.mem_of_getElem? (i := 923) (by decide +kernel), List.mem_of_getElem? (i := 924) (by decide +kernel)⟩
theorem lw_p29 : lw_okq (⟨"CardRacksModel", "isOrder", "(I)Z"⟩, 8) := ⟨⟨by decide +kernel, by decide +kernel⟩, List.mem_of_getElem? (i := 680) (by decide +kernel), List.mem_of_getElem? (i := 927) (by decide +kernel), List.mem_of_getElem? (i := 928) (by decide +kernel)⟩
theorem lw_p30 : lw_okq (⟨"CardRacksModel", "takes", "(I)Z"⟩, 8) := ⟨⟨by decide +kernel, by decide +kernel⟩, List.mem_of_getElem? (i := 680) (by decide +kernel), List.mem_of_getElem? (i := 931) (by decide +kernel), List.mem_of_getElem? (i := 932) (by decide +kernel)⟩
theorem lw_p31 : lw_okq (⟨"CardRacksModel", "number", "(I)Z"⟩, 8) := ⟨⟨by decide +kernel, by decide +kernel⟩, List.mem_of_getElem? (i := 680) (by decide +kernel), List.mem_of_getElem? (i := 935) (by decide +kernel), List.mem_of_getElem? (i := 936) (by decide +kernel)⟩
def lw_privs_2 : List (MethodName × Nat) := [(⟨"CardRacksModel", "held", "(I)I"⟩, 8), (⟨"CardRacksModel", "cards", "(I)I"⟩, 8), (⟨"CardRacksModel", "doSell", "(I)I"⟩, 8), (⟨"CardRacksModel", "sells", "(I)I"⟩, 8), (⟨"CardRacksModel", "slotFor", "(I)I"⟩, 8), (⟨"CardRacksModel", "besides", "(II)I"⟩, 8), (⟨"CardRacksModel", "inRack", "(I)I"⟩, 8), (⟨"CardRacksModel", "doPass", "(I)I"⟩, 8), (⟨"CardRacksModel", "comes", "()I"⟩, 8), (⟨"CardRacksModel", "sumOf", "(I)I"⟩, 8), (⟨"CardRacksModel", "pairs", "()I"⟩, 8), (⟨"CardRacksModel", "goesOn", "()I"⟩, 8), (⟨"CardRacksModel", "sign", "()I"⟩, 8), (⟨"CardRacksModel", "isOrder", "(I)Z"⟩, 8), (⟨"CardRacksModel", "takes", "(I)Z"⟩, 8), (⟨"CardRacksModel", "number", "(I)Z"⟩, 8)]
theorem lw_r2 : ∀ q ∈ lw_privs_2, lw_okq q := List.forall_mem_cons.mpr ⟨lw_p16, List.forall_mem_cons.mpr ⟨lw_p17, List.forall_mem_cons.mpr ⟨lw_p18, List.forall_mem_cons.mpr ⟨lw_p19, List.forall_mem_cons.mpr ⟨lw_p20, List.forall_mem_cons.mpr ⟨lw_p21, List.forall_mem_cons.mpr ⟨lw_p22, List.forall_mem_cons.mpr ⟨lw_p23, List.forall_mem_cons.mpr ⟨lw_p24, List.forall_mem_cons.mpr ⟨lw_p25, List.forall_mem_cons.mpr ⟨lw_p26, List.forall_mem_cons.mpr ⟨lw_p27, List.forall_mem_cons.mpr ⟨lw_p28, List.forall_mem_cons.mpr ⟨lw_p29, List.forall_mem_cons.mpr ⟨lw_p30, List.forall_mem_cons.mpr ⟨lw_p31, fun _ h => absurd h List.not_mem_nil⟩⟩⟩⟩⟩⟩⟩⟩⟩⟩⟩⟩⟩⟩⟩⟩
theorem lw_p32 : lw_okq (⟨"CardRacksModel", "does", "(I)I"⟩, 8) := ⟨⟨by decide +kernel, by decide +kernel⟩, List.mem_of_getElem? (i := 680) (by decide +kernel), List.mem_of_getElem? (i := 939) (by decide +kernel), List.mem_of_getElem? (i := 940) (by decide +kernel)⟩
def lw_privs_3 : List (MethodName × Nat) := [(⟨"CardRacksModel", "does", "(I)I"⟩, 8)]
theorem lw_r3 : ∀ q ∈ lw_privs_3, lw_okq q := List.forall_mem_cons.mpr ⟨lw_p32, fun _ h => absurd h List.not_mem_nil⟩
def lw_privs : List (MethodName × Nat) := lw_privs_1 ++ (lw_privs_2 ++ (lw_privs_3))
def lw_tbl : List Cond := k2_sels lw_privs ++ tables_1
theorem lw_privs_ok : ∀ q ∈ lw_privs, lw_okq q := by
  show ∀ q ∈ lw_privs_1 ++ (lw_privs_2 ++ (lw_privs_3)), lw_okq q
  exact List.forall_mem_append.mpr ⟨lw_r1, List.forall_mem_append.mpr ⟨lw_r2, lw_r3⟩⟩
/-- the streams that the claim lets the run draw from -/
abbrev lw_cs : List Choice := [Jvm.Choice.named "NaN.bits"]
theorem lw_bits : nanBits ∈ lw_cs := by first | decide | exact List.mem_cons_self | simp [lw_cs, nanBits]
end
section
def RX0 : String := "CardRacks$Calendar"
def TX0 : u_T := fun k => match k with
  | 0 => ("CardRacks$Calendar", "day", "I", false)
  | 1 => ("CardRacks$Calendar", "first", "[I", true)
  | _ => ("CardRacks$Calendar", "last", "[I", true)
def tyX0 : Nat → FieldType := fun k => match k with
  | 0 => .int
  | 1 => .array .int
  | _ => .array .int
theorem nmX0 : ∀ a, a < 3 → ∀ b, b < 3 → a ≠ b → (TX0 a).2.1 ≠ (TX0 b).2.1 := by decide +kernel
theorem tyX0_ok : ∀ k, k < 3 → parseFieldDescriptor (TX0 k).2.2.1 = some (tyX0 k) := by decide +kernel
def RX1 : String := "CardRacks$Deliveries"
def TX1 : u_T := fun k => match k with
  | 0 => ("CardRacks$Deliveries", "size", "I", false)
  | 1 => ("CardRacks$Deliveries", "ordered", "[I", true)
  | 2 => ("CardRacks$Deliveries", "amount", "[I", true)
  | _ => ("CardRacks$Deliveries", "due", "[I", true)
def tyX1 : Nat → FieldType := fun k => match k with
  | 0 => .int
  | 1 => .array .int
  | 2 => .array .int
  | _ => .array .int
theorem nmX1 : ∀ a, a < 4 → ∀ b, b < 4 → a ≠ b → (TX1 a).2.1 ≠ (TX1 b).2.1 := by decide +kernel
theorem tyX1_ok : ∀ k, k < 4 → parseFieldDescriptor (TX1 k).2.2.1 = some (tyX1 k) := by decide +kernel
def RX2 : String := "CardRacks$Pairs"
def TX2 : u_T := fun k => match k with
  | _ => ("CardRacks$Pairs", "often", "[I", true)
def tyX2 : Nat → FieldType := fun k => match k with
  | _ => .array .int
theorem nmX2 : ∀ a, a < 1 → ∀ b, b < 1 → a ≠ b → (TX2 a).2.1 ≠ (TX2 b).2.1 := by decide +kernel
theorem tyX2_ok : ∀ k, k < 1 → parseFieldDescriptor (TX2 k).2.2.1 = some (tyX2 k) := by decide +kernel
def RX3 : String := "CardRacks$Rack"
def TX3 : u_T := fun k => match k with
  | 0 => ("CardRacks$Rack", "held", "[I", true)
  | 1 => ("CardRacks$Rack", "cards", "[I", true)
  | _ => ("CardRacks$Rack", "sold", "[I", true)
def tyX3 : Nat → FieldType := fun k => match k with
  | 0 => .array .int
  | 1 => .array .int
  | _ => .array .int
theorem nmX3 : ∀ a, a < 3 → ∀ b, b < 3 → a ≠ b → (TX3 a).2.1 ≠ (TX3 b).2.1 := by decide +kernel
theorem tyX3_ok : ∀ k, k < 3 → parseFieldDescriptor (TX3 k).2.2.1 = some (tyX3 k) := by decide +kernel
def RX4 : String := "CardRacks$Rehearsal"
def TX4 : u_T := fun k => match k with
  | 0 => ("CardRacks$Rehearsal", "position", "I", false)
  | 1 => ("CardRacks$Rehearsal", "reason", "I", false)
  | 2 => ("CardRacks$Rehearsal", "cause", "I", false)
  | _ => ("CardRacks$Rehearsal", "done", "I", false)
def tyX4 : Nat → FieldType := fun k => match k with
  | 0 => .int
  | 1 => .int
  | 2 => .int
  | _ => .int
theorem nmX4 : ∀ a, a < 4 → ∀ b, b < 4 → a ≠ b → (TX4 a).2.1 ≠ (TX4 b).2.1 := by decide +kernel
theorem tyX4_ok : ∀ k, k < 4 → parseFieldDescriptor (TX4 k).2.2.1 = some (tyX4 k) := by decide +kernel
def RX5 : String := "CardRacks$State"
def TX5 : u_T := fun k => match k with
  | 0 => ("CardRacks$State", "calendar", "LCardRacks$Calendar;", true)
  | 1 => ("CardRacks$State", "verses", "LCardRacks$Verses;", true)
  | 2 => ("CardRacks$State", "pairs", "LCardRacks$Pairs;", true)
  | 3 => ("CardRacks$State", "rack", "LCardRacks$Rack;", true)
  | 4 => ("CardRacks$State", "deliveries", "LCardRacks$Deliveries;", true)
  | 5 => ("CardRacks$State", "delay", "I", false)
  | 6 => ("CardRacks$State", "percent", "I", false)
  | 7 => ("CardRacks$State", "returned", "I", false)
  | _ => ("CardRacks$State", "account", "I", false)
def tyX5 : Nat → FieldType := fun k => match k with
  | 0 => .object "CardRacks$Calendar"
  | 1 => .object "CardRacks$Verses"
  | 2 => .object "CardRacks$Pairs"
  | 3 => .object "CardRacks$Rack"
  | 4 => .object "CardRacks$Deliveries"
  | 5 => .int
  | 6 => .int
  | 7 => .int
  | _ => .int
theorem nmX5 : ∀ a, a < 9 → ∀ b, b < 9 → a ≠ b → (TX5 a).2.1 ≠ (TX5 b).2.1 := by decide +kernel
theorem tyX5_ok : ∀ k, k < 9 → parseFieldDescriptor (TX5 k).2.2.1 = some (tyX5 k) := by decide +kernel
def RX6 : String := "CardRacks$Text"
def TX6 : u_T := fun k => match k with
  | 0 => ("CardRacks$Text", "signs", "[C", true)
  | 1 => ("CardRacks$Text", "length", "I", false)
  | 2 => ("CardRacks$Text", "numbers", "[I", true)
  | 3 => ("CardRacks$Text", "kind", "C", false)
  | _ => ("CardRacks$Text", "end", "I", false)
def tyX6 : Nat → FieldType := fun k => match k with
  | 0 => .array .char
  | 1 => .int
  | 2 => .array .int
  | 3 => .char
  | _ => .int
theorem nmX6 : ∀ a, a < 5 → ∀ b, b < 5 → a ≠ b → (TX6 a).2.1 ≠ (TX6 b).2.1 := by decide +kernel
theorem tyX6_ok : ∀ k, k < 5 → parseFieldDescriptor (TX6 k).2.2.1 = some (tyX6 k) := by decide +kernel
def RX7 : String := "CardRacks$Verses"
def TX7 : u_T := fun k => match k with
  | 0 => ("CardRacks$Verses", "size", "I", false)
  | 1 => ("CardRacks$Verses", "occasion", "[I", true)
  | 2 => ("CardRacks$Verses", "price", "[I", true)
  | 3 => ("CardRacks$Verses", "cost", "[I", true)
  | 4 => ("CardRacks$Verses", "stock", "[I", true)
  | 5 => ("CardRacks$Verses", "sold", "[I", true)
  | 6 => ("CardRacks$Verses", "instead", "[I", true)
  | 7 => ("CardRacks$Verses", "lost", "[I", true)
  | _ => ("CardRacks$Verses", "wanted", "[I", true)
def tyX7 : Nat → FieldType := fun k => match k with
  | 0 => .int
  | 1 => .array .int
  | 2 => .array .int
  | 3 => .array .int
  | 4 => .array .int
  | 5 => .array .int
  | 6 => .array .int
  | 7 => .array .int
  | _ => .array .int
theorem nmX7 : ∀ a, a < 9 → ∀ b, b < 9 → a ≠ b → (TX7 a).2.1 ≠ (TX7 b).2.1 := by decide +kernel
theorem tyX7_ok : ∀ k, k < 9 → parseFieldDescriptor (TX7 k).2.2.1 = some (tyX7 k) := by decide +kernel
def RX8 : String := "CardRacks"
def TX8 : u_T := fun k => match k with
  | 0 => ("CardRacks", "now", "LCardRacks$State;", false)
  | 1 => ("CardRacks", "trial", "LCardRacks$State;", false)
  | 2 => ("CardRacks", "latest", "LCardRacks$State;", false)
  | 3 => ("CardRacks", "second", "LCardRacks$State;", false)
  | 4 => ("CardRacks", "third", "LCardRacks$State;", false)
  | 5 => ("CardRacks", "oldest", "LCardRacks$State;", false)
  | 6 => ("CardRacks", "states", "I", false)
  | 7 => ("CardRacks", "text", "LCardRacks$Text;", true)
  | _ => ("CardRacks", "rehearsal", "LCardRacks$Rehearsal;", true)
def tyX8 : Nat → FieldType := fun k => match k with
  | 0 => .object "CardRacks$State"
  | 1 => .object "CardRacks$State"
  | 2 => .object "CardRacks$State"
  | 3 => .object "CardRacks$State"
  | 4 => .object "CardRacks$State"
  | 5 => .object "CardRacks$State"
  | 6 => .int
  | 7 => .object "CardRacks$Text"
  | _ => .object "CardRacks$Rehearsal"
theorem nmX8 : ∀ a, a < 9 → ∀ b, b < 9 → a ≠ b → (TX8 a).2.1 ≠ (TX8 b).2.1 := by decide +kernel
theorem tyX8_ok : ∀ k, k < 9 → parseFieldDescriptor (TX8 k).2.2.1 = some (tyX8 k) := by decide +kernel
def RX9 : String := "CardRacksModel"
def TX9 : u_T := fun k => match k with
  | 0 => ("CardRacksModel", "s", "[I", true)
  | 1 => ("CardRacksModel", "states", "I", false)
  | 2 => ("CardRacksModel", "text", "[C", true)
  | 3 => ("CardRacksModel", "typed", "I", false)
  | 4 => ("CardRacksModel", "reason", "I", false)
  | 5 => ("CardRacksModel", "cause", "I", false)
  | 6 => ("CardRacksModel", "at", "I", false)
  | _ => ("CardRacksModel", "told", "[I", true)
def tyX9 : Nat → FieldType := fun k => match k with
  | 0 => .array .int
  | 1 => .int
  | 2 => .array .char
  | 3 => .int
  | 4 => .int
  | 5 => .int
  | 6 => .int
  | _ => .array .int
theorem nmX9 : ∀ a, a < 8 → ∀ b, b < 8 → a ≠ b → (TX9 a).2.1 ≠ (TX9 b).2.1 := by decide +kernel
theorem tyX9_ok : ∀ k, k < 8 → parseFieldDescriptor (TX9 k).2.2.1 = some (tyX9 k) := by decide +kernel
abbrev vwCl : List vw_C := [(RX0, TX0, 3), (RX1, TX1, 4), (RX2, TX2, 1), (RX3, TX3, 3), (RX4, TX4, 4), (RX5, TX5, 9), (RX6, TX6, 5), (RX7, TX7, 9), (RX8, TX8, 9), (RX9, TX9, 8)]
end
section
abbrev q_R : Type := Nat × Instr × Nat × List Nat × Int
abbrev q_MI : Type := MethodName × ByteArray × Nat × Option FieldType × Nat × Nat
/-- J9_floorMod_7cf53 -/
def q_p0 : List q_R := [(0, .iload_n 0, 1, [], 0),
  (1, .iload_n 1, 1, [], 0),
  (2, .irem, 1, [], 0),
  (3, .istore_n 2, 1, [], 0),
  (4, .iload_n 0, 1, [], 0),
  (5, .iload_n 1, 1, [], 0),
  (6, .ixor, 1, [], 0),
  (7, .ifCond .ge 11, 3, [], 0),
  (10, .iload_n 2, 1, [], 0),
  (11, .ifCond .eq 7, 3, [], 0),
  (14, .iload_n 2, 1, [], 0),
  (15, .iload_n 1, 1, [], 0),
  (16, .iadd, 1, [], 0),
  (17, .ireturn, 1, [], 0),
  (18, .iload_n 2, 1, [], 0),
  (19, .ireturn, 1, [], 0)]
/-- J9_max_7cf53 -/
def q_p1 : List q_R := [(0, .iload_n 0, 1, [], 0),
  (1, .iload_n 1, 1, [], 0),
  (2, .if_icmp .lt 7, 3, [], 0),
  (5, .iload_n 0, 1, [], 0),
  (6, .goto 4, 3, [], 0),
  (9, .iload_n 1, 1, [], 0),
  (10, .ireturn, 1, [], 0)]
/-- J9_min_7cf53 -/
def q_p2 : List q_R := [(0, .iload_n 0, 1, [], 0),
  (1, .iload_n 1, 1, [], 0),
  (2, .if_icmp .gt 7, 3, [], 0),
  (5, .iload_n 0, 1, [], 0),
  (6, .goto 4, 3, [], 0),
  (9, .iload_n 1, 1, [], 0),
  (10, .ireturn, 1, [], 0)]
/-- Jxf58ca_isNaN_12338 -/
def q_p3 : List q_R := [(0, .fload_n 0, 1, [], 0),
  (1, .fload_n 0, 1, [], 0),
  (2, .fcmp .l, 1, [], 0),
  (3, .ifCond .eq 7, 3, [], 0),
  (6, .iconst 1, 1, [], 0),
  (7, .goto 4, 3, [], 0),
  (10, .iconst 0, 1, [], 0),
  (11, .ireturn, 1, [], 0)]
/-- X0_dayOfYear -/
def q_p4 : List q_R := [(0, .aload_n 0, 1, [], 0),
  (1, .getfield 9, 3, [0, 0, 0, 67], 0),
  (4, .sipush 360, 3, [], 0),
  (7, .irem, 1, [], 0),
  (8, .ireturn, 1, [], 0)]
/-- X1_cardsOf -/
def q_p5 : List q_R := [(0, .iconst 0, 1, [], 0),
  (1, .istore_n 2, 1, [], 0),
  (2, .iconst 0, 1, [], 0),
  (3, .istore_n 3, 1, [], 0),
  (4, .iload_n 3, 1, [], 0),
  (5, .aload_n 0, 1, [], 0),
  (6, .getfield 9, 3, [1, 0, 0, 167], 0),
  (9, .if_icmp .ge 28, 3, [], 0),
  (12, .aload_n 0, 1, [], 0),
  (13, .getfield 15, 3, [1, 1, 1, 170], 0),
  (16, .iload_n 3, 1, [], 0),
  (17, .iaload, 1, [], 0),
  (18, .iload_n 1, 1, [], 0),
  (19, .if_icmp .ne 12, 3, [], 0),
  (22, .iload_n 2, 1, [], 0),
  (23, .aload_n 0, 1, [], 0),
  (24, .getfield 19, 3, [1, 2, 1, 172], 0),
  (27, .iload_n 3, 1, [], 0),
  (28, .iaload, 1, [], 0),
  (29, .iadd, 1, [], 0),
  (30, .istore_n 2, 1, [], 0),
  (31, .iinc 3 1, 3, [], 0),
  (34, .goto (-30), 3, [], 0),
  (37, .iload_n 2, 1, [], 0),
  (38, .ireturn, 1, [], 0)]
/-- X1_firstIsDue -/
def q_p6 : List q_R := [(0, .aload_n 0, 1, [], 0),
  (1, .getfield 9, 3, [1, 0, 0, 167], 0),
  (4, .ifCond .le 17, 3, [], 0),
  (7, .aload_n 0, 1, [], 0),
  (8, .getfield 22, 3, [1, 3, 1, 174], 0),
  (11, .iconst 0, 1, [], 0),
  (12, .iaload, 1, [], 0),
  (13, .iload_n 1, 1, [], 0),
  (14, .if_icmp .gt 7, 3, [], 0),
  (17, .iconst 1, 1, [], 0),
  (18, .goto 4, 3, [], 0),
  (21, .iconst 0, 1, [], 0),
  (22, .ireturn, 1, [], 0)]
/-- X1_isFull -/
def q_p7 : List q_R := [(0, .aload_n 0, 1, [], 0),
  (1, .getfield 9, 3, [1, 0, 0, 167], 0),
  (4, .bipush 8, 2, [], 0),
  (6, .if_icmp .lt 7, 3, [], 0),
  (9, .iconst 1, 1, [], 0),
  (10, .goto 4, 3, [], 0),
  (13, .iconst 0, 1, [], 0),
  (14, .ireturn, 1, [], 0)]
/-- X1_move -/
def q_p8 : List q_R := [(0, .aload_n 0, 1, [], 0),
  (1, .getfield 15, 3, [1, 1, 1, 170], 0),
  (4, .iload_n 2, 1, [], 0),
  (5, .aload_n 0, 1, [], 0),
  (6, .getfield 15, 3, [1, 1, 1, 170], 0),
  (9, .iload_n 1, 1, [], 0),
  (10, .iaload, 1, [], 0),
  (11, .iastore, 1, [], 0),
  (12, .aload_n 0, 1, [], 0),
  (13, .getfield 19, 3, [1, 2, 1, 172], 0),
  (16, .iload_n 2, 1, [], 0),
  (17, .aload_n 0, 1, [], 0),
  (18, .getfield 19, 3, [1, 2, 1, 172], 0),
  (21, .iload_n 1, 1, [], 0),
  (22, .iaload, 1, [], 0),
  (23, .iastore, 1, [], 0),
  (24, .aload_n 0, 1, [], 0),
  (25, .getfield 22, 3, [1, 3, 1, 174], 0),
  (28, .iload_n 2, 1, [], 0),
  (29, .aload_n 0, 1, [], 0),
  (30, .getfield 22, 3, [1, 3, 1, 174], 0),
  (33, .iload_n 1, 1, [], 0),
  (34, .iaload, 1, [], 0),
  (35, .iastore, 1, [], 0),
  (36, .return_, 1, [], 0)]
/-- X2_addOne -/
def q_p9 : List q_R := [(0, .aload_n 0, 1, [], 0),
  (1, .getfield 9, 3, [2, 0, 1, 136], 0),
  (4, .iload_n 1, 1, [], 0),
  (5, .bipush 12, 2, [], 0),
  (7, .imul, 1, [], 0),
  (8, .iload_n 2, 1, [], 0),
  (9, .iadd, 1, [], 0),
  (10, .dup2, 1, [], 0),
  (11, .iaload, 1, [], 0),
  (12, .iconst 1, 1, [], 0),
  (13, .iadd, 1, [], 0),
  (14, .iastore, 1, [], 0),
  (15, .iload_n 1, 1, [], 0),
  (16, .iload_n 2, 1, [], 0),
  (17, .if_icmp .eq 18, 3, [], 0),
  (20, .aload_n 0, 1, [], 0),
  (21, .getfield 9, 3, [2, 0, 1, 136], 0),
  (24, .iload_n 2, 1, [], 0),
  (25, .bipush 12, 2, [], 0),
  (27, .imul, 1, [], 0),
  (28, .iload_n 1, 1, [], 0),
  (29, .iadd, 1, [], 0),
  (30, .dup2, 1, [], 0),
  (31, .iaload, 1, [], 0),
  (32, .iconst 1, 1, [], 0),
  (33, .iadd, 1, [], 0),
  (34, .iastore, 1, [], 0),
  (35, .return_, 1, [], 0)]
/-- X2_times -/
def q_p10 : List q_R := [(0, .aload_n 0, 1, [], 0),
  (1, .getfield 9, 3, [2, 0, 1, 136], 0),
  (4, .iload_n 1, 1, [], 0),
  (5, .bipush 12, 2, [], 0),
  (7, .imul, 1, [], 0),
  (8, .iload_n 2, 1, [], 0),
  (9, .iadd, 1, [], 0),
  (10, .iaload, 1, [], 0),
  (11, .ireturn, 1, [], 0)]
/-- X3_cardsOf -/
def q_p11 : List q_R := [(0, .iconst 0, 1, [], 0),
  (1, .istore_n 2, 1, [], 0),
  (2, .iconst 0, 1, [], 0),
  (3, .istore_n 3, 1, [], 0),
  (4, .iload_n 3, 1, [], 0),
  (5, .bipush 10, 2, [], 0),
  (7, .if_icmp .ge 28, 3, [], 0),
  (10, .aload_n 0, 1, [], 0),
  (11, .getfield 9, 3, [3, 0, 1, 146], 0),
  (14, .iload_n 3, 1, [], 0),
  (15, .iaload, 1, [], 0),
  (16, .iload_n 1, 1, [], 0),
  (17, .if_icmp .ne 12, 3, [], 0),
  (20, .iload_n 2, 1, [], 0),
  (21, .aload_n 0, 1, [], 0),
  (22, .getfield 15, 3, [3, 1, 1, 149], 0),
  (25, .iload_n 3, 1, [], 0),
  (26, .iaload, 1, [], 0),
  (27, .iadd, 1, [], 0),
  (28, .istore_n 2, 1, [], 0),
  (29, .iinc 3 1, 3, [], 0),
  (32, .goto (-28), 3, [], 0),
  (35, .iload_n 2, 1, [], 0),
  (36, .ireturn, 1, [], 0)]
/-- X3_hasRoomFor -/
def q_p12 : List q_R := [(0, .aload_n 0, 1, [], 0),
  (1, .getfield 9, 3, [3, 0, 1, 146], 0),
  (4, .iload_n 1, 1, [], 0),
  (5, .iaload, 1, [], 0),
  (6, .iconst (-1), 1, [], 0),
  (7, .if_icmp .eq 24, 3, [], 0),
  (10, .aload_n 0, 1, [], 0),
  (11, .getfield 9, 3, [3, 0, 1, 146], 0),
  (14, .iload_n 1, 1, [], 0),
  (15, .iaload, 1, [], 0),
  (16, .iload_n 2, 1, [], 0),
  (17, .if_icmp .ne 18, 3, [], 0),
  (20, .aload_n 0, 1, [], 0),
  (21, .getfield 15, 3, [3, 1, 1, 149], 0),
  (24, .iload_n 1, 1, [], 0),
  (25, .iaload, 1, [], 0),
  (26, .bipush 12, 2, [], 0),
  (28, .if_icmp .ge 7, 3, [], 0),
  (31, .iconst 1, 1, [], 0),
  (32, .goto 4, 3, [], 0),
  (35, .iconst 0, 1, [], 0),
  (36, .ireturn, 1, [], 0)]
/-- X3_lowestWithCardsOf -/
def q_p13 : List q_R := [(0, .iconst 0, 1, [], 0),
  (1, .istore_n 2, 1, [], 0),
  (2, .iload_n 2, 1, [], 0),
  (3, .bipush 10, 2, [], 0),
  (5, .if_icmp .ge 30, 3, [], 0),
  (8, .aload_n 0, 1, [], 0),
  (9, .getfield 9, 3, [3, 0, 1, 146], 0),
  (12, .iload_n 2, 1, [], 0),
  (13, .iaload, 1, [], 0),
  (14, .iload_n 1, 1, [], 0),
  (15, .if_icmp .ne 14, 3, [], 0),
  (18, .aload_n 0, 1, [], 0),
  (19, .getfield 15, 3, [3, 1, 1, 149], 0),
  (22, .iload_n 2, 1, [], 0),
  (23, .iaload, 1, [], 0),
  (24, .ifCond .le 5, 3, [], 0),
  (27, .iload_n 2, 1, [], 0),
  (28, .ireturn, 1, [], 0),
  (29, .iinc 2 1, 3, [], 0),
  (32, .goto (-30), 3, [], 0),
  (35, .iconst (-1), 1, [], 0),
  (36, .ireturn, 1, [], 0)]
/-- X3_takeCardsOf -/
def q_p14 : List q_R := [(0, .iconst 0, 1, [], 0),
  (1, .istore_n 2, 1, [], 0),
  (2, .iload_n 2, 1, [], 0),
  (3, .bipush 10, 2, [], 0),
  (5, .if_icmp .ge 26, 3, [], 0),
  (8, .aload_n 0, 1, [], 0),
  (9, .getfield 9, 3, [3, 0, 1, 146], 0),
  (12, .iload_n 2, 1, [], 0),
  (13, .iaload, 1, [], 0),
  (14, .iload_n 1, 1, [], 0),
  (15, .if_icmp .ne 10, 3, [], 0),
  (18, .aload_n 0, 1, [], 0),
  (19, .getfield 15, 3, [3, 1, 1, 149], 0),
  (22, .iload_n 2, 1, [], 0),
  (23, .iconst 0, 1, [], 0),
  (24, .iastore, 1, [], 0),
  (25, .iinc 2 1, 3, [], 0),
  (28, .goto (-26), 3, [], 0),
  (31, .return_, 1, [], 0)]
/-- X4_blame -/
def q_p15 : List q_R := [(0, .aload_n 0, 1, [], 0),
  (1, .iload_n 1, 1, [], 0),
  (2, .putfield 15, 3, [4, 1, 0, 258, 0], 0),
  (5, .aload_n 0, 1, [], 0),
  (6, .iload_n 2, 1, [], 0),
  (7, .putfield 18, 3, [4, 2, 0, 260, 0], 0),
  (10, .return_, 1, [], 0)]
/-- X5_aboutOrder -/
def q_p16 : List q_R := [(0, .iload_n 1, 1, [], 0),
  (1, .ifCond .lt 14, 3, [], 0),
  (4, .iload_n 1, 1, [], 0),
  (5, .aload_n 0, 1, [], 0),
  (6, .getfield 42, 3, [5, 4, 1, 193], 0),
  (9, .getfield 212, 3, [1, 0, 0, 169], 0),
  (12, .if_icmp .lt 6, 3, [], 0),
  (15, .ldc 202, 2, [0, 552], -1000004),
  (17, .ireturn, 1, [], 0),
  (18, .iload_n 2, 1, [], 0),
  (19, .lookupswitch 45 #[(0, 25), (1, 35)], 25, [], 0),
  (44, .aload_n 0, 1, [], 0),
  (45, .getfield 42, 3, [5, 4, 1, 193], 0),
  (48, .getfield 193, 3, [1, 1, 1, 171], 0),
  (51, .iload_n 1, 1, [], 0),
  (52, .iaload, 1, [], 0),
  (53, .ireturn, 1, [], 0),
  (54, .aload_n 0, 1, [], 0),
  (55, .getfield 42, 3, [5, 4, 1, 193], 0),
  (58, .getfield 196, 3, [1, 2, 1, 173], 0),
  (61, .iload_n 1, 1, [], 0),
  (62, .iaload, 1, [], 0),
  (63, .ireturn, 1, [], 0),
  (64, .aload_n 0, 1, [], 0),
  (65, .getfield 42, 3, [5, 4, 1, 193], 0),
  (68, .getfield 213, 3, [1, 3, 1, 175], 0),
  (71, .iload_n 1, 1, [], 0),
  (72, .iaload, 1, [], 0),
  (73, .aload_n 0, 1, [], 0),
  (74, .getfield 12, 3, [5, 0, 1, 185], 0),
  (77, .getfield 121, 3, [0, 0, 0, 68], 0),
  (80, .isub, 1, [], 0),
  (81, .ireturn, 1, [], 0)]
/-- X6_append -/
def q_p17 : List q_R := [(0, .aload_n 0, 1, [], 0),
  (1, .getfield 15, 3, [6, 1, 0, 229], 0),
  (4, .bipush 60, 2, [], 0),
  (6, .if_icmp .lt 5, 3, [], 0),
  (9, .iconst 0, 1, [], 0),
  (10, .ireturn, 1, [], 0),
  (11, .aload_n 0, 1, [], 0),
  (12, .getfield 9, 3, [6, 0, 1, 228], 0),
  (15, .aload_n 0, 1, [], 0),
  (16, .getfield 15, 3, [6, 1, 0, 229], 0),
  (19, .iload_n 1, 1, [], 0),
  (20, .castore, 1, [], 0),
  (21, .aload_n 0, 1, [], 0),
  (22, .dup, 1, [], 0),
  (23, .getfield 15, 3, [6, 1, 0, 229], 0),
  (26, .iconst 1, 1, [], 0),
  (27, .iadd, 1, [], 0),
  (28, .putfield 15, 3, [6, 1, 0, 229, 0], 0),
  (31, .iconst 1, 1, [], 0),
  (32, .ireturn, 1, [], 0)]
/-- X6_numbersOf -/
def q_p18 : List q_R := [(0, .iload_n 0, 1, [], 0),
  (1, .lookupswitch 57 #[(100, 55), (108, 51), (111, 53), (115, 55), (118, 51)], 51, [], 0),
  (52, .iconst 3, 1, [], 0),
  (53, .ireturn, 1, [], 0),
  (54, .iconst 2, 1, [], 0),
  (55, .ireturn, 1, [], 0),
  (56, .iconst 1, 1, [], 0),
  (57, .ireturn, 1, [], 0),
  (58, .iconst 0, 1, [], 0),
  (59, .ireturn, 1, [], 0)]
/-- X6_signAt -/
def q_p19 : List q_R := [(0, .iload_n 1, 1, [], 0),
  (1, .ifCond .lt 20, 3, [], 0),
  (4, .iload_n 1, 1, [], 0),
  (5, .aload_n 0, 1, [], 0),
  (6, .getfield 15, 3, [6, 1, 0, 229], 0),
  (9, .if_icmp .ge 12, 3, [], 0),
  (12, .aload_n 0, 1, [], 0),
  (13, .getfield 9, 3, [6, 0, 1, 228], 0),
  (16, .iload_n 1, 1, [], 0),
  (17, .caload, 1, [], 0),
  (18, .goto 4, 3, [], 0),
  (21, .iconst 0, 1, [], 0),
  (22, .ireturn, 1, [], 0)]
/-- X7_has -/
def q_p20 : List q_R := [(0, .iload_n 1, 1, [], 0),
  (1, .ifCond .lt 15, 3, [], 0),
  (4, .iload_n 1, 1, [], 0),
  (5, .aload_n 0, 1, [], 0),
  (6, .getfield 9, 3, [7, 0, 0, 88], 0),
  (9, .if_icmp .ge 7, 3, [], 0),
  (12, .iconst 1, 1, [], 0),
  (13, .goto 4, 3, [], 0),
  (16, .iconst 0, 1, [], 0),
  (17, .ireturn, 1, [], 0)]
/-- X8_areBeside -/
def q_p21 : List q_R := [(0, .getstatic 253, 3, [0, 467], 0),
  (3, .iload_n 0, 1, [], 0),
  (4, .iaload, 1, [], 0),
  (5, .iload_n 1, 1, [], 0),
  (6, .ishr, 1, [], 0),
  (7, .iconst 1, 1, [], 0),
  (8, .iand, 1, [], 0),
  (9, .iconst 1, 1, [], 0),
  (10, .if_icmp .ne 7, 3, [], 0),
  (13, .iconst 1, 1, [], 0),
  (14, .goto 4, 3, [], 0),
  (17, .iconst 0, 1, [], 0),
  (18, .ireturn, 1, [], 0)]
/-- X8_bitsOf -/
def q_p22 : List q_R := [(0, .fload_n 0, 1, [], 0),
  (1, .fconst 0, 1, [], 0),
  (2, .fcmp .l, 1, [], 0),
  (3, .ifCond .gt 5, 3, [], 0),
  (6, .iconst 0, 1, [], 0),
  (7, .ireturn, 1, [], 0),
  (8, .fload_n 0, 1, [], 0),
  (9, .fstore_n 1, 1, [], 0),
  (10, .bipush 127, 2, [], 0),
  (12, .istore_n 2, 1, [], 0),
  (13, .iconst 0, 1, [], 0),
  (14, .istore_n 3, 1, [], 0),
  (15, .iload_n 3, 1, [], 0),
  (16, .sipush 200, 3, [], 0),
  (19, .if_icmp .ge 22, 3, [], 0),
  (22, .fload_n 1, 1, [], 0),
  (23, .fconst 2, 1, [], 0),
  (24, .fcmp .l, 1, [], 0),
  (25, .ifCond .lt 16, 3, [], 0),
  (28, .fload_n 1, 1, [], 0),
  (29, .fconst 2, 1, [], 0),
  (30, .fdiv, 1, [], 0),
  (31, .fstore_n 1, 1, [], 0),
  (32, .iinc 2 1, 3, [], 0),
  (35, .iinc 3 1, 3, [], 0),
  (38, .goto (-23), 3, [], 0),
  (41, .iconst 0, 1, [], 0),
  (42, .istore_n 3, 1, [], 0),
  (43, .iload_n 3, 1, [], 0),
  (44, .sipush 200, 3, [], 0),
  (47, .if_icmp .ge 22, 3, [], 0),
  (50, .fload_n 1, 1, [], 0),
  (51, .fconst 1, 1, [], 0),
  (52, .fcmp .g, 1, [], 0),
  (53, .ifCond .ge 16, 3, [], 0),
  (56, .fload_n 1, 1, [], 0),
  (57, .fconst 2, 1, [], 0),
  (58, .fmul, 1, [], 0),
  (59, .fstore_n 1, 1, [], 0),
  (60, .iinc 2 (-1), 3, [], 0),
  (63, .iinc 3 1, 3, [], 0),
  (66, .goto (-23), 3, [], 0),
  (69, .fload_n 1, 1, [], 0),
  (70, .fconst 1, 1, [], 0),
  (71, .fsub, 1, [], 0),
  (72, .ldc_w 262, 3, [1, 640], 1258291200),
  (75, .fmul, 1, [], 0),
  (76, .f2i, 1, [], 0),
  (77, .istore_n 3, 1, [], 0),
  (78, .iload_n 2, 1, [], 0),
  (79, .bipush 23, 2, [], 0),
  (81, .ishl, 1, [], 0),
  (82, .iload_n 3, 1, [], 0),
  (83, .iadd, 1, [], 0),
  (84, .ireturn, 1, [], 0)]
/-- X8_clearText -/
def q_p23 : List q_R := [(0, .aload_n 0, 1, [], 0),
  (1, .getfield 38, 3, [8, 7, 1, 280], 0),
  (4, .getfield 212, 3, [6, 1, 0, 231], 0),
  (7, .istore_n 1, 1, [], 0),
  (8, .aload_n 0, 1, [], 0),
  (9, .getfield 38, 3, [8, 7, 1, 280], 0),
  (12, .iconst 0, 1, [], 0),
  (13, .putfield 212, 3, [6, 1, 0, 231, 0], 0),
  (16, .iload_n 1, 1, [], 0),
  (17, .ireturn, 1, [], 0)]
/-- X8_isWithin -/
def q_p24 : List q_R := [(0, .iload_n 0, 1, [], 0),
  (1, .iload_n 1, 1, [], 0),
  (2, .if_icmp .lt 12, 3, [], 0),
  (5, .iload_n 0, 1, [], 0),
  (6, .iload_n 2, 1, [], 0),
  (7, .if_icmp .gt 7, 3, [], 0),
  (10, .iconst 1, 1, [], 0),
  (11, .goto 4, 3, [], 0),
  (14, .iconst 0, 1, [], 0),
  (15, .ireturn, 1, [], 0)]
/-- X8_sumOf -/
def q_p25 : List q_R := [(0, .iconst 0, 1, [], 0),
  (1, .istore_n 1, 1, [], 0),
  (2, .aload_n 0, 1, [], 0),
  (3, .astore_n 2, 1, [], 0),
  (4, .aload_n 2, 1, [], 0),
  (5, .arraylength, 1, [], 0),
  (6, .istore_n 3, 1, [], 0),
  (7, .iconst 0, 1, [], 0),
  (8, .istore 4, 2, [], 0),
  (10, .iload 4, 2, [], 0),
  (12, .iload_n 3, 1, [], 0),
  (13, .if_icmp .ge 20, 3, [], 0),
  (16, .aload_n 2, 1, [], 0),
  (17, .iload 4, 2, [], 0),
  (19, .iaload, 1, [], 0),
  (20, .istore 5, 2, [], 0),
  (22, .iload_n 1, 1, [], 0),
  (23, .iload 5, 2, [], 0),
  (25, .iadd, 1, [], 0),
  (26, .istore_n 1, 1, [], 0),
  (27, .iinc 4 1, 3, [], 0),
  (30, .goto (-20), 3, [], 0),
  (33, .iload_n 1, 1, [], 0),
  (34, .ireturn, 1, [], 0)]
/-- X8_undo -/
def q_p26 : List q_R := [(0, .aload_n 0, 1, [], 0),
  (1, .getfield 31, 3, [8, 6, 0, 279], 0),
  (4, .ifCond .ne 6, 3, [], 0),
  (7, .ldc 221, 2, [0, 657], -1000002),
  (9, .ireturn, 1, [], 0),
  (10, .aload_n 0, 1, [], 0),
  (11, .getfield 10, 3, [8, 0, 1, 273], 0),
  (14, .astore_n 1, 1, [], 0),
  (15, .aload_n 0, 1, [], 0),
  (16, .aload_n 0, 1, [], 0),
  (17, .getfield 19, 3, [8, 2, 1, 275], 0),
  (20, .putfield 10, 3, [8, 0, 1, 273, 0], 0),
  (23, .aload_n 0, 1, [], 0),
  (24, .aload_n 0, 1, [], 0),
  (25, .getfield 22, 3, [8, 3, 1, 276], 0),
  (28, .putfield 19, 3, [8, 2, 1, 275, 0], 0),
  (31, .aload_n 0, 1, [], 0),
  (32, .aload_n 0, 1, [], 0),
  (33, .getfield 25, 3, [8, 4, 1, 277], 0),
  (36, .putfield 22, 3, [8, 3, 1, 276, 0], 0),
  (39, .aload_n 0, 1, [], 0),
  (40, .aload_n 0, 1, [], 0),
  (41, .getfield 28, 3, [8, 5, 1, 278], 0),
  (44, .putfield 25, 3, [8, 4, 1, 277, 0], 0),
  (47, .aload_n 0, 1, [], 0),
  (48, .aload_n 1, 1, [], 0),
  (49, .putfield 28, 3, [8, 5, 1, 278, 0], 0),
  (52, .aload_n 0, 1, [], 0),
  (53, .dup, 1, [], 0),
  (54, .getfield 31, 3, [8, 6, 0, 279], 0),
  (57, .iconst 1, 1, [], 0),
  (58, .isub, 1, [], 0),
  (59, .putfield 31, 3, [8, 6, 0, 279, 0], 0),
  (62, .aload_n 0, 1, [], 0),
  (63, .getfield 31, 3, [8, 6, 0, 279], 0),
  (66, .ireturn, 1, [], 0)]
/-- X9_adds -/
def q_p27 : List q_R := [(0, .aload_n 0, 1, [], 0),
  (1, .getfield 7, 3, [9, 0, 1, 718], 0),
  (4, .bipush 11, 2, [], 0),
  (6, .bipush 8, 2, [], 0),
  (8, .iload_n 1, 1, [], 0),
  (9, .imul, 1, [], 0),
  (10, .iadd, 1, [], 0),
  (11, .iload_n 2, 1, [], 0),
  (12, .iadd, 1, [], 0),
  (13, .dup2, 1, [], 0),
  (14, .iaload, 1, [], 0),
  (15, .iload_n 3, 1, [], 0),
  (16, .iadd, 1, [], 0),
  (17, .iastore, 1, [], 0),
  (18, .return_, 1, [], 0)]
/-- X9_cards -/
def q_p28 : List q_R := [(0, .aload_n 0, 1, [], 0),
  (1, .getfield 7, 3, [9, 0, 1, 718], 0),
  (4, .bipush 107, 2, [], 0),
  (6, .iconst 3, 1, [], 0),
  (7, .iload_n 1, 1, [], 0),
  (8, .imul, 1, [], 0),
  (9, .iadd, 1, [], 0),
  (10, .iconst 1, 1, [], 0),
  (11, .iadd, 1, [], 0),
  (12, .iaload, 1, [], 0),
  (13, .ireturn, 1, [], 0)]
/-- X9_clearText -/
def q_p29 : List q_R := [(0, .aload_n 0, 1, [], 0),
  (1, .getfield 119, 3, [9, 3, 0, 721], 0),
  (4, .istore_n 1, 1, [], 0),
  (5, .aload_n 0, 1, [], 0),
  (6, .iconst 0, 1, [], 0),
  (7, .putfield 119, 3, [9, 3, 0, 721, 0], 0),
  (10, .iload_n 1, 1, [], 0),
  (11, .ireturn, 1, [], 0)]
/-- X9_copies -/
def q_p30 : List q_R := [(0, .iconst 0, 1, [], 0),
  (1, .istore_n 3, 1, [], 0),
  (2, .iload_n 3, 1, [], 0),
  (3, .sipush 312, 3, [], 0),
  (6, .if_icmp .ge 33, 3, [], 0),
  (9, .aload_n 0, 1, [], 0),
  (10, .getfield 7, 3, [9, 0, 1, 718], 0),
  (13, .sipush 312, 3, [], 0),
  (16, .iload_n 2, 1, [], 0),
  (17, .imul, 1, [], 0),
  (18, .iload_n 3, 1, [], 0),
  (19, .iadd, 1, [], 0),
  (20, .aload_n 0, 1, [], 0),
  (21, .getfield 7, 3, [9, 0, 1, 718], 0),
  (24, .sipush 312, 3, [], 0),
  (27, .iload_n 1, 1, [], 0),
  (28, .imul, 1, [], 0),
  (29, .iload_n 3, 1, [], 0),
  (30, .iadd, 1, [], 0),
  (31, .iaload, 1, [], 0),
  (32, .iastore, 1, [], 0),
  (33, .iinc 3 1, 3, [], 0),
  (36, .goto (-34), 3, [], 0),
  (39, .return_, 1, [], 0)]
/-- X9_held -/
def q_p31 : List q_R := [(0, .aload_n 0, 1, [], 0),
  (1, .getfield 7, 3, [9, 0, 1, 718], 0),
  (4, .bipush 107, 2, [], 0),
  (6, .iconst 3, 1, [], 0),
  (7, .iload_n 1, 1, [], 0),
  (8, .imul, 1, [], 0),
  (9, .iadd, 1, [], 0),
  (10, .iaload, 1, [], 0),
  (11, .ireturn, 1, [], 0)]
/-- X9_in -/
def q_p32 : List q_R := [(0, .iload_n 0, 1, [], 0),
  (1, .iload_n 1, 1, [], 0),
  (2, .if_icmp .lt 12, 3, [], 0),
  (5, .iload_n 0, 1, [], 0),
  (6, .iload_n 2, 1, [], 0),
  (7, .if_icmp .gt 7, 3, [], 0),
  (10, .iconst 1, 1, [], 0),
  (11, .goto 4, 3, [], 0),
  (14, .iconst 0, 1, [], 0),
  (15, .ireturn, 1, [], 0)]
/-- X9_isBeside -/
def q_p33 : List q_R := [(0, .iload_n 0, 1, [], 0),
  (1, .iload_n 1, 1, [], 0),
  (2, .if_icmp .le 9, 3, [], 0),
  (5, .iload_n 0, 1, [], 0),
  (6, .iload_n 1, 1, [], 0),
  (7, .isub, 1, [], 0),
  (8, .goto 6, 3, [], 0),
  (11, .iload_n 1, 1, [], 0),
  (12, .iload_n 0, 1, [], 0),
  (13, .isub, 1, [], 0),
  (14, .istore_n 2, 1, [], 0),
  (15, .iload_n 2, 1, [], 0),
  (16, .iconst 5, 1, [], 0),
  (17, .if_icmp .eq 17, 3, [], 0),
  (20, .iload_n 2, 1, [], 0),
  (21, .iconst 1, 1, [], 0),
  (22, .if_icmp .ne 16, 3, [], 0),
  (25, .iload_n 0, 1, [], 0),
  (26, .iconst 5, 1, [], 0),
  (27, .idiv, 1, [], 0),
  (28, .iload_n 1, 1, [], 0),
  (29, .iconst 5, 1, [], 0),
  (30, .idiv, 1, [], 0),
  (31, .if_icmp .ne 7, 3, [], 0),
  (34, .iconst 1, 1, [], 0),
  (35, .goto 4, 3, [], 0),
  (38, .iconst 0, 1, [], 0),
  (39, .ireturn, 1, [], 0)]
/-- X9_of -/
def q_p34 : List q_R := [(0, .aload_n 0, 1, [], 0),
  (1, .getfield 7, 3, [9, 0, 1, 718], 0),
  (4, .bipush 11, 2, [], 0),
  (6, .bipush 8, 2, [], 0),
  (8, .iload_n 1, 1, [], 0),
  (9, .imul, 1, [], 0),
  (10, .iadd, 1, [], 0),
  (11, .iload_n 2, 1, [], 0),
  (12, .iadd, 1, [], 0),
  (13, .iaload, 1, [], 0),
  (14, .ireturn, 1, [], 0)]
/-- X9_onWay -/
def q_p35 : List q_R := [(0, .iconst 0, 1, [], 0),
  (1, .istore_n 2, 1, [], 0),
  (2, .iconst 0, 1, [], 0),
  (3, .istore_n 3, 1, [], 0),
  (4, .iload_n 3, 1, [], 0),
  (5, .aload_n 0, 1, [], 0),
  (6, .getfield 7, 3, [9, 0, 1, 718], 0),
  (9, .sipush 137, 3, [], 0),
  (12, .iaload, 1, [], 0),
  (13, .if_icmp .ge 46, 3, [], 0),
  (16, .iload_n 2, 1, [], 0),
  (17, .aload_n 0, 1, [], 0),
  (18, .getfield 7, 3, [9, 0, 1, 718], 0),
  (21, .sipush 138, 3, [], 0),
  (24, .iconst 3, 1, [], 0),
  (25, .iload_n 3, 1, [], 0),
  (26, .imul, 1, [], 0),
  (27, .iadd, 1, [], 0),
  (28, .iaload, 1, [], 0),
  (29, .iload_n 1, 1, [], 0),
  (30, .if_icmp .ne 20, 3, [], 0),
  (33, .aload_n 0, 1, [], 0),
  (34, .getfield 7, 3, [9, 0, 1, 718], 0),
  (37, .sipush 138, 3, [], 0),
  (40, .iconst 3, 1, [], 0),
  (41, .iload_n 3, 1, [], 0),
  (42, .imul, 1, [], 0),
  (43, .iadd, 1, [], 0),
  (44, .iconst 1, 1, [], 0),
  (45, .iadd, 1, [], 0),
  (46, .iaload, 1, [], 0),
  (47, .goto 4, 3, [], 0),
  (50, .iconst 0, 1, [], 0),
  (51, .iadd, 1, [], 0),
  (52, .istore_n 2, 1, [], 0),
  (53, .iinc 3 1, 3, [], 0),
  (56, .goto (-52), 3, [], 0),
  (59, .iload_n 2, 1, [], 0),
  (60, .ireturn, 1, [], 0)]
/-- X9_pair -/
def q_p36 : List q_R := [(0, .sipush 162, 3, [], 0),
  (3, .iload_n 0, 1, [], 0),
  (4, .iload_n 1, 1, [], 0),
  (5, .if_icmp .ge 12, 3, [], 0),
  (8, .bipush 12, 2, [], 0),
  (10, .iload_n 0, 1, [], 0),
  (11, .imul, 1, [], 0),
  (12, .iload_n 1, 1, [], 0),
  (13, .iadd, 1, [], 0),
  (14, .goto 9, 3, [], 0),
  (17, .bipush 12, 2, [], 0),
  (19, .iload_n 1, 1, [], 0),
  (20, .imul, 1, [], 0),
  (21, .iload_n 0, 1, [], 0),
  (22, .iadd, 1, [], 0),
  (23, .iadd, 1, [], 0),
  (24, .ireturn, 1, [], 0)]
/-- X9_pairs -/
def q_p37 : List q_R := [(0, .iconst 0, 1, [], 0),
  (1, .istore_n 1, 1, [], 0),
  (2, .iconst 0, 1, [], 0),
  (3, .istore_n 2, 1, [], 0),
  (4, .iload_n 2, 1, [], 0),
  (5, .sipush 144, 3, [], 0),
  (8, .if_icmp .ge 30, 3, [], 0),
  (11, .iload_n 1, 1, [], 0),
  (12, .aload_n 0, 1, [], 0),
  (13, .getfield 7, 3, [9, 0, 1, 718], 0),
  (16, .sipush 162, 3, [], 0),
  (19, .iload_n 2, 1, [], 0),
  (20, .iadd, 1, [], 0),
  (21, .iaload, 1, [], 0),
  (22, .ifCond .le 7, 3, [], 0),
  (25, .iconst 1, 1, [], 0),
  (26, .goto 4, 3, [], 0),
  (29, .iconst 0, 1, [], 0),
  (30, .iadd, 1, [], 0),
  (31, .istore_n 1, 1, [], 0),
  (32, .iinc 2 1, 3, [], 0),
  (35, .goto (-31), 3, [], 0),
  (38, .iload_n 1, 1, [], 0),
  (39, .ireturn, 1, [], 0)]
/-- X9_sign -/
def q_p38 : List q_R := [(0, .aload_n 0, 1, [], 0),
  (1, .getfield 122, 3, [9, 6, 0, 724], 0),
  (4, .aload_n 0, 1, [], 0),
  (5, .getfield 119, 3, [9, 3, 0, 721], 0),
  (8, .if_icmp .ge 15, 3, [], 0),
  (11, .aload_n 0, 1, [], 0),
  (12, .getfield 13, 3, [9, 2, 1, 720], 0),
  (15, .aload_n 0, 1, [], 0),
  (16, .getfield 122, 3, [9, 6, 0, 724], 0),
  (19, .caload, 1, [], 0),
  (20, .goto 4, 3, [], 0),
  (23, .iconst 0, 1, [], 0),
  (24, .ireturn, 1, [], 0)]
/-- Jxf58ca_floatToIntBits_5c35a -/
def q_p39 : List q_R := [(0, .fload_n 0, 1, [], 0),
  (1, .invokestatic 59, 3, [3, 1, 2, 915, 916, 0, 46], 0),
  (4, .ifCond .ne 8, 3, [], 0),
  (7, .fload_n 0, 1, [], 0),
  (8, .invokestatic 74, 3, [0, 1, 8, 918, 920, 919, 46], 0),
  (11, .ireturn, 1, [], 0),
  (12, .ldc 77, 2, [0, 921], 2143289344),
  (14, .ireturn, 1, [], 0)]
/-- X0_init -/
def q_p40 : List q_R := [(0, .aload_n 0, 1, [], 0),
  (1, .invokespecial 3, 3, [0, 0, 6, 66, 53, 54], 0),
  (4, .aload_n 0, 1, [], 0),
  (5, .iconst 0, 1, [], 0),
  (6, .putfield 9, 3, [0, 0, 0, 67, 0], 0),
  (9, .aload_n 0, 1, [], 0),
  (10, .iconst 5, 1, [], 0),
  (11, .newarray .int, 2, [81], 0),
  (13, .putfield 15, 3, [0, 1, 1, 70, 1], 0),
  (16, .aload_n 0, 1, [], 0),
  (17, .iconst 5, 1, [], 0),
  (18, .newarray .int, 2, [81], 0),
  (20, .putfield 19, 3, [0, 2, 1, 72, 1], 0),
  (23, .iconst 0, 1, [], 0),
  (24, .istore_n 1, 1, [], 0),
  (25, .iload_n 1, 1, [], 0),
  (26, .iconst 5, 1, [], 0),
  (27, .if_icmp .ge 18, 3, [], 0),
  (30, .aload_n 0, 1, [], 0),
  (31, .getfield 19, 3, [0, 2, 1, 72], 0),
  (34, .iload_n 1, 1, [], 0),
  (35, .sipush 359, 3, [], 0),
  (38, .iastore, 1, [], 0),
  (39, .iinc 1 1, 3, [], 0),
  (42, .goto (-17), 3, [], 0),
  (45, .return_, 1, [], 0)]
/-- X0_isInSeason -/
def q_p41 : List q_R := [(0, .aload_n 0, 1, [], 0),
  (1, .invokevirtual 26, 3, [4, 0, 0, 379, 380, 381, 36, 0], 0),
  (4, .aload_n 0, 1, [], 0),
  (5, .getfield 15, 3, [0, 1, 1, 70], 0),
  (8, .iload_n 1, 1, [], 0),
  (9, .iaload, 1, [], 0),
  (10, .if_icmp .lt 7, 3, [], 0),
  (13, .iconst 1, 1, [], 0),
  (14, .goto 4, 3, [], 0),
  (17, .iconst 0, 1, [], 0),
  (18, .istore_n 2, 1, [], 0),
  (19, .aload_n 0, 1, [], 0),
  (20, .invokevirtual 26, 3, [4, 0, 0, 379, 380, 381, 36, 0], 0),
  (23, .aload_n 0, 1, [], 0),
  (24, .getfield 19, 3, [0, 2, 1, 72], 0),
  (27, .iload_n 1, 1, [], 0),
  (28, .iaload, 1, [], 0),
  (29, .if_icmp .gt 7, 3, [], 0),
  (32, .iconst 1, 1, [], 0),
  (33, .goto 4, 3, [], 0),
  (36, .iconst 0, 1, [], 0),
  (37, .istore_n 3, 1, [], 0),
  (38, .aload_n 0, 1, [], 0),
  (39, .getfield 15, 3, [0, 1, 1, 70], 0),
  (42, .iload_n 1, 1, [], 0),
  (43, .iaload, 1, [], 0),
  (44, .aload_n 0, 1, [], 0),
  (45, .getfield 19, 3, [0, 2, 1, 72], 0),
  (48, .iload_n 1, 1, [], 0),
  (49, .iaload, 1, [], 0),
  (50, .if_icmp .gt 7, 3, [], 0),
  (53, .iconst 1, 1, [], 0),
  (54, .goto 4, 3, [], 0),
  (57, .iconst 0, 1, [], 0),
  (58, .istore 4, 2, [], 0),
  (60, .iload 4, 2, [], 0),
  (62, .ifCond .eq 19, 3, [], 0),
  (65, .iload_n 2, 1, [], 0),
  (66, .ifCond .eq 11, 3, [], 0),
  (69, .iload_n 3, 1, [], 0),
  (70, .ifCond .eq 7, 3, [], 0),
  (73, .iconst 1, 1, [], 0),
  (74, .goto 20, 3, [], 0),
  (77, .iconst 0, 1, [], 0),
  (78, .goto 16, 3, [], 0),
  (81, .iload_n 2, 1, [], 0),
  (82, .ifCond .ne 7, 3, [], 0),
  (85, .iload_n 3, 1, [], 0),
  (86, .ifCond .eq 7, 3, [], 0),
  (89, .iconst 1, 1, [], 0),
  (90, .goto 4, 3, [], 0),
  (93, .iconst 0, 1, [], 0),
  (94, .ireturn, 1, [], 0)]
/-- X1_add -/
def q_p42 : List q_R := [(0, .aload_n 0, 1, [], 0),
  (1, .invokevirtual 29, 3, [7, 0, 0, 411, 396, 397, 40, 1], 0),
  (4, .ifCond .eq 4, 3, [], 0),
  (7, .return_, 1, [], 0),
  (8, .aload_n 0, 1, [], 0),
  (9, .getfield 9, 3, [1, 0, 0, 167], 0),
  (12, .istore 4, 2, [], 0),
  (14, .iload 4, 2, [], 0),
  (16, .ifCond .le 32, 3, [], 0),
  (19, .aload_n 0, 1, [], 0),
  (20, .getfield 22, 3, [1, 3, 1, 174], 0),
  (23, .iload 4, 2, [], 0),
  (25, .iconst 1, 1, [], 0),
  (26, .isub, 1, [], 0),
  (27, .iaload, 1, [], 0),
  (28, .iload_n 3, 1, [], 0),
  (29, .if_icmp .le 19, 3, [], 0),
  (32, .aload_n 0, 1, [], 0),
  (33, .iload 4, 2, [], 0),
  (35, .iconst 1, 1, [], 0),
  (36, .isub, 1, [], 0),
  (37, .iload 4, 2, [], 0),
  (39, .invokevirtual 33, 3, [8, 2, 0, 412, 414, 3, 40, 1], 0),
  (42, .iinc 4 (-1), 3, [], 0),
  (45, .goto (-31), 3, [], 0),
  (48, .aload_n 0, 1, [], 0),
  (49, .getfield 15, 3, [1, 1, 1, 170], 0),
  (52, .iload 4, 2, [], 0),
  (54, .iload_n 1, 1, [], 0),
  (55, .iastore, 1, [], 0),
  (56, .aload_n 0, 1, [], 0),
  (57, .getfield 19, 3, [1, 2, 1, 172], 0),
  (60, .iload 4, 2, [], 0),
  (62, .iload_n 2, 1, [], 0),
  (63, .iastore, 1, [], 0),
  (64, .aload_n 0, 1, [], 0),
  (65, .getfield 22, 3, [1, 3, 1, 174], 0),
  (68, .iload 4, 2, [], 0),
  (70, .iload_n 3, 1, [], 0),
  (71, .iastore, 1, [], 0),
  (72, .aload_n 0, 1, [], 0),
  (73, .dup, 1, [], 0),
  (74, .getfield 9, 3, [1, 0, 0, 167], 0),
  (77, .iconst 1, 1, [], 0),
  (78, .iadd, 1, [], 0),
  (79, .putfield 9, 3, [1, 0, 0, 167, 0], 0),
  (82, .return_, 1, [], 0)]
/-- X1_init -/
def q_p43 : List q_R := [(0, .aload_n 0, 1, [], 0),
  (1, .invokespecial 3, 3, [0, 0, 6, 166, 53, 54], 0),
  (4, .aload_n 0, 1, [], 0),
  (5, .iconst 0, 1, [], 0),
  (6, .putfield 9, 3, [1, 0, 0, 167, 0], 0),
  (9, .aload_n 0, 1, [], 0),
  (10, .bipush 8, 2, [], 0),
  (12, .newarray .int, 2, [81], 0),
  (14, .putfield 15, 3, [1, 1, 1, 170, 1], 0),
  (17, .aload_n 0, 1, [], 0),
  (18, .bipush 8, 2, [], 0),
  (20, .newarray .int, 2, [81], 0),
  (22, .putfield 19, 3, [1, 2, 1, 172, 1], 0),
  (25, .aload_n 0, 1, [], 0),
  (26, .bipush 8, 2, [], 0),
  (28, .newarray .int, 2, [81], 0),
  (30, .putfield 22, 3, [1, 3, 1, 174, 1], 0),
  (33, .return_, 1, [], 0)]
/-- X1_removeFirst -/
def q_p44 : List q_R := [(0, .iconst 1, 1, [], 0),
  (1, .istore_n 1, 1, [], 0),
  (2, .iload_n 1, 1, [], 0),
  (3, .aload_n 0, 1, [], 0),
  (4, .getfield 9, 3, [1, 0, 0, 167], 0),
  (7, .if_icmp .ge 17, 3, [], 0),
  (10, .aload_n 0, 1, [], 0),
  (11, .iload_n 1, 1, [], 0),
  (12, .iload_n 1, 1, [], 0),
  (13, .iconst 1, 1, [], 0),
  (14, .isub, 1, [], 0),
  (15, .invokevirtual 33, 3, [8, 2, 0, 412, 414, 3, 40, 1], 0),
  (18, .iinc 1 1, 3, [], 0),
  (21, .goto (-19), 3, [], 0),
  (24, .aload_n 0, 1, [], 0),
  (25, .iconst 0, 1, [], 0),
  (26, .aload_n 0, 1, [], 0),
  (27, .getfield 9, 3, [1, 0, 0, 167], 0),
  (30, .iconst 1, 1, [], 0),
  (31, .isub, 1, [], 0),
  (32, .invokestatic 37, 3, [1, 2, 2, 522, 523, 0, 44], 0),
  (35, .putfield 9, 3, [1, 0, 0, 167, 0], 0),
  (38, .return_, 1, [], 0)]
/-- X2_init -/
def q_p45 : List q_R := [(0, .aload_n 0, 1, [], 0),
  (1, .invokespecial 3, 3, [0, 0, 6, 135, 53, 54], 0),
  (4, .aload_n 0, 1, [], 0),
  (5, .sipush 144, 3, [], 0),
  (8, .newarray .int, 2, [81], 0),
  (10, .putfield 9, 3, [2, 0, 1, 136, 1], 0),
  (13, .return_, 1, [], 0)]
/-- X2_mostWith -/
def q_p46 : List q_R := [(0, .iconst (-1), 1, [], 0),
  (1, .istore_n 2, 1, [], 0),
  (2, .iconst 0, 1, [], 0),
  (3, .istore_n 3, 1, [], 0),
  (4, .iconst 0, 1, [], 0),
  (5, .istore 4, 2, [], 0),
  (7, .iload 4, 2, [], 0),
  (9, .bipush 12, 2, [], 0),
  (11, .if_icmp .ge 37, 3, [], 0),
  (14, .iload 4, 2, [], 0),
  (16, .iload_n 1, 1, [], 0),
  (17, .if_icmp .eq 25, 3, [], 0),
  (20, .aload_n 0, 1, [], 0),
  (21, .iload_n 1, 1, [], 0),
  (22, .iload 4, 2, [], 0),
  (24, .invokevirtual 19, 3, [10, 2, 0, 627, 593, 594, 38, 2], 0),
  (27, .iload_n 3, 1, [], 0),
  (28, .if_icmp .le 14, 3, [], 0),
  (31, .iload 4, 2, [], 0),
  (33, .istore_n 2, 1, [], 0),
  (34, .aload_n 0, 1, [], 0),
  (35, .iload_n 1, 1, [], 0),
  (36, .iload 4, 2, [], 0),
  (38, .invokevirtual 19, 3, [10, 2, 0, 627, 593, 594, 38, 2], 0),
  (41, .istore_n 3, 1, [], 0),
  (42, .iinc 4 1, 3, [], 0),
  (45, .goto (-38), 3, [], 0),
  (48, .iload_n 2, 1, [], 0),
  (49, .ireturn, 1, [], 0)]
/-- X2_unlike -/
def q_p47 : List q_R := [(0, .iconst 0, 1, [], 0),
  (1, .istore_n 1, 1, [], 0),
  (2, .iconst 0, 1, [], 0),
  (3, .istore_n 2, 1, [], 0),
  (4, .iload_n 2, 1, [], 0),
  (5, .bipush 12, 2, [], 0),
  (7, .if_icmp .ge 35, 3, [], 0),
  (10, .iload_n 2, 1, [], 0),
  (11, .istore_n 3, 1, [], 0),
  (12, .iload_n 3, 1, [], 0),
  (13, .bipush 12, 2, [], 0),
  (15, .if_icmp .ge 21, 3, [], 0),
  (18, .aload_n 0, 1, [], 0),
  (19, .iload_n 2, 1, [], 0),
  (20, .iload_n 3, 1, [], 0),
  (21, .invokevirtual 19, 3, [10, 2, 0, 627, 593, 594, 38, 2], 0),
  (24, .ifCond .le 6, 3, [], 0),
  (27, .iinc 1 1, 3, [], 0),
  (30, .iinc 3 1, 3, [], 0),
  (33, .goto (-21), 3, [], 0),
  (36, .iinc 2 1, 3, [], 0),
  (39, .goto (-35), 3, [], 0),
  (42, .iload_n 1, 1, [], 0),
  (43, .ireturn, 1, [], 0)]
/-- X3_besideThatHold -/
def q_p48 : List q_R := [(0, .iconst 0, 1, [], 0),
  (1, .istore_n 3, 1, [], 0),
  (2, .iconst 0, 1, [], 0),
  (3, .istore 4, 2, [], 0),
  (5, .iload 4, 2, [], 0),
  (7, .bipush 10, 2, [], 0),
  (9, .if_icmp .ge 32, 3, [], 0),
  (12, .iload_n 1, 1, [], 0),
  (13, .iload 4, 2, [], 0),
  (15, .invokestatic 25, 3, [21, 2, 3, 464, 465, 0, 34], 0),
  (18, .ifCond .eq 17, 3, [], 0),
  (21, .aload_n 0, 1, [], 0),
  (22, .getfield 9, 3, [3, 0, 1, 146], 0),
  (25, .iload 4, 2, [], 0),
  (27, .iaload, 1, [], 0),
  (28, .iload_n 2, 1, [], 0),
  (29, .if_icmp .ne 6, 3, [], 0),
  (32, .iinc 3 1, 3, [], 0),
  (35, .iinc 4 1, 3, [], 0),
  (38, .goto (-33), 3, [], 0),
  (41, .iload_n 3, 1, [], 0),
  (42, .ireturn, 1, [], 0)]
/-- X3_init -/
def q_p49 : List q_R := [(0, .aload_n 0, 1, [], 0),
  (1, .invokespecial 3, 3, [0, 0, 6, 145, 53, 54], 0),
  (4, .aload_n 0, 1, [], 0),
  (5, .bipush 10, 2, [], 0),
  (7, .newarray .int, 2, [81], 0),
  (9, .putfield 9, 3, [3, 0, 1, 146, 1], 0),
  (12, .aload_n 0, 1, [], 0),
  (13, .bipush 10, 2, [], 0),
  (15, .newarray .int, 2, [81], 0),
  (17, .putfield 15, 3, [3, 1, 1, 149, 1], 0),
  (20, .aload_n 0, 1, [], 0),
  (21, .bipush 10, 2, [], 0),
  (23, .newarray .int, 2, [81], 0),
  (25, .putfield 18, 3, [3, 2, 1, 152, 1], 0),
  (28, .iconst 0, 1, [], 0),
  (29, .istore_n 1, 1, [], 0),
  (30, .iload_n 1, 1, [], 0),
  (31, .bipush 10, 2, [], 0),
  (33, .if_icmp .ge 16, 3, [], 0),
  (36, .aload_n 0, 1, [], 0),
  (37, .getfield 9, 3, [3, 0, 1, 146], 0),
  (40, .iload_n 1, 1, [], 0),
  (41, .iconst (-1), 1, [], 0),
  (42, .iastore, 1, [], 0),
  (43, .iinc 1 1, 3, [], 0),
  (46, .goto (-16), 3, [], 0),
  (49, .return_, 1, [], 0)]
/-- X4_init -/
def q_p50 : List q_R := [(0, .aload_n 0, 1, [], 0),
  (1, .invokespecial 3, 3, [0, 0, 6, 255, 53, 54], 0),
  (4, .aload_n 0, 1, [], 0),
  (5, .iconst 0, 1, [], 0),
  (6, .putfield 9, 3, [4, 0, 0, 256, 0], 0),
  (9, .aload_n 0, 1, [], 0),
  (10, .iconst 0, 1, [], 0),
  (11, .putfield 15, 3, [4, 1, 0, 258, 0], 0),
  (14, .aload_n 0, 1, [], 0),
  (15, .iconst 0, 1, [], 0),
  (16, .putfield 18, 3, [4, 2, 0, 260, 0], 0),
  (19, .aload_n 0, 1, [], 0),
  (20, .iconst 0, 1, [], 0),
  (21, .putfield 21, 3, [4, 3, 0, 262, 0], 0),
  (24, .return_, 1, [], 0)]
/-- X5_aboutVerse -/
def q_p51 : List q_R := [(0, .iload_n 2, 1, [], 0),
  (1, .tableswitch 139 0 8 #[51, 61, 71, 81, 91, 100, 109, 119, 129], 51, [], 0),
  (52, .aload_n 0, 1, [], 0),
  (53, .getfield 21, 3, [5, 1, 1, 187], 0),
  (56, .getfield 88, 3, [7, 1, 1, 92], 0),
  (59, .iload_n 1, 1, [], 0),
  (60, .iaload, 1, [], 0),
  (61, .ireturn, 1, [], 0),
  (62, .aload_n 0, 1, [], 0),
  (63, .getfield 21, 3, [5, 1, 1, 187], 0),
  (66, .getfield 92, 3, [7, 2, 1, 94], 0),
  (69, .iload_n 1, 1, [], 0),
  (70, .iaload, 1, [], 0),
  (71, .ireturn, 1, [], 0),
  (72, .aload_n 0, 1, [], 0),
  (73, .getfield 21, 3, [5, 1, 1, 187], 0),
  (76, .getfield 95, 3, [7, 3, 1, 96], 0),
  (79, .iload_n 1, 1, [], 0),
  (80, .iaload, 1, [], 0),
  (81, .ireturn, 1, [], 0),
  (82, .aload_n 0, 1, [], 0),
  (83, .getfield 21, 3, [5, 1, 1, 187], 0),
  (86, .getfield 118, 3, [7, 4, 1, 98], 0),
  (89, .iload_n 1, 1, [], 0),
  (90, .iaload, 1, [], 0),
  (91, .ireturn, 1, [], 0),
  (92, .aload_n 0, 1, [], 0),
  (93, .getfield 35, 3, [5, 3, 1, 191], 0),
  (96, .iload_n 1, 1, [], 0),
  (97, .invokevirtual 181, 3, [11, 1, 0, 494, 495, 496, 39, 3], 0),
  (100, .ireturn, 1, [], 0),
  (101, .aload_n 0, 1, [], 0),
  (102, .getfield 42, 3, [5, 4, 1, 193], 0),
  (105, .iload_n 1, 1, [], 0),
  (106, .invokevirtual 128, 3, [5, 1, 0, 403, 404, 405, 40, 1], 0),
  (109, .ireturn, 1, [], 0),
  (110, .aload_n 0, 1, [], 0),
  (111, .getfield 21, 3, [5, 1, 1, 187], 0),
  (114, .getfield 154, 3, [7, 5, 1, 101], 0),
  (117, .iload_n 1, 1, [], 0),
  (118, .iaload, 1, [], 0),
  (119, .ireturn, 1, [], 0),
  (120, .aload_n 0, 1, [], 0),
  (121, .getfield 21, 3, [5, 1, 1, 187], 0),
  (124, .getfield 155, 3, [7, 6, 1, 104], 0),
  (127, .iload_n 1, 1, [], 0),
  (128, .iaload, 1, [], 0),
  (129, .ireturn, 1, [], 0),
  (130, .aload_n 0, 1, [], 0),
  (131, .getfield 21, 3, [5, 1, 1, 187], 0),
  (134, .getfield 148, 3, [7, 7, 1, 106], 0),
  (137, .iload_n 1, 1, [], 0),
  (138, .iaload, 1, [], 0),
  (139, .ireturn, 1, [], 0),
  (140, .aload_n 0, 1, [], 0),
  (141, .getfield 21, 3, [5, 1, 1, 187], 0),
  (144, .getfield 142, 3, [7, 8, 1, 109], 0),
  (147, .iload_n 1, 1, [], 0),
  (148, .iaload, 1, [], 0),
  (149, .ireturn, 1, [], 0)]
/-- X5_cardsInAll -/
def q_p52 : List q_R := [(0, .aload_n 0, 1, [], 0),
  (1, .getfield 35, 3, [5, 3, 1, 191], 0),
  (4, .iload_n 1, 1, [], 0),
  (5, .invokevirtual 181, 3, [11, 1, 0, 494, 495, 496, 39, 3], 0),
  (8, .aload_n 0, 1, [], 0),
  (9, .getfield 21, 3, [5, 1, 1, 187], 0),
  (12, .getfield 118, 3, [7, 4, 1, 98], 0),
  (15, .iload_n 1, 1, [], 0),
  (16, .iaload, 1, [], 0),
  (17, .iadd, 1, [], 0),
  (18, .aload_n 0, 1, [], 0),
  (19, .getfield 42, 3, [5, 4, 1, 193], 0),
  (22, .iload_n 1, 1, [], 0),
  (23, .invokevirtual 128, 3, [5, 1, 0, 403, 404, 405, 40, 1], 0),
  (26, .iadd, 1, [], 0),
  (27, .ireturn, 1, [], 0)]
/-- X5_changeSetting -/
def q_p53 : List q_R := [(0, .iload_n 1, 1, [], 0),
  (1, .ifCond .ne 25, 3, [], 0),
  (4, .iload_n 2, 1, [], 0),
  (5, .iconst 0, 1, [], 0),
  (6, .bipush 30, 2, [], 0),
  (8, .invokestatic 79, 3, [24, 3, 3, 356, 354, 0, 34], 0),
  (11, .ifCond .eq 15, 3, [], 0),
  (14, .aload_n 0, 1, [], 0),
  (15, .getfield 46, 3, [5, 5, 0, 195], 0),
  (18, .istore_n 3, 1, [], 0),
  (19, .aload_n 0, 1, [], 0),
  (20, .iload_n 2, 1, [], 0),
  (21, .putfield 46, 3, [5, 5, 0, 195, 0], 0),
  (24, .iload_n 3, 1, [], 0),
  (25, .ireturn, 1, [], 0),
  (26, .iload_n 1, 1, [], 0),
  (27, .iconst 1, 1, [], 0),
  (28, .if_icmp .ne 25, 3, [], 0),
  (31, .iload_n 2, 1, [], 0),
  (32, .iconst 0, 1, [], 0),
  (33, .bipush 100, 2, [], 0),
  (35, .invokestatic 79, 3, [24, 3, 3, 356, 354, 0, 34], 0),
  (38, .ifCond .eq 15, 3, [], 0),
  (41, .aload_n 0, 1, [], 0),
  (42, .getfield 50, 3, [5, 6, 0, 197], 0),
  (45, .istore_n 3, 1, [], 0),
  (46, .aload_n 0, 1, [], 0),
  (47, .iload_n 2, 1, [], 0),
  (48, .putfield 50, 3, [5, 6, 0, 197, 0], 0),
  (51, .iload_n 3, 1, [], 0),
  (52, .ireturn, 1, [], 0),
  (53, .ldc 83, 2, [0, 357], -1000001),
  (55, .ireturn, 1, [], 0)]
/-- X5_hasOccasion -/
def q_p54 : List q_R := [(0, .aload_n 0, 1, [], 0),
  (1, .getfield 35, 3, [5, 3, 1, 191], 0),
  (4, .getfield 135, 3, [3, 0, 1, 147], 0),
  (7, .iload_n 1, 1, [], 0),
  (8, .iaload, 1, [], 0),
  (9, .istore_n 3, 1, [], 0),
  (10, .aload_n 0, 1, [], 0),
  (11, .getfield 21, 3, [5, 1, 1, 187], 0),
  (14, .iload_n 3, 1, [], 0),
  (15, .invokevirtual 107, 3, [20, 1, 0, 391, 392, 393, 37, 7], 0),
  (18, .ifCond .eq 20, 3, [], 0),
  (21, .aload_n 0, 1, [], 0),
  (22, .getfield 21, 3, [5, 1, 1, 187], 0),
  (25, .getfield 88, 3, [7, 1, 1, 92], 0),
  (28, .iload_n 3, 1, [], 0),
  (29, .iaload, 1, [], 0),
  (30, .iload_n 2, 1, [], 0),
  (31, .if_icmp .ne 7, 3, [], 0),
  (34, .iconst 1, 1, [], 0),
  (35, .goto 4, 3, [], 0),
  (38, .iconst 0, 1, [], 0),
  (39, .ireturn, 1, [], 0)]
/-- X5_hasRoomBehind -/
def q_p55 : List q_R := [(0, .aload_n 0, 1, [], 0),
  (1, .getfield 21, 3, [5, 1, 1, 187], 0),
  (4, .getfield 118, 3, [7, 4, 1, 98], 0),
  (7, .iload_n 1, 1, [], 0),
  (8, .iaload, 1, [], 0),
  (9, .aload_n 0, 1, [], 0),
  (10, .getfield 42, 3, [5, 4, 1, 193], 0),
  (13, .iload_n 1, 1, [], 0),
  (14, .invokevirtual 128, 3, [5, 1, 0, 403, 404, 405, 40, 1], 0),
  (17, .iadd, 1, [], 0),
  (18, .iload_n 2, 1, [], 0),
  (19, .iadd, 1, [], 0),
  (20, .sipush 9999, 3, [], 0),
  (23, .if_icmp .gt 7, 3, [], 0),
  (26, .iconst 1, 1, [], 0),
  (27, .goto 4, 3, [], 0),
  (30, .iconst 0, 1, [], 0),
  (31, .ireturn, 1, [], 0)]
/-- X5_returnCardsOf -/
def q_p56 : List q_R := [(0, .aload_n 0, 1, [], 0),
  (1, .getfield 21, 3, [5, 1, 1, 187], 0),
  (4, .getfield 118, 3, [7, 4, 1, 98], 0),
  (7, .iload_n 1, 1, [], 0),
  (8, .iaload, 1, [], 0),
  (9, .aload_n 0, 1, [], 0),
  (10, .getfield 35, 3, [5, 3, 1, 191], 0),
  (13, .iload_n 1, 1, [], 0),
  (14, .invokevirtual 181, 3, [11, 1, 0, 494, 495, 496, 39, 3], 0),
  (17, .iadd, 1, [], 0),
  (18, .istore_n 2, 1, [], 0),
  (19, .aload_n 0, 1, [], 0),
  (20, .getfield 21, 3, [5, 1, 1, 187], 0),
  (23, .getfield 118, 3, [7, 4, 1, 98], 0),
  (26, .iload_n 1, 1, [], 0),
  (27, .iconst 0, 1, [], 0),
  (28, .iastore, 1, [], 0),
  (29, .aload_n 0, 1, [], 0),
  (30, .getfield 35, 3, [5, 3, 1, 191], 0),
  (33, .iload_n 1, 1, [], 0),
  (34, .invokevirtual 182, 3, [14, 1, 0, 498, 499, 500, 39, 3], 0),
  (37, .aload_n 0, 1, [], 0),
  (38, .dup, 1, [], 0),
  (39, .getfield 56, 3, [5, 8, 0, 201], 0),
  (42, .iload_n 2, 1, [], 0),
  (43, .aload_n 0, 1, [], 0),
  (44, .getfield 21, 3, [5, 1, 1, 187], 0),
  (47, .getfield 95, 3, [7, 3, 1, 96], 0),
  (50, .iload_n 1, 1, [], 0),
  (51, .iaload, 1, [], 0),
  (52, .aload_n 0, 1, [], 0),
  (53, .getfield 50, 3, [5, 6, 0, 197], 0),
  (56, .imul, 1, [], 0),
  (57, .bipush 100, 2, [], 0),
  (59, .idiv, 1, [], 0),
  (60, .imul, 1, [], 0),
  (61, .iadd, 1, [], 0),
  (62, .putfield 56, 3, [5, 8, 0, 201, 0], 0),
  (65, .iload_n 2, 1, [], 0),
  (66, .ireturn, 1, [], 0)]
/-- X5_soldTogetherBeside -/
def q_p57 : List q_R := [(0, .iconst 0, 1, [], 0),
  (1, .istore_n 3, 1, [], 0),
  (2, .iconst 0, 1, [], 0),
  (3, .istore 4, 2, [], 0),
  (5, .iload 4, 2, [], 0),
  (7, .bipush 10, 2, [], 0),
  (9, .if_icmp .ge 59, 3, [], 0),
  (12, .iload_n 1, 1, [], 0),
  (13, .iload 4, 2, [], 0),
  (15, .invokestatic 209, 3, [21, 2, 3, 558, 465, 0, 34], 0),
  (18, .ifCond .eq 44, 3, [], 0),
  (21, .aload_n 0, 1, [], 0),
  (22, .getfield 21, 3, [5, 1, 1, 187], 0),
  (25, .aload_n 0, 1, [], 0),
  (26, .getfield 35, 3, [5, 3, 1, 191], 0),
  (29, .getfield 135, 3, [3, 0, 1, 147], 0),
  (32, .iload 4, 2, [], 0),
  (34, .iaload, 1, [], 0),
  (35, .invokevirtual 107, 3, [20, 1, 0, 391, 392, 393, 37, 7], 0),
  (38, .ifCond .eq 24, 3, [], 0),
  (41, .iload_n 3, 1, [], 0),
  (42, .aload_n 0, 1, [], 0),
  (43, .getfield 28, 3, [5, 2, 1, 189], 0),
  (46, .iload_n 2, 1, [], 0),
  (47, .aload_n 0, 1, [], 0),
  (48, .getfield 35, 3, [5, 3, 1, 191], 0),
  (51, .getfield 135, 3, [3, 0, 1, 147], 0),
  (54, .iload 4, 2, [], 0),
  (56, .iaload, 1, [], 0),
  (57, .invokevirtual 222, 3, [10, 2, 0, 618, 593, 594, 38, 2], 0),
  (60, .iadd, 1, [], 0),
  (61, .istore_n 3, 1, [], 0),
  (62, .iinc 4 1, 3, [], 0),
  (65, .goto (-60), 3, [], 0),
  (68, .iload_n 3, 1, [], 0),
  (69, .ireturn, 1, [], 0)]
/-- X6_init -/
def q_p58 : List q_R := [(0, .aload_n 0, 1, [], 0),
  (1, .invokespecial 3, 3, [0, 0, 6, 227, 53, 54], 0),
  (4, .aload_n 0, 1, [], 0),
  (5, .bipush 60, 2, [], 0),
  (7, .newarray .char, 2, [249], 0),
  (9, .putfield 9, 3, [6, 0, 1, 228, 1], 0),
  (12, .aload_n 0, 1, [], 0),
  (13, .iconst 0, 1, [], 0),
  (14, .putfield 15, 3, [6, 1, 0, 229, 0], 0),
  (17, .aload_n 0, 1, [], 0),
  (18, .iconst 3, 1, [], 0),
  (19, .newarray .int, 2, [81], 0),
  (21, .putfield 19, 3, [6, 2, 1, 232, 1], 0),
  (24, .aload_n 0, 1, [], 0),
  (25, .iconst 0, 1, [], 0),
  (26, .putfield 23, 3, [6, 3, 2, 234, 0], 0),
  (29, .aload_n 0, 1, [], 0),
  (30, .iconst 0, 1, [], 0),
  (31, .putfield 27, 3, [6, 4, 0, 236, 0], 0),
  (34, .return_, 1, [], 0)]
/-- X6_readNumber -/
def q_p59 : List q_R := [(0, .iconst 0, 1, [], 0),
  (1, .istore_n 2, 1, [], 0),
  (2, .iconst 0, 1, [], 0),
  (3, .istore_n 3, 1, [], 0),
  (4, .iload_n 3, 1, [], 0),
  (5, .iconst 3, 1, [], 0),
  (6, .if_icmp .ge 54, 3, [], 0),
  (9, .aload_n 0, 1, [], 0),
  (10, .aload_n 0, 1, [], 0),
  (11, .getfield 27, 3, [6, 4, 0, 236], 0),
  (14, .invokevirtual 30, 3, [19, 1, 0, 683, 684, 685, 41, 6], 0),
  (17, .bipush 48, 2, [], 0),
  (19, .bipush 57, 2, [], 0),
  (21, .invokestatic 42, 3, [24, 3, 3, 694, 354, 0, 34], 0),
  (24, .ifCond .eq 36, 3, [], 0),
  (27, .iload_n 2, 1, [], 0),
  (28, .bipush 10, 2, [], 0),
  (30, .imul, 1, [], 0),
  (31, .aload_n 0, 1, [], 0),
  (32, .aload_n 0, 1, [], 0),
  (33, .getfield 27, 3, [6, 4, 0, 236], 0),
  (36, .invokevirtual 30, 3, [19, 1, 0, 683, 684, 685, 41, 6], 0),
  (39, .bipush 48, 2, [], 0),
  (41, .isub, 1, [], 0),
  (42, .iadd, 1, [], 0),
  (43, .istore_n 2, 1, [], 0),
  (44, .iinc 3 1, 3, [], 0),
  (47, .aload_n 0, 1, [], 0),
  (48, .dup, 1, [], 0),
  (49, .getfield 27, 3, [6, 4, 0, 236], 0),
  (52, .iconst 1, 1, [], 0),
  (53, .iadd, 1, [], 0),
  (54, .putfield 27, 3, [6, 4, 0, 236, 0], 0),
  (57, .goto (-53), 3, [], 0),
  (60, .iload_n 1, 1, [], 0),
  (61, .ifCond .lt 15, 3, [], 0),
  (64, .iload_n 1, 1, [], 0),
  (65, .iconst 3, 1, [], 0),
  (66, .if_icmp .ge 10, 3, [], 0),
  (69, .aload_n 0, 1, [], 0),
  (70, .getfield 19, 3, [6, 2, 1, 232], 0),
  (73, .iload_n 1, 1, [], 0),
  (74, .iload_n 2, 1, [], 0),
  (75, .iastore, 1, [], 0),
  (76, .iload_n 3, 1, [], 0),
  (77, .ifCond .le 7, 3, [], 0),
  (80, .iconst 1, 1, [], 0),
  (81, .goto 4, 3, [], 0),
  (84, .iconst 0, 1, [], 0),
  (85, .ireturn, 1, [], 0)]
/-- X7_init -/
def q_p60 : List q_R := [(0, .aload_n 0, 1, [], 0),
  (1, .invokespecial 3, 3, [0, 0, 6, 87, 53, 54], 0),
  (4, .aload_n 0, 1, [], 0),
  (5, .iconst 0, 1, [], 0),
  (6, .putfield 9, 3, [7, 0, 0, 88, 0], 0),
  (9, .aload_n 0, 1, [], 0),
  (10, .bipush 12, 2, [], 0),
  (12, .newarray .int, 2, [81], 0),
  (14, .putfield 15, 3, [7, 1, 1, 91, 1], 0),
  (17, .aload_n 0, 1, [], 0),
  (18, .bipush 12, 2, [], 0),
  (20, .newarray .int, 2, [81], 0),
  (22, .putfield 19, 3, [7, 2, 1, 93, 1], 0),
  (25, .aload_n 0, 1, [], 0),
  (26, .bipush 12, 2, [], 0),
  (28, .newarray .int, 2, [81], 0),
  (30, .putfield 22, 3, [7, 3, 1, 95, 1], 0),
  (33, .aload_n 0, 1, [], 0),
  (34, .bipush 12, 2, [], 0),
  (36, .newarray .int, 2, [81], 0),
  (38, .putfield 25, 3, [7, 4, 1, 97, 1], 0),
  (41, .aload_n 0, 1, [], 0),
  (42, .bipush 12, 2, [], 0),
  (44, .newarray .int, 2, [81], 0),
  (46, .putfield 28, 3, [7, 5, 1, 100, 1], 0),
  (49, .aload_n 0, 1, [], 0),
  (50, .bipush 12, 2, [], 0),
  (52, .newarray .int, 2, [81], 0),
  (54, .putfield 31, 3, [7, 6, 1, 103, 1], 0),
  (57, .aload_n 0, 1, [], 0),
  (58, .bipush 12, 2, [], 0),
  (60, .newarray .int, 2, [81], 0),
  (62, .putfield 34, 3, [7, 7, 1, 105, 1], 0),
  (65, .aload_n 0, 1, [], 0),
  (66, .bipush 12, 2, [], 0),
  (68, .newarray .int, 2, [81], 0),
  (70, .putfield 37, 3, [7, 8, 1, 108, 1], 0),
  (73, .return_, 1, [], 0)]
/-- X8_copyRow -/
def q_p61 : List q_R := [(0, .aload_n 0, 1, [], 0),
  (1, .iconst 0, 1, [], 0),
  (2, .aload_n 1, 1, [], 0),
  (3, .iconst 0, 1, [], 0),
  (4, .aload_n 0, 1, [], 0),
  (5, .arraylength, 1, [], 0),
  (6, .aload_n 1, 1, [], 0),
  (7, .arraylength, 1, [], 0),
  (8, .invokestatic 250, 3, [2, 2, 2, 320, 321, 0, 44], 0),
  (11, .invokestatic 256, 3, [0, 5, 7, 323, 325, 324, 45], 0),
  (14, .return_, 1, [], 0)]
/-- X8_isOccasion -/
def q_p62 : List q_R := [(0, .iload_n 0, 1, [], 0),
  (1, .iconst 0, 1, [], 0),
  (2, .iconst 4, 1, [], 0),
  (3, .invokestatic 100, 3, [24, 3, 2, 353, 354, 0, 34], 0),
  (6, .ireturn, 1, [], 0)]
/-- X8_isSlot -/
def q_p63 : List q_R := [(0, .iload_n 0, 1, [], 0),
  (1, .iconst 0, 1, [], 0),
  (2, .bipush 9, 2, [], 0),
  (4, .invokestatic 100, 3, [24, 3, 2, 353, 354, 0, 34], 0),
  (7, .ireturn, 1, [], 0)]
/-- X8_keepTrial -/
def q_p64 : List q_R := [(0, .aload_n 0, 1, [], 0),
  (1, .getfield 28, 3, [8, 5, 1, 278], 0),
  (4, .astore_n 1, 1, [], 0),
  (5, .aload_n 0, 1, [], 0),
  (6, .aload_n 0, 1, [], 0),
  (7, .getfield 25, 3, [8, 4, 1, 277], 0),
  (10, .putfield 28, 3, [8, 5, 1, 278, 0], 0),
  (13, .aload_n 0, 1, [], 0),
  (14, .aload_n 0, 1, [], 0),
  (15, .getfield 22, 3, [8, 3, 1, 276], 0),
  (18, .putfield 25, 3, [8, 4, 1, 277, 0], 0),
  (21, .aload_n 0, 1, [], 0),
  (22, .aload_n 0, 1, [], 0),
  (23, .getfield 19, 3, [8, 2, 1, 275], 0),
  (26, .putfield 22, 3, [8, 3, 1, 276, 0], 0),
  (29, .aload_n 0, 1, [], 0),
  (30, .aload_n 0, 1, [], 0),
  (31, .getfield 10, 3, [8, 0, 1, 273], 0),
  (34, .putfield 19, 3, [8, 2, 1, 275, 0], 0),
  (37, .aload_n 0, 1, [], 0),
  (38, .aload_n 0, 1, [], 0),
  (39, .getfield 16, 3, [8, 1, 1, 274], 0),
  (42, .putfield 10, 3, [8, 0, 1, 273, 0], 0),
  (45, .aload_n 0, 1, [], 0),
  (46, .aload_n 1, 1, [], 0),
  (47, .putfield 16, 3, [8, 1, 1, 274, 0], 0),
  (50, .aload_n 0, 1, [], 0),
  (51, .aload_n 0, 1, [], 0),
  (52, .getfield 31, 3, [8, 6, 0, 279], 0),
  (55, .iconst 1, 1, [], 0),
  (56, .iadd, 1, [], 0),
  (57, .iconst 4, 1, [], 0),
  (58, .invokestatic 250, 3, [2, 2, 2, 320, 321, 0, 44], 0),
  (61, .putfield 31, 3, [8, 6, 0, 279, 0], 0),
  (64, .return_, 1, [], 0)]
/-- X8_orderOf -/
def q_p65 : List q_R := [(0, .iload_n 1, 1, [], 0),
  (1, .ifCond .lt 12, 3, [], 0),
  (4, .iload_n 2, 1, [], 0),
  (5, .iconst 0, 1, [], 0),
  (6, .iconst 2, 1, [], 0),
  (7, .invokestatic 100, 3, [24, 3, 2, 353, 354, 0, 34], 0),
  (10, .ifCond .ne 6, 3, [], 0),
  (13, .ldc 104, 2, [0, 538], -1000001),
  (15, .ireturn, 1, [], 0),
  (16, .aload_n 0, 1, [], 0),
  (17, .getfield 10, 3, [8, 0, 1, 273], 0),
  (20, .iload_n 1, 1, [], 0),
  (21, .iload_n 2, 1, [], 0),
  (22, .invokevirtual 114, 3, [16, 2, 0, 563, 564, 565, 35, 5], 0),
  (25, .ireturn, 1, [], 0)]
/-- X8_together -/
def q_p66 : List q_R := [(0, .aload_n 0, 1, [], 0),
  (1, .getfield 10, 3, [8, 0, 1, 273], 0),
  (4, .getfield 90, 3, [5, 1, 1, 188], 0),
  (7, .iload_n 1, 1, [], 0),
  (8, .invokevirtual 94, 3, [20, 1, 0, 537, 392, 393, 37, 7], 0),
  (11, .ifCond .eq 17, 3, [], 0),
  (14, .aload_n 0, 1, [], 0),
  (15, .getfield 10, 3, [8, 0, 1, 273], 0),
  (18, .getfield 90, 3, [5, 1, 1, 188], 0),
  (21, .iload_n 2, 1, [], 0),
  (22, .invokevirtual 94, 3, [20, 1, 0, 537, 392, 393, 37, 7], 0),
  (25, .ifCond .ne 6, 3, [], 0),
  (28, .ldc 104, 2, [0, 538], -1000001),
  (30, .ireturn, 1, [], 0),
  (31, .aload_n 0, 1, [], 0),
  (32, .getfield 10, 3, [8, 0, 1, 273], 0),
  (35, .getfield 129, 3, [5, 2, 1, 190], 0),
  (38, .iload_n 1, 1, [], 0),
  (39, .iload_n 2, 1, [], 0),
  (40, .invokevirtual 133, 3, [10, 2, 0, 592, 593, 594, 38, 2], 0),
  (43, .ireturn, 1, [], 0)]
/-- X8_type -/
def q_p67 : List q_R := [(0, .iload_n 1, 1, [], 0),
  (1, .bipush 32, 2, [], 0),
  (3, .bipush 126, 2, [], 0),
  (5, .invokestatic 100, 3, [24, 3, 2, 353, 354, 0, 34], 0),
  (8, .ifCond .ne 6, 3, [], 0),
  (11, .ldc 104, 2, [0, 538], -1000001),
  (13, .ireturn, 1, [], 0),
  (14, .aload_n 0, 1, [], 0),
  (15, .getfield 38, 3, [8, 7, 1, 280], 0),
  (18, .iload_n 1, 1, [], 0),
  (19, .i2c, 1, [], 0),
  (20, .invokevirtual 222, 3, [17, 1, 0, 662, 663, 664, 41, 6], 0),
  (23, .ifCond .eq 13, 3, [], 0),
  (26, .aload_n 0, 1, [], 0),
  (27, .getfield 38, 3, [8, 7, 1, 280], 0),
  (30, .getfield 212, 3, [6, 1, 0, 231], 0),
  (33, .goto 5, 3, [], 0),
  (36, .ldc 226, 2, [0, 666], -1000003),
  (38, .ireturn, 1, [], 0)]
/-- X9_acted -/
def q_p68 : List q_R := [(0, .iload_n 1, 1, [], 0),
  (1, .ldc 24, 2, [0, 762], -1000001),
  (3, .if_icmp .le 56, 3, [], 0),
  (6, .aload_n 0, 1, [], 0),
  (7, .getfield 25, 3, [9, 1, 0, 719], 0),
  (10, .iconst 4, 1, [], 0),
  (11, .if_icmp .ne 29, 3, [], 0),
  (14, .iconst 1, 1, [], 0),
  (15, .istore_n 2, 1, [], 0),
  (16, .iload_n 2, 1, [], 0),
  (17, .iconst 4, 1, [], 0),
  (18, .if_icmp .ge 17, 3, [], 0),
  (21, .aload_n 0, 1, [], 0),
  (22, .iload_n 2, 1, [], 0),
  (23, .iconst 1, 1, [], 0),
  (24, .iadd, 1, [], 0),
  (25, .iload_n 2, 1, [], 0),
  (26, .invokevirtual 20, 3, [30, 2, 0, 751, 753, 6, 43, 9], 0),
  (29, .iinc 2 1, 3, [], 0),
  (32, .goto (-16), 3, [], 0),
  (35, .aload_n 0, 1, [], 0),
  (36, .iconst 3, 1, [], 0),
  (37, .putfield 25, 3, [9, 1, 0, 719, 0], 0),
  (40, .aload_n 0, 1, [], 0),
  (41, .dup, 1, [], 0),
  (42, .getfield 25, 3, [9, 1, 0, 719], 0),
  (45, .iconst 1, 1, [], 0),
  (46, .iadd, 1, [], 0),
  (47, .putfield 25, 3, [9, 1, 0, 719, 0], 0),
  (50, .aload_n 0, 1, [], 0),
  (51, .iconst 5, 1, [], 0),
  (52, .aload_n 0, 1, [], 0),
  (53, .getfield 25, 3, [9, 1, 0, 719], 0),
  (56, .invokevirtual 20, 3, [30, 2, 0, 751, 753, 6, 43, 9], 0),
  (59, .iload_n 1, 1, [], 0),
  (60, .ireturn, 1, [], 0)]
/-- X9_besides -/
def q_p69 : List q_R := [(0, .iconst 0, 1, [], 0),
  (1, .istore_n 3, 1, [], 0),
  (2, .iconst 0, 1, [], 0),
  (3, .istore 4, 2, [], 0),
  (5, .iload 4, 2, [], 0),
  (7, .bipush 10, 2, [], 0),
  (9, .if_icmp .ge 36, 3, [], 0),
  (12, .iload_n 3, 1, [], 0),
  (13, .iload_n 1, 1, [], 0),
  (14, .iload 4, 2, [], 0),
  (16, .invokestatic 57, 3, [33, 2, 2, 841, 842, 0, 43], 0),
  (19, .ifCond .eq 17, 3, [], 0),
  (22, .aload_n 0, 1, [], 0),
  (23, .iload 4, 2, [], 0),
  (25, .invokevirtual 33, 3, [31, 1, 0, 808, 810, 16, 43, 9], 0),
  (28, .iload_n 2, 1, [], 0),
  (29, .if_icmp .ne 7, 3, [], 0),
  (32, .iconst 1, 1, [], 0),
  (33, .goto 4, 3, [], 0),
  (36, .iconst 0, 1, [], 0),
  (37, .iadd, 1, [], 0),
  (38, .istore_n 3, 1, [], 0),
  (39, .iinc 4 1, 3, [], 0),
  (42, .goto (-37), 3, [], 0),
  (45, .iload_n 3, 1, [], 0),
  (46, .ireturn, 1, [], 0)]
/-- X9_comes -/
def q_p70 : List q_R := [(0, .iconst 0, 1, [], 0),
  (1, .istore_n 1, 1, [], 0),
  (2, .iconst 0, 1, [], 0),
  (3, .istore_n 2, 1, [], 0),
  (4, .iload_n 2, 1, [], 0),
  (5, .aload_n 0, 1, [], 0),
  (6, .getfield 7, 3, [9, 0, 1, 718], 0),
  (9, .sipush 137, 3, [], 0),
  (12, .iaload, 1, [], 0),
  (13, .if_icmp .ge 117, 3, [], 0),
  (16, .sipush 138, 3, [], 0),
  (19, .iconst 3, 1, [], 0),
  (20, .iload_n 2, 1, [], 0),
  (21, .imul, 1, [], 0),
  (22, .iadd, 1, [], 0),
  (23, .istore_n 3, 1, [], 0),
  (24, .aload_n 0, 1, [], 0),
  (25, .getfield 7, 3, [9, 0, 1, 718], 0),
  (28, .iload_n 3, 1, [], 0),
  (29, .iconst 2, 1, [], 0),
  (30, .iadd, 1, [], 0),
  (31, .iaload, 1, [], 0),
  (32, .aload_n 0, 1, [], 0),
  (33, .getfield 7, 3, [9, 0, 1, 718], 0),
  (36, .sipush 308, 3, [], 0),
  (39, .iaload, 1, [], 0),
  (40, .if_icmp .gt 25, 3, [], 0),
  (43, .aload_n 0, 1, [], 0),
  (44, .aload_n 0, 1, [], 0),
  (45, .getfield 7, 3, [9, 0, 1, 718], 0),
  (48, .iload_n 3, 1, [], 0),
  (49, .iaload, 1, [], 0),
  (50, .iconst 3, 1, [], 0),
  (51, .aload_n 0, 1, [], 0),
  (52, .getfield 7, 3, [9, 0, 1, 718], 0),
  (55, .iload_n 3, 1, [], 0),
  (56, .iconst 1, 1, [], 0),
  (57, .iadd, 1, [], 0),
  (58, .iaload, 1, [], 0),
  (59, .invokevirtual 41, 3, [27, 3, 0, 764, 766, 8, 43, 9], 0),
  (62, .goto 62, 3, [], 0),
  (65, .sipush 138, 3, [], 0),
  (68, .iconst 3, 1, [], 0),
  (69, .iload_n 1, 1, [], 0),
  (70, .imul, 1, [], 0),
  (71, .iadd, 1, [], 0),
  (72, .istore 4, 2, [], 0),
  (74, .aload_n 0, 1, [], 0),
  (75, .getfield 7, 3, [9, 0, 1, 718], 0),
  (78, .iload 4, 2, [], 0),
  (80, .aload_n 0, 1, [], 0),
  (81, .getfield 7, 3, [9, 0, 1, 718], 0),
  (84, .iload_n 3, 1, [], 0),
  (85, .iaload, 1, [], 0),
  (86, .iastore, 1, [], 0),
  (87, .aload_n 0, 1, [], 0),
  (88, .getfield 7, 3, [9, 0, 1, 718], 0),
  (91, .iload 4, 2, [], 0),
  (93, .iconst 1, 1, [], 0),
  (94, .iadd, 1, [], 0),
  (95, .aload_n 0, 1, [], 0),
  (96, .getfield 7, 3, [9, 0, 1, 718], 0),
  (99, .iload_n 3, 1, [], 0),
  (100, .iconst 1, 1, [], 0),
  (101, .iadd, 1, [], 0),
  (102, .iaload, 1, [], 0),
  (103, .iastore, 1, [], 0),
  (104, .aload_n 0, 1, [], 0),
  (105, .getfield 7, 3, [9, 0, 1, 718], 0),
  (108, .iload 4, 2, [], 0),
  (110, .iconst 2, 1, [], 0),
  (111, .iadd, 1, [], 0),
  (112, .aload_n 0, 1, [], 0),
  (113, .getfield 7, 3, [9, 0, 1, 718], 0),
  (116, .iload_n 3, 1, [], 0),
  (117, .iconst 2, 1, [], 0),
  (118, .iadd, 1, [], 0),
  (119, .iaload, 1, [], 0),
  (120, .iastore, 1, [], 0),
  (121, .iinc 1 1, 3, [], 0),
  (124, .iinc 2 1, 3, [], 0),
  (127, .goto (-123), 3, [], 0),
  (130, .aload_n 0, 1, [], 0),
  (131, .getfield 7, 3, [9, 0, 1, 718], 0),
  (134, .sipush 137, 3, [], 0),
  (137, .iaload, 1, [], 0),
  (138, .iload_n 1, 1, [], 0),
  (139, .isub, 1, [], 0),
  (140, .istore_n 2, 1, [], 0),
  (141, .aload_n 0, 1, [], 0),
  (142, .getfield 7, 3, [9, 0, 1, 718], 0),
  (145, .sipush 137, 3, [], 0),
  (148, .iload_n 1, 1, [], 0),
  (149, .iastore, 1, [], 0),
  (150, .iload_n 2, 1, [], 0),
  (151, .ireturn, 1, [], 0)]
/-- X9_doVerse -/
def q_p71 : List q_R := [(0, .iload_n 1, 1, [], 0),
  (1, .iconst 0, 1, [], 0),
  (2, .iconst 4, 1, [], 0),
  (3, .invokestatic 29, 3, [32, 3, 2, 759, 760, 0, 43], 0),
  (6, .ifCond .eq 23, 3, [], 0),
  (9, .iload_n 2, 1, [], 0),
  (10, .iconst 1, 1, [], 0),
  (11, .bipush 99, 2, [], 0),
  (13, .invokestatic 29, 3, [32, 3, 2, 759, 760, 0, 43], 0),
  (16, .ifCond .eq 13, 3, [], 0),
  (19, .iload_n 3, 1, [], 0),
  (20, .iconst 0, 1, [], 0),
  (21, .bipush 99, 2, [], 0),
  (23, .invokestatic 29, 3, [32, 3, 2, 759, 760, 0, 43], 0),
  (26, .ifCond .ne 6, 3, [], 0),
  (29, .ldc 24, 2, [0, 762], -1000001),
  (31, .ireturn, 1, [], 0),
  (32, .aload_n 0, 1, [], 0),
  (33, .getfield 7, 3, [9, 0, 1, 718], 0),
  (36, .bipush 10, 2, [], 0),
  (38, .iaload, 1, [], 0),
  (39, .bipush 12, 2, [], 0),
  (41, .if_icmp .ne 6, 3, [], 0),
  (44, .ldc 40, 2, [0, 763], -1000003),
  (46, .ireturn, 1, [], 0),
  (47, .aload_n 0, 1, [], 0),
  (48, .getfield 7, 3, [9, 0, 1, 718], 0),
  (51, .bipush 10, 2, [], 0),
  (53, .iaload, 1, [], 0),
  (54, .istore 4, 2, [], 0),
  (56, .aload_n 0, 1, [], 0),
  (57, .getfield 7, 3, [9, 0, 1, 718], 0),
  (60, .bipush 10, 2, [], 0),
  (62, .dup2, 1, [], 0),
  (63, .iaload, 1, [], 0),
  (64, .iconst 1, 1, [], 0),
  (65, .iadd, 1, [], 0),
  (66, .iastore, 1, [], 0),
  (67, .aload_n 0, 1, [], 0),
  (68, .iload 4, 2, [], 0),
  (70, .iconst 0, 1, [], 0),
  (71, .iload_n 1, 1, [], 0),
  (72, .invokevirtual 41, 3, [27, 3, 0, 764, 766, 8, 43, 9], 0),
  (75, .aload_n 0, 1, [], 0),
  (76, .iload 4, 2, [], 0),
  (78, .iconst 1, 1, [], 0),
  (79, .iload_n 2, 1, [], 0),
  (80, .invokevirtual 41, 3, [27, 3, 0, 764, 766, 8, 43, 9], 0),
  (83, .aload_n 0, 1, [], 0),
  (84, .iload 4, 2, [], 0),
  (86, .iconst 2, 1, [], 0),
  (87, .iload_n 3, 1, [], 0),
  (88, .invokevirtual 41, 3, [27, 3, 0, 764, 766, 8, 43, 9], 0),
  (91, .iload 4, 2, [], 0),
  (93, .ireturn, 1, [], 0)]
/-- X9_inRack -/
def q_p72 : List q_R := [(0, .iconst 0, 1, [], 0),
  (1, .istore_n 2, 1, [], 0),
  (2, .iconst 0, 1, [], 0),
  (3, .istore_n 3, 1, [], 0),
  (4, .iload_n 3, 1, [], 0),
  (5, .bipush 10, 2, [], 0),
  (7, .if_icmp .ge 30, 3, [], 0),
  (10, .iload_n 2, 1, [], 0),
  (11, .aload_n 0, 1, [], 0),
  (12, .iload_n 3, 1, [], 0),
  (13, .invokevirtual 33, 3, [31, 1, 0, 808, 810, 16, 43, 9], 0),
  (16, .iload_n 1, 1, [], 0),
  (17, .if_icmp .ne 11, 3, [], 0),
  (20, .aload_n 0, 1, [], 0),
  (21, .iload_n 3, 1, [], 0),
  (22, .invokevirtual 37, 3, [28, 1, 0, 812, 814, 17, 43, 9], 0),
  (25, .goto 4, 3, [], 0),
  (28, .iconst 0, 1, [], 0),
  (29, .iadd, 1, [], 0),
  (30, .istore_n 2, 1, [], 0),
  (31, .iinc 3 1, 3, [], 0),
  (34, .goto (-30), 3, [], 0),
  (37, .iload_n 2, 1, [], 0),
  (38, .ireturn, 1, [], 0)]
/-- X9_init -/
def q_p73 : List q_R := [(0, .aload_n 0, 1, [], 0),
  (1, .invokespecial 1, 3, [0, 0, 6, 717, 53, 54], 0),
  (4, .aload_n 0, 1, [], 0),
  (5, .sipush 1872, 3, [], 0),
  (8, .newarray .int, 2, [81], 0),
  (10, .putfield 7, 3, [9, 0, 1, 718, 1], 0),
  (13, .aload_n 0, 1, [], 0),
  (14, .bipush 60, 2, [], 0),
  (16, .newarray .char, 2, [249], 0),
  (18, .putfield 13, 3, [9, 2, 1, 720, 1], 0),
  (21, .aload_n 0, 1, [], 0),
  (22, .iconst 3, 1, [], 0),
  (23, .newarray .int, 2, [81], 0),
  (25, .putfield 17, 3, [9, 7, 1, 725, 1], 0),
  (28, .iconst 0, 1, [], 0),
  (29, .istore_n 1, 1, [], 0),
  (30, .iload_n 1, 1, [], 0),
  (31, .iconst 5, 1, [], 0),
  (32, .if_icmp .ge 24, 3, [], 0),
  (35, .aload_n 0, 1, [], 0),
  (36, .getfield 7, 3, [9, 0, 1, 718], 0),
  (39, .iconst 0, 1, [], 0),
  (40, .iconst 2, 1, [], 0),
  (41, .iload_n 1, 1, [], 0),
  (42, .imul, 1, [], 0),
  (43, .iadd, 1, [], 0),
  (44, .iconst 1, 1, [], 0),
  (45, .iadd, 1, [], 0),
  (46, .sipush 359, 3, [], 0),
  (49, .iastore, 1, [], 0),
  (50, .iinc 1 1, 3, [], 0),
  (53, .goto (-23), 3, [], 0),
  (56, .iconst 0, 1, [], 0),
  (57, .istore_n 1, 1, [], 0),
  (58, .iload_n 1, 1, [], 0),
  (59, .bipush 10, 2, [], 0),
  (61, .if_icmp .ge 21, 3, [], 0),
  (64, .aload_n 0, 1, [], 0),
  (65, .getfield 7, 3, [9, 0, 1, 718], 0),
  (68, .bipush 107, 2, [], 0),
  (70, .iconst 3, 1, [], 0),
  (71, .iload_n 1, 1, [], 0),
  (72, .imul, 1, [], 0),
  (73, .iadd, 1, [], 0),
  (74, .iconst (-1), 1, [], 0),
  (75, .iastore, 1, [], 0),
  (76, .iinc 1 1, 3, [], 0),
  (79, .goto (-21), 3, [], 0),
  (82, .aload_n 0, 1, [], 0),
  (83, .getfield 7, 3, [9, 0, 1, 718], 0),
  (86, .sipush 306, 3, [], 0),
  (89, .iconst 3, 1, [], 0),
  (90, .iastore, 1, [], 0),
  (91, .aload_n 0, 1, [], 0),
  (92, .getfield 7, 3, [9, 0, 1, 718], 0),
  (95, .sipush 307, 3, [], 0),
  (98, .bipush 50, 2, [], 0),
  (100, .iastore, 1, [], 0),
  (101, .return_, 1, [], 0)]
/-- X9_isOn -/
def q_p74 : List q_R := [(0, .aload_n 0, 1, [], 0),
  (1, .getfield 7, 3, [9, 0, 1, 718], 0),
  (4, .sipush 308, 3, [], 0),
  (7, .iaload, 1, [], 0),
  (8, .sipush 360, 3, [], 0),
  (11, .irem, 1, [], 0),
  (12, .istore_n 2, 1, [], 0),
  (13, .aload_n 0, 1, [], 0),
  (14, .getfield 7, 3, [9, 0, 1, 718], 0),
  (17, .iconst 0, 1, [], 0),
  (18, .iconst 2, 1, [], 0),
  (19, .iload_n 1, 1, [], 0),
  (20, .imul, 1, [], 0),
  (21, .iadd, 1, [], 0),
  (22, .iaload, 1, [], 0),
  (23, .istore_n 3, 1, [], 0),
  (24, .aload_n 0, 1, [], 0),
  (25, .getfield 7, 3, [9, 0, 1, 718], 0),
  (28, .iconst 0, 1, [], 0),
  (29, .iconst 2, 1, [], 0),
  (30, .iload_n 1, 1, [], 0),
  (31, .imul, 1, [], 0),
  (32, .iadd, 1, [], 0),
  (33, .iconst 1, 1, [], 0),
  (34, .iadd, 1, [], 0),
  (35, .iaload, 1, [], 0),
  (36, .istore 4, 2, [], 0),
  (38, .iload_n 3, 1, [], 0),
  (39, .iload 4, 2, [], 0),
  (41, .if_icmp .gt 13, 3, [], 0),
  (44, .iload_n 2, 1, [], 0),
  (45, .iload_n 3, 1, [], 0),
  (46, .iload 4, 2, [], 0),
  (48, .invokestatic 29, 3, [32, 3, 2, 759, 760, 0, 43], 0),
  (51, .goto 19, 3, [], 0),
  (54, .iload_n 2, 1, [], 0),
  (55, .iload_n 3, 1, [], 0),
  (56, .if_icmp .ge 9, 3, [], 0),
  (59, .iload_n 2, 1, [], 0),
  (60, .iload 4, 2, [], 0),
  (62, .if_icmp .gt 7, 3, [], 0),
  (65, .iconst 1, 1, [], 0),
  (66, .goto 4, 3, [], 0),
  (69, .iconst 0, 1, [], 0),
  (70, .ireturn, 1, [], 0)]
/-- X9_isVerse -/
def q_p75 : List q_R := [(0, .iload_n 1, 1, [], 0),
  (1, .iconst 0, 1, [], 0),
  (2, .aload_n 0, 1, [], 0),
  (3, .getfield 7, 3, [9, 0, 1, 718], 0),
  (6, .bipush 10, 2, [], 0),
  (8, .iaload, 1, [], 0),
  (9, .iconst 1, 1, [], 0),
  (10, .isub, 1, [], 0),
  (11, .invokestatic 29, 3, [32, 3, 2, 759, 760, 0, 43], 0),
  (14, .ireturn, 1, [], 0)]
/-- X9_keeps -/
def q_p76 : List q_R := [(0, .aload_n 0, 1, [], 0),
  (1, .iconst 0, 1, [], 0),
  (2, .iconst 5, 1, [], 0),
  (3, .invokevirtual 20, 3, [30, 2, 0, 751, 753, 6, 43, 9], 0),
  (6, .return_, 1, [], 0)]
/-- X9_number -/
def q_p77 : List q_R := [(0, .aload_n 0, 1, [], 0),
  (1, .getfield 122, 3, [9, 6, 0, 724], 0),
  (4, .istore_n 2, 1, [], 0),
  (5, .iconst 0, 1, [], 0),
  (6, .istore_n 3, 1, [], 0),
  (7, .aload_n 0, 1, [], 0),
  (8, .getfield 122, 3, [9, 6, 0, 724], 0),
  (11, .iload_n 2, 1, [], 0),
  (12, .iconst 3, 1, [], 0),
  (13, .iadd, 1, [], 0),
  (14, .if_icmp .ge 43, 3, [], 0),
  (17, .aload_n 0, 1, [], 0),
  (18, .invokevirtual 125, 3, [38, 0, 0, 955, 957, 28, 43, 9], 0),
  (21, .bipush 48, 2, [], 0),
  (23, .bipush 57, 2, [], 0),
  (25, .invokestatic 29, 3, [32, 3, 2, 759, 760, 0, 43], 0),
  (28, .ifCond .eq 29, 3, [], 0),
  (31, .bipush 10, 2, [], 0),
  (33, .iload_n 3, 1, [], 0),
  (34, .imul, 1, [], 0),
  (35, .aload_n 0, 1, [], 0),
  (36, .invokevirtual 125, 3, [38, 0, 0, 955, 957, 28, 43, 9], 0),
  (39, .iadd, 1, [], 0),
  (40, .bipush 48, 2, [], 0),
  (42, .isub, 1, [], 0),
  (43, .istore_n 3, 1, [], 0),
  (44, .aload_n 0, 1, [], 0),
  (45, .dup, 1, [], 0),
  (46, .getfield 122, 3, [9, 6, 0, 724], 0),
  (49, .iconst 1, 1, [], 0),
  (50, .iadd, 1, [], 0),
  (51, .putfield 122, 3, [9, 6, 0, 724, 0], 0),
  (54, .goto (-47), 3, [], 0),
  (57, .aload_n 0, 1, [], 0),
  (58, .getfield 17, 3, [9, 7, 1, 725], 0),
  (61, .iload_n 1, 1, [], 0),
  (62, .iload_n 3, 1, [], 0),
  (63, .iastore, 1, [], 0),
  (64, .aload_n 0, 1, [], 0),
  (65, .getfield 122, 3, [9, 6, 0, 724], 0),
  (68, .iload_n 2, 1, [], 0),
  (69, .if_icmp .le 7, 3, [], 0),
  (72, .iconst 1, 1, [], 0),
  (73, .goto 4, 3, [], 0),
  (76, .iconst 0, 1, [], 0),
  (77, .ireturn, 1, [], 0)]
/-- X9_orderOf -/
def q_p78 : List q_R := [(0, .iload_n 1, 1, [], 0),
  (1, .ifCond .lt 12, 3, [], 0),
  (4, .iload_n 2, 1, [], 0),
  (5, .iconst 0, 1, [], 0),
  (6, .iconst 2, 1, [], 0),
  (7, .invokestatic 29, 3, [32, 3, 2, 759, 760, 0, 43], 0),
  (10, .ifCond .ne 6, 3, [], 0),
  (13, .ldc 24, 2, [0, 762], -1000001),
  (15, .ireturn, 1, [], 0),
  (16, .iconst 0, 1, [], 0),
  (17, .istore_n 3, 1, [], 0),
  (18, .iload_n 3, 1, [], 0),
  (19, .aload_n 0, 1, [], 0),
  (20, .getfield 7, 3, [9, 0, 1, 718], 0),
  (23, .sipush 137, 3, [], 0),
  (26, .iaload, 1, [], 0),
  (27, .if_icmp .ge 136, 3, [], 0),
  (30, .iconst 0, 1, [], 0),
  (31, .istore 4, 2, [], 0),
  (33, .iconst 0, 1, [], 0),
  (34, .istore 5, 2, [], 0),
  (36, .iload 5, 2, [], 0),
  (38, .aload_n 0, 1, [], 0),
  (39, .getfield 7, 3, [9, 0, 1, 718], 0),
  (42, .sipush 137, 3, [], 0),
  (45, .iaload, 1, [], 0),
  (46, .if_icmp .ge 72, 3, [], 0),
  (49, .aload_n 0, 1, [], 0),
  (50, .getfield 7, 3, [9, 0, 1, 718], 0),
  (53, .sipush 138, 3, [], 0),
  (56, .iconst 3, 1, [], 0),
  (57, .iload_n 3, 1, [], 0),
  (58, .imul, 1, [], 0),
  (59, .iadd, 1, [], 0),
  (60, .iconst 2, 1, [], 0),
  (61, .iadd, 1, [], 0),
  (62, .iaload, 1, [], 0),
  (63, .istore 6, 2, [], 0),
  (65, .aload_n 0, 1, [], 0),
  (66, .getfield 7, 3, [9, 0, 1, 718], 0),
  (69, .sipush 138, 3, [], 0),
  (72, .iconst 3, 1, [], 0),
  (73, .iload 5, 2, [], 0),
  (75, .imul, 1, [], 0),
  (76, .iadd, 1, [], 0),
  (77, .iconst 2, 1, [], 0),
  (78, .iadd, 1, [], 0),
  (79, .iaload, 1, [], 0),
  (80, .istore 7, 2, [], 0),
  (82, .iload 4, 2, [], 0),
  (84, .iload 7, 2, [], 0),
  (86, .iload 6, 2, [], 0),
  (88, .if_icmp .lt 16, 3, [], 0),
  (91, .iload 7, 2, [], 0),
  (93, .iload 6, 2, [], 0),
  (95, .if_icmp .ne 13, 3, [], 0),
  (98, .iload 5, 2, [], 0),
  (100, .iload_n 3, 1, [], 0),
  (101, .if_icmp .ge 7, 3, [], 0),
  (104, .iconst 1, 1, [], 0),
  (105, .goto 4, 3, [], 0),
  (108, .iconst 0, 1, [], 0),
  (109, .iadd, 1, [], 0),
  (110, .istore 4, 2, [], 0),
  (112, .iinc 5 1, 3, [], 0),
  (115, .goto (-79), 3, [], 0),
  (118, .iload 4, 2, [], 0),
  (120, .iload_n 1, 1, [], 0),
  (121, .if_icmp .ne 36, 3, [], 0),
  (124, .aload_n 0, 1, [], 0),
  (125, .getfield 7, 3, [9, 0, 1, 718], 0),
  (128, .sipush 138, 3, [], 0),
  (131, .iconst 3, 1, [], 0),
  (132, .iload_n 3, 1, [], 0),
  (133, .imul, 1, [], 0),
  (134, .iadd, 1, [], 0),
  (135, .iload_n 2, 1, [], 0),
  (136, .iadd, 1, [], 0),
  (137, .iaload, 1, [], 0),
  (138, .iload_n 2, 1, [], 0),
  (139, .iconst 2, 1, [], 0),
  (140, .if_icmp .ne 14, 3, [], 0),
  (143, .aload_n 0, 1, [], 0),
  (144, .getfield 7, 3, [9, 0, 1, 718], 0),
  (147, .sipush 308, 3, [], 0),
  (150, .iaload, 1, [], 0),
  (151, .goto 4, 3, [], 0),
  (154, .iconst 0, 1, [], 0),
  (155, .isub, 1, [], 0),
  (156, .ireturn, 1, [], 0),
  (157, .iinc 3 1, 3, [], 0),
  (160, .goto (-142), 3, [], 0),
  (163, .ldc 105, 2, [0, 883], -1000004),
  (165, .ireturn, 1, [], 0)]
/-- X9_slotOf -/
def q_p79 : List q_R := [(0, .iload_n 1, 1, [], 0),
  (1, .iconst 0, 1, [], 0),
  (2, .bipush 9, 2, [], 0),
  (4, .invokestatic 29, 3, [32, 3, 2, 759, 760, 0, 43], 0),
  (7, .ifCond .eq 12, 3, [], 0),
  (10, .iload_n 2, 1, [], 0),
  (11, .iconst 0, 1, [], 0),
  (12, .iconst 4, 1, [], 0),
  (13, .invokestatic 29, 3, [32, 3, 2, 759, 760, 0, 43], 0),
  (16, .ifCond .ne 6, 3, [], 0),
  (19, .ldc 24, 2, [0, 762], -1000001),
  (21, .ireturn, 1, [], 0),
  (22, .aload_n 0, 1, [], 0),
  (23, .iload_n 1, 1, [], 0),
  (24, .invokevirtual 33, 3, [31, 1, 0, 808, 810, 16, 43, 9], 0),
  (27, .istore_n 3, 1, [], 0),
  (28, .iload_n 3, 1, [], 0),
  (29, .ifCond .ge 15, 3, [], 0),
  (32, .iload_n 2, 1, [], 0),
  (33, .ifCond .eq 8, 3, [], 0),
  (36, .iload_n 2, 1, [], 0),
  (37, .iconst 4, 1, [], 0),
  (38, .if_icmp .ne 6, 3, [], 0),
  (41, .ldc 105, 2, [0, 883], -1000004),
  (43, .ireturn, 1, [], 0),
  (44, .iload_n 2, 1, [], 0),
  (45, .iconst 3, 1, [], 0),
  (46, .if_icmp .ge 17, 3, [], 0),
  (49, .aload_n 0, 1, [], 0),
  (50, .getfield 7, 3, [9, 0, 1, 718], 0),
  (53, .bipush 107, 2, [], 0),
  (55, .iconst 3, 1, [], 0),
  (56, .iload_n 1, 1, [], 0),
  (57, .imul, 1, [], 0),
  (58, .iadd, 1, [], 0),
  (59, .iload_n 2, 1, [], 0),
  (60, .iadd, 1, [], 0),
  (61, .iaload, 1, [], 0),
  (62, .ireturn, 1, [], 0),
  (63, .iconst 0, 1, [], 0),
  (64, .istore 4, 2, [], 0),
  (66, .iconst 0, 1, [], 0),
  (67, .istore 5, 2, [], 0),
  (69, .iload 5, 2, [], 0),
  (71, .bipush 10, 2, [], 0),
  (73, .if_icmp .ge 77, 3, [], 0),
  (76, .iload_n 2, 1, [], 0),
  (77, .iconst 3, 1, [], 0),
  (78, .if_icmp .eq 32, 3, [], 0),
  (81, .aload_n 0, 1, [], 0),
  (82, .iload 5, 2, [], 0),
  (84, .invokevirtual 33, 3, [31, 1, 0, 808, 810, 16, 43, 9], 0),
  (87, .ifCond .lt 27, 3, [], 0),
  (90, .aload_n 0, 1, [], 0),
  (91, .aload_n 0, 1, [], 0),
  (92, .iload 5, 2, [], 0),
  (94, .invokevirtual 33, 3, [31, 1, 0, 808, 810, 16, 43, 9], 0),
  (97, .iconst 0, 1, [], 0),
  (98, .invokevirtual 49, 3, [34, 2, 0, 792, 794, 13, 43, 9], 0),
  (101, .aload_n 0, 1, [], 0),
  (102, .iload_n 3, 1, [], 0),
  (103, .iconst 0, 1, [], 0),
  (104, .invokevirtual 49, 3, [34, 2, 0, 792, 794, 13, 43, 9], 0),
  (107, .if_icmp .ne 7, 3, [], 0),
  (110, .iconst 1, 1, [], 0),
  (111, .goto 4, 3, [], 0),
  (114, .iconst 0, 1, [], 0),
  (115, .istore 6, 2, [], 0),
  (117, .iload 4, 2, [], 0),
  (119, .iload_n 1, 1, [], 0),
  (120, .iload 5, 2, [], 0),
  (122, .invokestatic 57, 3, [33, 2, 2, 841, 842, 0, 43], 0),
  (125, .ifCond .eq 15, 3, [], 0),
  (128, .iload 6, 2, [], 0),
  (130, .ifCond .eq 10, 3, [], 0),
  (133, .iconst 1, 1, [], 0),
  (134, .iload 5, 2, [], 0),
  (136, .ishl, 1, [], 0),
  (137, .goto 4, 3, [], 0),
  (140, .iconst 0, 1, [], 0),
  (141, .ior, 1, [], 0),
  (142, .istore 4, 2, [], 0),
  (144, .iinc 5 1, 3, [], 0),
  (147, .goto (-78), 3, [], 0),
  (150, .iload 4, 2, [], 0),
  (152, .ireturn, 1, [], 0)]
/-- X9_takes -/
def q_p80 : List q_R := [(0, .aload_n 0, 1, [], 0),
  (1, .invokevirtual 125, 3, [38, 0, 0, 955, 957, 28, 43, 9], 0),
  (4, .iload_n 1, 1, [], 0),
  (5, .if_icmp .eq 5, 3, [], 0),
  (8, .iconst 0, 1, [], 0),
  (9, .ireturn, 1, [], 0),
  (10, .aload_n 0, 1, [], 0),
  (11, .dup, 1, [], 0),
  (12, .getfield 122, 3, [9, 6, 0, 724], 0),
  (15, .iconst 1, 1, [], 0),
  (16, .iadd, 1, [], 0),
  (17, .putfield 122, 3, [9, 6, 0, 724, 0], 0),
  (20, .iconst 1, 1, [], 0),
  (21, .ireturn, 1, [], 0)]
/-- X9_type -/
def q_p81 : List q_R := [(0, .iload_n 1, 1, [], 0),
  (1, .bipush 32, 2, [], 0),
  (3, .bipush 126, 2, [], 0),
  (5, .invokestatic 29, 3, [32, 3, 2, 759, 760, 0, 43], 0),
  (8, .ifCond .ne 6, 3, [], 0),
  (11, .ldc 24, 2, [0, 762], -1000001),
  (13, .ireturn, 1, [], 0),
  (14, .aload_n 0, 1, [], 0),
  (15, .getfield 119, 3, [9, 3, 0, 721], 0),
  (18, .bipush 60, 2, [], 0),
  (20, .if_icmp .ne 6, 3, [], 0),
  (23, .ldc 40, 2, [0, 763], -1000003),
  (25, .ireturn, 1, [], 0),
  (26, .aload_n 0, 1, [], 0),
  (27, .getfield 13, 3, [9, 2, 1, 720], 0),
  (30, .aload_n 0, 1, [], 0),
  (31, .getfield 119, 3, [9, 3, 0, 721], 0),
  (34, .iload_n 1, 1, [], 0),
  (35, .i2c, 1, [], 0),
  (36, .castore, 1, [], 0),
  (37, .aload_n 0, 1, [], 0),
  (38, .dup, 1, [], 0),
  (39, .getfield 119, 3, [9, 3, 0, 721], 0),
  (42, .iconst 1, 1, [], 0),
  (43, .iadd, 1, [], 0),
  (44, .putfield 119, 3, [9, 3, 0, 721, 0], 0),
  (47, .aload_n 0, 1, [], 0),
  (48, .getfield 119, 3, [9, 3, 0, 721], 0),
  (51, .ireturn, 1, [], 0)]
/-- X9_undo -/
def q_p82 : List q_R := [(0, .aload_n 0, 1, [], 0),
  (1, .getfield 25, 3, [9, 1, 0, 719], 0),
  (4, .ifCond .ne 6, 3, [], 0),
  (7, .ldc 56, 2, [0, 816], -1000002),
  (9, .ireturn, 1, [], 0),
  (10, .aload_n 0, 1, [], 0),
  (11, .aload_n 0, 1, [], 0),
  (12, .getfield 25, 3, [9, 1, 0, 719], 0),
  (15, .iconst 0, 1, [], 0),
  (16, .invokevirtual 20, 3, [30, 2, 0, 751, 753, 6, 43, 9], 0),
  (19, .aload_n 0, 1, [], 0),
  (20, .dup, 1, [], 0),
  (21, .getfield 25, 3, [9, 1, 0, 719], 0),
  (24, .iconst 1, 1, [], 0),
  (25, .isub, 1, [], 0),
  (26, .putfield 25, 3, [9, 1, 0, 719, 0], 0),
  (29, .aload_n 0, 1, [], 0),
  (30, .getfield 25, 3, [9, 1, 0, 719], 0),
  (33, .ireturn, 1, [], 0)]
/-- X0_copyFrom -/
def q_p83 : List q_R := [(0, .aload_n 0, 1, [], 0),
  (1, .aload_n 1, 1, [], 0),
  (2, .getfield 9, 3, [0, 0, 0, 67], 0),
  (5, .putfield 9, 3, [0, 0, 0, 67, 0], 0),
  (8, .aload_n 1, 1, [], 0),
  (9, .getfield 15, 3, [0, 1, 1, 70], 0),
  (12, .aload_n 0, 1, [], 0),
  (13, .getfield 15, 3, [0, 1, 1, 70], 0),
  (16, .invokestatic 22, 3, [61, 2, 3, 317, 318, 0, 34], 0),
  (19, .aload_n 1, 1, [], 0),
  (20, .getfield 19, 3, [0, 2, 1, 72], 0),
  (23, .aload_n 0, 1, [], 0),
  (24, .getfield 19, 3, [0, 2, 1, 72], 0),
  (27, .invokestatic 22, 3, [61, 2, 3, 317, 318, 0, 34], 0),
  (30, .return_, 1, [], 0)]
/-- X0_daysLeft -/
def q_p84 : List q_R := [(0, .aload_n 0, 1, [], 0),
  (1, .iload_n 1, 1, [], 0),
  (2, .invokevirtual 30, 3, [41, 1, 0, 576, 376, 377, 36, 0], 0),
  (5, .ifCond .ne 5, 3, [], 0),
  (8, .iconst 0, 1, [], 0),
  (9, .ireturn, 1, [], 0),
  (10, .aload_n 0, 1, [], 0),
  (11, .getfield 19, 3, [0, 2, 1, 72], 0),
  (14, .iload_n 1, 1, [], 0),
  (15, .iaload, 1, [], 0),
  (16, .iconst 1, 1, [], 0),
  (17, .iadd, 1, [], 0),
  (18, .sipush 360, 3, [], 0),
  (21, .invokestatic 34, 3, [0, 2, 2, 581, 582, 0, 44], 0),
  (24, .aload_n 0, 1, [], 0),
  (25, .getfield 15, 3, [0, 1, 1, 70], 0),
  (28, .iload_n 1, 1, [], 0),
  (29, .iaload, 1, [], 0),
  (30, .if_icmp .ne 7, 3, [], 0),
  (33, .iconst 1, 1, [], 0),
  (34, .goto 4, 3, [], 0),
  (37, .iconst 0, 1, [], 0),
  (38, .istore_n 2, 1, [], 0),
  (39, .iload_n 2, 1, [], 0),
  (40, .ifCond .eq 9, 3, [], 0),
  (43, .sipush 360, 3, [], 0),
  (46, .goto 22, 3, [], 0),
  (49, .aload_n 0, 1, [], 0),
  (50, .getfield 19, 3, [0, 2, 1, 72], 0),
  (53, .iload_n 1, 1, [], 0),
  (54, .iaload, 1, [], 0),
  (55, .aload_n 0, 1, [], 0),
  (56, .invokevirtual 26, 3, [4, 0, 0, 379, 380, 381, 36, 0], 0),
  (59, .isub, 1, [], 0),
  (60, .sipush 360, 3, [], 0),
  (63, .invokestatic 34, 3, [0, 2, 2, 581, 582, 0, 44], 0),
  (66, .iconst 1, 1, [], 0),
  (67, .iadd, 1, [], 0),
  (68, .ireturn, 1, [], 0)]
/-- X0_daysUntil -/
def q_p85 : List q_R := [(0, .aload_n 0, 1, [], 0),
  (1, .iload_n 1, 1, [], 0),
  (2, .invokevirtual 30, 3, [41, 1, 0, 576, 376, 377, 36, 0], 0),
  (5, .ifCond .eq 7, 3, [], 0),
  (8, .iconst 0, 1, [], 0),
  (9, .goto 20, 3, [], 0),
  (12, .aload_n 0, 1, [], 0),
  (13, .getfield 15, 3, [0, 1, 1, 70], 0),
  (16, .iload_n 1, 1, [], 0),
  (17, .iaload, 1, [], 0),
  (18, .aload_n 0, 1, [], 0),
  (19, .invokevirtual 26, 3, [4, 0, 0, 379, 380, 381, 36, 0], 0),
  (22, .isub, 1, [], 0),
  (23, .sipush 360, 3, [], 0),
  (26, .invokestatic 34, 3, [0, 2, 2, 581, 582, 0, 44], 0),
  (29, .ireturn, 1, [], 0)]
/-- X1_copyFrom -/
def q_p86 : List q_R := [(0, .aload_n 0, 1, [], 0),
  (1, .aload_n 1, 1, [], 0),
  (2, .getfield 9, 3, [1, 0, 0, 167], 0),
  (5, .putfield 9, 3, [1, 0, 0, 167, 0], 0),
  (8, .aload_n 1, 1, [], 0),
  (9, .getfield 15, 3, [1, 1, 1, 170], 0),
  (12, .aload_n 0, 1, [], 0),
  (13, .getfield 15, 3, [1, 1, 1, 170], 0),
  (16, .invokestatic 25, 3, [61, 2, 3, 345, 318, 0, 34], 0),
  (19, .aload_n 1, 1, [], 0),
  (20, .getfield 19, 3, [1, 2, 1, 172], 0),
  (23, .aload_n 0, 1, [], 0),
  (24, .getfield 19, 3, [1, 2, 1, 172], 0),
  (27, .invokestatic 25, 3, [61, 2, 3, 345, 318, 0, 34], 0),
  (30, .aload_n 1, 1, [], 0),
  (31, .getfield 22, 3, [1, 3, 1, 174], 0),
  (34, .aload_n 0, 1, [], 0),
  (35, .getfield 22, 3, [1, 3, 1, 174], 0),
  (38, .invokestatic 25, 3, [61, 2, 3, 345, 318, 0, 34], 0),
  (41, .return_, 1, [], 0)]
/-- X2_copyFrom -/
def q_p87 : List q_R := [(0, .aload_n 1, 1, [], 0),
  (1, .getfield 9, 3, [2, 0, 1, 136], 0),
  (4, .aload_n 0, 1, [], 0),
  (5, .getfield 9, 3, [2, 0, 1, 136], 0),
  (8, .invokestatic 15, 3, [61, 2, 3, 335, 318, 0, 34], 0),
  (11, .return_, 1, [], 0)]
/-- X3_copyFrom -/
def q_p88 : List q_R := [(0, .aload_n 1, 1, [], 0),
  (1, .getfield 9, 3, [3, 0, 1, 146], 0),
  (4, .aload_n 0, 1, [], 0),
  (5, .getfield 9, 3, [3, 0, 1, 146], 0),
  (8, .invokestatic 21, 3, [61, 2, 3, 340, 318, 0, 34], 0),
  (11, .aload_n 1, 1, [], 0),
  (12, .getfield 15, 3, [3, 1, 1, 149], 0),
  (15, .aload_n 0, 1, [], 0),
  (16, .getfield 15, 3, [3, 1, 1, 149], 0),
  (19, .invokestatic 21, 3, [61, 2, 3, 340, 318, 0, 34], 0),
  (22, .aload_n 1, 1, [], 0),
  (23, .getfield 18, 3, [3, 2, 1, 152], 0),
  (26, .aload_n 0, 1, [], 0),
  (27, .getfield 18, 3, [3, 2, 1, 152], 0),
  (30, .invokestatic 21, 3, [61, 2, 3, 340, 318, 0, 34], 0),
  (33, .return_, 1, [], 0)]
/-- X5_addVerse -/
def q_p89 : List q_R := [(0, .iload_n 1, 1, [], 0),
  (1, .invokestatic 75, 3, [62, 1, 3, 350, 351, 0, 34], 0),
  (4, .ifCond .eq 23, 3, [], 0),
  (7, .iload_n 2, 1, [], 0),
  (8, .iconst 1, 1, [], 0),
  (9, .bipush 99, 2, [], 0),
  (11, .invokestatic 79, 3, [24, 3, 3, 356, 354, 0, 34], 0),
  (14, .ifCond .eq 13, 3, [], 0),
  (17, .iload_n 3, 1, [], 0),
  (18, .iconst 0, 1, [], 0),
  (19, .bipush 99, 2, [], 0),
  (21, .invokestatic 79, 3, [24, 3, 3, 356, 354, 0, 34], 0),
  (24, .ifCond .ne 6, 3, [], 0),
  (27, .ldc 83, 2, [0, 357], -1000001),
  (29, .ireturn, 1, [], 0),
  (30, .aload_n 0, 1, [], 0),
  (31, .getfield 21, 3, [5, 1, 1, 187], 0),
  (34, .getfield 84, 3, [7, 0, 0, 89], 0),
  (37, .istore 4, 2, [], 0),
  (39, .iload 4, 2, [], 0),
  (41, .bipush 12, 2, [], 0),
  (43, .if_icmp .lt 6, 3, [], 0),
  (46, .ldc 87, 2, [0, 358], -1000003),
  (48, .ireturn, 1, [], 0),
  (49, .aload_n 0, 1, [], 0),
  (50, .getfield 21, 3, [5, 1, 1, 187], 0),
  (53, .getfield 88, 3, [7, 1, 1, 92], 0),
  (56, .iload 4, 2, [], 0),
  (58, .iload_n 1, 1, [], 0),
  (59, .iastore, 1, [], 0),
  (60, .aload_n 0, 1, [], 0),
  (61, .getfield 21, 3, [5, 1, 1, 187], 0),
  (64, .getfield 92, 3, [7, 2, 1, 94], 0),
  (67, .iload 4, 2, [], 0),
  (69, .iload_n 2, 1, [], 0),
  (70, .iastore, 1, [], 0),
  (71, .aload_n 0, 1, [], 0),
  (72, .getfield 21, 3, [5, 1, 1, 187], 0),
  (75, .getfield 95, 3, [7, 3, 1, 96], 0),
  (78, .iload 4, 2, [], 0),
  (80, .iload_n 3, 1, [], 0),
  (81, .iastore, 1, [], 0),
  (82, .aload_n 0, 1, [], 0),
  (83, .getfield 21, 3, [5, 1, 1, 187], 0),
  (86, .dup, 1, [], 0),
  (87, .getfield 84, 3, [7, 0, 0, 89], 0),
  (90, .iconst 1, 1, [], 0),
  (91, .iadd, 1, [], 0),
  (92, .putfield 84, 3, [7, 0, 0, 89, 0], 0),
  (95, .iload 4, 2, [], 0),
  (97, .ireturn, 1, [], 0)]
/-- X5_alikeBeside -/
def q_p90 : List q_R := [(0, .iconst 0, 1, [], 0),
  (1, .istore_n 3, 1, [], 0),
  (2, .iconst 0, 1, [], 0),
  (3, .istore 4, 2, [], 0),
  (5, .iload 4, 2, [], 0),
  (7, .bipush 10, 2, [], 0),
  (9, .if_icmp .ge 35, 3, [], 0),
  (12, .iload_n 1, 1, [], 0),
  (13, .iload 4, 2, [], 0),
  (15, .invokestatic 209, 3, [21, 2, 3, 558, 465, 0, 34], 0),
  (18, .ifCond .eq 20, 3, [], 0),
  (21, .aload_n 0, 1, [], 0),
  (22, .iload 4, 2, [], 0),
  (24, .iload_n 2, 1, [], 0),
  (25, .invokevirtual 171, 3, [54, 2, 0, 456, 457, 458, 35, 5], 0),
  (28, .ifCond .eq 10, 3, [], 0),
  (31, .iload_n 3, 1, [], 0),
  (32, .iconst 1, 1, [], 0),
  (33, .iload 4, 2, [], 0),
  (35, .ishl, 1, [], 0),
  (36, .ior, 1, [], 0),
  (37, .istore_n 3, 1, [], 0),
  (38, .iinc 4 1, 3, [], 0),
  (41, .goto (-36), 3, [], 0),
  (44, .iload_n 3, 1, [], 0),
  (45, .ireturn, 1, [], 0)]
/-- X5_changeSeason -/
def q_p91 : List q_R := [(0, .iload_n 1, 1, [], 0),
  (1, .invokestatic 75, 3, [62, 1, 3, 350, 351, 0, 34], 0),
  (4, .ifCond .eq 25, 3, [], 0),
  (7, .iload_n 2, 1, [], 0),
  (8, .iconst 0, 1, [], 0),
  (9, .sipush 359, 3, [], 0),
  (12, .invokestatic 79, 3, [24, 3, 3, 356, 354, 0, 34], 0),
  (15, .ifCond .eq 14, 3, [], 0),
  (18, .iload_n 3, 1, [], 0),
  (19, .iconst 0, 1, [], 0),
  (20, .sipush 359, 3, [], 0),
  (23, .invokestatic 79, 3, [24, 3, 3, 356, 354, 0, 34], 0),
  (26, .ifCond .ne 6, 3, [], 0),
  (29, .ldc 83, 2, [0, 357], -1000001),
  (31, .ireturn, 1, [], 0),
  (32, .aload_n 0, 1, [], 0),
  (33, .getfield 12, 3, [5, 0, 1, 185], 0),
  (36, .getfield 98, 3, [0, 1, 1, 71], 0),
  (39, .iload_n 1, 1, [], 0),
  (40, .iload_n 2, 1, [], 0),
  (41, .iastore, 1, [], 0),
  (42, .aload_n 0, 1, [], 0),
  (43, .getfield 12, 3, [5, 0, 1, 185], 0),
  (46, .getfield 101, 3, [0, 2, 1, 73], 0),
  (49, .iload_n 1, 1, [], 0),
  (50, .iload_n 3, 1, [], 0),
  (51, .iastore, 1, [], 0),
  (52, .aload_n 0, 1, [], 0),
  (53, .getfield 12, 3, [5, 0, 1, 185], 0),
  (56, .iload_n 1, 1, [], 0),
  (57, .invokevirtual 104, 3, [41, 1, 0, 375, 376, 377, 36, 0], 0),
  (60, .ifCond .eq 7, 3, [], 0),
  (63, .iconst 1, 1, [], 0),
  (64, .goto 4, 3, [], 0),
  (67, .iconst 0, 1, [], 0),
  (68, .ireturn, 1, [], 0)]
/-- X5_clearSlot -/
def q_p92 : List q_R := [(0, .iload_n 1, 1, [], 0),
  (1, .invokestatic 132, 3, [63, 1, 3, 424, 425, 0, 34], 0),
  (4, .ifCond .ne 6, 3, [], 0),
  (7, .ldc 83, 2, [0, 357], -1000001),
  (9, .ireturn, 1, [], 0),
  (10, .aload_n 0, 1, [], 0),
  (11, .getfield 35, 3, [5, 3, 1, 191], 0),
  (14, .getfield 135, 3, [3, 0, 1, 147], 0),
  (17, .iload_n 1, 1, [], 0),
  (18, .iaload, 1, [], 0),
  (19, .istore_n 2, 1, [], 0),
  (20, .aload_n 0, 1, [], 0),
  (21, .getfield 21, 3, [5, 1, 1, 187], 0),
  (24, .iload_n 2, 1, [], 0),
  (25, .invokevirtual 107, 3, [20, 1, 0, 391, 392, 393, 37, 7], 0),
  (28, .ifCond .ne 6, 3, [], 0),
  (31, .ldc 141, 2, [0, 427], -1000002),
  (33, .ireturn, 1, [], 0),
  (34, .aload_n 0, 1, [], 0),
  (35, .getfield 35, 3, [5, 3, 1, 191], 0),
  (38, .getfield 138, 3, [3, 1, 1, 150], 0),
  (41, .iload_n 1, 1, [], 0),
  (42, .iaload, 1, [], 0),
  (43, .istore_n 3, 1, [], 0),
  (44, .aload_n 0, 1, [], 0),
  (45, .iload_n 2, 1, [], 0),
  (46, .iload_n 3, 1, [], 0),
  (47, .invokevirtual 114, 3, [55, 2, 0, 399, 400, 401, 35, 5], 0),
  (50, .ifCond .ne 6, 3, [], 0),
  (53, .ldc 87, 2, [0, 358], -1000003),
  (55, .ireturn, 1, [], 0),
  (56, .aload_n 0, 1, [], 0),
  (57, .getfield 21, 3, [5, 1, 1, 187], 0),
  (60, .getfield 118, 3, [7, 4, 1, 98], 0),
  (63, .iload_n 2, 1, [], 0),
  (64, .dup2, 1, [], 0),
  (65, .iaload, 1, [], 0),
  (66, .iload_n 3, 1, [], 0),
  (67, .iadd, 1, [], 0),
  (68, .iastore, 1, [], 0),
  (69, .aload_n 0, 1, [], 0),
  (70, .getfield 35, 3, [5, 3, 1, 191], 0),
  (73, .getfield 135, 3, [3, 0, 1, 147], 0),
  (76, .iload_n 1, 1, [], 0),
  (77, .iconst (-1), 1, [], 0),
  (78, .iastore, 1, [], 0),
  (79, .aload_n 0, 1, [], 0),
  (80, .getfield 35, 3, [5, 3, 1, 191], 0),
  (83, .getfield 138, 3, [3, 1, 1, 150], 0),
  (86, .iload_n 1, 1, [], 0),
  (87, .iconst 0, 1, [], 0),
  (88, .iastore, 1, [], 0),
  (89, .iload_n 3, 1, [], 0),
  (90, .ireturn, 1, [], 0)]
/-- X5_init -/
def q_p93 : List q_R := [(0, .aload_n 0, 1, [], 0),
  (1, .invokespecial 3, 3, [0, 0, 6, 60, 53, 54], 0),
  (4, .aload_n 0, 1, [], 0),
  (5, .new 9, 3, [0, 3, 61, 62, 36], 0),
  (8, .dup, 1, [], 0),
  (9, .invokespecial 11, 3, [40, 0, 4, 63, 64, 0, 36], 0),
  (12, .putfield 12, 3, [5, 0, 1, 185, 1], 0),
  (15, .aload_n 0, 1, [], 0),
  (16, .new 18, 3, [7, 9, 82, 83, 37], 0),
  (19, .dup, 1, [], 0),
  (20, .invokespecial 20, 3, [60, 0, 5, 84, 85, 0, 37], 0),
  (23, .putfield 21, 3, [5, 1, 1, 187, 1], 0),
  (26, .aload_n 0, 1, [], 0),
  (27, .new 25, 3, [2, 1, 130, 131, 38], 0),
  (30, .dup, 1, [], 0),
  (31, .invokespecial 27, 3, [45, 0, 5, 132, 133, 0, 38], 0),
  (34, .putfield 28, 3, [5, 2, 1, 189, 1], 0),
  (37, .aload_n 0, 1, [], 0),
  (38, .new 32, 3, [3, 3, 140, 141, 39], 0),
  (41, .dup, 1, [], 0),
  (42, .invokespecial 34, 3, [49, 0, 4, 142, 143, 0, 39], 0),
  (45, .putfield 35, 3, [5, 3, 1, 191, 1], 0),
  (48, .aload_n 0, 1, [], 0),
  (49, .new 39, 3, [1, 4, 161, 162, 40], 0),
  (52, .dup, 1, [], 0),
  (53, .invokespecial 41, 3, [43, 0, 5, 163, 164, 0, 40], 0),
  (56, .putfield 42, 3, [5, 4, 1, 193, 1], 0),
  (59, .aload_n 0, 1, [], 0),
  (60, .iconst 3, 1, [], 0),
  (61, .putfield 46, 3, [5, 5, 0, 195, 0], 0),
  (64, .aload_n 0, 1, [], 0),
  (65, .bipush 50, 2, [], 0),
  (67, .putfield 50, 3, [5, 6, 0, 197, 0], 0),
  (70, .aload_n 0, 1, [], 0),
  (71, .iconst 0, 1, [], 0),
  (72, .putfield 53, 3, [5, 7, 0, 199, 0], 0),
  (75, .aload_n 0, 1, [], 0),
  (76, .iconst 0, 1, [], 0),
  (77, .putfield 56, 3, [5, 8, 0, 201, 0], 0),
  (80, .return_, 1, [], 0)]
/-- X5_layCards -/
def q_p94 : List q_R := [(0, .iload_n 1, 1, [], 0),
  (1, .invokestatic 132, 3, [63, 1, 3, 424, 425, 0, 34], 0),
  (4, .ifCond .eq 24, 3, [], 0),
  (7, .aload_n 0, 1, [], 0),
  (8, .getfield 21, 3, [5, 1, 1, 187], 0),
  (11, .iload_n 2, 1, [], 0),
  (12, .invokevirtual 107, 3, [20, 1, 0, 391, 392, 393, 37, 7], 0),
  (15, .ifCond .eq 13, 3, [], 0),
  (18, .iload_n 3, 1, [], 0),
  (19, .iconst 1, 1, [], 0),
  (20, .bipush 12, 2, [], 0),
  (22, .invokestatic 79, 3, [24, 3, 3, 356, 354, 0, 34], 0),
  (25, .ifCond .ne 6, 3, [], 0),
  (28, .ldc 83, 2, [0, 357], -1000001),
  (30, .ireturn, 1, [], 0),
  (31, .aload_n 0, 1, [], 0),
  (32, .getfield 35, 3, [5, 3, 1, 191], 0),
  (35, .getfield 135, 3, [3, 0, 1, 147], 0),
  (38, .iload_n 1, 1, [], 0),
  (39, .iaload, 1, [], 0),
  (40, .iload_n 2, 1, [], 0),
  (41, .if_icmp .eq 19, 3, [], 0),
  (44, .aload_n 0, 1, [], 0),
  (45, .getfield 35, 3, [5, 3, 1, 191], 0),
  (48, .getfield 138, 3, [3, 1, 1, 150], 0),
  (51, .iload_n 1, 1, [], 0),
  (52, .iaload, 1, [], 0),
  (53, .ifCond .le 7, 3, [], 0),
  (56, .iconst 1, 1, [], 0),
  (57, .goto 4, 3, [], 0),
  (60, .iconst 0, 1, [], 0),
  (61, .istore 4, 2, [], 0),
  (63, .iload 4, 2, [], 0),
  (65, .ifCond .ne 16, 3, [], 0),
  (68, .aload_n 0, 1, [], 0),
  (69, .getfield 21, 3, [5, 1, 1, 187], 0),
  (72, .getfield 118, 3, [7, 4, 1, 98], 0),
  (75, .iload_n 2, 1, [], 0),
  (76, .iaload, 1, [], 0),
  (77, .iload_n 3, 1, [], 0),
  (78, .if_icmp .ge 6, 3, [], 0),
  (81, .ldc 141, 2, [0, 427], -1000002),
  (83, .ireturn, 1, [], 0),
  (84, .aload_n 0, 1, [], 0),
  (85, .getfield 35, 3, [5, 3, 1, 191], 0),
  (88, .getfield 138, 3, [3, 1, 1, 150], 0),
  (91, .iload_n 1, 1, [], 0),
  (92, .iaload, 1, [], 0),
  (93, .iload_n 3, 1, [], 0),
  (94, .iadd, 1, [], 0),
  (95, .bipush 12, 2, [], 0),
  (97, .if_icmp .le 6, 3, [], 0),
  (100, .ldc 87, 2, [0, 358], -1000003),
  (102, .ireturn, 1, [], 0),
  (103, .aload_n 0, 1, [], 0),
  (104, .getfield 21, 3, [5, 1, 1, 187], 0),
  (107, .getfield 118, 3, [7, 4, 1, 98], 0),
  (110, .iload_n 2, 1, [], 0),
  (111, .dup2, 1, [], 0),
  (112, .iaload, 1, [], 0),
  (113, .iload_n 3, 1, [], 0),
  (114, .isub, 1, [], 0),
  (115, .iastore, 1, [], 0),
  (116, .aload_n 0, 1, [], 0),
  (117, .getfield 35, 3, [5, 3, 1, 191], 0),
  (120, .getfield 135, 3, [3, 0, 1, 147], 0),
  (123, .iload_n 1, 1, [], 0),
  (124, .iload_n 2, 1, [], 0),
  (125, .iastore, 1, [], 0),
  (126, .aload_n 0, 1, [], 0),
  (127, .getfield 35, 3, [5, 3, 1, 191], 0),
  (130, .getfield 138, 3, [3, 1, 1, 150], 0),
  (133, .iload_n 1, 1, [], 0),
  (134, .dup2, 1, [], 0),
  (135, .iaload, 1, [], 0),
  (136, .iload_n 3, 1, [], 0),
  (137, .iadd, 1, [], 0),
  (138, .iastore, 1, [], 0),
  (139, .aload_n 0, 1, [], 0),
  (140, .getfield 35, 3, [5, 3, 1, 191], 0),
  (143, .getfield 138, 3, [3, 1, 1, 150], 0),
  (146, .iload_n 1, 1, [], 0),
  (147, .iaload, 1, [], 0),
  (148, .ireturn, 1, [], 0)]
/-- X5_placeOrder -/
def q_p95 : List q_R := [(0, .aload_n 0, 1, [], 0),
  (1, .getfield 21, 3, [5, 1, 1, 187], 0),
  (4, .iload_n 1, 1, [], 0),
  (5, .invokevirtual 107, 3, [20, 1, 0, 391, 392, 393, 37, 7], 0),
  (8, .ifCond .eq 14, 3, [], 0),
  (11, .iload_n 2, 1, [], 0),
  (12, .iconst 1, 1, [], 0),
  (13, .sipush 999, 3, [], 0),
  (16, .invokestatic 79, 3, [24, 3, 3, 356, 354, 0, 34], 0),
  (19, .ifCond .ne 6, 3, [], 0),
  (22, .ldc 83, 2, [0, 357], -1000001),
  (24, .ireturn, 1, [], 0),
  (25, .aload_n 0, 1, [], 0),
  (26, .getfield 46, 3, [5, 5, 0, 195], 0),
  (29, .ifCond .ne 7, 3, [], 0),
  (32, .iconst 1, 1, [], 0),
  (33, .goto 4, 3, [], 0),
  (36, .iconst 0, 1, [], 0),
  (37, .istore_n 3, 1, [], 0),
  (38, .iload_n 3, 1, [], 0),
  (39, .ifCond .ne 13, 3, [], 0),
  (42, .aload_n 0, 1, [], 0),
  (43, .getfield 42, 3, [5, 4, 1, 193], 0),
  (46, .invokevirtual 110, 3, [7, 0, 0, 395, 396, 397, 40, 1], 0),
  (49, .ifCond .ne 12, 3, [], 0),
  (52, .aload_n 0, 1, [], 0),
  (53, .iload_n 1, 1, [], 0),
  (54, .iload_n 2, 1, [], 0),
  (55, .invokevirtual 114, 3, [55, 2, 0, 399, 400, 401, 35, 5], 0),
  (58, .ifCond .ne 6, 3, [], 0),
  (61, .ldc 87, 2, [0, 358], -1000003),
  (63, .ireturn, 1, [], 0),
  (64, .aload_n 0, 1, [], 0),
  (65, .dup, 1, [], 0),
  (66, .getfield 56, 3, [5, 8, 0, 201], 0),
  (69, .aload_n 0, 1, [], 0),
  (70, .getfield 21, 3, [5, 1, 1, 187], 0),
  (73, .getfield 95, 3, [7, 3, 1, 96], 0),
  (76, .iload_n 1, 1, [], 0),
  (77, .iaload, 1, [], 0),
  (78, .iload_n 2, 1, [], 0),
  (79, .imul, 1, [], 0),
  (80, .isub, 1, [], 0),
  (81, .putfield 56, 3, [5, 8, 0, 201, 0], 0),
  (84, .iload_n 3, 1, [], 0),
  (85, .ifCond .eq 19, 3, [], 0),
  (88, .aload_n 0, 1, [], 0),
  (89, .getfield 21, 3, [5, 1, 1, 187], 0),
  (92, .getfield 118, 3, [7, 4, 1, 98], 0),
  (95, .iload_n 1, 1, [], 0),
  (96, .dup2, 1, [], 0),
  (97, .iaload, 1, [], 0),
  (98, .iload_n 2, 1, [], 0),
  (99, .iadd, 1, [], 0),
  (100, .iastore, 1, [], 0),
  (101, .goto 24, 3, [], 0),
  (104, .aload_n 0, 1, [], 0),
  (105, .getfield 42, 3, [5, 4, 1, 193], 0),
  (108, .iload_n 1, 1, [], 0),
  (109, .iload_n 2, 1, [], 0),
  (110, .aload_n 0, 1, [], 0),
  (111, .getfield 12, 3, [5, 0, 1, 185], 0),
  (114, .getfield 121, 3, [0, 0, 0, 68], 0),
  (117, .aload_n 0, 1, [], 0),
  (118, .getfield 46, 3, [5, 5, 0, 195], 0),
  (121, .iadd, 1, [], 0),
  (122, .invokevirtual 124, 3, [42, 3, 0, 407, 408, 409, 40, 1], 0),
  (125, .aload_n 0, 1, [], 0),
  (126, .getfield 12, 3, [5, 0, 1, 185], 0),
  (129, .getfield 121, 3, [0, 0, 0, 68], 0),
  (132, .aload_n 0, 1, [], 0),
  (133, .getfield 46, 3, [5, 5, 0, 195], 0),
  (136, .iadd, 1, [], 0),
  (137, .ireturn, 1, [], 0)]
/-- X5_returnCards -/
def q_p96 : List q_R := [(0, .iconst 0, 1, [], 0),
  (1, .istore_n 1, 1, [], 0),
  (2, .iconst 0, 1, [], 0),
  (3, .istore_n 2, 1, [], 0),
  (4, .iload_n 2, 1, [], 0),
  (5, .aload_n 0, 1, [], 0),
  (6, .getfield 21, 3, [5, 1, 1, 187], 0),
  (9, .getfield 84, 3, [7, 0, 0, 89], 0),
  (12, .if_icmp .ge 36, 3, [], 0),
  (15, .aload_n 0, 1, [], 0),
  (16, .getfield 12, 3, [5, 0, 1, 185], 0),
  (19, .aload_n 0, 1, [], 0),
  (20, .getfield 21, 3, [5, 1, 1, 187], 0),
  (23, .getfield 88, 3, [7, 1, 1, 92], 0),
  (26, .iload_n 2, 1, [], 0),
  (27, .iaload, 1, [], 0),
  (28, .invokevirtual 104, 3, [41, 1, 0, 375, 376, 377, 36, 0], 0),
  (31, .ifCond .ne 11, 3, [], 0),
  (34, .iload_n 1, 1, [], 0),
  (35, .aload_n 0, 1, [], 0),
  (36, .iload_n 2, 1, [], 0),
  (37, .invokevirtual 178, 3, [56, 1, 0, 490, 491, 492, 35, 5], 0),
  (40, .iadd, 1, [], 0),
  (41, .istore_n 1, 1, [], 0),
  (42, .iinc 2 1, 3, [], 0),
  (45, .goto (-41), 3, [], 0),
  (48, .iload_n 1, 1, [], 0),
  (49, .ifCond .ne 6, 3, [], 0),
  (52, .ldc 141, 2, [0, 427], -1000002),
  (54, .ireturn, 1, [], 0),
  (55, .aload_n 0, 1, [], 0),
  (56, .dup, 1, [], 0),
  (57, .getfield 53, 3, [5, 7, 0, 199], 0),
  (60, .iload_n 1, 1, [], 0),
  (61, .iadd, 1, [], 0),
  (62, .putfield 53, 3, [5, 7, 0, 199, 0], 0),
  (65, .iload_n 1, 1, [], 0),
  (66, .ireturn, 1, [], 0)]
/-- X5_slotOfOther -/
def q_p97 : List q_R := [(0, .iconst (-1), 1, [], 0),
  (1, .istore_n 2, 1, [], 0),
  (2, .iconst (-1), 1, [], 0),
  (3, .istore_n 3, 1, [], 0),
  (4, .iconst 0, 1, [], 0),
  (5, .istore 4, 2, [], 0),
  (7, .iload 4, 2, [], 0),
  (9, .bipush 10, 2, [], 0),
  (11, .if_icmp .ge 64, 3, [], 0),
  (14, .aload_n 0, 1, [], 0),
  (15, .getfield 35, 3, [5, 3, 1, 191], 0),
  (18, .getfield 138, 3, [3, 1, 1, 150], 0),
  (21, .iload 4, 2, [], 0),
  (23, .iaload, 1, [], 0),
  (24, .ifCond .le 45, 3, [], 0),
  (27, .aload_n 0, 1, [], 0),
  (28, .iload 4, 2, [], 0),
  (30, .aload_n 0, 1, [], 0),
  (31, .getfield 21, 3, [5, 1, 1, 187], 0),
  (34, .getfield 88, 3, [7, 1, 1, 92], 0),
  (37, .iload_n 1, 1, [], 0),
  (38, .iaload, 1, [], 0),
  (39, .invokevirtual 171, 3, [54, 2, 0, 456, 457, 458, 35, 5], 0),
  (42, .ifCond .eq 27, 3, [], 0),
  (45, .aload_n 0, 1, [], 0),
  (46, .getfield 35, 3, [5, 3, 1, 191], 0),
  (49, .iload 4, 2, [], 0),
  (51, .iload_n 1, 1, [], 0),
  (52, .invokevirtual 174, 3, [48, 2, 0, 460, 461, 462, 39, 3], 0),
  (55, .istore 5, 2, [], 0),
  (57, .iload 5, 2, [], 0),
  (59, .iload_n 3, 1, [], 0),
  (60, .if_icmp .le 9, 3, [], 0),
  (63, .iload 4, 2, [], 0),
  (65, .istore_n 2, 1, [], 0),
  (66, .iload 5, 2, [], 0),
  (68, .istore_n 3, 1, [], 0),
  (69, .iinc 4 1, 3, [], 0),
  (72, .goto (-65), 3, [], 0),
  (75, .iload_n 2, 1, [], 0),
  (76, .ireturn, 1, [], 0)]
/-- X5_slotToLay -/
def q_p98 : List q_R := [(0, .iconst (-1), 1, [], 0),
  (1, .istore_n 2, 1, [], 0),
  (2, .iconst (-1), 1, [], 0),
  (3, .istore_n 3, 1, [], 0),
  (4, .iconst 0, 1, [], 0),
  (5, .istore 4, 2, [], 0),
  (7, .iload 4, 2, [], 0),
  (9, .bipush 10, 2, [], 0),
  (11, .if_icmp .ge 43, 3, [], 0),
  (14, .aload_n 0, 1, [], 0),
  (15, .getfield 35, 3, [5, 3, 1, 191], 0),
  (18, .iload 4, 2, [], 0),
  (20, .iload_n 1, 1, [], 0),
  (21, .invokevirtual 216, 3, [12, 2, 0, 610, 611, 612, 39, 3], 0),
  (24, .ifCond .eq 24, 3, [], 0),
  (27, .aload_n 0, 1, [], 0),
  (28, .iload 4, 2, [], 0),
  (30, .iload_n 1, 1, [], 0),
  (31, .invokevirtual 219, 3, [57, 2, 0, 614, 615, 616, 35, 5], 0),
  (34, .istore 5, 2, [], 0),
  (36, .iload 5, 2, [], 0),
  (38, .iload_n 3, 1, [], 0),
  (39, .if_icmp .le 9, 3, [], 0),
  (42, .iload 4, 2, [], 0),
  (44, .istore_n 2, 1, [], 0),
  (45, .iload 5, 2, [], 0),
  (47, .istore_n 3, 1, [], 0),
  (48, .iinc 4 1, 3, [], 0),
  (51, .goto (-44), 3, [], 0),
  (54, .iload_n 2, 1, [], 0),
  (55, .ireturn, 1, [], 0)]
/-- X5_takeIn -/
def q_p99 : List q_R := [(0, .iconst 0, 1, [], 0),
  (1, .istore_n 1, 1, [], 0),
  (2, .iload_n 1, 1, [], 0),
  (3, .bipush 8, 2, [], 0),
  (5, .if_icmp .ge 75, 3, [], 0),
  (8, .aload_n 0, 1, [], 0),
  (9, .getfield 42, 3, [5, 4, 1, 193], 0),
  (12, .aload_n 0, 1, [], 0),
  (13, .getfield 12, 3, [5, 0, 1, 185], 0),
  (16, .getfield 121, 3, [0, 0, 0, 68], 0),
  (19, .invokevirtual 190, 3, [6, 1, 0, 514, 515, 516, 40, 1], 0),
  (22, .ifCond .eq 58, 3, [], 0),
  (25, .aload_n 0, 1, [], 0),
  (26, .getfield 42, 3, [5, 4, 1, 193], 0),
  (29, .getfield 193, 3, [1, 1, 1, 171], 0),
  (32, .iconst 0, 1, [], 0),
  (33, .iaload, 1, [], 0),
  (34, .istore_n 2, 1, [], 0),
  (35, .aload_n 0, 1, [], 0),
  (36, .getfield 21, 3, [5, 1, 1, 187], 0),
  (39, .iload_n 2, 1, [], 0),
  (40, .invokevirtual 107, 3, [20, 1, 0, 391, 392, 393, 37, 7], 0),
  (43, .ifCond .eq 24, 3, [], 0),
  (46, .aload_n 0, 1, [], 0),
  (47, .getfield 21, 3, [5, 1, 1, 187], 0),
  (50, .getfield 118, 3, [7, 4, 1, 98], 0),
  (53, .iload_n 2, 1, [], 0),
  (54, .dup2, 1, [], 0),
  (55, .iaload, 1, [], 0),
  (56, .aload_n 0, 1, [], 0),
  (57, .getfield 42, 3, [5, 4, 1, 193], 0),
  (60, .getfield 196, 3, [1, 2, 1, 173], 0),
  (63, .iconst 0, 1, [], 0),
  (64, .iaload, 1, [], 0),
  (65, .iadd, 1, [], 0),
  (66, .iastore, 1, [], 0),
  (67, .aload_n 0, 1, [], 0),
  (68, .getfield 42, 3, [5, 4, 1, 193], 0),
  (71, .invokevirtual 199, 3, [44, 0, 0, 518, 519, 520, 40, 1], 0),
  (74, .iinc 1 1, 3, [], 0),
  (77, .goto (-75), 3, [], 0),
  (80, .iload_n 1, 1, [], 0),
  (81, .ireturn, 1, [], 0)]
/-- X6_readOrder -/
def q_p100 : List q_R := [(0, .aload_n 0, 1, [], 0),
  (1, .iload_n 1, 1, [], 0),
  (2, .putfield 27, 3, [6, 4, 0, 236, 0], 0),
  (5, .aload_n 0, 1, [], 0),
  (6, .aload_n 0, 1, [], 0),
  (7, .iload_n 1, 1, [], 0),
  (8, .invokevirtual 30, 3, [19, 1, 0, 683, 684, 685, 41, 6], 0),
  (11, .putfield 23, 3, [6, 3, 2, 234, 0], 0),
  (14, .aload_n 0, 1, [], 0),
  (15, .getfield 23, 3, [6, 3, 2, 234], 0),
  (18, .invokestatic 34, 3, [18, 1, 2, 687, 688, 0, 41], 0),
  (21, .istore_n 2, 1, [], 0),
  (22, .iload_n 2, 1, [], 0),
  (23, .ifCond .ne 5, 3, [], 0),
  (26, .iconst 0, 1, [], 0),
  (27, .ireturn, 1, [], 0),
  (28, .aload_n 0, 1, [], 0),
  (29, .dup, 1, [], 0),
  (30, .getfield 27, 3, [6, 4, 0, 236], 0),
  (33, .iconst 1, 1, [], 0),
  (34, .iadd, 1, [], 0),
  (35, .putfield 27, 3, [6, 4, 0, 236, 0], 0),
  (38, .iconst 0, 1, [], 0),
  (39, .istore_n 3, 1, [], 0),
  (40, .iload_n 3, 1, [], 0),
  (41, .iload_n 2, 1, [], 0),
  (42, .if_icmp .ge 58, 3, [], 0),
  (45, .iload_n 3, 1, [], 0),
  (46, .iload_n 2, 1, [], 0),
  (47, .iconst 1, 1, [], 0),
  (48, .isub, 1, [], 0),
  (49, .if_icmp .ge 8, 3, [], 0),
  (52, .bipush 44, 2, [], 0),
  (54, .goto 5, 3, [], 0),
  (57, .bipush 59, 2, [], 0),
  (59, .istore 4, 2, [], 0),
  (61, .aload_n 0, 1, [], 0),
  (62, .iload_n 3, 1, [], 0),
  (63, .invokevirtual 38, 3, [59, 1, 0, 690, 691, 692, 41, 6], 0),
  (66, .ifCond .eq 16, 3, [], 0),
  (69, .aload_n 0, 1, [], 0),
  (70, .aload_n 0, 1, [], 0),
  (71, .getfield 27, 3, [6, 4, 0, 236], 0),
  (74, .invokevirtual 30, 3, [19, 1, 0, 683, 684, 685, 41, 6], 0),
  (77, .iload 4, 2, [], 0),
  (79, .if_icmp .eq 5, 3, [], 0),
  (82, .iconst 0, 1, [], 0),
  (83, .ireturn, 1, [], 0),
  (84, .aload_n 0, 1, [], 0),
  (85, .dup, 1, [], 0),
  (86, .getfield 27, 3, [6, 4, 0, 236], 0),
  (89, .iconst 1, 1, [], 0),
  (90, .iadd, 1, [], 0),
  (91, .putfield 27, 3, [6, 4, 0, 236, 0], 0),
  (94, .iinc 3 1, 3, [], 0),
  (97, .goto (-57), 3, [], 0),
  (100, .iconst 1, 1, [], 0),
  (101, .ireturn, 1, [], 0)]
/-- X7_copyFrom -/
def q_p101 : List q_R := [(0, .aload_n 0, 1, [], 0),
  (1, .aload_n 1, 1, [], 0),
  (2, .getfield 9, 3, [7, 0, 0, 88], 0),
  (5, .putfield 9, 3, [7, 0, 0, 88, 0], 0),
  (8, .aload_n 1, 1, [], 0),
  (9, .getfield 15, 3, [7, 1, 1, 91], 0),
  (12, .aload_n 0, 1, [], 0),
  (13, .getfield 15, 3, [7, 1, 1, 91], 0),
  (16, .invokestatic 40, 3, [61, 2, 3, 330, 318, 0, 34], 0),
  (19, .aload_n 1, 1, [], 0),
  (20, .getfield 19, 3, [7, 2, 1, 93], 0),
  (23, .aload_n 0, 1, [], 0),
  (24, .getfield 19, 3, [7, 2, 1, 93], 0),
  (27, .invokestatic 40, 3, [61, 2, 3, 330, 318, 0, 34], 0),
  (30, .aload_n 1, 1, [], 0),
  (31, .getfield 22, 3, [7, 3, 1, 95], 0),
  (34, .aload_n 0, 1, [], 0),
  (35, .getfield 22, 3, [7, 3, 1, 95], 0),
  (38, .invokestatic 40, 3, [61, 2, 3, 330, 318, 0, 34], 0),
  (41, .aload_n 1, 1, [], 0),
  (42, .getfield 25, 3, [7, 4, 1, 97], 0),
  (45, .aload_n 0, 1, [], 0),
  (46, .getfield 25, 3, [7, 4, 1, 97], 0),
  (49, .invokestatic 40, 3, [61, 2, 3, 330, 318, 0, 34], 0),
  (52, .aload_n 1, 1, [], 0),
  (53, .getfield 28, 3, [7, 5, 1, 100], 0),
  (56, .aload_n 0, 1, [], 0),
  (57, .getfield 28, 3, [7, 5, 1, 100], 0),
  (60, .invokestatic 40, 3, [61, 2, 3, 330, 318, 0, 34], 0),
  (63, .aload_n 1, 1, [], 0),
  (64, .getfield 31, 3, [7, 6, 1, 103], 0),
  (67, .aload_n 0, 1, [], 0),
  (68, .getfield 31, 3, [7, 6, 1, 103], 0),
  (71, .invokestatic 40, 3, [61, 2, 3, 330, 318, 0, 34], 0),
  (74, .aload_n 1, 1, [], 0),
  (75, .getfield 34, 3, [7, 7, 1, 105], 0),
  (78, .aload_n 0, 1, [], 0),
  (79, .getfield 34, 3, [7, 7, 1, 105], 0),
  (82, .invokestatic 40, 3, [61, 2, 3, 330, 318, 0, 34], 0),
  (85, .aload_n 1, 1, [], 0),
  (86, .getfield 37, 3, [7, 8, 1, 108], 0),
  (89, .aload_n 0, 1, [], 0),
  (90, .getfield 37, 3, [7, 8, 1, 108], 0),
  (93, .invokestatic 40, 3, [61, 2, 3, 330, 318, 0, 34], 0),
  (96, .return_, 1, [], 0)]
/-- X8_count -/
def q_p102 : List q_R := [(0, .iload_n 1, 1, [], 0),
  (1, .tableswitch 251 0 21 #[103, 114, 125, 139, 153, 164, 178, 192, 200, 211, 222, 227, 251, 251, 251, 251, 251, 251, 251, 251, 235, 243], 103, [], 0),
  (104, .aload_n 0, 1, [], 0),
  (105, .getfield 10, 3, [8, 0, 1, 273], 0),
  (108, .getfield 90, 3, [5, 1, 1, 188], 0),
  (111, .getfield 176, 3, [7, 0, 0, 90], 0),
  (114, .ireturn, 1, [], 0),
  (115, .aload_n 0, 1, [], 0),
  (116, .getfield 10, 3, [8, 0, 1, 273], 0),
  (119, .getfield 120, 3, [5, 0, 1, 186], 0),
  (122, .getfield 164, 3, [0, 0, 0, 69], 0),
  (125, .ireturn, 1, [], 0),
  (126, .aload_n 0, 1, [], 0),
  (127, .getfield 10, 3, [8, 0, 1, 273], 0),
  (130, .getfield 142, 3, [5, 3, 1, 192], 0),
  (133, .getfield 179, 3, [3, 1, 1, 151], 0),
  (136, .invokestatic 182, 3, [25, 1, 2, 645, 646, 0, 34], 0),
  (139, .ireturn, 1, [], 0),
  (140, .aload_n 0, 1, [], 0),
  (141, .getfield 10, 3, [8, 0, 1, 273], 0),
  (144, .getfield 90, 3, [5, 1, 1, 188], 0),
  (147, .getfield 186, 3, [7, 4, 1, 99], 0),
  (150, .invokestatic 182, 3, [25, 1, 2, 645, 646, 0, 34], 0),
  (153, .ireturn, 1, [], 0),
  (154, .aload_n 0, 1, [], 0),
  (155, .getfield 10, 3, [8, 0, 1, 273], 0),
  (158, .getfield 189, 3, [5, 4, 1, 194], 0),
  (161, .getfield 193, 3, [1, 0, 0, 168], 0),
  (164, .ireturn, 1, [], 0),
  (165, .aload_n 0, 1, [], 0),
  (166, .getfield 10, 3, [8, 0, 1, 273], 0),
  (169, .getfield 90, 3, [5, 1, 1, 188], 0),
  (172, .getfield 196, 3, [7, 5, 1, 102], 0),
  (175, .invokestatic 182, 3, [25, 1, 2, 645, 646, 0, 34], 0),
  (178, .ireturn, 1, [], 0),
  (179, .aload_n 0, 1, [], 0),
  (180, .getfield 10, 3, [8, 0, 1, 273], 0),
  (183, .getfield 90, 3, [5, 1, 1, 188], 0),
  (186, .getfield 199, 3, [7, 7, 1, 107], 0),
  (189, .invokestatic 182, 3, [25, 1, 2, 645, 646, 0, 34], 0),
  (192, .ireturn, 1, [], 0),
  (193, .aload_n 0, 1, [], 0),
  (194, .getfield 10, 3, [8, 0, 1, 273], 0),
  (197, .getfield 202, 3, [5, 7, 0, 200], 0),
  (200, .ireturn, 1, [], 0),
  (201, .aload_n 0, 1, [], 0),
  (202, .getfield 10, 3, [8, 0, 1, 273], 0),
  (205, .getfield 205, 3, [5, 8, 0, 202], 0),
  (208, .ldc 208, 2, [0, 648], 100000000),
  (210, .iadd, 1, [], 0),
  (211, .ireturn, 1, [], 0),
  (212, .aload_n 0, 1, [], 0),
  (213, .getfield 10, 3, [8, 0, 1, 273], 0),
  (216, .getfield 129, 3, [5, 2, 1, 190], 0),
  (219, .invokevirtual 209, 3, [47, 0, 0, 649, 650, 651, 38, 2], 0),
  (222, .ireturn, 1, [], 0),
  (223, .aload_n 0, 1, [], 0),
  (224, .getfield 31, 3, [8, 6, 0, 279], 0),
  (227, .ireturn, 1, [], 0),
  (228, .aload_n 0, 1, [], 0),
  (229, .getfield 38, 3, [8, 7, 1, 280], 0),
  (232, .getfield 212, 3, [6, 1, 0, 231], 0),
  (235, .ireturn, 1, [], 0),
  (236, .aload_n 0, 1, [], 0),
  (237, .getfield 10, 3, [8, 0, 1, 273], 0),
  (240, .getfield 215, 3, [5, 5, 0, 196], 0),
  (243, .ireturn, 1, [], 0),
  (244, .aload_n 0, 1, [], 0),
  (245, .getfield 10, 3, [8, 0, 1, 273], 0),
  (248, .getfield 218, 3, [5, 6, 0, 198], 0),
  (251, .ireturn, 1, [], 0),
  (252, .ldc 104, 2, [0, 538], -1000001),
  (254, .ireturn, 1, [], 0)]
/-- X8_lasts -/
def q_p103 : List q_R := [(0, .aload_n 0, 1, [], 0),
  (1, .getfield 10, 3, [8, 0, 1, 273], 0),
  (4, .getfield 90, 3, [5, 1, 1, 188], 0),
  (7, .iload_n 1, 1, [], 0),
  (8, .invokevirtual 94, 3, [20, 1, 0, 537, 392, 393, 37, 7], 0),
  (11, .ifCond .ne 6, 3, [], 0),
  (14, .ldc 104, 2, [0, 538], -1000001),
  (16, .ireturn, 1, [], 0),
  (17, .aload_n 0, 1, [], 0),
  (18, .getfield 10, 3, [8, 0, 1, 273], 0),
  (21, .getfield 90, 3, [5, 1, 1, 188], 0),
  (24, .getfield 158, 3, [7, 8, 1, 110], 0),
  (27, .iload_n 1, 1, [], 0),
  (28, .iaload, 1, [], 0),
  (29, .istore_n 2, 1, [], 0),
  (30, .iload_n 2, 1, [], 0),
  (31, .ifCond .gt 6, 3, [], 0),
  (34, .ldc 141, 2, [0, 601], -1000004),
  (36, .ireturn, 1, [], 0),
  (37, .aload_n 0, 1, [], 0),
  (38, .getfield 10, 3, [8, 0, 1, 273], 0),
  (41, .iload_n 1, 1, [], 0),
  (42, .invokevirtual 161, 3, [52, 1, 0, 632, 633, 634, 35, 5], 0),
  (45, .i2f, 1, [], 0),
  (46, .fstore_n 3, 1, [], 0),
  (47, .iconst 1, 1, [], 0),
  (48, .aload_n 0, 1, [], 0),
  (49, .getfield 10, 3, [8, 0, 1, 273], 0),
  (52, .getfield 120, 3, [5, 0, 1, 186], 0),
  (55, .getfield 164, 3, [0, 0, 0, 69], 0),
  (58, .invokestatic 167, 3, [1, 2, 2, 636, 523, 0, 44], 0),
  (61, .i2f, 1, [], 0),
  (62, .fstore 4, 2, [], 0),
  (64, .fload_n 3, 1, [], 0),
  (65, .fload 4, 2, [], 0),
  (67, .fmul, 1, [], 0),
  (68, .iload_n 2, 1, [], 0),
  (69, .i2f, 1, [], 0),
  (70, .fdiv, 1, [], 0),
  (71, .invokestatic 172, 3, [22, 1, 2, 637, 638, 0, 34], 0),
  (74, .ireturn, 1, [], 0)]
/-- X8_partner -/
def q_p104 : List q_R := [(0, .aload_n 0, 1, [], 0),
  (1, .getfield 10, 3, [8, 0, 1, 273], 0),
  (4, .getfield 90, 3, [5, 1, 1, 188], 0),
  (7, .iload_n 1, 1, [], 0),
  (8, .invokevirtual 94, 3, [20, 1, 0, 537, 392, 393, 37, 7], 0),
  (11, .ifCond .ne 6, 3, [], 0),
  (14, .ldc 104, 2, [0, 538], -1000001),
  (16, .ireturn, 1, [], 0),
  (17, .aload_n 0, 1, [], 0),
  (18, .getfield 10, 3, [8, 0, 1, 273], 0),
  (21, .getfield 129, 3, [5, 2, 1, 190], 0),
  (24, .iload_n 1, 1, [], 0),
  (25, .invokevirtual 155, 3, [46, 1, 0, 623, 624, 625, 38, 2], 0),
  (28, .istore_n 2, 1, [], 0),
  (29, .iload_n 2, 1, [], 0),
  (30, .iconst (-1), 1, [], 0),
  (31, .if_icmp .ne 8, 3, [], 0),
  (34, .ldc 141, 2, [0, 601], -1000004),
  (36, .goto 4, 3, [], 0),
  (39, .iload_n 2, 1, [], 0),
  (40, .ireturn, 1, [], 0)]
/-- X8_settle -/
def q_p105 : List q_R := [(0, .iload_n 1, 1, [], 0),
  (1, .ifCond .lt 7, 3, [], 0),
  (4, .aload_n 0, 1, [], 0),
  (5, .invokevirtual 247, 3, [64, 0, 0, 363, 365, 2, 34, 8], 0),
  (8, .iload_n 1, 1, [], 0),
  (9, .ireturn, 1, [], 0)]
/-- X8_verseOf -/
def q_p106 : List q_R := [(0, .aload_n 0, 1, [], 0),
  (1, .getfield 10, 3, [8, 0, 1, 273], 0),
  (4, .getfield 90, 3, [5, 1, 1, 188], 0),
  (7, .iload_n 1, 1, [], 0),
  (8, .invokevirtual 94, 3, [20, 1, 0, 537, 392, 393, 37, 7], 0),
  (11, .ifCond .eq 13, 3, [], 0),
  (14, .iload_n 2, 1, [], 0),
  (15, .iconst 0, 1, [], 0),
  (16, .bipush 9, 2, [], 0),
  (18, .invokestatic 100, 3, [24, 3, 2, 353, 354, 0, 34], 0),
  (21, .ifCond .ne 6, 3, [], 0),
  (24, .ldc 104, 2, [0, 538], -1000001),
  (26, .ireturn, 1, [], 0),
  (27, .aload_n 0, 1, [], 0),
  (28, .getfield 10, 3, [8, 0, 1, 273], 0),
  (31, .iload_n 1, 1, [], 0),
  (32, .iload_n 2, 1, [], 0),
  (33, .invokevirtual 105, 3, [51, 2, 0, 539, 540, 541, 35, 5], 0),
  (36, .ireturn, 1, [], 0)]
/-- X9_bestSlot -/
def q_p107 : List q_R := [(0, .aload_n 0, 1, [], 0),
  (1, .iload_n 1, 1, [], 0),
  (2, .invokevirtual 45, 3, [75, 1, 0, 788, 790, 12, 43, 9], 0),
  (5, .ifCond .ne 6, 3, [], 0),
  (8, .ldc 24, 2, [0, 762], -1000001),
  (10, .ireturn, 1, [], 0),
  (11, .ldc 105, 2, [0, 883], -1000004),
  (13, .istore_n 2, 1, [], 0),
  (14, .iconst (-1), 1, [], 0),
  (15, .istore_n 3, 1, [], 0),
  (16, .iconst 0, 1, [], 0),
  (17, .istore 4, 2, [], 0),
  (19, .iload 4, 2, [], 0),
  (21, .bipush 10, 2, [], 0),
  (23, .if_icmp .ge 125, 3, [], 0),
  (26, .iconst 0, 1, [], 0),
  (27, .istore 5, 2, [], 0),
  (29, .iconst 0, 1, [], 0),
  (30, .istore 6, 2, [], 0),
  (32, .iload 6, 2, [], 0),
  (34, .bipush 10, 2, [], 0),
  (36, .if_icmp .ge 52, 3, [], 0),
  (39, .iload 5, 2, [], 0),
  (41, .iload 4, 2, [], 0),
  (43, .iload 6, 2, [], 0),
  (45, .invokestatic 57, 3, [33, 2, 2, 841, 842, 0, 43], 0),
  (48, .ifCond .eq 30, 3, [], 0),
  (51, .aload_n 0, 1, [], 0),
  (52, .iload 6, 2, [], 0),
  (54, .invokevirtual 33, 3, [31, 1, 0, 808, 810, 16, 43, 9], 0),
  (57, .ifCond .lt 21, 3, [], 0),
  (60, .aload_n 0, 1, [], 0),
  (61, .getfield 7, 3, [9, 0, 1, 718], 0),
  (64, .aload_n 0, 1, [], 0),
  (65, .iload 6, 2, [], 0),
  (67, .invokevirtual 33, 3, [31, 1, 0, 808, 810, 16, 43, 9], 0),
  (70, .iload_n 1, 1, [], 0),
  (71, .invokestatic 96, 3, [36, 2, 2, 848, 849, 0, 43], 0),
  (74, .iaload, 1, [], 0),
  (75, .goto 4, 3, [], 0),
  (78, .iconst 0, 1, [], 0),
  (79, .iadd, 1, [], 0),
  (80, .istore 5, 2, [], 0),
  (82, .iinc 6 1, 3, [], 0),
  (85, .goto (-53), 3, [], 0),
  (88, .aload_n 0, 1, [], 0),
  (89, .iload 4, 2, [], 0),
  (91, .invokevirtual 33, 3, [31, 1, 0, 808, 810, 16, 43, 9], 0),
  (94, .ifCond .lt 24, 3, [], 0),
  (97, .aload_n 0, 1, [], 0),
  (98, .iload 4, 2, [], 0),
  (100, .invokevirtual 33, 3, [31, 1, 0, 808, 810, 16, 43, 9], 0),
  (103, .iload_n 1, 1, [], 0),
  (104, .if_icmp .ne 18, 3, [], 0),
  (107, .aload_n 0, 1, [], 0),
  (108, .iload 4, 2, [], 0),
  (110, .invokevirtual 37, 3, [28, 1, 0, 812, 814, 17, 43, 9], 0),
  (113, .bipush 12, 2, [], 0),
  (115, .if_icmp .ge 7, 3, [], 0),
  (118, .iconst 1, 1, [], 0),
  (119, .goto 4, 3, [], 0),
  (122, .iconst 0, 1, [], 0),
  (123, .istore 6, 2, [], 0),
  (125, .iload 6, 2, [], 0),
  (127, .ifCond .eq 15, 3, [], 0),
  (130, .iload 5, 2, [], 0),
  (132, .iload_n 3, 1, [], 0),
  (133, .if_icmp .le 9, 3, [], 0),
  (136, .iload 4, 2, [], 0),
  (138, .istore_n 2, 1, [], 0),
  (139, .iload 5, 2, [], 0),
  (141, .istore_n 3, 1, [], 0),
  (142, .iinc 4 1, 3, [], 0),
  (145, .goto (-126), 3, [], 0),
  (148, .iload_n 2, 1, [], 0),
  (149, .ireturn, 1, [], 0)]
/-- X9_clear -/
def q_p108 : List q_R := [(0, .iload_n 1, 1, [], 0),
  (1, .iconst 0, 1, [], 0),
  (2, .bipush 9, 2, [], 0),
  (4, .invokestatic 29, 3, [32, 3, 2, 759, 760, 0, 43], 0),
  (7, .ifCond .ne 6, 3, [], 0),
  (10, .ldc 24, 2, [0, 762], -1000001),
  (12, .ireturn, 1, [], 0),
  (13, .aload_n 0, 1, [], 0),
  (14, .iload_n 1, 1, [], 0),
  (15, .invokevirtual 33, 3, [31, 1, 0, 808, 810, 16, 43, 9], 0),
  (18, .istore_n 2, 1, [], 0),
  (19, .iload_n 2, 1, [], 0),
  (20, .ifCond .ge 6, 3, [], 0),
  (23, .ldc 56, 2, [0, 816], -1000002),
  (25, .ireturn, 1, [], 0),
  (26, .aload_n 0, 1, [], 0),
  (27, .iload_n 1, 1, [], 0),
  (28, .invokevirtual 37, 3, [28, 1, 0, 812, 814, 17, 43, 9], 0),
  (31, .istore_n 3, 1, [], 0),
  (32, .aload_n 0, 1, [], 0),
  (33, .iload_n 2, 1, [], 0),
  (34, .iconst 3, 1, [], 0),
  (35, .invokevirtual 49, 3, [34, 2, 0, 792, 794, 13, 43, 9], 0),
  (38, .aload_n 0, 1, [], 0),
  (39, .iload_n 2, 1, [], 0),
  (40, .invokevirtual 53, 3, [35, 1, 0, 796, 798, 14, 43, 9], 0),
  (43, .iadd, 1, [], 0),
  (44, .iload_n 3, 1, [], 0),
  (45, .iadd, 1, [], 0),
  (46, .sipush 9999, 3, [], 0),
  (49, .if_icmp .le 6, 3, [], 0),
  (52, .ldc 40, 2, [0, 763], -1000003),
  (54, .ireturn, 1, [], 0),
  (55, .aload_n 0, 1, [], 0),
  (56, .invokevirtual 77, 3, [76, 0, 0, 747, 749, 5, 43, 9], 0),
  (59, .aload_n 0, 1, [], 0),
  (60, .iload_n 2, 1, [], 0),
  (61, .iconst 3, 1, [], 0),
  (62, .iload_n 3, 1, [], 0),
  (63, .invokevirtual 41, 3, [27, 3, 0, 764, 766, 8, 43, 9], 0),
  (66, .aload_n 0, 1, [], 0),
  (67, .getfield 7, 3, [9, 0, 1, 718], 0),
  (70, .bipush 107, 2, [], 0),
  (72, .iconst 3, 1, [], 0),
  (73, .iload_n 1, 1, [], 0),
  (74, .imul, 1, [], 0),
  (75, .iadd, 1, [], 0),
  (76, .iconst (-1), 1, [], 0),
  (77, .iastore, 1, [], 0),
  (78, .aload_n 0, 1, [], 0),
  (79, .getfield 7, 3, [9, 0, 1, 718], 0),
  (82, .bipush 107, 2, [], 0),
  (84, .iconst 3, 1, [], 0),
  (85, .iload_n 1, 1, [], 0),
  (86, .imul, 1, [], 0),
  (87, .iadd, 1, [], 0),
  (88, .iconst 1, 1, [], 0),
  (89, .iadd, 1, [], 0),
  (90, .iconst 0, 1, [], 0),
  (91, .iastore, 1, [], 0),
  (92, .aload_n 0, 1, [], 0),
  (93, .iload_n 3, 1, [], 0),
  (94, .invokevirtual 84, 3, [68, 1, 0, 768, 770, 9, 43, 9], 0),
  (97, .ireturn, 1, [], 0)]
/-- X9_doLay -/
def q_p109 : List q_R := [(0, .iload_n 1, 1, [], 0),
  (1, .iconst 0, 1, [], 0),
  (2, .bipush 9, 2, [], 0),
  (4, .invokestatic 29, 3, [32, 3, 2, 759, 760, 0, 43], 0),
  (7, .ifCond .eq 21, 3, [], 0),
  (10, .aload_n 0, 1, [], 0),
  (11, .iload_n 2, 1, [], 0),
  (12, .invokevirtual 45, 3, [75, 1, 0, 788, 790, 12, 43, 9], 0),
  (15, .ifCond .eq 13, 3, [], 0),
  (18, .iload_n 3, 1, [], 0),
  (19, .iconst 1, 1, [], 0),
  (20, .bipush 12, 2, [], 0),
  (22, .invokestatic 29, 3, [32, 3, 2, 759, 760, 0, 43], 0),
  (25, .ifCond .ne 6, 3, [], 0),
  (28, .ldc 24, 2, [0, 762], -1000001),
  (30, .ireturn, 1, [], 0),
  (31, .aload_n 0, 1, [], 0),
  (32, .iload_n 1, 1, [], 0),
  (33, .invokevirtual 33, 3, [31, 1, 0, 808, 810, 16, 43, 9], 0),
  (36, .iload_n 2, 1, [], 0),
  (37, .if_icmp .eq 7, 3, [], 0),
  (40, .iconst 1, 1, [], 0),
  (41, .goto 4, 3, [], 0),
  (44, .iconst 0, 1, [], 0),
  (45, .istore 4, 2, [], 0),
  (47, .iload 4, 2, [], 0),
  (49, .ifCond .eq 11, 3, [], 0),
  (52, .aload_n 0, 1, [], 0),
  (53, .iload_n 1, 1, [], 0),
  (54, .invokevirtual 37, 3, [28, 1, 0, 812, 814, 17, 43, 9], 0),
  (57, .ifCond .gt 13, 3, [], 0),
  (60, .aload_n 0, 1, [], 0),
  (61, .iload_n 2, 1, [], 0),
  (62, .iconst 3, 1, [], 0),
  (63, .invokevirtual 49, 3, [34, 2, 0, 792, 794, 13, 43, 9], 0),
  (66, .iload_n 3, 1, [], 0),
  (67, .if_icmp .ge 6, 3, [], 0),
  (70, .ldc 56, 2, [0, 816], -1000002),
  (72, .ireturn, 1, [], 0),
  (73, .aload_n 0, 1, [], 0),
  (74, .iload_n 1, 1, [], 0),
  (75, .invokevirtual 37, 3, [28, 1, 0, 812, 814, 17, 43, 9], 0),
  (78, .iload_n 3, 1, [], 0),
  (79, .iadd, 1, [], 0),
  (80, .bipush 12, 2, [], 0),
  (82, .if_icmp .le 6, 3, [], 0),
  (85, .ldc 40, 2, [0, 763], -1000003),
  (87, .ireturn, 1, [], 0),
  (88, .aload_n 0, 1, [], 0),
  (89, .getfield 7, 3, [9, 0, 1, 718], 0),
  (92, .bipush 107, 2, [], 0),
  (94, .iconst 3, 1, [], 0),
  (95, .iload_n 1, 1, [], 0),
  (96, .imul, 1, [], 0),
  (97, .iadd, 1, [], 0),
  (98, .iload_n 2, 1, [], 0),
  (99, .iastore, 1, [], 0),
  (100, .aload_n 0, 1, [], 0),
  (101, .getfield 7, 3, [9, 0, 1, 718], 0),
  (104, .bipush 107, 2, [], 0),
  (106, .iconst 3, 1, [], 0),
  (107, .iload_n 1, 1, [], 0),
  (108, .imul, 1, [], 0),
  (109, .iadd, 1, [], 0),
  (110, .iconst 1, 1, [], 0),
  (111, .iadd, 1, [], 0),
  (112, .dup2, 1, [], 0),
  (113, .iaload, 1, [], 0),
  (114, .iload_n 3, 1, [], 0),
  (115, .iadd, 1, [], 0),
  (116, .iastore, 1, [], 0),
  (117, .aload_n 0, 1, [], 0),
  (118, .iload_n 2, 1, [], 0),
  (119, .iconst 3, 1, [], 0),
  (120, .iload_n 3, 1, [], 0),
  (121, .ineg, 1, [], 0),
  (122, .invokevirtual 41, 3, [27, 3, 0, 764, 766, 8, 43, 9], 0),
  (125, .aload_n 0, 1, [], 0),
  (126, .iload_n 1, 1, [], 0),
  (127, .invokevirtual 37, 3, [28, 1, 0, 812, 814, 17, 43, 9], 0),
  (130, .ireturn, 1, [], 0)]
/-- X9_doOrder -/
def q_p110 : List q_R := [(0, .aload_n 0, 1, [], 0),
  (1, .iload_n 1, 1, [], 0),
  (2, .invokevirtual 45, 3, [75, 1, 0, 788, 790, 12, 43, 9], 0),
  (5, .ifCond .eq 14, 3, [], 0),
  (8, .iload_n 2, 1, [], 0),
  (9, .iconst 1, 1, [], 0),
  (10, .sipush 999, 3, [], 0),
  (13, .invokestatic 29, 3, [32, 3, 2, 759, 760, 0, 43], 0),
  (16, .ifCond .ne 6, 3, [], 0),
  (19, .ldc 24, 2, [0, 762], -1000001),
  (21, .ireturn, 1, [], 0),
  (22, .aload_n 0, 1, [], 0),
  (23, .getfield 7, 3, [9, 0, 1, 718], 0),
  (26, .sipush 306, 3, [], 0),
  (29, .iaload, 1, [], 0),
  (30, .istore_n 3, 1, [], 0),
  (31, .iload_n 3, 1, [], 0),
  (32, .ifCond .le 16, 3, [], 0),
  (35, .aload_n 0, 1, [], 0),
  (36, .getfield 7, 3, [9, 0, 1, 718], 0),
  (39, .sipush 137, 3, [], 0),
  (42, .iaload, 1, [], 0),
  (43, .bipush 8, 2, [], 0),
  (45, .if_icmp .eq 23, 3, [], 0),
  (48, .aload_n 0, 1, [], 0),
  (49, .iload_n 1, 1, [], 0),
  (50, .iconst 3, 1, [], 0),
  (51, .invokevirtual 49, 3, [34, 2, 0, 792, 794, 13, 43, 9], 0),
  (54, .aload_n 0, 1, [], 0),
  (55, .iload_n 1, 1, [], 0),
  (56, .invokevirtual 53, 3, [35, 1, 0, 796, 798, 14, 43, 9], 0),
  (59, .iadd, 1, [], 0),
  (60, .iload_n 2, 1, [], 0),
  (61, .iadd, 1, [], 0),
  (62, .sipush 9999, 3, [], 0),
  (65, .if_icmp .le 6, 3, [], 0),
  (68, .ldc 40, 2, [0, 763], -1000003),
  (70, .ireturn, 1, [], 0),
  (71, .aload_n 0, 1, [], 0),
  (72, .getfield 7, 3, [9, 0, 1, 718], 0),
  (75, .sipush 310, 3, [], 0),
  (78, .dup2, 1, [], 0),
  (79, .iaload, 1, [], 0),
  (80, .iload_n 2, 1, [], 0),
  (81, .aload_n 0, 1, [], 0),
  (82, .iload_n 1, 1, [], 0),
  (83, .iconst 2, 1, [], 0),
  (84, .invokevirtual 49, 3, [34, 2, 0, 792, 794, 13, 43, 9], 0),
  (87, .imul, 1, [], 0),
  (88, .isub, 1, [], 0),
  (89, .iastore, 1, [], 0),
  (90, .iload_n 3, 1, [], 0),
  (91, .ifCond .ne 13, 3, [], 0),
  (94, .aload_n 0, 1, [], 0),
  (95, .iload_n 1, 1, [], 0),
  (96, .iconst 3, 1, [], 0),
  (97, .iload_n 2, 1, [], 0),
  (98, .invokevirtual 41, 3, [27, 3, 0, 764, 766, 8, 43, 9], 0),
  (101, .goto 68, 3, [], 0),
  (104, .sipush 138, 3, [], 0),
  (107, .iconst 3, 1, [], 0),
  (108, .aload_n 0, 1, [], 0),
  (109, .getfield 7, 3, [9, 0, 1, 718], 0),
  (112, .sipush 137, 3, [], 0),
  (115, .iaload, 1, [], 0),
  (116, .imul, 1, [], 0),
  (117, .iadd, 1, [], 0),
  (118, .istore 4, 2, [], 0),
  (120, .aload_n 0, 1, [], 0),
  (121, .getfield 7, 3, [9, 0, 1, 718], 0),
  (124, .iload 4, 2, [], 0),
  (126, .iload_n 1, 1, [], 0),
  (127, .iastore, 1, [], 0),
  (128, .aload_n 0, 1, [], 0),
  (129, .getfield 7, 3, [9, 0, 1, 718], 0),
  (132, .iload 4, 2, [], 0),
  (134, .iconst 1, 1, [], 0),
  (135, .iadd, 1, [], 0),
  (136, .iload_n 2, 1, [], 0),
  (137, .iastore, 1, [], 0),
  (138, .aload_n 0, 1, [], 0),
  (139, .getfield 7, 3, [9, 0, 1, 718], 0),
  (142, .iload 4, 2, [], 0),
  (144, .iconst 2, 1, [], 0),
  (145, .iadd, 1, [], 0),
  (146, .aload_n 0, 1, [], 0),
  (147, .getfield 7, 3, [9, 0, 1, 718], 0),
  (150, .sipush 308, 3, [], 0),
  (153, .iaload, 1, [], 0),
  (154, .iload_n 3, 1, [], 0),
  (155, .iadd, 1, [], 0),
  (156, .iastore, 1, [], 0),
  (157, .aload_n 0, 1, [], 0),
  (158, .getfield 7, 3, [9, 0, 1, 718], 0),
  (161, .sipush 137, 3, [], 0),
  (164, .dup2, 1, [], 0),
  (165, .iaload, 1, [], 0),
  (166, .iconst 1, 1, [], 0),
  (167, .iadd, 1, [], 0),
  (168, .iastore, 1, [], 0),
  (169, .aload_n 0, 1, [], 0),
  (170, .getfield 7, 3, [9, 0, 1, 718], 0),
  (173, .sipush 308, 3, [], 0),
  (176, .iaload, 1, [], 0),
  (177, .iload_n 3, 1, [], 0),
  (178, .iadd, 1, [], 0),
  (179, .ireturn, 1, [], 0)]
/-- X9_doPass -/
def q_p111 : List q_R := [(0, .iload_n 1, 1, [], 0),
  (1, .iconst 1, 1, [], 0),
  (2, .bipush 99, 2, [], 0),
  (4, .invokestatic 29, 3, [32, 3, 2, 759, 760, 0, 43], 0),
  (7, .ifCond .ne 6, 3, [], 0),
  (10, .ldc 24, 2, [0, 762], -1000001),
  (12, .ireturn, 1, [], 0),
  (13, .aload_n 0, 1, [], 0),
  (14, .getfield 7, 3, [9, 0, 1, 718], 0),
  (17, .sipush 308, 3, [], 0),
  (20, .iaload, 1, [], 0),
  (21, .iload_n 1, 1, [], 0),
  (22, .iadd, 1, [], 0),
  (23, .sipush 1999, 3, [], 0),
  (26, .if_icmp .le 6, 3, [], 0),
  (29, .ldc 40, 2, [0, 763], -1000003),
  (31, .ireturn, 1, [], 0),
  (32, .iconst 0, 1, [], 0),
  (33, .istore_n 2, 1, [], 0),
  (34, .iconst 0, 1, [], 0),
  (35, .istore_n 3, 1, [], 0),
  (36, .iload_n 3, 1, [], 0),
  (37, .iload_n 1, 1, [], 0),
  (38, .if_icmp .ge 28, 3, [], 0),
  (41, .aload_n 0, 1, [], 0),
  (42, .getfield 7, 3, [9, 0, 1, 718], 0),
  (45, .sipush 308, 3, [], 0),
  (48, .dup2, 1, [], 0),
  (49, .iaload, 1, [], 0),
  (50, .iconst 1, 1, [], 0),
  (51, .iadd, 1, [], 0),
  (52, .iastore, 1, [], 0),
  (53, .iload_n 2, 1, [], 0),
  (54, .aload_n 0, 1, [], 0),
  (55, .invokevirtual 73, 3, [70, 0, 0, 867, 869, 24, 43, 9], 0),
  (58, .iadd, 1, [], 0),
  (59, .istore_n 2, 1, [], 0),
  (60, .iinc 3 1, 3, [], 0),
  (63, .goto (-27), 3, [], 0),
  (66, .iload_n 2, 1, [], 0),
  (67, .ireturn, 1, [], 0)]
/-- X9_giveBack -/
def q_p112 : List q_R := [(0, .aload_n 0, 1, [], 0),
  (1, .invokevirtual 77, 3, [76, 0, 0, 747, 749, 5, 43, 9], 0),
  (4, .iconst 0, 1, [], 0),
  (5, .istore_n 1, 1, [], 0),
  (6, .iconst 0, 1, [], 0),
  (7, .istore_n 2, 1, [], 0),
  (8, .iload_n 2, 1, [], 0),
  (9, .aload_n 0, 1, [], 0),
  (10, .getfield 7, 3, [9, 0, 1, 718], 0),
  (13, .bipush 10, 2, [], 0),
  (15, .iaload, 1, [], 0),
  (16, .if_icmp .ge 133, 3, [], 0),
  (19, .aload_n 0, 1, [], 0),
  (20, .aload_n 0, 1, [], 0),
  (21, .iload_n 2, 1, [], 0),
  (22, .iconst 0, 1, [], 0),
  (23, .invokevirtual 49, 3, [34, 2, 0, 792, 794, 13, 43, 9], 0),
  (26, .invokevirtual 61, 3, [74, 1, 0, 776, 778, 10, 43, 9], 0),
  (29, .ifCond .ne 114, 3, [], 0),
  (32, .aload_n 0, 1, [], 0),
  (33, .iload_n 2, 1, [], 0),
  (34, .iconst 3, 1, [], 0),
  (35, .invokevirtual 49, 3, [34, 2, 0, 792, 794, 13, 43, 9], 0),
  (38, .aload_n 0, 1, [], 0),
  (39, .iload_n 2, 1, [], 0),
  (40, .invokevirtual 99, 3, [72, 1, 0, 855, 857, 22, 43, 9], 0),
  (43, .iadd, 1, [], 0),
  (44, .istore_n 3, 1, [], 0),
  (45, .iload_n 1, 1, [], 0),
  (46, .iload_n 3, 1, [], 0),
  (47, .iadd, 1, [], 0),
  (48, .istore_n 1, 1, [], 0),
  (49, .aload_n 0, 1, [], 0),
  (50, .getfield 7, 3, [9, 0, 1, 718], 0),
  (53, .sipush 310, 3, [], 0),
  (56, .dup2, 1, [], 0),
  (57, .iaload, 1, [], 0),
  (58, .iload_n 3, 1, [], 0),
  (59, .aload_n 0, 1, [], 0),
  (60, .getfield 7, 3, [9, 0, 1, 718], 0),
  (63, .sipush 307, 3, [], 0),
  (66, .iaload, 1, [], 0),
  (67, .aload_n 0, 1, [], 0),
  (68, .iload_n 2, 1, [], 0),
  (69, .iconst 2, 1, [], 0),
  (70, .invokevirtual 49, 3, [34, 2, 0, 792, 794, 13, 43, 9], 0),
  (73, .imul, 1, [], 0),
  (74, .bipush 100, 2, [], 0),
  (76, .idiv, 1, [], 0),
  (77, .imul, 1, [], 0),
  (78, .iadd, 1, [], 0),
  (79, .iastore, 1, [], 0),
  (80, .aload_n 0, 1, [], 0),
  (81, .iload_n 2, 1, [], 0),
  (82, .iconst 3, 1, [], 0),
  (83, .aload_n 0, 1, [], 0),
  (84, .iload_n 2, 1, [], 0),
  (85, .iconst 3, 1, [], 0),
  (86, .invokevirtual 49, 3, [34, 2, 0, 792, 794, 13, 43, 9], 0),
  (89, .ineg, 1, [], 0),
  (90, .invokevirtual 41, 3, [27, 3, 0, 764, 766, 8, 43, 9], 0),
  (93, .iconst 0, 1, [], 0),
  (94, .istore 4, 2, [], 0),
  (96, .iload 4, 2, [], 0),
  (98, .bipush 10, 2, [], 0),
  (100, .if_icmp .ge 43, 3, [], 0),
  (103, .aload_n 0, 1, [], 0),
  (104, .getfield 7, 3, [9, 0, 1, 718], 0),
  (107, .bipush 107, 2, [], 0),
  (109, .iconst 3, 1, [], 0),
  (110, .iload 4, 2, [], 0),
  (112, .imul, 1, [], 0),
  (113, .iadd, 1, [], 0),
  (114, .iconst 1, 1, [], 0),
  (115, .iadd, 1, [], 0),
  (116, .aload_n 0, 1, [], 0),
  (117, .iload 4, 2, [], 0),
  (119, .invokevirtual 33, 3, [31, 1, 0, 808, 810, 16, 43, 9], 0),
  (122, .iload_n 2, 1, [], 0),
  (123, .if_icmp .ne 7, 3, [], 0),
  (126, .iconst 0, 1, [], 0),
  (127, .goto 9, 3, [], 0),
  (130, .aload_n 0, 1, [], 0),
  (131, .iload 4, 2, [], 0),
  (133, .invokevirtual 37, 3, [28, 1, 0, 812, 814, 17, 43, 9], 0),
  (136, .iastore, 1, [], 0),
  (137, .iinc 4 1, 3, [], 0),
  (140, .goto (-44), 3, [], 0),
  (143, .iinc 2 1, 3, [], 0),
  (146, .goto (-138), 3, [], 0),
  (149, .aload_n 0, 1, [], 0),
  (150, .getfield 7, 3, [9, 0, 1, 718], 0),
  (153, .sipush 309, 3, [], 0),
  (156, .dup2, 1, [], 0),
  (157, .iaload, 1, [], 0),
  (158, .iload_n 1, 1, [], 0),
  (159, .iadd, 1, [], 0),
  (160, .iastore, 1, [], 0),
  (161, .iload_n 1, 1, [], 0),
  (162, .ifCond .ne 8, 3, [], 0),
  (165, .ldc 56, 2, [0, 816], -1000002),
  (167, .goto 8, 3, [], 0),
  (170, .aload_n 0, 1, [], 0),
  (171, .iload_n 1, 1, [], 0),
  (172, .invokevirtual 84, 3, [68, 1, 0, 768, 770, 9, 43, 9], 0),
  (175, .ireturn, 1, [], 0)]
/-- X9_isOrder -/
def q_p113 : List q_R := [(0, .iload_n 1, 1, [], 0),
  (1, .bipush 118, 2, [], 0),
  (3, .if_icmp .eq 9, 3, [], 0),
  (6, .iload_n 1, 1, [], 0),
  (7, .bipush 108, 2, [], 0),
  (9, .if_icmp .ne 7, 3, [], 0),
  (12, .iconst 3, 1, [], 0),
  (13, .goto 30, 3, [], 0),
  (16, .iload_n 1, 1, [], 0),
  (17, .bipush 111, 2, [], 0),
  (19, .if_icmp .ne 7, 3, [], 0),
  (22, .iconst 2, 1, [], 0),
  (23, .goto 20, 3, [], 0),
  (26, .iload_n 1, 1, [], 0),
  (27, .bipush 115, 2, [], 0),
  (29, .if_icmp .eq 9, 3, [], 0),
  (32, .iload_n 1, 1, [], 0),
  (33, .bipush 100, 2, [], 0),
  (35, .if_icmp .ne 7, 3, [], 0),
  (38, .iconst 1, 1, [], 0),
  (39, .goto 4, 3, [], 0),
  (42, .iconst 0, 1, [], 0),
  (43, .istore_n 2, 1, [], 0),
  (44, .iload_n 2, 1, [], 0),
  (45, .ifCond .ne 5, 3, [], 0),
  (48, .iconst 0, 1, [], 0),
  (49, .ireturn, 1, [], 0),
  (50, .aload_n 0, 1, [], 0),
  (51, .dup, 1, [], 0),
  (52, .getfield 122, 3, [9, 6, 0, 724], 0),
  (55, .iconst 1, 1, [], 0),
  (56, .iadd, 1, [], 0),
  (57, .putfield 122, 3, [9, 6, 0, 724, 0], 0),
  (60, .iconst 1, 1, [], 0),
  (61, .istore_n 3, 1, [], 0),
  (62, .iconst 0, 1, [], 0),
  (63, .istore 4, 2, [], 0),
  (65, .iload 4, 2, [], 0),
  (67, .iload_n 2, 1, [], 0),
  (68, .if_icmp .ge 42, 3, [], 0),
  (71, .iload_n 3, 1, [], 0),
  (72, .ifCond .eq 38, 3, [], 0),
  (75, .iload 4, 2, [], 0),
  (77, .ifCond .eq 12, 3, [], 0),
  (80, .aload_n 0, 1, [], 0),
  (81, .bipush 44, 2, [], 0),
  (83, .invokevirtual 128, 3, [80, 1, 0, 963, 965, 30, 43, 9], 0),
  (86, .ifCond .eq 16, 3, [], 0),
  (89, .aload_n 0, 1, [], 0),
  (90, .iload 4, 2, [], 0),
  (92, .invokevirtual 131, 3, [77, 1, 0, 967, 969, 31, 43, 9], 0),
  (95, .ifCond .eq 7, 3, [], 0),
  (98, .iconst 1, 1, [], 0),
  (99, .goto 4, 3, [], 0),
  (102, .iconst 0, 1, [], 0),
  (103, .istore_n 3, 1, [], 0),
  (104, .iinc 4 1, 3, [], 0),
  (107, .goto (-42), 3, [], 0),
  (110, .iload_n 3, 1, [], 0),
  (111, .ifCond .eq 16, 3, [], 0),
  (114, .aload_n 0, 1, [], 0),
  (115, .bipush 59, 2, [], 0),
  (117, .invokevirtual 128, 3, [80, 1, 0, 963, 965, 30, 43, 9], 0),
  (120, .ifCond .eq 7, 3, [], 0),
  (123, .iconst 1, 1, [], 0),
  (124, .goto 4, 3, [], 0),
  (127, .iconst 0, 1, [], 0),
  (128, .ireturn, 1, [], 0)]
/-- X9_lasts -/
def q_p114 : List q_R := [(0, .aload_n 0, 1, [], 0),
  (1, .iload_n 1, 1, [], 0),
  (2, .invokevirtual 45, 3, [75, 1, 0, 788, 790, 12, 43, 9], 0),
  (5, .ifCond .ne 6, 3, [], 0),
  (8, .ldc 24, 2, [0, 762], -1000001),
  (10, .ireturn, 1, [], 0),
  (11, .aload_n 0, 1, [], 0),
  (12, .iload_n 1, 1, [], 0),
  (13, .bipush 7, 2, [], 0),
  (15, .invokevirtual 49, 3, [34, 2, 0, 792, 794, 13, 43, 9], 0),
  (18, .ifCond .ne 6, 3, [], 0),
  (21, .ldc 105, 2, [0, 883], -1000004),
  (23, .ireturn, 1, [], 0),
  (24, .aload_n 0, 1, [], 0),
  (25, .iload_n 1, 1, [], 0),
  (26, .invokevirtual 99, 3, [72, 1, 0, 855, 857, 22, 43, 9], 0),
  (29, .aload_n 0, 1, [], 0),
  (30, .iload_n 1, 1, [], 0),
  (31, .iconst 3, 1, [], 0),
  (32, .invokevirtual 49, 3, [34, 2, 0, 792, 794, 13, 43, 9], 0),
  (35, .iadd, 1, [], 0),
  (36, .aload_n 0, 1, [], 0),
  (37, .iload_n 1, 1, [], 0),
  (38, .invokevirtual 53, 3, [35, 1, 0, 796, 798, 14, 43, 9], 0),
  (41, .iadd, 1, [], 0),
  (42, .istore_n 2, 1, [], 0),
  (43, .aload_n 0, 1, [], 0),
  (44, .getfield 7, 3, [9, 0, 1, 718], 0),
  (47, .sipush 308, 3, [], 0),
  (50, .iaload, 1, [], 0),
  (51, .iconst 1, 1, [], 0),
  (52, .if_icmp .ge 7, 3, [], 0),
  (55, .iconst 1, 1, [], 0),
  (56, .goto 11, 3, [], 0),
  (59, .aload_n 0, 1, [], 0),
  (60, .getfield 7, 3, [9, 0, 1, 718], 0),
  (63, .sipush 308, 3, [], 0),
  (66, .iaload, 1, [], 0),
  (67, .istore_n 3, 1, [], 0),
  (68, .iload_n 2, 1, [], 0),
  (69, .i2f, 1, [], 0),
  (70, .iload_n 3, 1, [], 0),
  (71, .i2f, 1, [], 0),
  (72, .fmul, 1, [], 0),
  (73, .aload_n 0, 1, [], 0),
  (74, .iload_n 1, 1, [], 0),
  (75, .bipush 7, 2, [], 0),
  (77, .invokevirtual 49, 3, [34, 2, 0, 792, 794, 13, 43, 9], 0),
  (80, .i2f, 1, [], 0),
  (81, .fdiv, 1, [], 0),
  (82, .invokestatic 106, 3, [39, 1, 2, 912, 913, 0, 46], 0),
  (85, .ireturn, 1, [], 0)]
/-- X9_occasionOf -/
def q_p115 : List q_R := [(0, .iload_n 1, 1, [], 0),
  (1, .iconst 0, 1, [], 0),
  (2, .iconst 4, 1, [], 0),
  (3, .invokestatic 29, 3, [32, 3, 2, 759, 760, 0, 43], 0),
  (6, .ifCond .eq 12, 3, [], 0),
  (9, .iload_n 2, 1, [], 0),
  (10, .iconst 0, 1, [], 0),
  (11, .iconst 4, 1, [], 0),
  (12, .invokestatic 29, 3, [32, 3, 2, 759, 760, 0, 43], 0),
  (15, .ifCond .ne 6, 3, [], 0),
  (18, .ldc 24, 2, [0, 762], -1000001),
  (20, .ireturn, 1, [], 0),
  (21, .aload_n 0, 1, [], 0),
  (22, .getfield 7, 3, [9, 0, 1, 718], 0),
  (25, .iconst 0, 1, [], 0),
  (26, .iconst 2, 1, [], 0),
  (27, .iload_n 1, 1, [], 0),
  (28, .imul, 1, [], 0),
  (29, .iadd, 1, [], 0),
  (30, .iaload, 1, [], 0),
  (31, .istore_n 3, 1, [], 0),
  (32, .aload_n 0, 1, [], 0),
  (33, .getfield 7, 3, [9, 0, 1, 718], 0),
  (36, .iconst 0, 1, [], 0),
  (37, .iconst 2, 1, [], 0),
  (38, .iload_n 1, 1, [], 0),
  (39, .imul, 1, [], 0),
  (40, .iadd, 1, [], 0),
  (41, .iconst 1, 1, [], 0),
  (42, .iadd, 1, [], 0),
  (43, .iaload, 1, [], 0),
  (44, .istore 4, 2, [], 0),
  (46, .aload_n 0, 1, [], 0),
  (47, .getfield 7, 3, [9, 0, 1, 718], 0),
  (50, .sipush 308, 3, [], 0),
  (53, .iaload, 1, [], 0),
  (54, .sipush 360, 3, [], 0),
  (57, .irem, 1, [], 0),
  (58, .istore 5, 2, [], 0),
  (60, .aload_n 0, 1, [], 0),
  (61, .iload_n 1, 1, [], 0),
  (62, .invokevirtual 61, 3, [74, 1, 0, 776, 778, 10, 43, 9], 0),
  (65, .istore 6, 2, [], 0),
  (67, .iload_n 2, 1, [], 0),
  (68, .tableswitch 70 0 3 #[32, 34, 37, 48], 32, [], 0),
  (100, .iload_n 3, 1, [], 0),
  (101, .ireturn, 1, [], 0),
  (102, .iload 4, 2, [], 0),
  (104, .ireturn, 1, [], 0),
  (105, .iload 6, 2, [], 0),
  (107, .ifCond .eq 7, 3, [], 0),
  (110, .iconst 1, 1, [], 0),
  (111, .goto 4, 3, [], 0),
  (114, .iconst 0, 1, [], 0),
  (115, .ireturn, 1, [], 0),
  (116, .iload 6, 2, [], 0),
  (118, .ifCond .eq 7, 3, [], 0),
  (121, .iconst 0, 1, [], 0),
  (122, .goto 15, 3, [], 0),
  (125, .iload_n 3, 1, [], 0),
  (126, .iload 5, 2, [], 0),
  (128, .isub, 1, [], 0),
  (129, .sipush 360, 3, [], 0),
  (132, .iadd, 1, [], 0),
  (133, .sipush 360, 3, [], 0),
  (136, .irem, 1, [], 0),
  (137, .ireturn, 1, [], 0),
  (138, .iload 6, 2, [], 0),
  (140, .ifCond .ne 7, 3, [], 0),
  (143, .iconst 0, 1, [], 0),
  (144, .goto 39, 3, [], 0),
  (147, .iload 4, 2, [], 0),
  (149, .iload_n 3, 1, [], 0),
  (150, .isub, 1, [], 0),
  (151, .sipush 361, 3, [], 0),
  (154, .iadd, 1, [], 0),
  (155, .sipush 360, 3, [], 0),
  (158, .irem, 1, [], 0),
  (159, .ifCond .ne 9, 3, [], 0),
  (162, .sipush 360, 3, [], 0),
  (165, .goto 18, 3, [], 0),
  (168, .iload 4, 2, [], 0),
  (170, .iload 5, 2, [], 0),
  (172, .isub, 1, [], 0),
  (173, .sipush 360, 3, [], 0),
  (176, .iadd, 1, [], 0),
  (177, .sipush 360, 3, [], 0),
  (180, .irem, 1, [], 0),
  (181, .iconst 1, 1, [], 0),
  (182, .iadd, 1, [], 0),
  (183, .ireturn, 1, [], 0)]
/-- X9_partner -/
def q_p116 : List q_R := [(0, .aload_n 0, 1, [], 0),
  (1, .iload_n 1, 1, [], 0),
  (2, .invokevirtual 45, 3, [75, 1, 0, 788, 790, 12, 43, 9], 0),
  (5, .ifCond .ne 6, 3, [], 0),
  (8, .ldc 24, 2, [0, 762], -1000001),
  (10, .ireturn, 1, [], 0),
  (11, .ldc 105, 2, [0, 883], -1000004),
  (13, .istore_n 2, 1, [], 0),
  (14, .iconst 0, 1, [], 0),
  (15, .istore_n 3, 1, [], 0),
  (16, .iconst 0, 1, [], 0),
  (17, .istore 4, 2, [], 0),
  (19, .iload 4, 2, [], 0),
  (21, .aload_n 0, 1, [], 0),
  (22, .getfield 7, 3, [9, 0, 1, 718], 0),
  (25, .bipush 10, 2, [], 0),
  (27, .iaload, 1, [], 0),
  (28, .if_icmp .ge 58, 3, [], 0),
  (31, .iload 4, 2, [], 0),
  (33, .iload_n 1, 1, [], 0),
  (34, .if_icmp .ne 7, 3, [], 0),
  (37, .iconst 0, 1, [], 0),
  (38, .goto 14, 3, [], 0),
  (41, .aload_n 0, 1, [], 0),
  (42, .getfield 7, 3, [9, 0, 1, 718], 0),
  (45, .iload 4, 2, [], 0),
  (47, .iload_n 1, 1, [], 0),
  (48, .invokestatic 96, 3, [36, 2, 2, 848, 849, 0, 43], 0),
  (51, .iaload, 1, [], 0),
  (52, .istore 5, 2, [], 0),
  (54, .iload 5, 2, [], 0),
  (56, .iload_n 3, 1, [], 0),
  (57, .if_icmp .le 8, 3, [], 0),
  (60, .iload 4, 2, [], 0),
  (62, .goto 4, 3, [], 0),
  (65, .iload_n 2, 1, [], 0),
  (66, .istore_n 2, 1, [], 0),
  (67, .iload 5, 2, [], 0),
  (69, .iload_n 3, 1, [], 0),
  (70, .if_icmp .le 8, 3, [], 0),
  (73, .iload 5, 2, [], 0),
  (75, .goto 4, 3, [], 0),
  (78, .iload_n 3, 1, [], 0),
  (79, .istore_n 3, 1, [], 0),
  (80, .iinc 4 1, 3, [], 0),
  (83, .goto (-64), 3, [], 0),
  (86, .iload_n 2, 1, [], 0),
  (87, .ireturn, 1, [], 0)]
/-- X9_season -/
def q_p117 : List q_R := [(0, .iload_n 1, 1, [], 0),
  (1, .iconst 0, 1, [], 0),
  (2, .iconst 4, 1, [], 0),
  (3, .invokestatic 29, 3, [32, 3, 2, 759, 760, 0, 43], 0),
  (6, .ifCond .eq 25, 3, [], 0),
  (9, .iload_n 2, 1, [], 0),
  (10, .iconst 0, 1, [], 0),
  (11, .sipush 359, 3, [], 0),
  (14, .invokestatic 29, 3, [32, 3, 2, 759, 760, 0, 43], 0),
  (17, .ifCond .eq 14, 3, [], 0),
  (20, .iload_n 3, 1, [], 0),
  (21, .iconst 0, 1, [], 0),
  (22, .sipush 359, 3, [], 0),
  (25, .invokestatic 29, 3, [32, 3, 2, 759, 760, 0, 43], 0),
  (28, .ifCond .ne 6, 3, [], 0),
  (31, .ldc 24, 2, [0, 762], -1000001),
  (33, .ireturn, 1, [], 0),
  (34, .aload_n 0, 1, [], 0),
  (35, .invokevirtual 77, 3, [76, 0, 0, 747, 749, 5, 43, 9], 0),
  (38, .aload_n 0, 1, [], 0),
  (39, .getfield 7, 3, [9, 0, 1, 718], 0),
  (42, .iconst 0, 1, [], 0),
  (43, .iconst 2, 1, [], 0),
  (44, .iload_n 1, 1, [], 0),
  (45, .imul, 1, [], 0),
  (46, .iadd, 1, [], 0),
  (47, .iload_n 2, 1, [], 0),
  (48, .iastore, 1, [], 0),
  (49, .aload_n 0, 1, [], 0),
  (50, .getfield 7, 3, [9, 0, 1, 718], 0),
  (53, .iconst 0, 1, [], 0),
  (54, .iconst 2, 1, [], 0),
  (55, .iload_n 1, 1, [], 0),
  (56, .imul, 1, [], 0),
  (57, .iadd, 1, [], 0),
  (58, .iconst 1, 1, [], 0),
  (59, .iadd, 1, [], 0),
  (60, .iload_n 3, 1, [], 0),
  (61, .iastore, 1, [], 0),
  (62, .aload_n 0, 1, [], 0),
  (63, .aload_n 0, 1, [], 0),
  (64, .iload_n 1, 1, [], 0),
  (65, .invokevirtual 61, 3, [74, 1, 0, 776, 778, 10, 43, 9], 0),
  (68, .ifCond .eq 7, 3, [], 0),
  (71, .iconst 1, 1, [], 0),
  (72, .goto 4, 3, [], 0),
  (75, .iconst 0, 1, [], 0),
  (76, .invokevirtual 84, 3, [68, 1, 0, 768, 770, 9, 43, 9], 0),
  (79, .ireturn, 1, [], 0)]
/-- X9_set -/
def q_p118 : List q_R := [(0, .iload_n 1, 1, [], 0),
  (1, .iconst 0, 1, [], 0),
  (2, .iconst 1, 1, [], 0),
  (3, .invokestatic 29, 3, [32, 3, 2, 759, 760, 0, 43], 0),
  (6, .ifCond .eq 22, 3, [], 0),
  (9, .iload_n 2, 1, [], 0),
  (10, .iconst 0, 1, [], 0),
  (11, .iload_n 1, 1, [], 0),
  (12, .ifCond .ne 8, 3, [], 0),
  (15, .bipush 30, 2, [], 0),
  (17, .goto 5, 3, [], 0),
  (20, .bipush 100, 2, [], 0),
  (22, .invokestatic 29, 3, [32, 3, 2, 759, 760, 0, 43], 0),
  (25, .ifCond .ne 6, 3, [], 0),
  (28, .ldc 24, 2, [0, 762], -1000001),
  (30, .ireturn, 1, [], 0),
  (31, .aload_n 0, 1, [], 0),
  (32, .invokevirtual 77, 3, [76, 0, 0, 747, 749, 5, 43, 9], 0),
  (35, .aload_n 0, 1, [], 0),
  (36, .getfield 7, 3, [9, 0, 1, 718], 0),
  (39, .sipush 306, 3, [], 0),
  (42, .iload_n 1, 1, [], 0),
  (43, .iadd, 1, [], 0),
  (44, .iaload, 1, [], 0),
  (45, .istore_n 3, 1, [], 0),
  (46, .aload_n 0, 1, [], 0),
  (47, .getfield 7, 3, [9, 0, 1, 718], 0),
  (50, .sipush 306, 3, [], 0),
  (53, .iload_n 1, 1, [], 0),
  (54, .iadd, 1, [], 0),
  (55, .iload_n 2, 1, [], 0),
  (56, .iastore, 1, [], 0),
  (57, .aload_n 0, 1, [], 0),
  (58, .iload_n 3, 1, [], 0),
  (59, .invokevirtual 84, 3, [68, 1, 0, 768, 770, 9, 43, 9], 0),
  (62, .ireturn, 1, [], 0)]
/-- X9_slotFor -/
def q_p119 : List q_R := [(0, .aload_n 0, 1, [], 0),
  (1, .aload_n 0, 1, [], 0),
  (2, .iload_n 1, 1, [], 0),
  (3, .iconst 0, 1, [], 0),
  (4, .invokevirtual 49, 3, [34, 2, 0, 792, 794, 13, 43, 9], 0),
  (7, .invokevirtual 61, 3, [74, 1, 0, 776, 778, 10, 43, 9], 0),
  (10, .ifCond .ne 5, 3, [], 0),
  (13, .iconst (-1), 1, [], 0),
  (14, .ireturn, 1, [], 0),
  (15, .iconst (-1), 1, [], 0),
  (16, .istore_n 2, 1, [], 0),
  (17, .bipush 9, 2, [], 0),
  (19, .istore_n 3, 1, [], 0),
  (20, .iload_n 3, 1, [], 0),
  (21, .ifCond .lt 32, 3, [], 0),
  (24, .aload_n 0, 1, [], 0),
  (25, .iload_n 3, 1, [], 0),
  (26, .invokevirtual 33, 3, [31, 1, 0, 808, 810, 16, 43, 9], 0),
  (29, .iload_n 1, 1, [], 0),
  (30, .if_icmp .ne 15, 3, [], 0),
  (33, .aload_n 0, 1, [], 0),
  (34, .iload_n 3, 1, [], 0),
  (35, .invokevirtual 37, 3, [28, 1, 0, 812, 814, 17, 43, 9], 0),
  (38, .ifCond .le 7, 3, [], 0),
  (41, .iload_n 3, 1, [], 0),
  (42, .goto 4, 3, [], 0),
  (45, .iload_n 2, 1, [], 0),
  (46, .istore_n 2, 1, [], 0),
  (47, .iinc 3 (-1), 3, [], 0),
  (50, .goto (-30), 3, [], 0),
  (53, .iload_n 2, 1, [], 0),
  (54, .ifCond .lt 5, 3, [], 0),
  (57, .iload_n 2, 1, [], 0),
  (58, .ireturn, 1, [], 0),
  (59, .iconst (-1), 1, [], 0),
  (60, .istore_n 3, 1, [], 0),
  (61, .iconst 0, 1, [], 0),
  (62, .istore 4, 2, [], 0),
  (64, .iload 4, 2, [], 0),
  (66, .bipush 10, 2, [], 0),
  (68, .if_icmp .ge 75, 3, [], 0),
  (71, .aload_n 0, 1, [], 0),
  (72, .iload 4, 2, [], 0),
  (74, .invokevirtual 37, 3, [28, 1, 0, 812, 814, 17, 43, 9], 0),
  (77, .ifCond .le 27, 3, [], 0),
  (80, .aload_n 0, 1, [], 0),
  (81, .aload_n 0, 1, [], 0),
  (82, .iload 4, 2, [], 0),
  (84, .invokevirtual 33, 3, [31, 1, 0, 808, 810, 16, 43, 9], 0),
  (87, .iconst 0, 1, [], 0),
  (88, .invokevirtual 49, 3, [34, 2, 0, 792, 794, 13, 43, 9], 0),
  (91, .aload_n 0, 1, [], 0),
  (92, .iload_n 1, 1, [], 0),
  (93, .iconst 0, 1, [], 0),
  (94, .invokevirtual 49, 3, [34, 2, 0, 792, 794, 13, 43, 9], 0),
  (97, .if_icmp .ne 7, 3, [], 0),
  (100, .iconst 1, 1, [], 0),
  (101, .goto 4, 3, [], 0),
  (104, .iconst 0, 1, [], 0),
  (105, .istore 5, 2, [], 0),
  (107, .iload 5, 2, [], 0),
  (109, .ifCond .eq 13, 3, [], 0),
  (112, .aload_n 0, 1, [], 0),
  (113, .iload 4, 2, [], 0),
  (115, .iload_n 1, 1, [], 0),
  (116, .invokevirtual 64, 3, [69, 2, 0, 837, 839, 21, 43, 9], 0),
  (119, .goto 4, 3, [], 0),
  (122, .iconst (-1), 1, [], 0),
  (123, .istore 6, 2, [], 0),
  (125, .iload 6, 2, [], 0),
  (127, .iload_n 3, 1, [], 0),
  (128, .if_icmp .le 9, 3, [], 0),
  (131, .iload 4, 2, [], 0),
  (133, .istore_n 2, 1, [], 0),
  (134, .iload 6, 2, [], 0),
  (136, .istore_n 3, 1, [], 0),
  (137, .iinc 4 1, 3, [], 0),
  (140, .goto (-76), 3, [], 0),
  (143, .iload_n 2, 1, [], 0),
  (144, .ireturn, 1, [], 0)]
/-- X9_sumOf -/
def q_p120 : List q_R := [(0, .iconst 0, 1, [], 0),
  (1, .istore_n 2, 1, [], 0),
  (2, .iconst 0, 1, [], 0),
  (3, .istore_n 3, 1, [], 0),
  (4, .iload_n 3, 1, [], 0),
  (5, .aload_n 0, 1, [], 0),
  (6, .getfield 7, 3, [9, 0, 1, 718], 0),
  (9, .bipush 10, 2, [], 0),
  (11, .iaload, 1, [], 0),
  (12, .if_icmp .ge 30, 3, [], 0),
  (15, .iload_n 2, 1, [], 0),
  (16, .iload_n 1, 1, [], 0),
  (17, .ifCond .ge 11, 3, [], 0),
  (20, .aload_n 0, 1, [], 0),
  (21, .iload_n 3, 1, [], 0),
  (22, .invokevirtual 99, 3, [72, 1, 0, 855, 857, 22, 43, 9], 0),
  (25, .goto 9, 3, [], 0),
  (28, .aload_n 0, 1, [], 0),
  (29, .iload_n 3, 1, [], 0),
  (30, .iload_n 1, 1, [], 0),
  (31, .invokevirtual 49, 3, [34, 2, 0, 792, 794, 13, 43, 9], 0),
  (34, .iadd, 1, [], 0),
  (35, .istore_n 2, 1, [], 0),
  (36, .iinc 3 1, 3, [], 0),
  (39, .goto (-35), 3, [], 0),
  (42, .iload_n 2, 1, [], 0),
  (43, .ireturn, 1, [], 0)]
/-- X9_together -/
def q_p121 : List q_R := [(0, .aload_n 0, 1, [], 0),
  (1, .iload_n 1, 1, [], 0),
  (2, .invokevirtual 45, 3, [75, 1, 0, 788, 790, 12, 43, 9], 0),
  (5, .ifCond .eq 24, 3, [], 0),
  (8, .aload_n 0, 1, [], 0),
  (9, .iload_n 2, 1, [], 0),
  (10, .invokevirtual 45, 3, [75, 1, 0, 788, 790, 12, 43, 9], 0),
  (13, .ifCond .eq 16, 3, [], 0),
  (16, .aload_n 0, 1, [], 0),
  (17, .getfield 7, 3, [9, 0, 1, 718], 0),
  (20, .iload_n 1, 1, [], 0),
  (21, .iload_n 2, 1, [], 0),
  (22, .invokestatic 96, 3, [36, 2, 2, 848, 849, 0, 43], 0),
  (25, .iaload, 1, [], 0),
  (26, .goto 5, 3, [], 0),
  (29, .ldc 24, 2, [0, 762], -1000001),
  (31, .ireturn, 1, [], 0)]
/-- X9_verse -/
def q_p122 : List q_R := [(0, .aload_n 0, 1, [], 0),
  (1, .invokevirtual 77, 3, [76, 0, 0, 747, 749, 5, 43, 9], 0),
  (4, .aload_n 0, 1, [], 0),
  (5, .aload_n 0, 1, [], 0),
  (6, .iload_n 1, 1, [], 0),
  (7, .iload_n 2, 1, [], 0),
  (8, .iload_n 3, 1, [], 0),
  (9, .invokevirtual 80, 3, [71, 3, 0, 755, 757, 7, 43, 9], 0),
  (12, .invokevirtual 84, 3, [68, 1, 0, 768, 770, 9, 43, 9], 0),
  (15, .ireturn, 1, [], 0)]
/-- X9_verseOf -/
def q_p123 : List q_R := [(0, .aload_n 0, 1, [], 0),
  (1, .iload_n 1, 1, [], 0),
  (2, .invokevirtual 45, 3, [75, 1, 0, 788, 790, 12, 43, 9], 0),
  (5, .ifCond .ne 6, 3, [], 0),
  (8, .ldc 24, 2, [0, 762], -1000001),
  (10, .ireturn, 1, [], 0),
  (11, .iload_n 2, 1, [], 0),
  (12, .tableswitch 84 0 9 #[56, 56, 56, 56, 63, 69, 75, 75, 75, 75], 56, [], 0),
  (68, .aload_n 0, 1, [], 0),
  (69, .iload_n 1, 1, [], 0),
  (70, .iload_n 2, 1, [], 0),
  (71, .invokevirtual 49, 3, [34, 2, 0, 792, 794, 13, 43, 9], 0),
  (74, .ireturn, 1, [], 0),
  (75, .aload_n 0, 1, [], 0),
  (76, .iload_n 1, 1, [], 0),
  (77, .invokevirtual 99, 3, [72, 1, 0, 855, 857, 22, 43, 9], 0),
  (80, .ireturn, 1, [], 0),
  (81, .aload_n 0, 1, [], 0),
  (82, .iload_n 1, 1, [], 0),
  (83, .invokevirtual 53, 3, [35, 1, 0, 796, 798, 14, 43, 9], 0),
  (86, .ireturn, 1, [], 0),
  (87, .aload_n 0, 1, [], 0),
  (88, .iload_n 1, 1, [], 0),
  (89, .iload_n 2, 1, [], 0),
  (90, .iconst 2, 1, [], 0),
  (91, .isub, 1, [], 0),
  (92, .invokevirtual 49, 3, [34, 2, 0, 792, 794, 13, 43, 9], 0),
  (95, .ireturn, 1, [], 0),
  (96, .ldc 24, 2, [0, 762], -1000001),
  (98, .ireturn, 1, [], 0)]
/-- X0_aboutOccasion -/
def q_p124 : List q_R := [(0, .iload_n 2, 1, [], 0),
  (1, .tableswitch 65 0 3 #[31, 38, 45, 59], 31, [], 0),
  (32, .aload_n 0, 1, [], 0),
  (33, .getfield 15, 3, [0, 1, 1, 70], 0),
  (36, .iload_n 1, 1, [], 0),
  (37, .iaload, 1, [], 0),
  (38, .ireturn, 1, [], 0),
  (39, .aload_n 0, 1, [], 0),
  (40, .getfield 19, 3, [0, 2, 1, 72], 0),
  (43, .iload_n 1, 1, [], 0),
  (44, .iaload, 1, [], 0),
  (45, .ireturn, 1, [], 0),
  (46, .aload_n 0, 1, [], 0),
  (47, .iload_n 1, 1, [], 0),
  (48, .invokevirtual 30, 3, [41, 1, 0, 576, 376, 377, 36, 0], 0),
  (51, .ifCond .eq 7, 3, [], 0),
  (54, .iconst 1, 1, [], 0),
  (55, .goto 4, 3, [], 0),
  (58, .iconst 0, 1, [], 0),
  (59, .ireturn, 1, [], 0),
  (60, .aload_n 0, 1, [], 0),
  (61, .iload_n 1, 1, [], 0),
  (62, .invokevirtual 40, 3, [85, 1, 0, 577, 578, 579, 36, 0], 0),
  (65, .ireturn, 1, [], 0),
  (66, .aload_n 0, 1, [], 0),
  (67, .iload_n 1, 1, [], 0),
  (68, .invokevirtual 44, 3, [84, 1, 0, 584, 585, 586, 36, 0], 0),
  (71, .ireturn, 1, [], 0)]
/-- X5_aboutSlot -/
def q_p125 : List q_R := [(0, .aload_n 0, 1, [], 0),
  (1, .getfield 35, 3, [5, 3, 1, 191], 0),
  (4, .getfield 135, 3, [3, 0, 1, 147], 0),
  (7, .iload_n 1, 1, [], 0),
  (8, .iaload, 1, [], 0),
  (9, .istore_n 3, 1, [], 0),
  (10, .iload_n 2, 1, [], 0),
  (11, .ifCond .eq 8, 3, [], 0),
  (14, .iload_n 2, 1, [], 0),
  (15, .iconst 4, 1, [], 0),
  (16, .if_icmp .ne 7, 3, [], 0),
  (19, .iconst 1, 1, [], 0),
  (20, .goto 4, 3, [], 0),
  (23, .iconst 0, 1, [], 0),
  (24, .istore 4, 2, [], 0),
  (26, .iload 4, 2, [], 0),
  (28, .ifCond .eq 17, 3, [], 0),
  (31, .aload_n 0, 1, [], 0),
  (32, .getfield 21, 3, [5, 1, 1, 187], 0),
  (35, .iload_n 3, 1, [], 0),
  (36, .invokevirtual 107, 3, [20, 1, 0, 391, 392, 393, 37, 7], 0),
  (39, .ifCond .ne 6, 3, [], 0),
  (42, .ldc 202, 2, [0, 552], -1000004),
  (44, .ireturn, 1, [], 0),
  (45, .iload_n 2, 1, [], 0),
  (46, .tableswitch 58 0 3 #[30, 32, 42, 52], 30, [], 0),
  (76, .iload_n 3, 1, [], 0),
  (77, .ireturn, 1, [], 0),
  (78, .aload_n 0, 1, [], 0),
  (79, .getfield 35, 3, [5, 3, 1, 191], 0),
  (82, .getfield 138, 3, [3, 1, 1, 150], 0),
  (85, .iload_n 1, 1, [], 0),
  (86, .iaload, 1, [], 0),
  (87, .ireturn, 1, [], 0),
  (88, .aload_n 0, 1, [], 0),
  (89, .getfield 35, 3, [5, 3, 1, 191], 0),
  (92, .getfield 151, 3, [3, 2, 1, 153], 0),
  (95, .iload_n 1, 1, [], 0),
  (96, .iaload, 1, [], 0),
  (97, .ireturn, 1, [], 0),
  (98, .getstatic 203, 3, [1, 553], 0),
  (101, .iload_n 1, 1, [], 0),
  (102, .iaload, 1, [], 0),
  (103, .ireturn, 1, [], 0),
  (104, .aload_n 0, 1, [], 0),
  (105, .iload_n 1, 1, [], 0),
  (106, .aload_n 0, 1, [], 0),
  (107, .getfield 21, 3, [5, 1, 1, 187], 0),
  (110, .getfield 88, 3, [7, 1, 1, 92], 0),
  (113, .iload_n 3, 1, [], 0),
  (114, .iaload, 1, [], 0),
  (115, .invokevirtual 206, 3, [90, 2, 0, 554, 555, 556, 35, 5], 0),
  (118, .ireturn, 1, [], 0)]
/-- X5_copyFrom -/
def q_p126 : List q_R := [(0, .aload_n 0, 1, [], 0),
  (1, .getfield 12, 3, [5, 0, 1, 185], 0),
  (4, .aload_n 1, 1, [], 0),
  (5, .getfield 12, 3, [5, 0, 1, 185], 0),
  (8, .invokevirtual 59, 3, [83, 1, 0, 313, 314, 315, 36, 0], 0),
  (11, .aload_n 0, 1, [], 0),
  (12, .getfield 21, 3, [5, 1, 1, 187], 0),
  (15, .aload_n 1, 1, [], 0),
  (16, .getfield 21, 3, [5, 1, 1, 187], 0),
  (19, .invokevirtual 63, 3, [101, 1, 0, 326, 327, 328, 37, 7], 0),
  (22, .aload_n 0, 1, [], 0),
  (23, .getfield 28, 3, [5, 2, 1, 189], 0),
  (26, .aload_n 1, 1, [], 0),
  (27, .getfield 28, 3, [5, 2, 1, 189], 0),
  (30, .invokevirtual 66, 3, [87, 1, 0, 331, 332, 333, 38, 2], 0),
  (33, .aload_n 0, 1, [], 0),
  (34, .getfield 35, 3, [5, 3, 1, 191], 0),
  (37, .aload_n 1, 1, [], 0),
  (38, .getfield 35, 3, [5, 3, 1, 191], 0),
  (41, .invokevirtual 69, 3, [88, 1, 0, 336, 337, 338, 39, 3], 0),
  (44, .aload_n 0, 1, [], 0),
  (45, .getfield 42, 3, [5, 4, 1, 193], 0),
  (48, .aload_n 1, 1, [], 0),
  (49, .getfield 42, 3, [5, 4, 1, 193], 0),
  (52, .invokevirtual 72, 3, [86, 1, 0, 341, 342, 343, 40, 1], 0),
  (55, .aload_n 0, 1, [], 0),
  (56, .aload_n 1, 1, [], 0),
  (57, .getfield 46, 3, [5, 5, 0, 195], 0),
  (60, .putfield 46, 3, [5, 5, 0, 195, 0], 0),
  (63, .aload_n 0, 1, [], 0),
  (64, .aload_n 1, 1, [], 0),
  (65, .getfield 50, 3, [5, 6, 0, 197], 0),
  (68, .putfield 50, 3, [5, 6, 0, 197, 0], 0),
  (71, .aload_n 0, 1, [], 0),
  (72, .aload_n 1, 1, [], 0),
  (73, .getfield 53, 3, [5, 7, 0, 199], 0),
  (76, .putfield 53, 3, [5, 7, 0, 199, 0], 0),
  (79, .aload_n 0, 1, [], 0),
  (80, .aload_n 1, 1, [], 0),
  (81, .getfield 56, 3, [5, 8, 0, 201], 0),
  (84, .putfield 56, 3, [5, 8, 0, 201, 0], 0),
  (87, .return_, 1, [], 0)]
/-- X5_passDays -/
def q_p127 : List q_R := [(0, .iload_n 1, 1, [], 0),
  (1, .iconst 1, 1, [], 0),
  (2, .bipush 99, 2, [], 0),
  (4, .invokestatic 79, 3, [24, 3, 3, 356, 354, 0, 34], 0),
  (7, .ifCond .ne 6, 3, [], 0),
  (10, .ldc 83, 2, [0, 357], -1000001),
  (12, .ireturn, 1, [], 0),
  (13, .aload_n 0, 1, [], 0),
  (14, .getfield 12, 3, [5, 0, 1, 185], 0),
  (17, .getfield 121, 3, [0, 0, 0, 68], 0),
  (20, .iload_n 1, 1, [], 0),
  (21, .iadd, 1, [], 0),
  (22, .sipush 1999, 3, [], 0),
  (25, .if_icmp .le 6, 3, [], 0),
  (28, .ldc 87, 2, [0, 358], -1000003),
  (30, .ireturn, 1, [], 0),
  (31, .aload_n 0, 1, [], 0),
  (32, .getfield 12, 3, [5, 0, 1, 185], 0),
  (35, .dup, 1, [], 0),
  (36, .getfield 121, 3, [0, 0, 0, 68], 0),
  (39, .iload_n 1, 1, [], 0),
  (40, .iadd, 1, [], 0),
  (41, .putfield 121, 3, [0, 0, 0, 68, 0], 0),
  (44, .aload_n 0, 1, [], 0),
  (45, .invokevirtual 186, 3, [99, 0, 0, 510, 511, 512, 35, 5], 0),
  (48, .ireturn, 1, [], 0)]
/-- X5_slotToSell -/
def q_p128 : List q_R := [(0, .aload_n 0, 1, [], 0),
  (1, .getfield 12, 3, [5, 0, 1, 185], 0),
  (4, .aload_n 0, 1, [], 0),
  (5, .getfield 21, 3, [5, 1, 1, 187], 0),
  (8, .getfield 88, 3, [7, 1, 1, 92], 0),
  (11, .iload_n 1, 1, [], 0),
  (12, .iaload, 1, [], 0),
  (13, .invokevirtual 104, 3, [41, 1, 0, 375, 376, 377, 36, 0], 0),
  (16, .ifCond .ne 5, 3, [], 0),
  (19, .iconst (-1), 1, [], 0),
  (20, .ireturn, 1, [], 0),
  (21, .aload_n 0, 1, [], 0),
  (22, .getfield 35, 3, [5, 3, 1, 191], 0),
  (25, .iload_n 1, 1, [], 0),
  (26, .invokevirtual 165, 3, [13, 1, 0, 448, 449, 450, 39, 3], 0),
  (29, .istore_n 2, 1, [], 0),
  (30, .iload_n 2, 1, [], 0),
  (31, .iconst (-1), 1, [], 0),
  (32, .if_icmp .ne 11, 3, [], 0),
  (35, .aload_n 0, 1, [], 0),
  (36, .iload_n 1, 1, [], 0),
  (37, .invokevirtual 168, 3, [97, 1, 0, 452, 453, 454, 35, 5], 0),
  (40, .goto 4, 3, [], 0),
  (43, .iload_n 2, 1, [], 0),
  (44, .ireturn, 1, [], 0)]
/-- X8_bestSlot -/
def q_p129 : List q_R := [(0, .aload_n 0, 1, [], 0),
  (1, .getfield 10, 3, [8, 0, 1, 273], 0),
  (4, .getfield 90, 3, [5, 1, 1, 188], 0),
  (7, .iload_n 1, 1, [], 0),
  (8, .invokevirtual 94, 3, [20, 1, 0, 537, 392, 393, 37, 7], 0),
  (11, .ifCond .ne 6, 3, [], 0),
  (14, .ldc 104, 2, [0, 538], -1000001),
  (16, .ireturn, 1, [], 0),
  (17, .aload_n 0, 1, [], 0),
  (18, .getfield 10, 3, [8, 0, 1, 273], 0),
  (21, .iload_n 1, 1, [], 0),
  (22, .invokevirtual 152, 3, [98, 1, 0, 606, 607, 608, 35, 5], 0),
  (25, .istore_n 2, 1, [], 0),
  (26, .iload_n 2, 1, [], 0),
  (27, .iconst (-1), 1, [], 0),
  (28, .if_icmp .ne 8, 3, [], 0),
  (31, .ldc 141, 2, [0, 601], -1000004),
  (33, .goto 4, 3, [], 0),
  (36, .iload_n 2, 1, [], 0),
  (37, .ireturn, 1, [], 0)]
/-- X8_init -/
def q_p130 : List q_R := [(0, .aload_n 0, 1, [], 0),
  (1, .invokespecial 1, 3, [0, 0, 6, 52, 53, 54], 0),
  (4, .aload_n 0, 1, [], 0),
  (5, .new 7, 3, [5, 9, 55, 56, 35], 0),
  (8, .dup, 1, [], 0),
  (9, .invokespecial 9, 3, [93, 0, 5, 57, 58, 0, 35], 0),
  (12, .putfield 10, 3, [8, 0, 1, 273, 0], 0),
  (15, .aload_n 0, 1, [], 0),
  (16, .new 7, 3, [5, 9, 55, 56, 35], 0),
  (19, .dup, 1, [], 0),
  (20, .invokespecial 9, 3, [93, 0, 5, 57, 58, 0, 35], 0),
  (23, .putfield 16, 3, [8, 1, 1, 274, 0], 0),
  (26, .aload_n 0, 1, [], 0),
  (27, .new 7, 3, [5, 9, 55, 56, 35], 0),
  (30, .dup, 1, [], 0),
  (31, .invokespecial 9, 3, [93, 0, 5, 57, 58, 0, 35], 0),
  (34, .putfield 19, 3, [8, 2, 1, 275, 0], 0),
  (37, .aload_n 0, 1, [], 0),
  (38, .new 7, 3, [5, 9, 55, 56, 35], 0),
  (41, .dup, 1, [], 0),
  (42, .invokespecial 9, 3, [93, 0, 5, 57, 58, 0, 35], 0),
  (45, .putfield 22, 3, [8, 3, 1, 276, 0], 0),
  (48, .aload_n 0, 1, [], 0),
  (49, .new 7, 3, [5, 9, 55, 56, 35], 0),
  (52, .dup, 1, [], 0),
  (53, .invokespecial 9, 3, [93, 0, 5, 57, 58, 0, 35], 0),
  (56, .putfield 25, 3, [8, 4, 1, 277, 0], 0),
  (59, .aload_n 0, 1, [], 0),
  (60, .new 7, 3, [5, 9, 55, 56, 35], 0),
  (63, .dup, 1, [], 0),
  (64, .invokespecial 9, 3, [93, 0, 5, 57, 58, 0, 35], 0),
  (67, .putfield 28, 3, [8, 5, 1, 278, 0], 0),
  (70, .aload_n 0, 1, [], 0),
  (71, .iconst 0, 1, [], 0),
  (72, .putfield 31, 3, [8, 6, 0, 279, 0], 0),
  (75, .aload_n 0, 1, [], 0),
  (76, .new 35, 3, [6, 5, 222, 223, 41], 0),
  (79, .dup, 1, [], 0),
  (80, .invokespecial 37, 3, [58, 0, 5, 224, 225, 0, 41], 0),
  (83, .putfield 38, 3, [8, 7, 1, 280, 1], 0),
  (86, .aload_n 0, 1, [], 0),
  (87, .new 42, 3, [4, 4, 250, 251, 42], 0),
  (90, .dup, 1, [], 0),
  (91, .invokespecial 44, 3, [50, 0, 5, 252, 253, 0, 42], 0),
  (94, .putfield 45, 3, [8, 8, 1, 281, 1], 0),
  (97, .return_, 1, [], 0)]
/-- X9_count -/
def q_p131 : List q_R := [(0, .iload_n 1, 1, [], 0),
  (1, .tableswitch 204 0 21 #[103, 111, 120, 126, 132, 141, 147, 154, 163, 175, 180, 185, 204, 204, 204, 204, 204, 204, 204, 204, 190, 190], 103, [], 0),
  (104, .aload_n 0, 1, [], 0),
  (105, .getfield 7, 3, [9, 0, 1, 718], 0),
  (108, .bipush 10, 2, [], 0),
  (110, .iaload, 1, [], 0),
  (111, .ireturn, 1, [], 0),
  (112, .aload_n 0, 1, [], 0),
  (113, .getfield 7, 3, [9, 0, 1, 718], 0),
  (116, .sipush 308, 3, [], 0),
  (119, .iaload, 1, [], 0),
  (120, .ireturn, 1, [], 0),
  (121, .aload_n 0, 1, [], 0),
  (122, .iconst (-1), 1, [], 0),
  (123, .invokevirtual 112, 3, [120, 1, 0, 926, 928, 25, 43, 9], 0),
  (126, .ireturn, 1, [], 0),
  (127, .aload_n 0, 1, [], 0),
  (128, .iconst 3, 1, [], 0),
  (129, .invokevirtual 112, 3, [120, 1, 0, 926, 928, 25, 43, 9], 0),
  (132, .ireturn, 1, [], 0),
  (133, .aload_n 0, 1, [], 0),
  (134, .getfield 7, 3, [9, 0, 1, 718], 0),
  (137, .sipush 137, 3, [], 0),
  (140, .iaload, 1, [], 0),
  (141, .ireturn, 1, [], 0),
  (142, .aload_n 0, 1, [], 0),
  (143, .iconst 4, 1, [], 0),
  (144, .invokevirtual 112, 3, [120, 1, 0, 926, 928, 25, 43, 9], 0),
  (147, .ireturn, 1, [], 0),
  (148, .aload_n 0, 1, [], 0),
  (149, .bipush 6, 2, [], 0),
  (151, .invokevirtual 112, 3, [120, 1, 0, 926, 928, 25, 43, 9], 0),
  (154, .ireturn, 1, [], 0),
  (155, .aload_n 0, 1, [], 0),
  (156, .getfield 7, 3, [9, 0, 1, 718], 0),
  (159, .sipush 309, 3, [], 0),
  (162, .iaload, 1, [], 0),
  (163, .ireturn, 1, [], 0),
  (164, .aload_n 0, 1, [], 0),
  (165, .getfield 7, 3, [9, 0, 1, 718], 0),
  (168, .sipush 310, 3, [], 0),
  (171, .iaload, 1, [], 0),
  (172, .ldc 115, 2, [0, 930], 100000000),
  (174, .iadd, 1, [], 0),
  (175, .ireturn, 1, [], 0),
  (176, .aload_n 0, 1, [], 0),
  (177, .invokevirtual 116, 3, [37, 0, 0, 931, 933, 26, 43, 9], 0),
  (180, .ireturn, 1, [], 0),
  (181, .aload_n 0, 1, [], 0),
  (182, .getfield 25, 3, [9, 1, 0, 719], 0),
  (185, .ireturn, 1, [], 0),
  (186, .aload_n 0, 1, [], 0),
  (187, .getfield 119, 3, [9, 3, 0, 721], 0),
  (190, .ireturn, 1, [], 0),
  (191, .aload_n 0, 1, [], 0),
  (192, .getfield 7, 3, [9, 0, 1, 718], 0),
  (195, .sipush 306, 3, [], 0),
  (198, .iload_n 1, 1, [], 0),
  (199, .iadd, 1, [], 0),
  (200, .bipush 20, 2, [], 0),
  (202, .isub, 1, [], 0),
  (203, .iaload, 1, [], 0),
  (204, .ireturn, 1, [], 0),
  (205, .ldc 24, 2, [0, 762], -1000001),
  (207, .ireturn, 1, [], 0)]
/-- X9_lay -/
def q_p132 : List q_R := [(0, .aload_n 0, 1, [], 0),
  (1, .invokevirtual 77, 3, [76, 0, 0, 747, 749, 5, 43, 9], 0),
  (4, .aload_n 0, 1, [], 0),
  (5, .aload_n 0, 1, [], 0),
  (6, .iload_n 1, 1, [], 0),
  (7, .iload_n 2, 1, [], 0),
  (8, .iload_n 3, 1, [], 0),
  (9, .invokevirtual 90, 3, [109, 3, 0, 804, 806, 15, 43, 9], 0),
  (12, .invokevirtual 84, 3, [68, 1, 0, 768, 770, 9, 43, 9], 0),
  (15, .ireturn, 1, [], 0)]
/-- X9_order -/
def q_p133 : List q_R := [(0, .aload_n 0, 1, [], 0),
  (1, .invokevirtual 77, 3, [76, 0, 0, 747, 749, 5, 43, 9], 0),
  (4, .aload_n 0, 1, [], 0),
  (5, .aload_n 0, 1, [], 0),
  (6, .iload_n 1, 1, [], 0),
  (7, .iload_n 2, 1, [], 0),
  (8, .invokevirtual 87, 3, [110, 2, 0, 784, 786, 11, 43, 9], 0),
  (11, .invokevirtual 84, 3, [68, 1, 0, 768, 770, 9, 43, 9], 0),
  (14, .ireturn, 1, [], 0)]
/-- X9_pass -/
def q_p134 : List q_R := [(0, .aload_n 0, 1, [], 0),
  (1, .invokevirtual 77, 3, [76, 0, 0, 747, 749, 5, 43, 9], 0),
  (4, .aload_n 0, 1, [], 0),
  (5, .aload_n 0, 1, [], 0),
  (6, .iload_n 1, 1, [], 0),
  (7, .invokevirtual 102, 3, [111, 1, 0, 863, 865, 23, 43, 9], 0),
  (10, .invokevirtual 84, 3, [68, 1, 0, 768, 770, 9, 43, 9], 0),
  (13, .ireturn, 1, [], 0)]
/-- X9_sells -/
def q_p135 : List q_R := [(0, .aload_n 0, 1, [], 0),
  (1, .iload_n 1, 1, [], 0),
  (2, .bipush 7, 2, [], 0),
  (4, .iconst 1, 1, [], 0),
  (5, .invokevirtual 41, 3, [27, 3, 0, 764, 766, 8, 43, 9], 0),
  (8, .aload_n 0, 1, [], 0),
  (9, .iload_n 1, 1, [], 0),
  (10, .invokevirtual 67, 3, [119, 1, 0, 833, 835, 20, 43, 9], 0),
  (13, .istore_n 2, 1, [], 0),
  (14, .iload_n 2, 1, [], 0),
  (15, .ifCond .ge 13, 3, [], 0),
  (18, .aload_n 0, 1, [], 0),
  (19, .iload_n 1, 1, [], 0),
  (20, .bipush 6, 2, [], 0),
  (22, .iconst 1, 1, [], 0),
  (23, .invokevirtual 41, 3, [27, 3, 0, 764, 766, 8, 43, 9], 0),
  (26, .iconst (-1), 1, [], 0),
  (27, .ireturn, 1, [], 0),
  (28, .aload_n 0, 1, [], 0),
  (29, .iload_n 2, 1, [], 0),
  (30, .invokevirtual 33, 3, [31, 1, 0, 808, 810, 16, 43, 9], 0),
  (33, .istore_n 3, 1, [], 0),
  (34, .aload_n 0, 1, [], 0),
  (35, .getfield 7, 3, [9, 0, 1, 718], 0),
  (38, .bipush 107, 2, [], 0),
  (40, .iconst 3, 1, [], 0),
  (41, .iload_n 2, 1, [], 0),
  (42, .imul, 1, [], 0),
  (43, .iadd, 1, [], 0),
  (44, .iconst 1, 1, [], 0),
  (45, .iadd, 1, [], 0),
  (46, .dup2, 1, [], 0),
  (47, .iaload, 1, [], 0),
  (48, .iconst 1, 1, [], 0),
  (49, .isub, 1, [], 0),
  (50, .iastore, 1, [], 0),
  (51, .aload_n 0, 1, [], 0),
  (52, .getfield 7, 3, [9, 0, 1, 718], 0),
  (55, .bipush 107, 2, [], 0),
  (57, .iconst 3, 1, [], 0),
  (58, .iload_n 2, 1, [], 0),
  (59, .imul, 1, [], 0),
  (60, .iadd, 1, [], 0),
  (61, .iconst 2, 1, [], 0),
  (62, .iadd, 1, [], 0),
  (63, .dup2, 1, [], 0),
  (64, .iaload, 1, [], 0),
  (65, .iconst 1, 1, [], 0),
  (66, .iadd, 1, [], 0),
  (67, .iastore, 1, [], 0),
  (68, .aload_n 0, 1, [], 0),
  (69, .iload_n 3, 1, [], 0),
  (70, .iconst 4, 1, [], 0),
  (71, .iconst 1, 1, [], 0),
  (72, .invokevirtual 41, 3, [27, 3, 0, 764, 766, 8, 43, 9], 0),
  (75, .aload_n 0, 1, [], 0),
  (76, .iload_n 3, 1, [], 0),
  (77, .iconst 5, 1, [], 0),
  (78, .iload_n 3, 1, [], 0),
  (79, .iload_n 1, 1, [], 0),
  (80, .if_icmp .ne 7, 3, [], 0),
  (83, .iconst 0, 1, [], 0),
  (84, .goto 4, 3, [], 0),
  (87, .iconst 1, 1, [], 0),
  (88, .invokevirtual 41, 3, [27, 3, 0, 764, 766, 8, 43, 9], 0),
  (91, .aload_n 0, 1, [], 0),
  (92, .getfield 7, 3, [9, 0, 1, 718], 0),
  (95, .sipush 310, 3, [], 0),
  (98, .dup2, 1, [], 0),
  (99, .iaload, 1, [], 0),
  (100, .aload_n 0, 1, [], 0),
  (101, .iload_n 3, 1, [], 0),
  (102, .iconst 1, 1, [], 0),
  (103, .invokevirtual 49, 3, [34, 2, 0, 792, 794, 13, 43, 9], 0),
  (106, .iadd, 1, [], 0),
  (107, .iastore, 1, [], 0),
  (108, .iload_n 3, 1, [], 0),
  (109, .ireturn, 1, [], 0)]
/-- X9_would -/
def q_p136 : List q_R := [(0, .aload_n 0, 1, [], 0),
  (1, .iload_n 1, 1, [], 0),
  (2, .invokevirtual 45, 3, [75, 1, 0, 788, 790, 12, 43, 9], 0),
  (5, .ifCond .eq 12, 3, [], 0),
  (8, .iload_n 2, 1, [], 0),
  (9, .iconst 0, 1, [], 0),
  (10, .iconst 1, 1, [], 0),
  (11, .invokestatic 29, 3, [32, 3, 2, 759, 760, 0, 43], 0),
  (14, .ifCond .ne 6, 3, [], 0),
  (17, .ldc 24, 2, [0, 762], -1000001),
  (19, .ireturn, 1, [], 0),
  (20, .aload_n 0, 1, [], 0),
  (21, .iload_n 1, 1, [], 0),
  (22, .invokevirtual 67, 3, [119, 1, 0, 833, 835, 20, 43, 9], 0),
  (25, .istore_n 3, 1, [], 0),
  (26, .iload_n 3, 1, [], 0),
  (27, .ifCond .ge 8, 3, [], 0),
  (30, .ldc 105, 2, [0, 883], -1000004),
  (32, .goto 16, 3, [], 0),
  (35, .iload_n 2, 1, [], 0),
  (36, .ifCond .ne 11, 3, [], 0),
  (39, .aload_n 0, 1, [], 0),
  (40, .iload_n 3, 1, [], 0),
  (41, .invokevirtual 33, 3, [31, 1, 0, 808, 810, 16, 43, 9], 0),
  (44, .goto 4, 3, [], 0),
  (47, .iload_n 3, 1, [], 0),
  (48, .ireturn, 1, [], 0)]
/-- X5_sellOne -/
def q_p137 : List q_R := [(0, .aload_n 0, 1, [], 0),
  (1, .getfield 21, 3, [5, 1, 1, 187], 0),
  (4, .iload_n 1, 1, [], 0),
  (5, .invokevirtual 107, 3, [20, 1, 0, 391, 392, 393, 37, 7], 0),
  (8, .ifCond .ne 6, 3, [], 0),
  (11, .ldc 83, 2, [0, 357], -1000001),
  (13, .ireturn, 1, [], 0),
  (14, .aload_n 0, 1, [], 0),
  (15, .getfield 21, 3, [5, 1, 1, 187], 0),
  (18, .getfield 142, 3, [7, 8, 1, 109], 0),
  (21, .iload_n 1, 1, [], 0),
  (22, .dup2, 1, [], 0),
  (23, .iaload, 1, [], 0),
  (24, .iconst 1, 1, [], 0),
  (25, .iadd, 1, [], 0),
  (26, .iastore, 1, [], 0),
  (27, .aload_n 0, 1, [], 0),
  (28, .iload_n 1, 1, [], 0),
  (29, .invokevirtual 145, 3, [128, 1, 0, 444, 445, 446, 35, 5], 0),
  (32, .istore_n 2, 1, [], 0),
  (33, .iload_n 2, 1, [], 0),
  (34, .invokestatic 132, 3, [63, 1, 3, 424, 425, 0, 34], 0),
  (37, .ifCond .eq 15, 3, [], 0),
  (40, .aload_n 0, 1, [], 0),
  (41, .getfield 35, 3, [5, 3, 1, 191], 0),
  (44, .getfield 135, 3, [3, 0, 1, 147], 0),
  (47, .iload_n 2, 1, [], 0),
  (48, .iaload, 1, [], 0),
  (49, .goto 4, 3, [], 0),
  (52, .iconst (-1), 1, [], 0),
  (53, .istore_n 3, 1, [], 0),
  (54, .aload_n 0, 1, [], 0),
  (55, .getfield 21, 3, [5, 1, 1, 187], 0),
  (58, .iload_n 3, 1, [], 0),
  (59, .invokevirtual 107, 3, [20, 1, 0, 391, 392, 393, 37, 7], 0),
  (62, .ifCond .ne 19, 3, [], 0),
  (65, .aload_n 0, 1, [], 0),
  (66, .getfield 21, 3, [5, 1, 1, 187], 0),
  (69, .getfield 148, 3, [7, 7, 1, 106], 0),
  (72, .iload_n 1, 1, [], 0),
  (73, .dup2, 1, [], 0),
  (74, .iaload, 1, [], 0),
  (75, .iconst 1, 1, [], 0),
  (76, .iadd, 1, [], 0),
  (77, .iastore, 1, [], 0),
  (78, .bipush 100, 2, [], 0),
  (80, .ireturn, 1, [], 0),
  (81, .aload_n 0, 1, [], 0),
  (82, .getfield 35, 3, [5, 3, 1, 191], 0),
  (85, .getfield 138, 3, [3, 1, 1, 150], 0),
  (88, .iload_n 2, 1, [], 0),
  (89, .dup2, 1, [], 0),
  (90, .iaload, 1, [], 0),
  (91, .iconst 1, 1, [], 0),
  (92, .isub, 1, [], 0),
  (93, .iastore, 1, [], 0),
  (94, .aload_n 0, 1, [], 0),
  (95, .getfield 35, 3, [5, 3, 1, 191], 0),
  (98, .getfield 151, 3, [3, 2, 1, 153], 0),
  (101, .iload_n 2, 1, [], 0),
  (102, .dup2, 1, [], 0),
  (103, .iaload, 1, [], 0),
  (104, .iconst 1, 1, [], 0),
  (105, .iadd, 1, [], 0),
  (106, .iastore, 1, [], 0),
  (107, .aload_n 0, 1, [], 0),
  (108, .getfield 21, 3, [5, 1, 1, 187], 0),
  (111, .getfield 154, 3, [7, 5, 1, 101], 0),
  (114, .iload_n 3, 1, [], 0),
  (115, .dup2, 1, [], 0),
  (116, .iaload, 1, [], 0),
  (117, .iconst 1, 1, [], 0),
  (118, .iadd, 1, [], 0),
  (119, .iastore, 1, [], 0),
  (120, .iload_n 3, 1, [], 0),
  (121, .iload_n 1, 1, [], 0),
  (122, .if_icmp .eq 16, 3, [], 0),
  (125, .aload_n 0, 1, [], 0),
  (126, .getfield 21, 3, [5, 1, 1, 187], 0),
  (129, .getfield 155, 3, [7, 6, 1, 104], 0),
  (132, .iload_n 3, 1, [], 0),
  (133, .dup2, 1, [], 0),
  (134, .iaload, 1, [], 0),
  (135, .iconst 1, 1, [], 0),
  (136, .iadd, 1, [], 0),
  (137, .iastore, 1, [], 0),
  (138, .aload_n 0, 1, [], 0),
  (139, .dup, 1, [], 0),
  (140, .getfield 56, 3, [5, 8, 0, 201], 0),
  (143, .aload_n 0, 1, [], 0),
  (144, .getfield 21, 3, [5, 1, 1, 187], 0),
  (147, .getfield 92, 3, [7, 2, 1, 94], 0),
  (150, .iload_n 3, 1, [], 0),
  (151, .iaload, 1, [], 0),
  (152, .iadd, 1, [], 0),
  (153, .putfield 56, 3, [5, 8, 0, 201, 0], 0),
  (156, .iload_n 3, 1, [], 0),
  (157, .ireturn, 1, [], 0)]
/-- X8_freshTrial -/
def q_p138 : List q_R := [(0, .aload_n 0, 1, [], 0),
  (1, .getfield 16, 3, [8, 1, 1, 274], 0),
  (4, .aload_n 0, 1, [], 0),
  (5, .getfield 10, 3, [8, 0, 1, 273], 0),
  (8, .invokevirtual 243, 3, [126, 1, 0, 309, 310, 311, 35, 5], 0),
  (11, .aload_n 0, 1, [], 0),
  (12, .getfield 16, 3, [8, 1, 1, 274], 0),
  (15, .areturn, 1, [], 0)]
/-- X8_occasionOf -/
def q_p139 : List q_R := [(0, .iload_n 1, 1, [], 0),
  (1, .invokestatic 117, 3, [62, 1, 2, 571, 351, 0, 34], 0),
  (4, .ifCond .eq 12, 3, [], 0),
  (7, .iload_n 2, 1, [], 0),
  (8, .iconst 0, 1, [], 0),
  (9, .iconst 4, 1, [], 0),
  (10, .invokestatic 100, 3, [24, 3, 2, 353, 354, 0, 34], 0),
  (13, .ifCond .ne 6, 3, [], 0),
  (16, .ldc 104, 2, [0, 538], -1000001),
  (18, .ireturn, 1, [], 0),
  (19, .aload_n 0, 1, [], 0),
  (20, .getfield 10, 3, [8, 0, 1, 273], 0),
  (23, .getfield 120, 3, [5, 0, 1, 186], 0),
  (26, .iload_n 1, 1, [], 0),
  (27, .iload_n 2, 1, [], 0),
  (28, .invokevirtual 124, 3, [124, 2, 0, 572, 573, 574, 36, 0], 0),
  (31, .ireturn, 1, [], 0)]
/-- X8_slotOf -/
def q_p140 : List q_R := [(0, .iload_n 1, 1, [], 0),
  (1, .invokestatic 108, 3, [63, 1, 2, 547, 425, 0, 34], 0),
  (4, .ifCond .eq 12, 3, [], 0),
  (7, .iload_n 2, 1, [], 0),
  (8, .iconst 0, 1, [], 0),
  (9, .iconst 4, 1, [], 0),
  (10, .invokestatic 100, 3, [24, 3, 2, 353, 354, 0, 34], 0),
  (13, .ifCond .ne 6, 3, [], 0),
  (16, .ldc 104, 2, [0, 538], -1000001),
  (18, .ireturn, 1, [], 0),
  (19, .aload_n 0, 1, [], 0),
  (20, .getfield 10, 3, [8, 0, 1, 273], 0),
  (23, .iload_n 1, 1, [], 0),
  (24, .iload_n 2, 1, [], 0),
  (25, .invokevirtual 111, 3, [125, 2, 0, 548, 549, 550, 35, 5], 0),
  (28, .ireturn, 1, [], 0)]
/-- X8_would -/
def q_p141 : List q_R := [(0, .aload_n 0, 1, [], 0),
  (1, .getfield 10, 3, [8, 0, 1, 273], 0),
  (4, .getfield 90, 3, [5, 1, 1, 188], 0),
  (7, .iload_n 1, 1, [], 0),
  (8, .invokevirtual 94, 3, [20, 1, 0, 537, 392, 393, 37, 7], 0),
  (11, .ifCond .eq 12, 3, [], 0),
  (14, .iload_n 2, 1, [], 0),
  (15, .iconst 0, 1, [], 0),
  (16, .iconst 1, 1, [], 0),
  (17, .invokestatic 100, 3, [24, 3, 2, 353, 354, 0, 34], 0),
  (20, .ifCond .ne 6, 3, [], 0),
  (23, .ldc 104, 2, [0, 538], -1000001),
  (25, .ireturn, 1, [], 0),
  (26, .aload_n 0, 1, [], 0),
  (27, .getfield 10, 3, [8, 0, 1, 273], 0),
  (30, .iload_n 1, 1, [], 0),
  (31, .invokevirtual 138, 3, [128, 1, 0, 600, 445, 446, 35, 5], 0),
  (34, .istore_n 3, 1, [], 0),
  (35, .iload_n 3, 1, [], 0),
  (36, .invokestatic 108, 3, [63, 1, 2, 547, 425, 0, 34], 0),
  (39, .ifCond .ne 6, 3, [], 0),
  (42, .ldc 141, 2, [0, 601], -1000004),
  (44, .ireturn, 1, [], 0),
  (45, .iload_n 2, 1, [], 0),
  (46, .ifCond .ne 18, 3, [], 0),
  (49, .aload_n 0, 1, [], 0),
  (50, .getfield 10, 3, [8, 0, 1, 273], 0),
  (53, .getfield 142, 3, [5, 3, 1, 192], 0),
  (56, .getfield 146, 3, [3, 0, 1, 148], 0),
  (59, .iload_n 3, 1, [], 0),
  (60, .iaload, 1, [], 0),
  (61, .goto 4, 3, [], 0),
  (64, .iload_n 3, 1, [], 0),
  (65, .ireturn, 1, [], 0)]
/-- X9_doSell -/
def q_p142 : List q_R := [(0, .aload_n 0, 1, [], 0),
  (1, .iload_n 1, 1, [], 0),
  (2, .invokevirtual 45, 3, [75, 1, 0, 788, 790, 12, 43, 9], 0),
  (5, .ifCond .ne 6, 3, [], 0),
  (8, .ldc 24, 2, [0, 762], -1000001),
  (10, .ireturn, 1, [], 0),
  (11, .aload_n 0, 1, [], 0),
  (12, .iload_n 1, 1, [], 0),
  (13, .invokevirtual 70, 3, [135, 1, 0, 829, 831, 19, 43, 9], 0),
  (16, .istore_n 2, 1, [], 0),
  (17, .iload_n 2, 1, [], 0),
  (18, .ifCond .ge 8, 3, [], 0),
  (21, .bipush 100, 2, [], 0),
  (23, .goto 4, 3, [], 0),
  (26, .iload_n 2, 1, [], 0),
  (27, .ireturn, 1, [], 0)]
/-- X9_sellTwo -/
def q_p143 : List q_R := [(0, .aload_n 0, 1, [], 0),
  (1, .iload_n 1, 1, [], 0),
  (2, .invokevirtual 45, 3, [75, 1, 0, 788, 790, 12, 43, 9], 0),
  (5, .ifCond .eq 11, 3, [], 0),
  (8, .aload_n 0, 1, [], 0),
  (9, .iload_n 2, 1, [], 0),
  (10, .invokevirtual 45, 3, [75, 1, 0, 788, 790, 12, 43, 9], 0),
  (13, .ifCond .ne 6, 3, [], 0),
  (16, .ldc 24, 2, [0, 762], -1000001),
  (18, .ireturn, 1, [], 0),
  (19, .aload_n 0, 1, [], 0),
  (20, .invokevirtual 77, 3, [76, 0, 0, 747, 749, 5, 43, 9], 0),
  (23, .aload_n 0, 1, [], 0),
  (24, .iload_n 1, 1, [], 0),
  (25, .invokevirtual 70, 3, [135, 1, 0, 829, 831, 19, 43, 9], 0),
  (28, .istore_n 3, 1, [], 0),
  (29, .aload_n 0, 1, [], 0),
  (30, .iload_n 2, 1, [], 0),
  (31, .invokevirtual 70, 3, [135, 1, 0, 829, 831, 19, 43, 9], 0),
  (34, .istore 4, 2, [], 0),
  (36, .iload_n 3, 1, [], 0),
  (37, .ifCond .lt 23, 3, [], 0),
  (40, .iload 4, 2, [], 0),
  (42, .ifCond .lt 18, 3, [], 0),
  (45, .aload_n 0, 1, [], 0),
  (46, .getfield 7, 3, [9, 0, 1, 718], 0),
  (49, .iload_n 3, 1, [], 0),
  (50, .iload 4, 2, [], 0),
  (52, .invokestatic 96, 3, [36, 2, 2, 848, 849, 0, 43], 0),
  (55, .dup2, 1, [], 0),
  (56, .iaload, 1, [], 0),
  (57, .iconst 1, 1, [], 0),
  (58, .iadd, 1, [], 0),
  (59, .iastore, 1, [], 0),
  (60, .aload_n 0, 1, [], 0),
  (61, .iload_n 3, 1, [], 0),
  (62, .ifCond .ge 7, 3, [], 0),
  (65, .iconst 0, 1, [], 0),
  (66, .goto 4, 3, [], 0),
  (69, .iconst 1, 1, [], 0),
  (70, .iload 4, 2, [], 0),
  (72, .ifCond .ge 7, 3, [], 0),
  (75, .iconst 0, 1, [], 0),
  (76, .goto 4, 3, [], 0),
  (79, .iconst 1, 1, [], 0),
  (80, .iadd, 1, [], 0),
  (81, .invokevirtual 84, 3, [68, 1, 0, 768, 770, 9, 43, 9], 0),
  (84, .ireturn, 1, [], 0)]
/-- X4_perform -/
def q_p144 : List q_R := [(0, .aload_n 0, 1, [], 0),
  (1, .getfield 45, 3, [6, 2, 1, 233], 0),
  (4, .iconst 0, 1, [], 0),
  (5, .iaload, 1, [], 0),
  (6, .istore_n 2, 1, [], 0),
  (7, .aload_n 0, 1, [], 0),
  (8, .getfield 45, 3, [6, 2, 1, 233], 0),
  (11, .iconst 1, 1, [], 0),
  (12, .iaload, 1, [], 0),
  (13, .istore_n 3, 1, [], 0),
  (14, .aload_n 0, 1, [], 0),
  (15, .getfield 45, 3, [6, 2, 1, 233], 0),
  (18, .iconst 2, 1, [], 0),
  (19, .iaload, 1, [], 0),
  (20, .istore 4, 2, [], 0),
  (22, .aload_n 0, 1, [], 0),
  (23, .getfield 49, 3, [6, 3, 2, 235], 0),
  (26, .lookupswitch 73 #[(108, 58), (111, 51), (115, 67), (118, 42)], 42, [], 0),
  (68, .aload_n 1, 1, [], 0),
  (69, .iload_n 2, 1, [], 0),
  (70, .iload_n 3, 1, [], 0),
  (71, .iload 4, 2, [], 0),
  (73, .invokevirtual 53, 3, [89, 3, 0, 698, 347, 348, 35, 5], 0),
  (76, .ireturn, 1, [], 0),
  (77, .aload_n 1, 1, [], 0),
  (78, .iload_n 2, 1, [], 0),
  (79, .iload_n 3, 1, [], 0),
  (80, .invokevirtual 59, 3, [95, 2, 0, 699, 388, 389, 35, 5], 0),
  (83, .ireturn, 1, [], 0),
  (84, .aload_n 1, 1, [], 0),
  (85, .iload_n 2, 1, [], 0),
  (86, .iload_n 3, 1, [], 0),
  (87, .iload 4, 2, [], 0),
  (89, .invokevirtual 63, 3, [94, 3, 0, 700, 421, 422, 35, 5], 0),
  (92, .ireturn, 1, [], 0),
  (93, .aload_n 1, 1, [], 0),
  (94, .iload_n 2, 1, [], 0),
  (95, .invokevirtual 66, 3, [137, 1, 0, 701, 441, 442, 35, 5], 0),
  (98, .ireturn, 1, [], 0),
  (99, .aload_n 1, 1, [], 0),
  (100, .iload_n 2, 1, [], 0),
  (101, .invokevirtual 70, 3, [127, 1, 0, 702, 507, 508, 35, 5], 0),
  (104, .ireturn, 1, [], 0)]
/-- X5_sellBoth -/
def q_p145 : List q_R := [(0, .aload_n 0, 1, [], 0),
  (1, .getfield 21, 3, [5, 1, 1, 187], 0),
  (4, .iload_n 1, 1, [], 0),
  (5, .invokevirtual 107, 3, [20, 1, 0, 391, 392, 393, 37, 7], 0),
  (8, .ifCond .eq 14, 3, [], 0),
  (11, .aload_n 0, 1, [], 0),
  (12, .getfield 21, 3, [5, 1, 1, 187], 0),
  (15, .iload_n 2, 1, [], 0),
  (16, .invokevirtual 107, 3, [20, 1, 0, 391, 392, 393, 37, 7], 0),
  (19, .ifCond .ne 6, 3, [], 0),
  (22, .ldc 83, 2, [0, 357], -1000001),
  (24, .ireturn, 1, [], 0),
  (25, .aload_n 0, 1, [], 0),
  (26, .iload_n 1, 1, [], 0),
  (27, .invokevirtual 158, 3, [137, 1, 0, 477, 441, 442, 35, 5], 0),
  (30, .istore_n 3, 1, [], 0),
  (31, .aload_n 0, 1, [], 0),
  (32, .iload_n 2, 1, [], 0),
  (33, .invokevirtual 158, 3, [137, 1, 0, 477, 441, 442, 35, 5], 0),
  (36, .istore 4, 2, [], 0),
  (38, .aload_n 0, 1, [], 0),
  (39, .getfield 21, 3, [5, 1, 1, 187], 0),
  (42, .iload_n 3, 1, [], 0),
  (43, .invokevirtual 107, 3, [20, 1, 0, 391, 392, 393, 37, 7], 0),
  (46, .ifCond .eq 27, 3, [], 0),
  (49, .aload_n 0, 1, [], 0),
  (50, .getfield 21, 3, [5, 1, 1, 187], 0),
  (53, .iload 4, 2, [], 0),
  (55, .invokevirtual 107, 3, [20, 1, 0, 391, 392, 393, 37, 7], 0),
  (58, .ifCond .eq 15, 3, [], 0),
  (61, .aload_n 0, 1, [], 0),
  (62, .getfield 28, 3, [5, 2, 1, 189], 0),
  (65, .iload_n 3, 1, [], 0),
  (66, .iload 4, 2, [], 0),
  (68, .invokevirtual 161, 3, [9, 2, 0, 478, 479, 480, 38, 2], 0),
  (71, .iconst 2, 1, [], 0),
  (72, .ireturn, 1, [], 0),
  (73, .aload_n 0, 1, [], 0),
  (74, .getfield 21, 3, [5, 1, 1, 187], 0),
  (77, .iload_n 3, 1, [], 0),
  (78, .invokevirtual 107, 3, [20, 1, 0, 391, 392, 393, 37, 7], 0),
  (81, .ifCond .ne 15, 3, [], 0),
  (84, .aload_n 0, 1, [], 0),
  (85, .getfield 21, 3, [5, 1, 1, 187], 0),
  (88, .iload 4, 2, [], 0),
  (90, .invokevirtual 107, 3, [20, 1, 0, 391, 392, 393, 37, 7], 0),
  (93, .ifCond .eq 7, 3, [], 0),
  (96, .iconst 1, 1, [], 0),
  (97, .goto 4, 3, [], 0),
  (100, .iconst 0, 1, [], 0),
  (101, .ireturn, 1, [], 0)]
/-- X8_clear -/
def q_p146 : List q_R := [(0, .aload_n 0, 1, [], 0),
  (1, .aload_n 0, 1, [], 0),
  (2, .invokevirtual 49, 3, [138, 0, 0, 305, 307, 0, 34, 8], 0),
  (5, .iload_n 1, 1, [], 0),
  (6, .invokevirtual 71, 3, [92, 1, 0, 432, 433, 434, 35, 5], 0),
  (9, .invokevirtual 57, 3, [105, 1, 0, 359, 361, 1, 34, 8], 0),
  (12, .ireturn, 1, [], 0)]
/-- X8_giveBack -/
def q_p147 : List q_R := [(0, .aload_n 0, 1, [], 0),
  (1, .aload_n 0, 1, [], 0),
  (2, .invokevirtual 49, 3, [138, 0, 0, 305, 307, 0, 34, 8], 0),
  (5, .invokevirtual 80, 3, [96, 0, 0, 486, 487, 488, 35, 5], 0),
  (8, .invokevirtual 57, 3, [105, 1, 0, 359, 361, 1, 34, 8], 0),
  (11, .ireturn, 1, [], 0)]
/-- X8_lay -/
def q_p148 : List q_R := [(0, .aload_n 0, 1, [], 0),
  (1, .aload_n 0, 1, [], 0),
  (2, .invokevirtual 49, 3, [138, 0, 0, 305, 307, 0, 34, 8], 0),
  (5, .iload_n 1, 1, [], 0),
  (6, .iload_n 2, 1, [], 0),
  (7, .iload_n 3, 1, [], 0),
  (8, .invokevirtual 68, 3, [94, 3, 0, 420, 421, 422, 35, 5], 0),
  (11, .invokevirtual 57, 3, [105, 1, 0, 359, 361, 1, 34, 8], 0),
  (14, .ireturn, 1, [], 0)]
/-- X8_order -/
def q_p149 : List q_R := [(0, .aload_n 0, 1, [], 0),
  (1, .aload_n 0, 1, [], 0),
  (2, .invokevirtual 49, 3, [138, 0, 0, 305, 307, 0, 34, 8], 0),
  (5, .iload_n 1, 1, [], 0),
  (6, .iload_n 2, 1, [], 0),
  (7, .invokevirtual 64, 3, [95, 2, 0, 387, 388, 389, 35, 5], 0),
  (10, .invokevirtual 57, 3, [105, 1, 0, 359, 361, 1, 34, 8], 0),
  (13, .ireturn, 1, [], 0)]
/-- X8_pass -/
def q_p150 : List q_R := [(0, .aload_n 0, 1, [], 0),
  (1, .aload_n 0, 1, [], 0),
  (2, .invokevirtual 49, 3, [138, 0, 0, 305, 307, 0, 34, 8], 0),
  (5, .iload_n 1, 1, [], 0),
  (6, .invokevirtual 84, 3, [127, 1, 0, 506, 507, 508, 35, 5], 0),
  (9, .invokevirtual 57, 3, [105, 1, 0, 359, 361, 1, 34, 8], 0),
  (12, .ireturn, 1, [], 0)]
/-- X8_season -/
def q_p151 : List q_R := [(0, .aload_n 0, 1, [], 0),
  (1, .aload_n 0, 1, [], 0),
  (2, .invokevirtual 49, 3, [138, 0, 0, 305, 307, 0, 34, 8], 0),
  (5, .iload_n 1, 1, [], 0),
  (6, .iload_n 2, 1, [], 0),
  (7, .iload_n 3, 1, [], 0),
  (8, .invokevirtual 61, 3, [91, 3, 0, 371, 372, 373, 35, 5], 0),
  (11, .invokevirtual 57, 3, [105, 1, 0, 359, 361, 1, 34, 8], 0),
  (14, .ireturn, 1, [], 0)]
/-- X8_sell -/
def q_p152 : List q_R := [(0, .aload_n 0, 1, [], 0),
  (1, .aload_n 0, 1, [], 0),
  (2, .invokevirtual 49, 3, [138, 0, 0, 305, 307, 0, 34, 8], 0),
  (5, .iload_n 1, 1, [], 0),
  (6, .invokevirtual 74, 3, [137, 1, 0, 440, 441, 442, 35, 5], 0),
  (9, .invokevirtual 57, 3, [105, 1, 0, 359, 361, 1, 34, 8], 0),
  (12, .ireturn, 1, [], 0)]
/-- X8_set -/
def q_p153 : List q_R := [(0, .aload_n 0, 1, [], 0),
  (1, .aload_n 0, 1, [], 0),
  (2, .invokevirtual 49, 3, [138, 0, 0, 305, 307, 0, 34, 8], 0),
  (5, .iload_n 1, 1, [], 0),
  (6, .iload_n 2, 1, [], 0),
  (7, .invokevirtual 87, 3, [53, 2, 0, 529, 530, 531, 35, 5], 0),
  (10, .invokevirtual 57, 3, [105, 1, 0, 359, 361, 1, 34, 8], 0),
  (13, .ireturn, 1, [], 0)]
/-- X8_verse -/
def q_p154 : List q_R := [(0, .aload_n 0, 1, [], 0),
  (1, .aload_n 0, 1, [], 0),
  (2, .invokevirtual 49, 3, [138, 0, 0, 305, 307, 0, 34, 8], 0),
  (5, .iload_n 1, 1, [], 0),
  (6, .iload_n 2, 1, [], 0),
  (7, .iload_n 3, 1, [], 0),
  (8, .invokevirtual 53, 3, [89, 3, 0, 346, 347, 348, 35, 5], 0),
  (11, .invokevirtual 57, 3, [105, 1, 0, 359, 361, 1, 34, 8], 0),
  (14, .ireturn, 1, [], 0)]
/-- X9_does -/
def q_p155 : List q_R := [(0, .iload_n 1, 1, [], 0),
  (1, .lookupswitch 117 #[(108, 83), (111, 66), (115, 106), (118, 43)], 43, [], 0),
  (44, .aload_n 0, 1, [], 0),
  (45, .aload_n 0, 1, [], 0),
  (46, .getfield 17, 3, [9, 7, 1, 725], 0),
  (49, .iconst 0, 1, [], 0),
  (50, .iaload, 1, [], 0),
  (51, .aload_n 0, 1, [], 0),
  (52, .getfield 17, 3, [9, 7, 1, 725], 0),
  (55, .iconst 1, 1, [], 0),
  (56, .iaload, 1, [], 0),
  (57, .aload_n 0, 1, [], 0),
  (58, .getfield 17, 3, [9, 7, 1, 725], 0),
  (61, .iconst 2, 1, [], 0),
  (62, .iaload, 1, [], 0),
  (63, .invokevirtual 80, 3, [71, 3, 0, 755, 757, 7, 43, 9], 0),
  (66, .ireturn, 1, [], 0),
  (67, .aload_n 0, 1, [], 0),
  (68, .aload_n 0, 1, [], 0),
  (69, .getfield 17, 3, [9, 7, 1, 725], 0),
  (72, .iconst 0, 1, [], 0),
  (73, .iaload, 1, [], 0),
  (74, .aload_n 0, 1, [], 0),
  (75, .getfield 17, 3, [9, 7, 1, 725], 0),
  (78, .iconst 1, 1, [], 0),
  (79, .iaload, 1, [], 0),
  (80, .invokevirtual 87, 3, [110, 2, 0, 784, 786, 11, 43, 9], 0),
  (83, .ireturn, 1, [], 0),
  (84, .aload_n 0, 1, [], 0),
  (85, .aload_n 0, 1, [], 0),
  (86, .getfield 17, 3, [9, 7, 1, 725], 0),
  (89, .iconst 0, 1, [], 0),
  (90, .iaload, 1, [], 0),
  (91, .aload_n 0, 1, [], 0),
  (92, .getfield 17, 3, [9, 7, 1, 725], 0),
  (95, .iconst 1, 1, [], 0),
  (96, .iaload, 1, [], 0),
  (97, .aload_n 0, 1, [], 0),
  (98, .getfield 17, 3, [9, 7, 1, 725], 0),
  (101, .iconst 2, 1, [], 0),
  (102, .iaload, 1, [], 0),
  (103, .invokevirtual 90, 3, [109, 3, 0, 804, 806, 15, 43, 9], 0),
  (106, .ireturn, 1, [], 0),
  (107, .aload_n 0, 1, [], 0),
  (108, .aload_n 0, 1, [], 0),
  (109, .getfield 17, 3, [9, 7, 1, 725], 0),
  (112, .iconst 0, 1, [], 0),
  (113, .iaload, 1, [], 0),
  (114, .invokevirtual 93, 3, [142, 1, 0, 825, 827, 18, 43, 9], 0),
  (117, .ireturn, 1, [], 0),
  (118, .aload_n 0, 1, [], 0),
  (119, .aload_n 0, 1, [], 0),
  (120, .getfield 17, 3, [9, 7, 1, 725], 0),
  (123, .iconst 0, 1, [], 0),
  (124, .iaload, 1, [], 0),
  (125, .invokevirtual 102, 3, [111, 1, 0, 863, 865, 23, 43, 9], 0),
  (128, .ireturn, 1, [], 0)]
/-- X9_sell -/
def q_p156 : List q_R := [(0, .aload_n 0, 1, [], 0),
  (1, .invokevirtual 77, 3, [76, 0, 0, 747, 749, 5, 43, 9], 0),
  (4, .aload_n 0, 1, [], 0),
  (5, .aload_n 0, 1, [], 0),
  (6, .iload_n 1, 1, [], 0),
  (7, .invokevirtual 93, 3, [142, 1, 0, 825, 827, 18, 43, 9], 0),
  (10, .invokevirtual 84, 3, [68, 1, 0, 768, 770, 9, 43, 9], 0),
  (13, .ireturn, 1, [], 0)]
/-- X4_go -/
def q_p157 : List q_R := [(0, .aload_n 0, 1, [], 0),
  (1, .iconst 0, 1, [], 0),
  (2, .putfield 9, 3, [4, 0, 0, 256, 0], 0),
  (5, .aload_n 0, 1, [], 0),
  (6, .iconst 0, 1, [], 0),
  (7, .putfield 15, 3, [4, 1, 0, 258, 0], 0),
  (10, .aload_n 0, 1, [], 0),
  (11, .iconst 0, 1, [], 0),
  (12, .putfield 18, 3, [4, 2, 0, 260, 0], 0),
  (15, .aload_n 0, 1, [], 0),
  (16, .iconst 0, 1, [], 0),
  (17, .putfield 21, 3, [4, 3, 0, 262, 0], 0),
  (20, .iconst 0, 1, [], 0),
  (21, .istore_n 3, 1, [], 0),
  (22, .iload_n 3, 1, [], 0),
  (23, .bipush 60, 2, [], 0),
  (25, .if_icmp .ge 109, 3, [], 0),
  (28, .aload_n 0, 1, [], 0),
  (29, .getfield 15, 3, [4, 1, 0, 258], 0),
  (32, .ifCond .ne 102, 3, [], 0),
  (35, .aload_n 0, 1, [], 0),
  (36, .getfield 9, 3, [4, 0, 0, 256], 0),
  (39, .aload_n 1, 1, [], 0),
  (40, .getfield 24, 3, [6, 1, 0, 230], 0),
  (43, .if_icmp .ge 91, 3, [], 0),
  (46, .aload_n 1, 1, [], 0),
  (47, .aload_n 0, 1, [], 0),
  (48, .getfield 9, 3, [4, 0, 0, 256], 0),
  (51, .invokevirtual 29, 3, [100, 1, 0, 679, 680, 681, 41, 6], 0),
  (54, .istore 4, 2, [], 0),
  (56, .iload 4, 2, [], 0),
  (58, .ifCond .eq 11, 3, [], 0),
  (61, .aload_n 1, 1, [], 0),
  (62, .aload_n 2, 1, [], 0),
  (63, .invokestatic 33, 3, [144, 2, 2, 695, 696, 0, 42], 0),
  (66, .goto 5, 3, [], 0),
  (69, .ldc 37, 2, [0, 703], -1000001),
  (71, .istore 5, 2, [], 0),
  (73, .iload 4, 2, [], 0),
  (75, .ifCond .ne 20, 3, [], 0),
  (78, .aload_n 0, 1, [], 0),
  (79, .iconst 1, 1, [], 0),
  (80, .aload_n 1, 1, [], 0),
  (81, .getfield 38, 3, [6, 4, 0, 237], 0),
  (84, .aload_n 0, 1, [], 0),
  (85, .getfield 9, 3, [4, 0, 0, 256], 0),
  (88, .isub, 1, [], 0),
  (89, .invokevirtual 41, 3, [15, 2, 0, 704, 706, 4, 42, 4], 0),
  (92, .goto 36, 3, [], 0),
  (95, .iload 5, 2, [], 0),
  (97, .ifCond .ge 13, 3, [], 0),
  (100, .aload_n 0, 1, [], 0),
  (101, .iconst 2, 1, [], 0),
  (102, .iload 5, 2, [], 0),
  (104, .invokevirtual 41, 3, [15, 2, 0, 704, 706, 4, 42, 4], 0),
  (107, .goto 21, 3, [], 0),
  (110, .aload_n 0, 1, [], 0),
  (111, .aload_n 1, 1, [], 0),
  (112, .getfield 38, 3, [6, 4, 0, 237], 0),
  (115, .putfield 9, 3, [4, 0, 0, 256, 0], 0),
  (118, .aload_n 0, 1, [], 0),
  (119, .dup, 1, [], 0),
  (120, .getfield 21, 3, [4, 3, 0, 262], 0),
  (123, .iconst 1, 1, [], 0),
  (124, .iadd, 1, [], 0),
  (125, .putfield 21, 3, [4, 3, 0, 262, 0], 0),
  (128, .iinc 3 1, 3, [], 0),
  (131, .goto (-109), 3, [], 0),
  (134, .return_, 1, [], 0)]
/-- X8_sellTwo -/
def q_p158 : List q_R := [(0, .aload_n 0, 1, [], 0),
  (1, .aload_n 0, 1, [], 0),
  (2, .invokevirtual 49, 3, [138, 0, 0, 305, 307, 0, 34, 8], 0),
  (5, .iload_n 1, 1, [], 0),
  (6, .iload_n 2, 1, [], 0),
  (7, .invokevirtual 77, 3, [145, 2, 0, 473, 474, 475, 35, 5], 0),
  (10, .invokevirtual 57, 3, [105, 1, 0, 359, 361, 1, 34, 8], 0),
  (13, .ireturn, 1, [], 0)]
/-- X9_goesOn -/
def q_p159 : List q_R := [(0, .aload_n 0, 1, [], 0),
  (1, .iconst 0, 1, [], 0),
  (2, .putfield 122, 3, [9, 6, 0, 724, 0], 0),
  (5, .iconst 0, 1, [], 0),
  (6, .istore_n 1, 1, [], 0),
  (7, .aload_n 0, 1, [], 0),
  (8, .getfield 122, 3, [9, 6, 0, 724], 0),
  (11, .aload_n 0, 1, [], 0),
  (12, .getfield 119, 3, [9, 3, 0, 721], 0),
  (15, .if_icmp .ge 77, 3, [], 0),
  (18, .aload_n 0, 1, [], 0),
  (19, .getfield 122, 3, [9, 6, 0, 724], 0),
  (22, .istore_n 2, 1, [], 0),
  (23, .aload_n 0, 1, [], 0),
  (24, .invokevirtual 125, 3, [38, 0, 0, 955, 957, 28, 43, 9], 0),
  (27, .istore_n 3, 1, [], 0),
  (28, .aload_n 0, 1, [], 0),
  (29, .iload_n 3, 1, [], 0),
  (30, .invokevirtual 134, 3, [113, 1, 0, 959, 961, 29, 43, 9], 0),
  (33, .ifCond .ne 23, 3, [], 0),
  (36, .aload_n 0, 1, [], 0),
  (37, .iconst 1, 1, [], 0),
  (38, .putfield 137, 3, [9, 4, 0, 722, 0], 0),
  (41, .aload_n 0, 1, [], 0),
  (42, .aload_n 0, 1, [], 0),
  (43, .getfield 122, 3, [9, 6, 0, 724], 0),
  (46, .iload_n 2, 1, [], 0),
  (47, .isub, 1, [], 0),
  (48, .putfield 140, 3, [9, 5, 0, 723, 0], 0),
  (51, .iload_n 2, 1, [], 0),
  (52, .ineg, 1, [], 0),
  (53, .iconst 1, 1, [], 0),
  (54, .isub, 1, [], 0),
  (55, .ireturn, 1, [], 0),
  (56, .aload_n 0, 1, [], 0),
  (57, .iload_n 3, 1, [], 0),
  (58, .invokevirtual 143, 3, [155, 1, 0, 971, 973, 32, 43, 9], 0),
  (61, .istore 4, 2, [], 0),
  (63, .iload 4, 2, [], 0),
  (65, .ldc 24, 2, [0, 762], -1000001),
  (67, .if_icmp .gt 19, 3, [], 0),
  (70, .aload_n 0, 1, [], 0),
  (71, .iconst 2, 1, [], 0),
  (72, .putfield 137, 3, [9, 4, 0, 722, 0], 0),
  (75, .aload_n 0, 1, [], 0),
  (76, .iload 4, 2, [], 0),
  (78, .putfield 140, 3, [9, 5, 0, 723, 0], 0),
  (81, .iload_n 2, 1, [], 0),
  (82, .ineg, 1, [], 0),
  (83, .iconst 1, 1, [], 0),
  (84, .isub, 1, [], 0),
  (85, .ireturn, 1, [], 0),
  (86, .iinc 1 1, 3, [], 0),
  (89, .goto (-82), 3, [], 0),
  (92, .iload_n 1, 1, [], 0),
  (93, .ireturn, 1, [], 0)]
/-- X8_fault -/
def q_p160 : List q_R := [(0, .iload_n 1, 1, [], 0),
  (1, .iconst 0, 1, [], 0),
  (2, .iconst 2, 1, [], 0),
  (3, .invokestatic 100, 3, [24, 3, 2, 353, 354, 0, 34], 0),
  (6, .ifCond .ne 6, 3, [], 0),
  (9, .ldc 104, 2, [0, 538], -1000001),
  (11, .ireturn, 1, [], 0),
  (12, .aload_n 0, 1, [], 0),
  (13, .getfield 45, 3, [8, 8, 1, 281], 0),
  (16, .aload_n 0, 1, [], 0),
  (17, .getfield 38, 3, [8, 7, 1, 280], 0),
  (20, .aload_n 0, 1, [], 0),
  (21, .invokevirtual 49, 3, [138, 0, 0, 305, 307, 0, 34, 8], 0),
  (24, .invokevirtual 227, 3, [157, 2, 0, 675, 676, 677, 42, 4], 0),
  (27, .aload_n 0, 1, [], 0),
  (28, .getfield 45, 3, [8, 8, 1, 281], 0),
  (31, .getfield 231, 3, [4, 1, 0, 259], 0),
  (34, .ifCond .ne 6, 3, [], 0),
  (37, .ldc 141, 2, [0, 601], -1000004),
  (39, .ireturn, 1, [], 0),
  (40, .iload_n 1, 1, [], 0),
  (41, .lookupswitch 43 #[(0, 27), (1, 35)], 27, [], 0),
  (68, .aload_n 0, 1, [], 0),
  (69, .getfield 45, 3, [8, 8, 1, 281], 0),
  (72, .getfield 234, 3, [4, 0, 0, 257], 0),
  (75, .ireturn, 1, [], 0),
  (76, .aload_n 0, 1, [], 0),
  (77, .getfield 45, 3, [8, 8, 1, 281], 0),
  (80, .getfield 231, 3, [4, 1, 0, 259], 0),
  (83, .ireturn, 1, [], 0),
  (84, .aload_n 0, 1, [], 0),
  (85, .getfield 45, 3, [8, 8, 1, 281], 0),
  (88, .getfield 237, 3, [4, 2, 0, 261], 0),
  (91, .ireturn, 1, [], 0)]
/-- X8_play -/
def q_p161 : List q_R := [(0, .aload_n 0, 1, [], 0),
  (1, .getfield 45, 3, [8, 8, 1, 281], 0),
  (4, .aload_n 0, 1, [], 0),
  (5, .getfield 38, 3, [8, 7, 1, 280], 0),
  (8, .aload_n 0, 1, [], 0),
  (9, .invokevirtual 49, 3, [138, 0, 0, 305, 307, 0, 34, 8], 0),
  (12, .invokevirtual 227, 3, [157, 2, 0, 675, 676, 677, 42, 4], 0),
  (15, .aload_n 0, 1, [], 0),
  (16, .aload_n 0, 1, [], 0),
  (17, .getfield 45, 3, [8, 8, 1, 281], 0),
  (20, .getfield 231, 3, [4, 1, 0, 259], 0),
  (23, .ifCond .ne 13, 3, [], 0),
  (26, .aload_n 0, 1, [], 0),
  (27, .getfield 45, 3, [8, 8, 1, 281], 0),
  (30, .getfield 240, 3, [4, 3, 0, 263], 0),
  (33, .goto 5, 3, [], 0),
  (36, .ldc 221, 2, [0, 657], -1000002),
  (38, .invokevirtual 57, 3, [105, 1, 0, 359, 361, 1, 34, 8], 0),
  (41, .ireturn, 1, [], 0)]
/-- X9_fault -/
def q_p162 : List q_R := [(0, .iload_n 1, 1, [], 0),
  (1, .iconst 0, 1, [], 0),
  (2, .iconst 2, 1, [], 0),
  (3, .invokestatic 29, 3, [32, 3, 2, 759, 760, 0, 43], 0),
  (6, .ifCond .ne 6, 3, [], 0),
  (9, .ldc 24, 2, [0, 762], -1000001),
  (11, .ireturn, 1, [], 0),
  (12, .aload_n 0, 1, [], 0),
  (13, .invokevirtual 77, 3, [76, 0, 0, 747, 749, 5, 43, 9], 0),
  (16, .aload_n 0, 1, [], 0),
  (17, .invokevirtual 146, 3, [159, 0, 0, 951, 953, 27, 43, 9], 0),
  (20, .istore_n 2, 1, [], 0),
  (21, .aload_n 0, 1, [], 0),
  (22, .iconst 5, 1, [], 0),
  (23, .iconst 0, 1, [], 0),
  (24, .invokevirtual 20, 3, [30, 2, 0, 751, 753, 6, 43, 9], 0),
  (27, .iload_n 2, 1, [], 0),
  (28, .ifCond .lt 8, 3, [], 0),
  (31, .ldc 105, 2, [0, 883], -1000004),
  (33, .goto 30, 3, [], 0),
  (36, .iload_n 1, 1, [], 0),
  (37, .ifCond .ne 10, 3, [], 0),
  (40, .iload_n 2, 1, [], 0),
  (41, .ineg, 1, [], 0),
  (42, .iconst 1, 1, [], 0),
  (43, .isub, 1, [], 0),
  (44, .goto 19, 3, [], 0),
  (47, .iload_n 1, 1, [], 0),
  (48, .iconst 1, 1, [], 0),
  (49, .if_icmp .ne 10, 3, [], 0),
  (52, .aload_n 0, 1, [], 0),
  (53, .getfield 137, 3, [9, 4, 0, 722], 0),
  (56, .goto 7, 3, [], 0),
  (59, .aload_n 0, 1, [], 0),
  (60, .getfield 140, 3, [9, 5, 0, 723], 0),
  (63, .ireturn, 1, [], 0)]
/-- X9_play -/
def q_p163 : List q_R := [(0, .aload_n 0, 1, [], 0),
  (1, .invokevirtual 77, 3, [76, 0, 0, 747, 749, 5, 43, 9], 0),
  (4, .aload_n 0, 1, [], 0),
  (5, .invokevirtual 146, 3, [159, 0, 0, 951, 953, 27, 43, 9], 0),
  (8, .istore_n 1, 1, [], 0),
  (9, .iload_n 1, 1, [], 0),
  (10, .ifCond .ge 12, 3, [], 0),
  (13, .aload_n 0, 1, [], 0),
  (14, .iconst 5, 1, [], 0),
  (15, .iconst 0, 1, [], 0),
  (16, .invokevirtual 20, 3, [30, 2, 0, 751, 753, 6, 43, 9], 0),
  (19, .ldc 56, 2, [0, 816], -1000002),
  (21, .ireturn, 1, [], 0),
  (22, .aload_n 0, 1, [], 0),
  (23, .iload_n 1, 1, [], 0),
  (24, .invokevirtual 84, 3, [68, 1, 0, 768, 770, 9, 43, 9], 0),
  (27, .ireturn, 1, [], 0)]
/-- L_law -/
def q_p164 : List q_R := [(0, .new 7, 3, [8, 9, 47, 48, 34], 0),
  (3, .dup, 1, [], 0),
  (4, .invokespecial 9, 3, [130, 0, 4, 49, 50, 0, 34], 0),
  (7, .astore_n 1, 1, [], 0),
  (8, .new 10, 3, [9, 8, 712, 713, 43], 0),
  (11, .dup, 1, [], 0),
  (12, .invokespecial 12, 3, [73, 0, 4, 714, 715, 0, 43], 0),
  (15, .astore_n 2, 1, [], 0),
  (16, .iconst 0, 1, [], 0),
  (17, .istore_n 3, 1, [], 0),
  (18, .iload_n 3, 1, [], 0),
  (19, .aload_n 0, 1, [], 0),
  (20, .arraylength, 1, [], 0),
  (21, .iconst 4, 1, [], 0),
  (22, .isub, 1, [], 0),
  (23, .if_icmp .gt 816, 3, [], 0),
  (26, .aload_n 0, 1, [], 0),
  (27, .iload_n 3, 1, [], 0),
  (28, .iaload, 1, [], 0),
  (29, .bipush 31, 2, [], 0),
  (31, .iand, 1, [], 0),
  (32, .tableswitch 801 0 24 #[116, 159, 202, 235, 278, 301, 324, 357, 370, 393, 426, 459, 492, 525, 558, 591, 624, 647, 670, 693, 716, 729, 752, 765, 788], 116, [], 0),
  (148, .aload_n 1, 1, [], 0),
  (149, .aload_n 0, 1, [], 0),
  (150, .iload_n 3, 1, [], 0),
  (151, .iconst 1, 1, [], 0),
  (152, .iadd, 1, [], 0),
  (153, .iaload, 1, [], 0),
  (154, .aload_n 0, 1, [], 0),
  (155, .iload_n 3, 1, [], 0),
  (156, .iconst 2, 1, [], 0),
  (157, .iadd, 1, [], 0),
  (158, .iaload, 1, [], 0),
  (159, .aload_n 0, 1, [], 0),
  (160, .iload_n 3, 1, [], 0),
  (161, .iconst 3, 1, [], 0),
  (162, .iadd, 1, [], 0),
  (163, .iaload, 1, [], 0),
  (164, .invokevirtual 13, 3, [154, 3, 0, 301, 302, 303, 34, 8], 0),
  (167, .aload_n 2, 1, [], 0),
  (168, .aload_n 0, 1, [], 0),
  (169, .iload_n 3, 1, [], 0),
  (170, .iconst 1, 1, [], 0),
  (171, .iadd, 1, [], 0),
  (172, .iaload, 1, [], 0),
  (173, .aload_n 0, 1, [], 0),
  (174, .iload_n 3, 1, [], 0),
  (175, .iconst 2, 1, [], 0),
  (176, .iadd, 1, [], 0),
  (177, .iaload, 1, [], 0),
  (178, .aload_n 0, 1, [], 0),
  (179, .iload_n 3, 1, [], 0),
  (180, .iconst 3, 1, [], 0),
  (181, .iadd, 1, [], 0),
  (182, .iaload, 1, [], 0),
  (183, .invokevirtual 17, 3, [122, 3, 0, 743, 744, 745, 43, 9], 0),
  (186, .if_icmp .eq 647, 3, [], 0),
  (189, .iconst 0, 1, [], 0),
  (190, .ireturn, 1, [], 0),
  (191, .aload_n 1, 1, [], 0),
  (192, .aload_n 0, 1, [], 0),
  (193, .iload_n 3, 1, [], 0),
  (194, .iconst 1, 1, [], 0),
  (195, .iadd, 1, [], 0),
  (196, .iaload, 1, [], 0),
  (197, .aload_n 0, 1, [], 0),
  (198, .iload_n 3, 1, [], 0),
  (199, .iconst 2, 1, [], 0),
  (200, .iadd, 1, [], 0),
  (201, .iaload, 1, [], 0),
  (202, .aload_n 0, 1, [], 0),
  (203, .iload_n 3, 1, [], 0),
  (204, .iconst 3, 1, [], 0),
  (205, .iadd, 1, [], 0),
  (206, .iaload, 1, [], 0),
  (207, .invokevirtual 18, 3, [151, 3, 0, 367, 368, 369, 34, 8], 0),
  (210, .aload_n 2, 1, [], 0),
  (211, .aload_n 0, 1, [], 0),
  (212, .iload_n 3, 1, [], 0),
  (213, .iconst 1, 1, [], 0),
  (214, .iadd, 1, [], 0),
  (215, .iaload, 1, [], 0),
  (216, .aload_n 0, 1, [], 0),
  (217, .iload_n 3, 1, [], 0),
  (218, .iconst 2, 1, [], 0),
  (219, .iadd, 1, [], 0),
  (220, .iaload, 1, [], 0),
  (221, .aload_n 0, 1, [], 0),
  (222, .iload_n 3, 1, [], 0),
  (223, .iconst 3, 1, [], 0),
  (224, .iadd, 1, [], 0),
  (225, .iaload, 1, [], 0),
  (226, .invokevirtual 21, 3, [117, 3, 0, 772, 773, 774, 43, 9], 0),
  (229, .if_icmp .eq 604, 3, [], 0),
  (232, .iconst 0, 1, [], 0),
  (233, .ireturn, 1, [], 0),
  (234, .aload_n 1, 1, [], 0),
  (235, .aload_n 0, 1, [], 0),
  (236, .iload_n 3, 1, [], 0),
  (237, .iconst 1, 1, [], 0),
  (238, .iadd, 1, [], 0),
  (239, .iaload, 1, [], 0),
  (240, .aload_n 0, 1, [], 0),
  (241, .iload_n 3, 1, [], 0),
  (242, .iconst 2, 1, [], 0),
  (243, .iadd, 1, [], 0),
  (244, .iaload, 1, [], 0),
  (245, .invokevirtual 22, 3, [149, 2, 0, 383, 384, 385, 34, 8], 0),
  (248, .aload_n 2, 1, [], 0),
  (249, .aload_n 0, 1, [], 0),
  (250, .iload_n 3, 1, [], 0),
  (251, .iconst 1, 1, [], 0),
  (252, .iadd, 1, [], 0),
  (253, .iaload, 1, [], 0),
  (254, .aload_n 0, 1, [], 0),
  (255, .iload_n 3, 1, [], 0),
  (256, .iconst 2, 1, [], 0),
  (257, .iadd, 1, [], 0),
  (258, .iaload, 1, [], 0),
  (259, .invokevirtual 26, 3, [133, 2, 0, 780, 781, 782, 43, 9], 0),
  (262, .if_icmp .eq 571, 3, [], 0),
  (265, .iconst 0, 1, [], 0),
  (266, .ireturn, 1, [], 0),
  (267, .aload_n 1, 1, [], 0),
  (268, .aload_n 0, 1, [], 0),
  (269, .iload_n 3, 1, [], 0),
  (270, .iconst 1, 1, [], 0),
  (271, .iadd, 1, [], 0),
  (272, .iaload, 1, [], 0),
  (273, .aload_n 0, 1, [], 0),
  (274, .iload_n 3, 1, [], 0),
  (275, .iconst 2, 1, [], 0),
  (276, .iadd, 1, [], 0),
  (277, .iaload, 1, [], 0),
  (278, .aload_n 0, 1, [], 0),
  (279, .iload_n 3, 1, [], 0),
  (280, .iconst 3, 1, [], 0),
  (281, .iadd, 1, [], 0),
  (282, .iaload, 1, [], 0),
  (283, .invokevirtual 27, 3, [148, 3, 0, 416, 417, 418, 34, 8], 0),
  (286, .aload_n 2, 1, [], 0),
  (287, .aload_n 0, 1, [], 0),
  (288, .iload_n 3, 1, [], 0),
  (289, .iconst 1, 1, [], 0),
  (290, .iadd, 1, [], 0),
  (291, .iaload, 1, [], 0),
  (292, .aload_n 0, 1, [], 0),
  (293, .iload_n 3, 1, [], 0),
  (294, .iconst 2, 1, [], 0),
  (295, .iadd, 1, [], 0),
  (296, .iaload, 1, [], 0),
  (297, .aload_n 0, 1, [], 0),
  (298, .iload_n 3, 1, [], 0),
  (299, .iconst 3, 1, [], 0),
  (300, .iadd, 1, [], 0),
  (301, .iaload, 1, [], 0),
  (302, .invokevirtual 30, 3, [132, 3, 0, 800, 801, 802, 43, 9], 0),
  (305, .if_icmp .eq 528, 3, [], 0),
  (308, .iconst 0, 1, [], 0),
  (309, .ireturn, 1, [], 0),
  (310, .aload_n 1, 1, [], 0),
  (311, .aload_n 0, 1, [], 0),
  (312, .iload_n 3, 1, [], 0),
  (313, .iconst 1, 1, [], 0),
  (314, .iadd, 1, [], 0),
  (315, .iaload, 1, [], 0),
  (316, .invokevirtual 31, 3, [146, 1, 0, 428, 429, 430, 34, 8], 0),
  (319, .aload_n 2, 1, [], 0),
  (320, .aload_n 0, 1, [], 0),
  (321, .iload_n 3, 1, [], 0),
  (322, .iconst 1, 1, [], 0),
  (323, .iadd, 1, [], 0),
  (324, .iaload, 1, [], 0),
  (325, .invokevirtual 35, 3, [108, 1, 0, 817, 818, 819, 43, 9], 0),
  (328, .if_icmp .eq 505, 3, [], 0),
  (331, .iconst 0, 1, [], 0),
  (332, .ireturn, 1, [], 0),
  (333, .aload_n 1, 1, [], 0),
  (334, .aload_n 0, 1, [], 0),
  (335, .iload_n 3, 1, [], 0),
  (336, .iconst 1, 1, [], 0),
  (337, .iadd, 1, [], 0),
  (338, .iaload, 1, [], 0),
  (339, .invokevirtual 36, 3, [152, 1, 0, 436, 437, 438, 34, 8], 0),
  (342, .aload_n 2, 1, [], 0),
  (343, .aload_n 0, 1, [], 0),
  (344, .iload_n 3, 1, [], 0),
  (345, .iconst 1, 1, [], 0),
  (346, .iadd, 1, [], 0),
  (347, .iaload, 1, [], 0),
  (348, .invokevirtual 39, 3, [156, 1, 0, 821, 822, 823, 43, 9], 0),
  (351, .if_icmp .eq 482, 3, [], 0),
  (354, .iconst 0, 1, [], 0),
  (355, .ireturn, 1, [], 0),
  (356, .aload_n 1, 1, [], 0),
  (357, .aload_n 0, 1, [], 0),
  (358, .iload_n 3, 1, [], 0),
  (359, .iconst 1, 1, [], 0),
  (360, .iadd, 1, [], 0),
  (361, .iaload, 1, [], 0),
  (362, .aload_n 0, 1, [], 0),
  (363, .iload_n 3, 1, [], 0),
  (364, .iconst 2, 1, [], 0),
  (365, .iadd, 1, [], 0),
  (366, .iaload, 1, [], 0),
  (367, .invokevirtual 40, 3, [158, 2, 0, 469, 470, 471, 34, 8], 0),
  (370, .aload_n 2, 1, [], 0),
  (371, .aload_n 0, 1, [], 0),
  (372, .iload_n 3, 1, [], 0),
  (373, .iconst 1, 1, [], 0),
  (374, .iadd, 1, [], 0),
  (375, .iaload, 1, [], 0),
  (376, .aload_n 0, 1, [], 0),
  (377, .iload_n 3, 1, [], 0),
  (378, .iconst 2, 1, [], 0),
  (379, .iadd, 1, [], 0),
  (380, .iaload, 1, [], 0),
  (381, .invokevirtual 43, 3, [143, 2, 0, 844, 845, 846, 43, 9], 0),
  (384, .if_icmp .eq 449, 3, [], 0),
  (387, .iconst 0, 1, [], 0),
  (388, .ireturn, 1, [], 0),
  (389, .aload_n 1, 1, [], 0),
  (390, .invokevirtual 44, 3, [147, 0, 0, 482, 483, 484, 34, 8], 0),
  (393, .aload_n 2, 1, [], 0),
  (394, .invokevirtual 48, 3, [112, 0, 0, 851, 852, 853, 43, 9], 0),
  (397, .if_icmp .eq 436, 3, [], 0),
  (400, .iconst 0, 1, [], 0),
  (401, .ireturn, 1, [], 0),
  (402, .aload_n 1, 1, [], 0),
  (403, .aload_n 0, 1, [], 0),
  (404, .iload_n 3, 1, [], 0),
  (405, .iconst 1, 1, [], 0),
  (406, .iadd, 1, [], 0),
  (407, .iaload, 1, [], 0),
  (408, .invokevirtual 49, 3, [150, 1, 0, 502, 503, 504, 34, 8], 0),
  (411, .aload_n 2, 1, [], 0),
  (412, .aload_n 0, 1, [], 0),
  (413, .iload_n 3, 1, [], 0),
  (414, .iconst 1, 1, [], 0),
  (415, .iadd, 1, [], 0),
  (416, .iaload, 1, [], 0),
  (417, .invokevirtual 52, 3, [134, 1, 0, 859, 860, 861, 43, 9], 0),
  (420, .if_icmp .eq 413, 3, [], 0),
  (423, .iconst 0, 1, [], 0),
  (424, .ireturn, 1, [], 0),
  (425, .aload_n 1, 1, [], 0),
  (426, .aload_n 0, 1, [], 0),
  (427, .iload_n 3, 1, [], 0),
  (428, .iconst 1, 1, [], 0),
  (429, .iadd, 1, [], 0),
  (430, .iaload, 1, [], 0),
  (431, .aload_n 0, 1, [], 0),
  (432, .iload_n 3, 1, [], 0),
  (433, .iconst 2, 1, [], 0),
  (434, .iadd, 1, [], 0),
  (435, .iaload, 1, [], 0),
  (436, .invokevirtual 53, 3, [153, 2, 0, 525, 526, 527, 34, 8], 0),
  (439, .aload_n 2, 1, [], 0),
  (440, .aload_n 0, 1, [], 0),
  (441, .iload_n 3, 1, [], 0),
  (442, .iconst 1, 1, [], 0),
  (443, .iadd, 1, [], 0),
  (444, .iaload, 1, [], 0),
  (445, .aload_n 0, 1, [], 0),
  (446, .iload_n 3, 1, [], 0),
  (447, .iconst 2, 1, [], 0),
  (448, .iadd, 1, [], 0),
  (449, .iaload, 1, [], 0),
  (450, .invokevirtual 56, 3, [118, 2, 0, 871, 872, 873, 43, 9], 0),
  (453, .if_icmp .eq 380, 3, [], 0),
  (456, .iconst 0, 1, [], 0),
  (457, .ireturn, 1, [], 0),
  (458, .aload_n 1, 1, [], 0),
  (459, .aload_n 0, 1, [], 0),
  (460, .iload_n 3, 1, [], 0),
  (461, .iconst 1, 1, [], 0),
  (462, .iadd, 1, [], 0),
  (463, .iaload, 1, [], 0),
  (464, .aload_n 0, 1, [], 0),
  (465, .iload_n 3, 1, [], 0),
  (466, .iconst 2, 1, [], 0),
  (467, .iadd, 1, [], 0),
  (468, .iaload, 1, [], 0),
  (469, .invokevirtual 57, 3, [106, 2, 0, 533, 534, 535, 34, 8], 0),
  (472, .aload_n 2, 1, [], 0),
  (473, .aload_n 0, 1, [], 0),
  (474, .iload_n 3, 1, [], 0),
  (475, .iconst 1, 1, [], 0),
  (476, .iadd, 1, [], 0),
  (477, .iaload, 1, [], 0),
  (478, .aload_n 0, 1, [], 0),
  (479, .iload_n 3, 1, [], 0),
  (480, .iconst 2, 1, [], 0),
  (481, .iadd, 1, [], 0),
  (482, .iaload, 1, [], 0),
  (483, .invokevirtual 60, 3, [123, 2, 0, 875, 876, 877, 43, 9], 0),
  (486, .if_icmp .eq 347, 3, [], 0),
  (489, .iconst 0, 1, [], 0),
  (490, .ireturn, 1, [], 0),
  (491, .aload_n 1, 1, [], 0),
  (492, .aload_n 0, 1, [], 0),
  (493, .iload_n 3, 1, [], 0),
  (494, .iconst 1, 1, [], 0),
  (495, .iadd, 1, [], 0),
  (496, .iaload, 1, [], 0),
  (497, .aload_n 0, 1, [], 0),
  (498, .iload_n 3, 1, [], 0),
  (499, .iconst 2, 1, [], 0),
  (500, .iadd, 1, [], 0),
  (501, .iaload, 1, [], 0),
  (502, .invokevirtual 61, 3, [140, 2, 0, 543, 544, 545, 34, 8], 0),
  (505, .aload_n 2, 1, [], 0),
  (506, .aload_n 0, 1, [], 0),
  (507, .iload_n 3, 1, [], 0),
  (508, .iconst 1, 1, [], 0),
  (509, .iadd, 1, [], 0),
  (510, .iaload, 1, [], 0),
  (511, .aload_n 0, 1, [], 0),
  (512, .iload_n 3, 1, [], 0),
  (513, .iconst 2, 1, [], 0),
  (514, .iadd, 1, [], 0),
  (515, .iaload, 1, [], 0),
  (516, .invokevirtual 64, 3, [79, 2, 0, 879, 880, 881, 43, 9], 0),
  (519, .if_icmp .eq 314, 3, [], 0),
  (522, .iconst 0, 1, [], 0),
  (523, .ireturn, 1, [], 0),
  (524, .aload_n 1, 1, [], 0),
  (525, .aload_n 0, 1, [], 0),
  (526, .iload_n 3, 1, [], 0),
  (527, .iconst 1, 1, [], 0),
  (528, .iadd, 1, [], 0),
  (529, .iaload, 1, [], 0),
  (530, .aload_n 0, 1, [], 0),
  (531, .iload_n 3, 1, [], 0),
  (532, .iconst 2, 1, [], 0),
  (533, .iadd, 1, [], 0),
  (534, .iaload, 1, [], 0),
  (535, .invokevirtual 65, 3, [65, 2, 0, 559, 560, 561, 34, 8], 0),
  (538, .aload_n 2, 1, [], 0),
  (539, .aload_n 0, 1, [], 0),
  (540, .iload_n 3, 1, [], 0),
  (541, .iconst 1, 1, [], 0),
  (542, .iadd, 1, [], 0),
  (543, .iaload, 1, [], 0),
  (544, .aload_n 0, 1, [], 0),
  (545, .iload_n 3, 1, [], 0),
  (546, .iconst 2, 1, [], 0),
  (547, .iadd, 1, [], 0),
  (548, .iaload, 1, [], 0),
  (549, .invokevirtual 68, 3, [78, 2, 0, 884, 885, 886, 43, 9], 0),
  (552, .if_icmp .eq 281, 3, [], 0),
  (555, .iconst 0, 1, [], 0),
  (556, .ireturn, 1, [], 0),
  (557, .aload_n 1, 1, [], 0),
  (558, .aload_n 0, 1, [], 0),
  (559, .iload_n 3, 1, [], 0),
  (560, .iconst 1, 1, [], 0),
  (561, .iadd, 1, [], 0),
  (562, .iaload, 1, [], 0),
  (563, .aload_n 0, 1, [], 0),
  (564, .iload_n 3, 1, [], 0),
  (565, .iconst 2, 1, [], 0),
  (566, .iadd, 1, [], 0),
  (567, .iaload, 1, [], 0),
  (568, .invokevirtual 69, 3, [139, 2, 0, 567, 568, 569, 34, 8], 0),
  (571, .aload_n 2, 1, [], 0),
  (572, .aload_n 0, 1, [], 0),
  (573, .iload_n 3, 1, [], 0),
  (574, .iconst 1, 1, [], 0),
  (575, .iadd, 1, [], 0),
  (576, .iaload, 1, [], 0),
  (577, .aload_n 0, 1, [], 0),
  (578, .iload_n 3, 1, [], 0),
  (579, .iconst 2, 1, [], 0),
  (580, .iadd, 1, [], 0),
  (581, .iaload, 1, [], 0),
  (582, .invokevirtual 72, 3, [115, 2, 0, 888, 889, 890, 43, 9], 0),
  (585, .if_icmp .eq 248, 3, [], 0),
  (588, .iconst 0, 1, [], 0),
  (589, .ireturn, 1, [], 0),
  (590, .aload_n 1, 1, [], 0),
  (591, .aload_n 0, 1, [], 0),
  (592, .iload_n 3, 1, [], 0),
  (593, .iconst 1, 1, [], 0),
  (594, .iadd, 1, [], 0),
  (595, .iaload, 1, [], 0),
  (596, .aload_n 0, 1, [], 0),
  (597, .iload_n 3, 1, [], 0),
  (598, .iconst 2, 1, [], 0),
  (599, .iadd, 1, [], 0),
  (600, .iaload, 1, [], 0),
  (601, .invokevirtual 73, 3, [66, 2, 0, 588, 589, 590, 34, 8], 0),
  (604, .aload_n 2, 1, [], 0),
  (605, .aload_n 0, 1, [], 0),
  (606, .iload_n 3, 1, [], 0),
  (607, .iconst 1, 1, [], 0),
  (608, .iadd, 1, [], 0),
  (609, .iaload, 1, [], 0),
  (610, .aload_n 0, 1, [], 0),
  (611, .iload_n 3, 1, [], 0),
  (612, .iconst 2, 1, [], 0),
  (613, .iadd, 1, [], 0),
  (614, .iaload, 1, [], 0),
  (615, .invokevirtual 76, 3, [121, 2, 0, 892, 893, 894, 43, 9], 0),
  (618, .if_icmp .eq 215, 3, [], 0),
  (621, .iconst 0, 1, [], 0),
  (622, .ireturn, 1, [], 0),
  (623, .aload_n 1, 1, [], 0),
  (624, .aload_n 0, 1, [], 0),
  (625, .iload_n 3, 1, [], 0),
  (626, .iconst 1, 1, [], 0),
  (627, .iadd, 1, [], 0),
  (628, .iaload, 1, [], 0),
  (629, .aload_n 0, 1, [], 0),
  (630, .iload_n 3, 1, [], 0),
  (631, .iconst 2, 1, [], 0),
  (632, .iadd, 1, [], 0),
  (633, .iaload, 1, [], 0),
  (634, .invokevirtual 77, 3, [141, 2, 0, 596, 597, 598, 34, 8], 0),
  (637, .aload_n 2, 1, [], 0),
  (638, .aload_n 0, 1, [], 0),
  (639, .iload_n 3, 1, [], 0),
  (640, .iconst 1, 1, [], 0),
  (641, .iadd, 1, [], 0),
  (642, .iaload, 1, [], 0),
  (643, .aload_n 0, 1, [], 0),
  (644, .iload_n 3, 1, [], 0),
  (645, .iconst 2, 1, [], 0),
  (646, .iadd, 1, [], 0),
  (647, .iaload, 1, [], 0),
  (648, .invokevirtual 80, 3, [136, 2, 0, 896, 897, 898, 43, 9], 0),
  (651, .if_icmp .eq 182, 3, [], 0),
  (654, .iconst 0, 1, [], 0),
  (655, .ireturn, 1, [], 0),
  (656, .aload_n 1, 1, [], 0),
  (657, .aload_n 0, 1, [], 0),
  (658, .iload_n 3, 1, [], 0),
  (659, .iconst 1, 1, [], 0),
  (660, .iadd, 1, [], 0),
  (661, .iaload, 1, [], 0),
  (662, .invokevirtual 81, 3, [129, 1, 0, 602, 603, 604, 34, 8], 0),
  (665, .aload_n 2, 1, [], 0),
  (666, .aload_n 0, 1, [], 0),
  (667, .iload_n 3, 1, [], 0),
  (668, .iconst 1, 1, [], 0),
  (669, .iadd, 1, [], 0),
  (670, .iaload, 1, [], 0),
  (671, .invokevirtual 84, 3, [107, 1, 0, 900, 901, 902, 43, 9], 0),
  (674, .if_icmp .eq 159, 3, [], 0),
  (677, .iconst 0, 1, [], 0),
  (678, .ireturn, 1, [], 0),
  (679, .aload_n 1, 1, [], 0),
  (680, .aload_n 0, 1, [], 0),
  (681, .iload_n 3, 1, [], 0),
  (682, .iconst 1, 1, [], 0),
  (683, .iadd, 1, [], 0),
  (684, .iaload, 1, [], 0),
  (685, .invokevirtual 85, 3, [104, 1, 0, 619, 620, 621, 34, 8], 0),
  (688, .aload_n 2, 1, [], 0),
  (689, .aload_n 0, 1, [], 0),
  (690, .iload_n 3, 1, [], 0),
  (691, .iconst 1, 1, [], 0),
  (692, .iadd, 1, [], 0),
  (693, .iaload, 1, [], 0),
  (694, .invokevirtual 88, 3, [116, 1, 0, 904, 905, 906, 43, 9], 0),
  (697, .if_icmp .eq 136, 3, [], 0),
  (700, .iconst 0, 1, [], 0),
  (701, .ireturn, 1, [], 0),
  (702, .aload_n 1, 1, [], 0),
  (703, .aload_n 0, 1, [], 0),
  (704, .iload_n 3, 1, [], 0),
  (705, .iconst 1, 1, [], 0),
  (706, .iadd, 1, [], 0),
  (707, .iaload, 1, [], 0),
  (708, .invokevirtual 89, 3, [103, 1, 0, 628, 629, 630, 34, 8], 0),
  (711, .aload_n 2, 1, [], 0),
  (712, .aload_n 0, 1, [], 0),
  (713, .iload_n 3, 1, [], 0),
  (714, .iconst 1, 1, [], 0),
  (715, .iadd, 1, [], 0),
  (716, .iaload, 1, [], 0),
  (717, .invokevirtual 92, 3, [114, 1, 0, 908, 909, 910, 43, 9], 0),
  (720, .if_icmp .eq 113, 3, [], 0),
  (723, .iconst 0, 1, [], 0),
  (724, .ireturn, 1, [], 0),
  (725, .aload_n 1, 1, [], 0),
  (726, .aload_n 0, 1, [], 0),
  (727, .iload_n 3, 1, [], 0),
  (728, .iconst 1, 1, [], 0),
  (729, .iadd, 1, [], 0),
  (730, .iaload, 1, [], 0),
  (731, .invokevirtual 93, 3, [102, 1, 0, 641, 642, 643, 34, 8], 0),
  (734, .aload_n 2, 1, [], 0),
  (735, .aload_n 0, 1, [], 0),
  (736, .iload_n 3, 1, [], 0),
  (737, .iconst 1, 1, [], 0),
  (738, .iadd, 1, [], 0),
  (739, .iaload, 1, [], 0),
  (740, .invokevirtual 96, 3, [131, 1, 0, 922, 923, 924, 43, 9], 0),
  (743, .if_icmp .eq 90, 3, [], 0),
  (746, .iconst 0, 1, [], 0),
  (747, .ireturn, 1, [], 0),
  (748, .aload_n 1, 1, [], 0),
  (749, .invokevirtual 97, 3, [26, 0, 0, 653, 654, 655, 34, 8], 0),
  (752, .aload_n 2, 1, [], 0),
  (753, .invokevirtual 100, 3, [82, 0, 0, 935, 936, 937, 43, 9], 0),
  (756, .if_icmp .eq 77, 3, [], 0),
  (759, .iconst 0, 1, [], 0),
  (760, .ireturn, 1, [], 0),
  (761, .aload_n 1, 1, [], 0),
  (762, .aload_n 0, 1, [], 0),
  (763, .iload_n 3, 1, [], 0),
  (764, .iconst 1, 1, [], 0),
  (765, .iadd, 1, [], 0),
  (766, .iaload, 1, [], 0),
  (767, .invokevirtual 101, 3, [67, 1, 0, 658, 659, 660, 34, 8], 0),
  (770, .aload_n 2, 1, [], 0),
  (771, .aload_n 0, 1, [], 0),
  (772, .iload_n 3, 1, [], 0),
  (773, .iconst 1, 1, [], 0),
  (774, .iadd, 1, [], 0),
  (775, .iaload, 1, [], 0),
  (776, .invokevirtual 104, 3, [81, 1, 0, 939, 940, 941, 43, 9], 0),
  (779, .if_icmp .eq 54, 3, [], 0),
  (782, .iconst 0, 1, [], 0),
  (783, .ireturn, 1, [], 0),
  (784, .aload_n 1, 1, [], 0),
  (785, .invokevirtual 105, 3, [23, 0, 0, 667, 668, 669, 34, 8], 0),
  (788, .aload_n 2, 1, [], 0),
  (789, .invokevirtual 108, 3, [29, 0, 0, 943, 944, 945, 43, 9], 0),
  (792, .if_icmp .eq 41, 3, [], 0),
  (795, .iconst 0, 1, [], 0),
  (796, .ireturn, 1, [], 0),
  (797, .aload_n 1, 1, [], 0),
  (798, .aload_n 0, 1, [], 0),
  (799, .iload_n 3, 1, [], 0),
  (800, .iconst 1, 1, [], 0),
  (801, .iadd, 1, [], 0),
  (802, .iaload, 1, [], 0),
  (803, .invokevirtual 109, 3, [160, 1, 0, 671, 672, 673, 34, 8], 0),
  (806, .aload_n 2, 1, [], 0),
  (807, .aload_n 0, 1, [], 0),
  (808, .iload_n 3, 1, [], 0),
  (809, .iconst 1, 1, [], 0),
  (810, .iadd, 1, [], 0),
  (811, .iaload, 1, [], 0),
  (812, .invokevirtual 112, 3, [162, 1, 0, 947, 948, 949, 43, 9], 0),
  (815, .if_icmp .eq 18, 3, [], 0),
  (818, .iconst 0, 1, [], 0),
  (819, .ireturn, 1, [], 0),
  (820, .aload_n 1, 1, [], 0),
  (821, .invokevirtual 113, 3, [161, 0, 0, 708, 709, 710, 34, 8], 0),
  (824, .aload_n 2, 1, [], 0),
  (825, .invokevirtual 116, 3, [163, 0, 0, 975, 976, 977, 43, 9], 0),
  (828, .if_icmp .eq 5, 3, [], 0),
  (831, .iconst 0, 1, [], 0),
  (832, .ireturn, 1, [], 0),
  (833, .iinc 3 4, 3, [], 0),
  (836, .goto (-818), 3, [], 0),
  (839, .iconst 1, 1, [], 0),
  (840, .ireturn, 1, [], 0)]
def q_tab0 : List (List q_R) := [q_p0, q_p1, q_p2, q_p3, q_p4, q_p5, q_p6, q_p7, q_p8, q_p9, q_p10, q_p11, q_p12, q_p13, q_p14, q_p15, q_p16, q_p17, q_p18, q_p19]
def q_tab1 : List (List q_R) := [q_p20, q_p21, q_p22, q_p23, q_p24, q_p25, q_p26, q_p27, q_p28, q_p29, q_p30, q_p31, q_p32, q_p33, q_p34, q_p35, q_p36, q_p37, q_p38, q_p39]
def q_tab2 : List (List q_R) := [q_p40, q_p41, q_p42, q_p43, q_p44, q_p45, q_p46, q_p47, q_p48, q_p49, q_p50, q_p51, q_p52, q_p53, q_p54, q_p55, q_p56, q_p57, q_p58, q_p59]
def q_tab3 : List (List q_R) := [q_p60, q_p61, q_p62, q_p63, q_p64, q_p65, q_p66, q_p67, q_p68, q_p69, q_p70, q_p71, q_p72, q_p73, q_p74, q_p75, q_p76, q_p77, q_p78, q_p79]
def q_tab4 : List (List q_R) := [q_p80, q_p81, q_p82, q_p83, q_p84, q_p85, q_p86, q_p87, q_p88, q_p89, q_p90, q_p91, q_p92, q_p93, q_p94, q_p95, q_p96, q_p97, q_p98, q_p99]
def q_tab5 : List (List q_R) := [q_p100, q_p101, q_p102, q_p103, q_p104, q_p105, q_p106, q_p107, q_p108, q_p109, q_p110, q_p111, q_p112, q_p113, q_p114, q_p115, q_p116, q_p117, q_p118, q_p119]
def q_tab6 : List (List q_R) := [q_p120, q_p121, q_p122, q_p123, q_p124, q_p125, q_p126, q_p127, q_p128, q_p129, q_p130, q_p131, q_p132, q_p133, q_p134, q_p135, q_p136, q_p137, q_p138, q_p139]
def q_tab7 : List (List q_R) := [q_p140, q_p141, q_p142, q_p143, q_p144, q_p145, q_p146, q_p147, q_p148, q_p149, q_p150, q_p151, q_p152, q_p153, q_p154, q_p155, q_p156, q_p157, q_p158, q_p159]
def q_tab8 : List (List q_R) := [q_p160, q_p161, q_p162, q_p163, q_p164]
def q_tab (k : Nat) : List q_R := match k / 20 with
  | 0 => q_tab0.getD (k % 20) []
  | 1 => q_tab1.getD (k % 20) []
  | 2 => q_tab2.getD (k % 20) []
  | 3 => q_tab3.getD (k % 20) []
  | 4 => q_tab4.getD (k % 20) []
  | 5 => q_tab5.getD (k % 20) []
  | 6 => q_tab6.getD (k % 20) []
  | 7 => q_tab7.getD (k % 20) []
  | 8 => q_tab8.getD (k % 20) []
  | _ => []
def q_P (k pc : Nat) : Option q_R := (q_tab k).find? (fun r => r.1 == pc)
def q_mi0 : List q_MI := [(⟨"java/lang/Math", "floorMod", "(II)I"⟩, prog_13_method_50_code, 3, (some .int), 0, 583),
  (⟨"java/lang/Math", "max", "(II)I"⟩, prog_13_method_65_code, 2, (some .int), 0, 524),
  (⟨"java/lang/Math", "min", "(II)I"⟩, prog_13_method_69_code, 2, (some .int), 0, 322),
  (⟨"java/lang/Float", "isNaN", "(F)Z"⟩, prog_12_method_6_code, 1, (some .boolean), 0, 917),
  (⟨"CardRacks$Calendar", "dayOfYear", "()I"⟩, prog_2_method_3_code, 1, (some .int), 0, 382),
  (⟨"CardRacks$Deliveries", "cardsOf", "(I)I"⟩, prog_3_method_4_code, 4, (some .int), 0, 406),
  (⟨"CardRacks$Deliveries", "firstIsDue", "(I)Z"⟩, prog_3_method_6_code, 2, (some .boolean), 0, 517),
  (⟨"CardRacks$Deliveries", "isFull", "()Z"⟩, prog_3_method_3_code, 1, (some .boolean), 0, 398),
  (⟨"CardRacks$Deliveries", "move", "(II)V"⟩, prog_3_method_8_code, 3, none, 0, 415),
  (⟨"CardRacks$Pairs", "addOne", "(II)V"⟩, prog_4_method_4_code, 3, none, 0, 481),
  (⟨"CardRacks$Pairs", "times", "(II)I"⟩, prog_4_method_3_code, 3, (some .int), 0, 595),
  (⟨"CardRacks$Rack", "cardsOf", "(I)I"⟩, prog_5_method_3_code, 4, (some .int), 0, 497),
  (⟨"CardRacks$Rack", "hasRoomFor", "(II)Z"⟩, prog_5_method_6_code, 3, (some .boolean), 0, 613),
  (⟨"CardRacks$Rack", "lowestWithCardsOf", "(I)I"⟩, prog_5_method_4_code, 3, (some .int), 0, 451),
  (⟨"CardRacks$Rack", "takeCardsOf", "(I)V"⟩, prog_5_method_7_code, 3, none, 0, 501),
  (⟨"CardRacks$Rehearsal", "blame", "(II)V"⟩, prog_6_method_3_code, 3, none, 0, 707),
  (⟨"CardRacks$State", "aboutOrder", "(II)I"⟩, prog_7_method_23_code, 3, (some .int), 0, 566),
  (⟨"CardRacks$Text", "append", "(C)Z"⟩, prog_8_method_2_code, 2, (some .boolean), 0, 665),
  (⟨"CardRacks$Text", "numbersOf", "(C)I"⟩, prog_8_method_6_code, 1, (some .int), 0, 689),
  (⟨"CardRacks$Text", "signAt", "(I)C"⟩, prog_8_method_3_code, 2, (some .char), 0, 686)]
def q_mi1 : List q_MI := [(⟨"CardRacks$Verses", "has", "(I)Z"⟩, prog_9_method_3_code, 2, (some .boolean), 0, 394),
  (⟨"CardRacks", "areBeside", "(II)Z"⟩, prog_1_method_33_code, 2, (some .boolean), 0, 466),
  (⟨"CardRacks", "bitsOf", "(F)I"⟩, prog_1_method_36_code, 4, (some .int), 0, 639),
  (⟨"CardRacks", "clearText", "()I"⟩, prog_1_method_24_code, 2, (some .int), 0, 670),
  (⟨"CardRacks", "isWithin", "(III)Z"⟩, prog_1_method_30_code, 3, (some .boolean), 0, 355),
  (⟨"CardRacks", "sumOf", "([I)I"⟩, prog_1_method_34_code, 6, (some .int), 0, 647),
  (⟨"CardRacks", "undo", "()I"⟩, prog_1_method_22_code, 2, (some .int), 0, 656),
  (⟨"CardRacksModel", "adds", "(III)V"⟩, prog_11_method_8_code, 4, none, 0, 767),
  (⟨"CardRacksModel", "cards", "(I)I"⟩, prog_11_method_10_code, 2, (some .int), 0, 815),
  (⟨"CardRacksModel", "clearText", "()I"⟩, prog_11_method_49_code, 2, (some .int), 0, 946),
  (⟨"CardRacksModel", "copies", "(II)V"⟩, prog_11_method_3_code, 4, none, 0, 754),
  (⟨"CardRacksModel", "held", "(I)I"⟩, prog_11_method_9_code, 2, (some .int), 0, 811),
  (⟨"CardRacksModel", "in", "(III)Z"⟩, prog_11_method_2_code, 3, (some .boolean), 0, 761),
  (⟨"CardRacksModel", "isBeside", "(II)Z"⟩, prog_11_method_14_code, 3, (some .boolean), 0, 843),
  (⟨"CardRacksModel", "of", "(II)I"⟩, prog_11_method_7_code, 3, (some .int), 0, 795),
  (⟨"CardRacksModel", "onWay", "(I)I"⟩, prog_11_method_12_code, 4, (some .int), 0, 799),
  (⟨"CardRacksModel", "pair", "(II)I"⟩, prog_11_method_15_code, 2, (some .int), 0, 850),
  (⟨"CardRacksModel", "pairs", "()I"⟩, prog_11_method_45_code, 3, (some .int), 0, 934),
  (⟨"CardRacksModel", "sign", "()I"⟩, prog_11_method_50_code, 1, (some .int), 0, 958),
  (⟨"java/lang/Float", "floatToIntBits", "(F)I"⟩, prog_12_method_24_code, 1, (some .int), 1, 914)]
def q_mi2 : List q_MI := [(⟨"CardRacks$Calendar", "<init>", "()V"⟩, prog_2_method_1_code, 2, none, 1, 65),
  (⟨"CardRacks$Calendar", "isInSeason", "(I)Z"⟩, prog_2_method_4_code, 5, (some .boolean), 1, 378),
  (⟨"CardRacks$Deliveries", "add", "(III)V"⟩, prog_3_method_5_code, 5, none, 1, 410),
  (⟨"CardRacks$Deliveries", "<init>", "()V"⟩, prog_3_method_1_code, 1, none, 1, 165),
  (⟨"CardRacks$Deliveries", "removeFirst", "()V"⟩, prog_3_method_7_code, 2, none, 1, 521),
  (⟨"CardRacks$Pairs", "<init>", "()V"⟩, prog_4_method_1_code, 1, none, 1, 134),
  (⟨"CardRacks$Pairs", "mostWith", "(I)I"⟩, prog_4_method_6_code, 5, (some .int), 1, 626),
  (⟨"CardRacks$Pairs", "unlike", "()I"⟩, prog_4_method_5_code, 4, (some .int), 1, 652),
  (⟨"CardRacks$Rack", "besideThatHold", "(II)I"⟩, prog_5_method_5_code, 5, (some .int), 1, 463),
  (⟨"CardRacks$Rack", "<init>", "()V"⟩, prog_5_method_1_code, 2, none, 1, 144),
  (⟨"CardRacks$Rehearsal", "<init>", "()V"⟩, prog_6_method_1_code, 1, none, 1, 254),
  (⟨"CardRacks$State", "aboutVerse", "(II)I"⟩, prog_7_method_20_code, 3, (some .int), 1, 542),
  (⟨"CardRacks$State", "cardsInAll", "(I)I"⟩, prog_7_method_19_code, 2, (some .int), 1, 635),
  (⟨"CardRacks$State", "changeSetting", "(II)I"⟩, prog_7_method_18_code, 4, (some .int), 1, 532),
  (⟨"CardRacks$State", "hasOccasion", "(II)Z"⟩, prog_7_method_13_code, 4, (some .boolean), 1, 459),
  (⟨"CardRacks$State", "hasRoomBehind", "(II)Z"⟩, prog_7_method_6_code, 3, (some .boolean), 1, 402),
  (⟨"CardRacks$State", "returnCardsOf", "(I)I"⟩, prog_7_method_15_code, 3, (some .int), 1, 493),
  (⟨"CardRacks$State", "soldTogetherBeside", "(II)I"⟩, prog_7_method_25_code, 5, (some .int), 1, 617),
  (⟨"CardRacks$Text", "<init>", "()V"⟩, prog_8_method_1_code, 1, none, 1, 226),
  (⟨"CardRacks$Text", "readNumber", "(I)Z"⟩, prog_8_method_5_code, 4, (some .boolean), 1, 693)]
def q_mi3 : List q_MI := [(⟨"CardRacks$Verses", "<init>", "()V"⟩, prog_9_method_1_code, 1, none, 1, 86),
  (⟨"CardRacks", "copyRow", "([I[I)V"⟩, prog_1_method_35_code, 2, none, 1, 319),
  (⟨"CardRacks", "isOccasion", "(I)Z"⟩, prog_1_method_32_code, 1, (some .boolean), 1, 352),
  (⟨"CardRacks", "isSlot", "(I)Z"⟩, prog_1_method_31_code, 1, (some .boolean), 1, 426),
  (⟨"CardRacks", "keepTrial", "()V"⟩, prog_1_method_29_code, 2, none, 1, 366),
  (⟨"CardRacks", "orderOf", "(II)I"⟩, prog_1_method_14_code, 3, (some .int), 1, 562),
  (⟨"CardRacks", "together", "(II)I"⟩, prog_1_method_16_code, 3, (some .int), 1, 591),
  (⟨"CardRacks", "type", "(I)I"⟩, prog_1_method_23_code, 2, (some .int), 1, 661),
  (⟨"CardRacksModel", "acted", "(I)I"⟩, prog_11_method_5_code, 3, (some .int), 1, 771),
  (⟨"CardRacksModel", "besides", "(II)I"⟩, prog_11_method_19_code, 5, (some .int), 1, 840),
  (⟨"CardRacksModel", "comes", "()I"⟩, prog_11_method_23_code, 5, (some .int), 1, 870),
  (⟨"CardRacksModel", "doVerse", "(III)I"⟩, prog_11_method_16_code, 5, (some .int), 1, 758),
  (⟨"CardRacksModel", "inRack", "(I)I"⟩, prog_11_method_13_code, 4, (some .int), 1, 858),
  (⟨"CardRacksModel", "<init>", "()V"⟩, prog_11_method_1_code, 2, none, 1, 716),
  (⟨"CardRacksModel", "isOn", "(I)Z"⟩, prog_11_method_11_code, 5, (some .boolean), 1, 779),
  (⟨"CardRacksModel", "isVerse", "(I)Z"⟩, prog_11_method_6_code, 2, (some .boolean), 1, 791),
  (⟨"CardRacksModel", "keeps", "()V"⟩, prog_11_method_4_code, 1, none, 1, 750),
  (⟨"CardRacksModel", "number", "(I)Z"⟩, prog_11_method_51_code, 4, (some .boolean), 1, 970),
  (⟨"CardRacksModel", "orderOf", "(II)I"⟩, prog_11_method_37_code, 8, (some .int), 1, 887),
  (⟨"CardRacksModel", "slotOf", "(II)I"⟩, prog_11_method_36_code, 7, (some .int), 1, 882)]
def q_mi4 : List q_MI := [(⟨"CardRacksModel", "takes", "(I)Z"⟩, prog_11_method_52_code, 2, (some .boolean), 1, 966),
  (⟨"CardRacksModel", "type", "(I)I"⟩, prog_11_method_48_code, 2, (some .int), 1, 942),
  (⟨"CardRacksModel", "undo", "()I"⟩, prog_11_method_47_code, 1, (some .int), 1, 938),
  (⟨"CardRacks$Calendar", "copyFrom", "(LCardRacks$Calendar;)V"⟩, prog_2_method_2_code, 2, none, 2, 316),
  (⟨"CardRacks$Calendar", "daysLeft", "(I)I"⟩, prog_2_method_6_code, 3, (some .int), 2, 587),
  (⟨"CardRacks$Calendar", "daysUntil", "(I)I"⟩, prog_2_method_5_code, 2, (some .int), 2, 580),
  (⟨"CardRacks$Deliveries", "copyFrom", "(LCardRacks$Deliveries;)V"⟩, prog_3_method_2_code, 2, none, 2, 344),
  (⟨"CardRacks$Pairs", "copyFrom", "(LCardRacks$Pairs;)V"⟩, prog_4_method_2_code, 2, none, 2, 334),
  (⟨"CardRacks$Rack", "copyFrom", "(LCardRacks$Rack;)V"⟩, prog_5_method_2_code, 2, none, 2, 339),
  (⟨"CardRacks$State", "addVerse", "(III)I"⟩, prog_7_method_3_code, 5, (some .int), 2, 349),
  (⟨"CardRacks$State", "alikeBeside", "(II)I"⟩, prog_7_method_22_code, 5, (some .int), 2, 557),
  (⟨"CardRacks$State", "changeSeason", "(III)I"⟩, prog_7_method_4_code, 4, (some .int), 2, 374),
  (⟨"CardRacks$State", "clearSlot", "(I)I"⟩, prog_7_method_8_code, 4, (some .int), 2, 435),
  (⟨"CardRacks$State", "<init>", "()V"⟩, prog_7_method_1_code, 1, none, 2, 59),
  (⟨"CardRacks$State", "layCards", "(III)I"⟩, prog_7_method_7_code, 5, (some .int), 2, 423),
  (⟨"CardRacks$State", "placeOrder", "(II)I"⟩, prog_7_method_5_code, 4, (some .int), 2, 390),
  (⟨"CardRacks$State", "returnCards", "()I"⟩, prog_7_method_14_code, 3, (some .int), 2, 489),
  (⟨"CardRacks$State", "slotOfOther", "(I)I"⟩, prog_7_method_12_code, 6, (some .int), 2, 455),
  (⟨"CardRacks$State", "slotToLay", "(I)I"⟩, prog_7_method_24_code, 6, (some .int), 2, 609),
  (⟨"CardRacks$State", "takeIn", "()I"⟩, prog_7_method_17_code, 3, (some .int), 2, 513)]
def q_mi5 : List q_MI := [(⟨"CardRacks$Text", "readOrder", "(I)Z"⟩, prog_8_method_4_code, 5, (some .boolean), 2, 682),
  (⟨"CardRacks$Verses", "copyFrom", "(LCardRacks$Verses;)V"⟩, prog_9_method_2_code, 2, none, 2, 329),
  (⟨"CardRacks", "count", "(I)I"⟩, prog_1_method_21_code, 2, (some .int), 2, 644),
  (⟨"CardRacks", "lasts", "(I)I"⟩, prog_1_method_20_code, 5, (some .int), 2, 631),
  (⟨"CardRacks", "partner", "(I)I"⟩, prog_1_method_19_code, 3, (some .int), 2, 622),
  (⟨"CardRacks", "settle", "(I)I"⟩, prog_1_method_28_code, 2, (some .int), 2, 362),
  (⟨"CardRacks", "verseOf", "(II)I"⟩, prog_1_method_12_code, 3, (some .int), 2, 536),
  (⟨"CardRacksModel", "bestSlot", "(I)I"⟩, prog_11_method_41_code, 7, (some .int), 2, 903),
  (⟨"CardRacksModel", "clear", "(I)I"⟩, prog_11_method_29_code, 4, (some .int), 2, 820),
  (⟨"CardRacksModel", "doLay", "(III)I"⟩, prog_11_method_18_code, 5, (some .int), 2, 807),
  (⟨"CardRacksModel", "doOrder", "(II)I"⟩, prog_11_method_17_code, 5, (some .int), 2, 787),
  (⟨"CardRacksModel", "doPass", "(I)I"⟩, prog_11_method_24_code, 4, (some .int), 2, 866),
  (⟨"CardRacksModel", "giveBack", "()I"⟩, prog_11_method_32_code, 5, (some .int), 2, 854),
  (⟨"CardRacksModel", "isOrder", "(I)Z"⟩, prog_11_method_53_code, 5, (some .boolean), 2, 962),
  (⟨"CardRacksModel", "lasts", "(I)I"⟩, prog_11_method_43_code, 4, (some .int), 2, 911),
  (⟨"CardRacksModel", "occasionOf", "(II)I"⟩, prog_11_method_38_code, 7, (some .int), 2, 891),
  (⟨"CardRacksModel", "partner", "(I)I"⟩, prog_11_method_42_code, 6, (some .int), 2, 907),
  (⟨"CardRacksModel", "season", "(III)I"⟩, prog_11_method_26_code, 4, (some .int), 2, 775),
  (⟨"CardRacksModel", "set", "(II)I"⟩, prog_11_method_34_code, 4, (some .int), 2, 874),
  (⟨"CardRacksModel", "slotFor", "(I)I"⟩, prog_11_method_20_code, 7, (some .int), 2, 836)]
def q_mi6 : List q_MI := [(⟨"CardRacksModel", "sumOf", "(I)I"⟩, prog_11_method_44_code, 4, (some .int), 2, 929),
  (⟨"CardRacksModel", "together", "(II)I"⟩, prog_11_method_39_code, 3, (some .int), 2, 895),
  (⟨"CardRacksModel", "verse", "(III)I"⟩, prog_11_method_25_code, 4, (some .int), 2, 746),
  (⟨"CardRacksModel", "verseOf", "(II)I"⟩, prog_11_method_35_code, 3, (some .int), 2, 878),
  (⟨"CardRacks$Calendar", "aboutOccasion", "(II)I"⟩, prog_2_method_7_code, 3, (some .int), 3, 575),
  (⟨"CardRacks$State", "aboutSlot", "(II)I"⟩, prog_7_method_21_code, 5, (some .int), 3, 551),
  (⟨"CardRacks$State", "copyFrom", "(LCardRacks$State;)V"⟩, prog_7_method_2_code, 2, none, 3, 312),
  (⟨"CardRacks$State", "passDays", "(I)I"⟩, prog_7_method_16_code, 2, (some .int), 3, 509),
  (⟨"CardRacks$State", "slotToSell", "(I)I"⟩, prog_7_method_11_code, 3, (some .int), 3, 447),
  (⟨"CardRacks", "bestSlot", "(I)I"⟩, prog_1_method_18_code, 3, (some .int), 3, 605),
  (⟨"CardRacks", "<init>", "()V"⟩, prog_1_method_1_code, 1, none, 3, 51),
  (⟨"CardRacksModel", "count", "(I)I"⟩, prog_11_method_46_code, 2, (some .int), 3, 925),
  (⟨"CardRacksModel", "lay", "(III)I"⟩, prog_11_method_28_code, 4, (some .int), 3, 803),
  (⟨"CardRacksModel", "order", "(II)I"⟩, prog_11_method_27_code, 3, (some .int), 3, 783),
  (⟨"CardRacksModel", "pass", "(I)I"⟩, prog_11_method_33_code, 2, (some .int), 3, 862),
  (⟨"CardRacksModel", "sells", "(I)I"⟩, prog_11_method_21_code, 4, (some .int), 3, 832),
  (⟨"CardRacksModel", "would", "(II)I"⟩, prog_11_method_40_code, 4, (some .int), 3, 899),
  (⟨"CardRacks$State", "sellOne", "(I)I"⟩, prog_7_method_9_code, 4, (some .int), 4, 443),
  (⟨"CardRacks", "freshTrial", "()LCardRacks$State;"⟩, prog_1_method_27_code, 1, (some (.object "CardRacks$State")), 4, 308),
  (⟨"CardRacks", "occasionOf", "(II)I"⟩, prog_1_method_15_code, 3, (some .int), 4, 570)]
def q_mi7 : List q_MI := [(⟨"CardRacks", "slotOf", "(II)I"⟩, prog_1_method_13_code, 3, (some .int), 4, 546),
  (⟨"CardRacks", "would", "(II)I"⟩, prog_1_method_17_code, 4, (some .int), 4, 599),
  (⟨"CardRacksModel", "doSell", "(I)I"⟩, prog_11_method_22_code, 3, (some .int), 4, 828),
  (⟨"CardRacksModel", "sellTwo", "(II)I"⟩, prog_11_method_31_code, 5, (some .int), 4, 847),
  (⟨"CardRacks$Rehearsal", "perform", "(LCardRacks$Text;LCardRacks$State;)I"⟩, prog_6_method_4_code, 5, (some .int), 5, 697),
  (⟨"CardRacks$State", "sellBoth", "(II)I"⟩, prog_7_method_10_code, 5, (some .int), 5, 476),
  (⟨"CardRacks", "clear", "(I)I"⟩, prog_1_method_6_code, 2, (some .int), 5, 431),
  (⟨"CardRacks", "giveBack", "()I"⟩, prog_1_method_9_code, 1, (some .int), 5, 485),
  (⟨"CardRacks", "lay", "(III)I"⟩, prog_1_method_5_code, 4, (some .int), 5, 419),
  (⟨"CardRacks", "order", "(II)I"⟩, prog_1_method_4_code, 3, (some .int), 5, 386),
  (⟨"CardRacks", "pass", "(I)I"⟩, prog_1_method_10_code, 2, (some .int), 5, 505),
  (⟨"CardRacks", "season", "(III)I"⟩, prog_1_method_3_code, 4, (some .int), 5, 370),
  (⟨"CardRacks", "sell", "(I)I"⟩, prog_1_method_7_code, 2, (some .int), 5, 439),
  (⟨"CardRacks", "set", "(II)I"⟩, prog_1_method_11_code, 3, (some .int), 5, 528),
  (⟨"CardRacks", "verse", "(III)I"⟩, prog_1_method_2_code, 4, (some .int), 5, 304),
  (⟨"CardRacksModel", "does", "(I)I"⟩, prog_11_method_54_code, 2, (some .int), 5, 974),
  (⟨"CardRacksModel", "sell", "(I)I"⟩, prog_11_method_30_code, 2, (some .int), 5, 824),
  (⟨"CardRacks$Rehearsal", "go", "(LCardRacks$Text;LCardRacks$State;)V"⟩, prog_6_method_2_code, 6, none, 6, 678),
  (⟨"CardRacks", "sellTwo", "(II)I"⟩, prog_1_method_8_code, 3, (some .int), 6, 472),
  (⟨"CardRacksModel", "goesOn", "()I"⟩, prog_11_method_55_code, 5, (some .int), 6, 954)]
def q_mi8 : List q_MI := [(⟨"CardRacks", "fault", "(I)I"⟩, prog_1_method_25_code, 2, (some .int), 7, 674),
  (⟨"CardRacks", "play", "()I"⟩, prog_1_method_26_code, 1, (some .int), 7, 711),
  (⟨"CardRacksModel", "fault", "(I)I"⟩, prog_11_method_56_code, 3, (some .int), 7, 950),
  (⟨"CardRacksModel", "play", "()I"⟩, prog_11_method_57_code, 2, (some .int), 7, 978),
  (⟨"CardRacksLaw", "law", "([I)Z"⟩, code, 4, (some .boolean), 8, 0)]
def q_mi0d : q_MI := (⟨"", "", ""⟩, ⟨#[]⟩, 0, none, 0, 0)
def q_mi (k : Nat) : q_MI := match k / 20 with
  | 0 => q_mi0.getD (k % 20) q_mi0d
  | 1 => q_mi1.getD (k % 20) q_mi0d
  | 2 => q_mi2.getD (k % 20) q_mi0d
  | 3 => q_mi3.getD (k % 20) q_mi0d
  | 4 => q_mi4.getD (k % 20) q_mi0d
  | 5 => q_mi5.getD (k % 20) q_mi0d
  | 6 => q_mi6.getD (k % 20) q_mi0d
  | 7 => q_mi7.getD (k % 20) q_mi0d
  | 8 => q_mi8.getD (k % 20) q_mi0d
  | _ => q_mi0d
end
section
def q_LW : List Cond := lw_tbl.filter goodWord
def q_w (i : Nat) (w : Cond) : Bool := decide (lw_tbl[i]? = some w) && goodWord w
theorem q_w_in {i : Nat} {w : Cond} (h : q_w i w = true) : w ∈ q_LW := by
  unfold q_w at h
  simp only [Bool.and_eq_true, decide_eq_true_eq] at h
  exact List.mem_filter.mpr ⟨List.mem_of_getElem? h.1, h.2⟩
theorem q_LW_sub {w : Cond} (h : w ∈ q_LW) : w ∈ lw_tbl := (List.mem_filter.mp h).1
theorem q_LW_good : GoodIn q_LW q_LW := fun w h => ⟨h, good_of_word (List.mem_filter.mp h).2⟩
/-- the words on links between nest mates -/
def q_NW : List Cond := [(.methodLinkNest "CardRacks" 9 ⟨"CardRacks$State","<init>","()V"⟩ "CardRacks"),
  (.methodLinkNest "CardRacks$State" 20 ⟨"CardRacks$Verses","<init>","()V"⟩ "CardRacks"),
  (.methodLinkNest "CardRacks$State" 27 ⟨"CardRacks$Pairs","<init>","()V"⟩ "CardRacks"),
  (.methodLinkNest "CardRacks$State" 41 ⟨"CardRacks$Deliveries","<init>","()V"⟩ "CardRacks"),
  (.methodLinkNest "CardRacks" 37 ⟨"CardRacks$Text","<init>","()V"⟩ "CardRacks"),
  (.methodLinkNest "CardRacks" 44 ⟨"CardRacks$Rehearsal","<init>","()V"⟩ "CardRacks"),
  (.methodLinkNest "CardRacks$Calendar" 22 ⟨"CardRacks","copyRow","([I[I)V"⟩ "CardRacks"),
  (.methodLinkNest "CardRacks$Verses" 40 ⟨"CardRacks","copyRow","([I[I)V"⟩ "CardRacks"),
  (.methodLinkNest "CardRacks$Pairs" 15 ⟨"CardRacks","copyRow","([I[I)V"⟩ "CardRacks"),
  (.methodLinkNest "CardRacks$Rack" 21 ⟨"CardRacks","copyRow","([I[I)V"⟩ "CardRacks"),
  (.methodLinkNest "CardRacks$Deliveries" 25 ⟨"CardRacks","copyRow","([I[I)V"⟩ "CardRacks"),
  (.methodLinkNest "CardRacks$State" 75 ⟨"CardRacks","isOccasion","(I)Z"⟩ "CardRacks"),
  (.methodLinkNest "CardRacks$State" 79 ⟨"CardRacks","isWithin","(III)Z"⟩ "CardRacks"),
  (.methodLinkNest "CardRacks$State" 132 ⟨"CardRacks","isSlot","(I)Z"⟩ "CardRacks"),
  (.methodLinkNest "CardRacks$Rack" 25 ⟨"CardRacks","areBeside","(II)Z"⟩ "CardRacks"),
  (.fieldLinkNest "CardRacks$State" 203 "CardRacks" "BESIDE" "[I" "CardRacks"),
  (.methodLinkNest "CardRacks$State" 209 ⟨"CardRacks","areBeside","(II)Z"⟩ "CardRacks"),
  (.methodLinkNest "CardRacks$Text" 42 ⟨"CardRacks","isWithin","(III)Z"⟩ "CardRacks")]
theorem q_NW_in : ∀ w ∈ q_NW, w ∈ lw_tbl := by
  have h : q_NW.map some = [57, 84, 132, 163, 224, 252, 317, 330, 335, 340, 345, 350, 356, 424, 464, 553, 558, 694].map (fun i => lw_tbl[i]?) := by decide +kernel
  intro w hw
  have h1 : some w ∈ q_NW.map some := List.mem_map.mpr ⟨w, hw, rfl⟩
  rw [h] at h1
  obtain ⟨i, -, hi⟩ := List.mem_map.mp h1
  exact List.mem_of_getElem? hi
theorem q_NW_tab : ∀ w ∈ q_NW, w.onTables = true := by decide +kernel
def q_cl (ci : Nat) : vw_C := vwCl.getD ci ("", fun _ => ("", "", "", false), 0)
theorem q_lt10 {p : Nat → Prop} (h0 : p 0) (h1 : p 1) (h2 : p 2) (h3 : p 3) (h4 : p 4) (h5 : p 5) (h6 : p 6) (h7 : p 7) (h8 : p 8) (h9 : p 9) : ∀ ci, ci < 10 → p ci := by
  intro ci h
  match ci, h with
  | 0, _ => exact h0
  | 1, _ => exact h1
  | 2, _ => exact h2
  | 3, _ => exact h3
  | 4, _ => exact h4
  | 5, _ => exact h5
  | 6, _ => exact h6
  | 7, _ => exact h7
  | 8, _ => exact h8
  | 9, _ => exact h9
  | k + 10, h => exact absurd h (by omega)
theorem q_cl_some : ∀ ci, ci < 10 → vwCl[ci]? = some ((q_cl ci).1, (q_cl ci).2.1, (q_cl ci).2.2) := q_lt10 rfl rfl rfl rfl rfl rfl rfl rfl rfl rfl
def q_ty (ci k : Nat) : FieldType := match ci with
  | 0 => tyX0 k
  | 1 => tyX1 k
  | 2 => tyX2 k
  | 3 => tyX3 k
  | 4 => tyX4 k
  | 5 => tyX5 k
  | 6 => tyX6 k
  | 7 => tyX7 k
  | 8 => tyX8 k
  | 9 => tyX9 k
  | _ => .int
theorem q_ty_ok : ∀ ci, ci < 10 → ∀ k, k < (q_cl ci).2.2 → parseFieldDescriptor ((q_cl ci).2.1 k).2.2.1 = some (q_ty ci k) := q_lt10 tyX0_ok tyX1_ok tyX2_ok tyX3_ok tyX4_ok tyX5_ok tyX6_ok tyX7_ok tyX8_ok tyX9_ok
theorem q_nm : ∀ ci, ci < 10 → ∀ a, a < (q_cl ci).2.2 → ∀ b, b < (q_cl ci).2.2 → a ≠ b → ((q_cl ci).2.1 a).2.1 ≠ ((q_cl ci).2.1 b).2.1 := q_lt10 nmX0 nmX1 nmX2 nmX3 nmX4 nmX5 nmX6 nmX7 nmX8 nmX9
def q_uw (ci k : Nat) : Nat := match ci with
  | 0 => [74, 76, 78].getD k 0
  | 1 => [176, 178, 180, 182].getD k 0
  | 2 => [137].getD k 0
  | 3 => [154, 156, 158].getD k 0
  | 4 => [264, 266, 268, 270].getD k 0
  | 5 => [203, 205, 207, 209, 211, 213, 215, 217, 219].getD k 0
  | 6 => [238, 240, 242, 244, 246].getD k 0
  | 7 => [111, 113, 115, 117, 119, 121, 123, 125, 127].getD k 0
  | 8 => [282, 284, 286, 288, 290, 292, 294, 296, 298].getD k 0
  | 9 => [726, 728, 730, 732, 734, 736, 738, 740].getD k 0
  | _ => 0
theorem q_in : ∀ ci, ci < 10 → ∀ w ∈ u_ws (q_cl ci).1 (q_cl ci).2.1 (q_cl ci).2.2, w ∈ q_LW := by
  have h : ∀ ci, ci < 10 → ∀ k, k < (q_cl ci).2.2 → q_w (q_uw ci k) (u_lay (q_cl ci).1 (q_cl ci).2.1 k) = true := q_lt10 (by decide +kernel) (by decide +kernel) (by decide +kernel) (by decide +kernel) (by decide +kernel) (by decide +kernel) (by decide +kernel) (by decide +kernel) (by decide +kernel) (by decide +kernel)
  intro ci hc w hw
  obtain ⟨k, hk, rfl⟩ := List.mem_map.mp hw
  exact q_w_in (h ci hc k (List.mem_range.mp hk))
def q_isR (ci k : Nat) : Bool := match q_ty ci k with
  | .int => false
  | .char => false
  | _ => true
def q_own (k : Nat) : String := (q_mi k).1.cls
/-- what a row of the tables says is so: its instruction is decoded there, the words that it needs are among the tables' -/
def q_okx (k : Nat) (r : q_R) : Bool := match r.2.1 with
  | .getfield idx => decide (r.2.2.2.1.getD 0 0 < 10) && decide (r.2.2.2.1.getD 1 0 < (q_cl (r.2.2.2.1.getD 0 0)).2.2) && decide ((r.2.2.2.1.getD 2 0 = 1) = (q_isR (r.2.2.2.1.getD 0 0) (r.2.2.2.1.getD 1 0) = true)) && q_w (r.2.2.2.1.getD 3 0) (.fieldLink (q_own k) idx ((q_cl (r.2.2.2.1.getD 0 0)).2.1 (r.2.2.2.1.getD 1 0)).1 ((q_cl (r.2.2.2.1.getD 0 0)).2.1 (r.2.2.2.1.getD 1 0)).2.1 ((q_cl (r.2.2.2.1.getD 0 0)).2.1 (r.2.2.2.1.getD 1 0)).2.2.1)
  | .putfield idx => decide (r.2.2.2.1.getD 0 0 < 10) && decide (r.2.2.2.1.getD 1 0 < (q_cl (r.2.2.2.1.getD 0 0)).2.2) && q_w (r.2.2.2.1.getD 3 0) (.fieldLink (q_own k) idx ((q_cl (r.2.2.2.1.getD 0 0)).2.1 (r.2.2.2.1.getD 1 0)).1 ((q_cl (r.2.2.2.1.getD 0 0)).2.1 (r.2.2.2.1.getD 1 0)).2.1 ((q_cl (r.2.2.2.1.getD 0 0)).2.1 (r.2.2.2.1.getD 1 0)).2.2.1)
      && (match q_ty (r.2.2.2.1.getD 0 0) (r.2.2.2.1.getD 1 0) with | .int => r.2.2.2.1.getD 2 0 == 0 | .char => r.2.2.2.1.getD 2 0 == 2 | .object _ => r.2.2.2.1.getD 2 0 == 1 | .array _ => r.2.2.2.1.getD 2 0 == 1 | _ => false)
      && (!((q_cl (r.2.2.2.1.getD 0 0)).2.1 (r.2.2.2.1.getD 1 0)).2.2.2 || (decide (((q_cl (r.2.2.2.1.getD 0 0)).2.1 (r.2.2.2.1.getD 1 0)).1 = q_own k) && decide ((q_mi k).1.name = "<init>")))
  | .getstatic idx => (r.2.2.2.1.getD 0 0 == 0 && q_w (r.2.2.2.1.getD 1 0) (.fieldLink (q_own k) idx "CardRacks" "BESIDE" "[I")) || (r.2.2.2.1.getD 0 0 == 1 && decide (Cond.fieldLinkNest (q_own k) idx "CardRacks" "BESIDE" "[I" "CardRacks" ∈ q_NW))
  | .new idx => decide (r.2.2.2.1.getD 0 0 < 10) && decide (r.2.2.2.1.getD 1 0 = (q_cl (r.2.2.2.1.getD 0 0)).2.2) && q_w (r.2.2.2.1.getD 2 0) (.classLink (q_own k) idx (q_cl (r.2.2.2.1.getD 0 0)).1) && q_w (r.2.2.2.1.getD 3 0) (.instantiable (q_cl (r.2.2.2.1.getD 0 0)).1 (q_cl (r.2.2.2.1.getD 0 0)).2.2) && q_w (r.2.2.2.1.getD 4 0) (.initialized (q_cl (r.2.2.2.1.getD 0 0)).1)
  | .newarray ty => q_w (r.2.2.2.1.getD 0 0) (.arrayClass (newarray.typeOf ty))
  | .ldc idx => if r.2.2.2.1.getD 0 0 = 0 then q_w (r.2.2.2.1.getD 1 0) (.constant (q_own k) idx (Int32.ofInt r.2.2.2.2)) else q_w (r.2.2.2.1.getD 1 0) (.constantFloat (q_own k) idx (UInt32.ofNat r.2.2.2.2.toNat))
  | .ldc_w idx => q_w (r.2.2.2.1.getD 1 0) (.constantFloat (q_own k) idx (UInt32.ofNat r.2.2.2.2.toNat))
  | .goto off => decide (0 ≤ (r.1 : Int) + off)
  | .ifCond _ off => decide (0 ≤ (r.1 : Int) + off)
  | .if_icmp _ off => decide (0 ≤ (r.1 : Int) + off)
  | .tableswitch d _ _ offs => decide (0 ≤ (r.1 : Int) + d) && offs.toList.all (fun o => decide (0 ≤ (r.1 : Int) + o))
  | .lookupswitch d ps => decide (0 ≤ (r.1 : Int) + d) && ps.toList.all (fun o => decide (0 ≤ (r.1 : Int) + o.2)) && (ps.toList.zip (ps.toList.drop 1)).all (fun (a, next) => a.1 < next.1)
  | _ => true
def q_cnt (a : List Nat) : Nat := if a.getD 2 0 = 2 ∨ a.getD 2 0 = 3 then a.getD 1 0 else a.getD 1 0 + 1
def q_okc (k : Nat) (r : q_R) (idx : Nat) : Bool :=
  let a := r.2.2.2.1
  let z := q_mi (a.getD 0 0)
  decide (a.getD 0 0 < 164) && q_w (a.getD 6 0) (.initialized z.1.cls) && decide (z.2.2.2.2.1 + 1 ≤ (q_mi k).2.2.2.2.1) && decide (z.2.2.1 ≤ 18)
  && decide (z.1.cls ≠ "java/lang/invoke/MethodHandle" ∧ z.1.cls ≠ "java/lang/invoke/VarHandle" ∧ (parseMethodDescriptor z.1.desc).map (fun d => d.parameters.length) = some (a.getD 1 0)) && decide (q_cnt a ≤ z.2.2.1)
  && (match a.getD 2 0 with
    | 0 => decide (a.getD 7 0 < 10) && decide ((q_cl (a.getD 7 0)).1 = z.1.cls) && q_w (a.getD 3 0) (.methodLink (q_own k) idx z.1) && q_w (a.getD 4 0) (.instanceMethod z.1) && q_w (a.getD 5 0) (.selects z.1.cls z.1 z.1)
    | 2 => q_w (a.getD 3 0) (.methodLink (q_own k) idx z.1) && q_w (a.getD 4 0) (.static z.1)
    | 3 => decide (Cond.methodLinkNest (q_own k) idx z.1 "CardRacks" ∈ q_NW) && q_w (a.getD 4 0) (.static z.1)
    | 4 => q_w (a.getD 3 0) (.methodLink (q_own k) idx z.1) && q_w (a.getD 4 0) (.instanceMethod z.1) && decide (z.1.name = "<init>") && decide (z.2.2.2.1 = none)
    | 5 => decide (Cond.methodLinkNest (q_own k) idx z.1 "CardRacks" ∈ q_NW) && q_w (a.getD 4 0) (.instanceMethod z.1) && decide (z.1.name = "<init>") && decide (z.2.2.2.1 = none)
    | _ => false)
def q_okn (k : Nat) (r : q_R) : Bool := match r.2.1 with
  | .invokevirtual idx => decide (r.2.2.2.1.getD 2 0 = 0) && q_okc k r idx
  | .invokespecial idx => if r.2.2.2.1.getD 2 0 < 6 then (decide (r.2.2.2.1.getD 2 0 = 4) || decide (r.2.2.2.1.getD 2 0 = 5)) && q_okc k r idx
      else decide (1 ≤ (q_mi k).2.2.2.2.1) && q_w (r.2.2.2.1.getD 3 0) (.methodLink (q_own k) idx Lib.objectInit) && q_w (r.2.2.2.1.getD 4 0) (.instanceMethod Lib.objectInit) && q_w (r.2.2.2.1.getD 5 0) (.code Lib.objectInit ⟨#[0xb1]⟩ 1 none)
  | .invokestatic idx => if r.2.2.2.1.getD 2 0 < 6 then (decide (r.2.2.2.1.getD 2 0 = 2) || decide (r.2.2.2.1.getD 2 0 = 3)) && q_okc k r idx
      else if r.2.2.2.1.getD 2 0 = 8 then decide (1 ≤ (q_mi k).2.2.2.2.1) && q_w (r.2.2.2.1.getD 3 0) (.methodLink (q_own k) idx ⟨"java/lang/Float", "floatToRawIntBits", "(F)I"⟩) && q_w (r.2.2.2.1.getD 4 0) (.native ⟨"java/lang/Float", "floatToRawIntBits", "(F)I"⟩) && q_w (r.2.2.2.1.getD 5 0) (.static ⟨"java/lang/Float", "floatToRawIntBits", "(F)I"⟩) && q_w (r.2.2.2.1.getD 6 0) (.initialized "java/lang/Float")
      else decide (1 ≤ (q_mi k).2.2.2.2.1) && q_w (r.2.2.2.1.getD 3 0) (.methodLink (q_own k) idx arraycopyName) && q_w (r.2.2.2.1.getD 4 0) (.native arraycopyName) && q_w (r.2.2.2.1.getD 5 0) (.static arraycopyName) && q_w (r.2.2.2.1.getD 6 0) (.initialized "java/lang/System")
  | _ => true
def q_ln (r : q_R) : Nat := match r.2.1 with
  | .iload _ => 2
  | .istore _ => 2
  | .fload _ => 2
  | .fstore _ => 2
  | .bipush _ => 2
  | .ldc _ => 2
  | .newarray _ => 2
  | .sipush _ => 3
  | .ldc_w _ => 3
  | .getfield _ => 3
  | .putfield _ => 3
  | .getstatic _ => 3
  | .new _ => 3
  | .invokevirtual _ => 3
  | .invokespecial _ => 3
  | .invokestatic _ => 3
  | .goto _ => 3
  | .ifCond _ _ => 3
  | .if_icmp _ _ => 3
  | .iinc _ _ => 3
  | .tableswitch _ _ _ _ => r.2.2.1
  | .lookupswitch _ _ => r.2.2.1
  | _ => 1
def q_okr (k : Nat) (r : q_R) : Bool := decide (r.2.2.1 = q_ln r) && decide (Jvm.ClassFile.decode (q_mi k).2.1 r.1 = .ok (r.2.1, r.2.2.1)) && q_okx k r && q_okn k r
end
section
set_option maxRecDepth 100000 in
theorem q_ok_0 : ∀ r ∈ q_p0, q_okr 0 r = true := List.all_eq_true.mp (by decide +kernel)
theorem q_cw_0 : lw_tbl[583]? = some (.code (q_mi 0).1 (q_mi 0).2.1 (q_mi 0).2.2.1 (q_mi 0).2.2.2.1) := by decide +kernel
set_option maxRecDepth 100000 in
theorem q_ok_1 : ∀ r ∈ q_p1, q_okr 1 r = true := List.all_eq_true.mp (by decide +kernel)
theorem q_cw_1 : lw_tbl[524]? = some (.code (q_mi 1).1 (q_mi 1).2.1 (q_mi 1).2.2.1 (q_mi 1).2.2.2.1) := by decide +kernel
set_option maxRecDepth 100000 in
theorem q_ok_2 : ∀ r ∈ q_p2, q_okr 2 r = true := List.all_eq_true.mp (by decide +kernel)
theorem q_cw_2 : lw_tbl[322]? = some (.code (q_mi 2).1 (q_mi 2).2.1 (q_mi 2).2.2.1 (q_mi 2).2.2.2.1) := by decide +kernel
set_option maxRecDepth 100000 in
theorem q_ok_3 : ∀ r ∈ q_p3, q_okr 3 r = true := List.all_eq_true.mp (by decide +kernel)
theorem q_cw_3 : lw_tbl[917]? = some (.code (q_mi 3).1 (q_mi 3).2.1 (q_mi 3).2.2.1 (q_mi 3).2.2.2.1) := by decide +kernel
set_option maxRecDepth 100000 in
theorem q_ok_4 : ∀ r ∈ q_p4, q_okr 4 r = true := List.all_eq_true.mp (by decide +kernel)
theorem q_cw_4 : lw_tbl[382]? = some (.code (q_mi 4).1 (q_mi 4).2.1 (q_mi 4).2.2.1 (q_mi 4).2.2.2.1) := by decide +kernel
set_option maxRecDepth 100000 in
theorem q_ok_5 : ∀ r ∈ q_p5, q_okr 5 r = true := List.all_eq_true.mp (by decide +kernel)
theorem q_cw_5 : lw_tbl[406]? = some (.code (q_mi 5).1 (q_mi 5).2.1 (q_mi 5).2.2.1 (q_mi 5).2.2.2.1) := by decide +kernel
set_option maxRecDepth 100000 in
theorem q_ok_6 : ∀ r ∈ q_p6, q_okr 6 r = true := List.all_eq_true.mp (by decide +kernel)
theorem q_cw_6 : lw_tbl[517]? = some (.code (q_mi 6).1 (q_mi 6).2.1 (q_mi 6).2.2.1 (q_mi 6).2.2.2.1) := by decide +kernel
set_option maxRecDepth 100000 in
theorem q_ok_7 : ∀ r ∈ q_p7, q_okr 7 r = true := List.all_eq_true.mp (by decide +kernel)
theorem q_cw_7 : lw_tbl[398]? = some (.code (q_mi 7).1 (q_mi 7).2.1 (q_mi 7).2.2.1 (q_mi 7).2.2.2.1) := by decide +kernel
set_option maxRecDepth 100000 in
theorem q_ok_8 : ∀ r ∈ q_p8, q_okr 8 r = true := List.all_eq_true.mp (by decide +kernel)
theorem q_cw_8 : lw_tbl[415]? = some (.code (q_mi 8).1 (q_mi 8).2.1 (q_mi 8).2.2.1 (q_mi 8).2.2.2.1) := by decide +kernel
set_option maxRecDepth 100000 in
theorem q_ok_9 : ∀ r ∈ q_p9, q_okr 9 r = true := List.all_eq_true.mp (by decide +kernel)
theorem q_cw_9 : lw_tbl[481]? = some (.code (q_mi 9).1 (q_mi 9).2.1 (q_mi 9).2.2.1 (q_mi 9).2.2.2.1) := by decide +kernel
set_option maxRecDepth 100000 in
theorem q_ok_10 : ∀ r ∈ q_p10, q_okr 10 r = true := List.all_eq_true.mp (by decide +kernel)
theorem q_cw_10 : lw_tbl[595]? = some (.code (q_mi 10).1 (q_mi 10).2.1 (q_mi 10).2.2.1 (q_mi 10).2.2.2.1) := by decide +kernel
set_option maxRecDepth 100000 in
theorem q_ok_11 : ∀ r ∈ q_p11, q_okr 11 r = true := List.all_eq_true.mp (by decide +kernel)
theorem q_cw_11 : lw_tbl[497]? = some (.code (q_mi 11).1 (q_mi 11).2.1 (q_mi 11).2.2.1 (q_mi 11).2.2.2.1) := by decide +kernel
set_option maxRecDepth 100000 in
theorem q_ok_12 : ∀ r ∈ q_p12, q_okr 12 r = true := List.all_eq_true.mp (by decide +kernel)
theorem q_cw_12 : lw_tbl[613]? = some (.code (q_mi 12).1 (q_mi 12).2.1 (q_mi 12).2.2.1 (q_mi 12).2.2.2.1) := by decide +kernel
set_option maxRecDepth 100000 in
theorem q_ok_13 : ∀ r ∈ q_p13, q_okr 13 r = true := List.all_eq_true.mp (by decide +kernel)
theorem q_cw_13 : lw_tbl[451]? = some (.code (q_mi 13).1 (q_mi 13).2.1 (q_mi 13).2.2.1 (q_mi 13).2.2.2.1) := by decide +kernel
set_option maxRecDepth 100000 in
theorem q_ok_14 : ∀ r ∈ q_p14, q_okr 14 r = true := List.all_eq_true.mp (by decide +kernel)
theorem q_cw_14 : lw_tbl[501]? = some (.code (q_mi 14).1 (q_mi 14).2.1 (q_mi 14).2.2.1 (q_mi 14).2.2.2.1) := by decide +kernel
set_option maxRecDepth 100000 in
theorem q_ok_15 : ∀ r ∈ q_p15, q_okr 15 r = true := List.all_eq_true.mp (by decide +kernel)
theorem q_cw_15 : lw_tbl[707]? = some (.code (q_mi 15).1 (q_mi 15).2.1 (q_mi 15).2.2.1 (q_mi 15).2.2.2.1) := by decide +kernel
set_option maxRecDepth 100000 in
theorem q_ok_16 : ∀ r ∈ q_p16, q_okr 16 r = true := List.all_eq_true.mp (by decide +kernel)
theorem q_cw_16 : lw_tbl[566]? = some (.code (q_mi 16).1 (q_mi 16).2.1 (q_mi 16).2.2.1 (q_mi 16).2.2.2.1) := by decide +kernel
set_option maxRecDepth 100000 in
theorem q_ok_17 : ∀ r ∈ q_p17, q_okr 17 r = true := List.all_eq_true.mp (by decide +kernel)
theorem q_cw_17 : lw_tbl[665]? = some (.code (q_mi 17).1 (q_mi 17).2.1 (q_mi 17).2.2.1 (q_mi 17).2.2.2.1) := by decide +kernel
set_option maxRecDepth 100000 in
theorem q_ok_18 : ∀ r ∈ q_p18, q_okr 18 r = true := List.all_eq_true.mp (by decide +kernel)
theorem q_cw_18 : lw_tbl[689]? = some (.code (q_mi 18).1 (q_mi 18).2.1 (q_mi 18).2.2.1 (q_mi 18).2.2.2.1) := by decide +kernel
set_option maxRecDepth 100000 in
theorem q_ok_19 : ∀ r ∈ q_p19, q_okr 19 r = true := List.all_eq_true.mp (by decide +kernel)
theorem q_cw_19 : lw_tbl[686]? = some (.code (q_mi 19).1 (q_mi 19).2.1 (q_mi 19).2.2.1 (q_mi 19).2.2.2.1) := by decide +kernel
set_option maxRecDepth 100000 in
theorem q_ok_20 : ∀ r ∈ q_p20, q_okr 20 r = true := List.all_eq_true.mp (by decide +kernel)
theorem q_cw_20 : lw_tbl[394]? = some (.code (q_mi 20).1 (q_mi 20).2.1 (q_mi 20).2.2.1 (q_mi 20).2.2.2.1) := by decide +kernel
set_option maxRecDepth 100000 in
theorem q_ok_21 : ∀ r ∈ q_p21, q_okr 21 r = true := List.all_eq_true.mp (by decide +kernel)
theorem q_cw_21 : lw_tbl[466]? = some (.code (q_mi 21).1 (q_mi 21).2.1 (q_mi 21).2.2.1 (q_mi 21).2.2.2.1) := by decide +kernel
set_option maxRecDepth 100000 in
theorem q_ok_22 : ∀ r ∈ q_p22, q_okr 22 r = true := List.all_eq_true.mp (by decide +kernel)
theorem q_cw_22 : lw_tbl[639]? = some (.code (q_mi 22).1 (q_mi 22).2.1 (q_mi 22).2.2.1 (q_mi 22).2.2.2.1) := by decide +kernel
set_option maxRecDepth 100000 in
theorem q_ok_23 : ∀ r ∈ q_p23, q_okr 23 r = true := List.all_eq_true.mp (by decide +kernel)
theorem q_cw_23 : lw_tbl[670]? = some (.code (q_mi 23).1 (q_mi 23).2.1 (q_mi 23).2.2.1 (q_mi 23).2.2.2.1) := by decide +kernel
set_option maxRecDepth 100000 in
theorem q_ok_24 : ∀ r ∈ q_p24, q_okr 24 r = true := List.all_eq_true.mp (by decide +kernel)
theorem q_cw_24 : lw_tbl[355]? = some (.code (q_mi 24).1 (q_mi 24).2.1 (q_mi 24).2.2.1 (q_mi 24).2.2.2.1) := by decide +kernel
set_option maxRecDepth 100000 in
theorem q_ok_25 : ∀ r ∈ q_p25, q_okr 25 r = true := List.all_eq_true.mp (by decide +kernel)
theorem q_cw_25 : lw_tbl[647]? = some (.code (q_mi 25).1 (q_mi 25).2.1 (q_mi 25).2.2.1 (q_mi 25).2.2.2.1) := by decide +kernel
set_option maxRecDepth 100000 in
theorem q_ok_26 : ∀ r ∈ q_p26, q_okr 26 r = true := List.all_eq_true.mp (by decide +kernel)
theorem q_cw_26 : lw_tbl[656]? = some (.code (q_mi 26).1 (q_mi 26).2.1 (q_mi 26).2.2.1 (q_mi 26).2.2.2.1) := by decide +kernel
set_option maxRecDepth 100000 in
theorem q_ok_27 : ∀ r ∈ q_p27, q_okr 27 r = true := List.all_eq_true.mp (by decide +kernel)
theorem q_cw_27 : lw_tbl[767]? = some (.code (q_mi 27).1 (q_mi 27).2.1 (q_mi 27).2.2.1 (q_mi 27).2.2.2.1) := by decide +kernel
set_option maxRecDepth 100000 in
theorem q_ok_28 : ∀ r ∈ q_p28, q_okr 28 r = true := List.all_eq_true.mp (by decide +kernel)
theorem q_cw_28 : lw_tbl[815]? = some (.code (q_mi 28).1 (q_mi 28).2.1 (q_mi 28).2.2.1 (q_mi 28).2.2.2.1) := by decide +kernel
set_option maxRecDepth 100000 in
theorem q_ok_29 : ∀ r ∈ q_p29, q_okr 29 r = true := List.all_eq_true.mp (by decide +kernel)
theorem q_cw_29 : lw_tbl[946]? = some (.code (q_mi 29).1 (q_mi 29).2.1 (q_mi 29).2.2.1 (q_mi 29).2.2.2.1) := by decide +kernel
set_option maxRecDepth 100000 in
theorem q_ok_30 : ∀ r ∈ q_p30, q_okr 30 r = true := List.all_eq_true.mp (by decide +kernel)
theorem q_cw_30 : lw_tbl[754]? = some (.code (q_mi 30).1 (q_mi 30).2.1 (q_mi 30).2.2.1 (q_mi 30).2.2.2.1) := by decide +kernel
set_option maxRecDepth 100000 in
theorem q_ok_31 : ∀ r ∈ q_p31, q_okr 31 r = true := List.all_eq_true.mp (by decide +kernel)
theorem q_cw_31 : lw_tbl[811]? = some (.code (q_mi 31).1 (q_mi 31).2.1 (q_mi 31).2.2.1 (q_mi 31).2.2.2.1) := by decide +kernel
set_option maxRecDepth 100000 in
theorem q_ok_32 : ∀ r ∈ q_p32, q_okr 32 r = true := List.all_eq_true.mp (by decide +kernel)
theorem q_cw_32 : lw_tbl[761]? = some (.code (q_mi 32).1 (q_mi 32).2.1 (q_mi 32).2.2.1 (q_mi 32).2.2.2.1) := by decide +kernel
set_option maxRecDepth 100000 in
theorem q_ok_33 : ∀ r ∈ q_p33, q_okr 33 r = true := List.all_eq_true.mp (by decide +kernel)
theorem q_cw_33 : lw_tbl[843]? = some (.code (q_mi 33).1 (q_mi 33).2.1 (q_mi 33).2.2.1 (q_mi 33).2.2.2.1) := by decide +kernel
set_option maxRecDepth 100000 in
theorem q_ok_34 : ∀ r ∈ q_p34, q_okr 34 r = true := List.all_eq_true.mp (by decide +kernel)
theorem q_cw_34 : lw_tbl[795]? = some (.code (q_mi 34).1 (q_mi 34).2.1 (q_mi 34).2.2.1 (q_mi 34).2.2.2.1) := by decide +kernel
set_option maxRecDepth 100000 in
theorem q_ok_35 : ∀ r ∈ q_p35, q_okr 35 r = true := List.all_eq_true.mp (by decide +kernel)
theorem q_cw_35 : lw_tbl[799]? = some (.code (q_mi 35).1 (q_mi 35).2.1 (q_mi 35).2.2.1 (q_mi 35).2.2.2.1) := by decide +kernel
set_option maxRecDepth 100000 in
theorem q_ok_36 : ∀ r ∈ q_p36, q_okr 36 r = true := List.all_eq_true.mp (by decide +kernel)
theorem q_cw_36 : lw_tbl[850]? = some (.code (q_mi 36).1 (q_mi 36).2.1 (q_mi 36).2.2.1 (q_mi 36).2.2.2.1) := by decide +kernel
set_option maxRecDepth 100000 in
theorem q_ok_37 : ∀ r ∈ q_p37, q_okr 37 r = true := List.all_eq_true.mp (by decide +kernel)
theorem q_cw_37 : lw_tbl[934]? = some (.code (q_mi 37).1 (q_mi 37).2.1 (q_mi 37).2.2.1 (q_mi 37).2.2.2.1) := by decide +kernel
set_option maxRecDepth 100000 in
theorem q_ok_38 : ∀ r ∈ q_p38, q_okr 38 r = true := List.all_eq_true.mp (by decide +kernel)
theorem q_cw_38 : lw_tbl[958]? = some (.code (q_mi 38).1 (q_mi 38).2.1 (q_mi 38).2.2.1 (q_mi 38).2.2.2.1) := by decide +kernel
set_option maxRecDepth 100000 in
theorem q_ok_39 : ∀ r ∈ q_p39, q_okr 39 r = true := List.all_eq_true.mp (by decide +kernel)
theorem q_cw_39 : lw_tbl[914]? = some (.code (q_mi 39).1 (q_mi 39).2.1 (q_mi 39).2.2.1 (q_mi 39).2.2.2.1) := by decide +kernel
set_option maxRecDepth 100000 in
theorem q_ok_40 : ∀ r ∈ q_p40, q_okr 40 r = true := List.all_eq_true.mp (by decide +kernel)
theorem q_cw_40 : lw_tbl[65]? = some (.code (q_mi 40).1 (q_mi 40).2.1 (q_mi 40).2.2.1 (q_mi 40).2.2.2.1) := by decide +kernel
set_option maxRecDepth 100000 in
theorem q_ok_41 : ∀ r ∈ q_p41, q_okr 41 r = true := List.all_eq_true.mp (by decide +kernel)
theorem q_cw_41 : lw_tbl[378]? = some (.code (q_mi 41).1 (q_mi 41).2.1 (q_mi 41).2.2.1 (q_mi 41).2.2.2.1) := by decide +kernel
set_option maxRecDepth 100000 in
theorem q_ok_42 : ∀ r ∈ q_p42, q_okr 42 r = true := List.all_eq_true.mp (by decide +kernel)
theorem q_cw_42 : lw_tbl[410]? = some (.code (q_mi 42).1 (q_mi 42).2.1 (q_mi 42).2.2.1 (q_mi 42).2.2.2.1) := by decide +kernel
set_option maxRecDepth 100000 in
theorem q_ok_43 : ∀ r ∈ q_p43, q_okr 43 r = true := List.all_eq_true.mp (by decide +kernel)
theorem q_cw_43 : lw_tbl[165]? = some (.code (q_mi 43).1 (q_mi 43).2.1 (q_mi 43).2.2.1 (q_mi 43).2.2.2.1) := by decide +kernel
set_option maxRecDepth 100000 in
theorem q_ok_44 : ∀ r ∈ q_p44, q_okr 44 r = true := List.all_eq_true.mp (by decide +kernel)
theorem q_cw_44 : lw_tbl[521]? = some (.code (q_mi 44).1 (q_mi 44).2.1 (q_mi 44).2.2.1 (q_mi 44).2.2.2.1) := by decide +kernel
set_option maxRecDepth 100000 in
theorem q_ok_45 : ∀ r ∈ q_p45, q_okr 45 r = true := List.all_eq_true.mp (by decide +kernel)
theorem q_cw_45 : lw_tbl[134]? = some (.code (q_mi 45).1 (q_mi 45).2.1 (q_mi 45).2.2.1 (q_mi 45).2.2.2.1) := by decide +kernel
set_option maxRecDepth 100000 in
theorem q_ok_46 : ∀ r ∈ q_p46, q_okr 46 r = true := List.all_eq_true.mp (by decide +kernel)
theorem q_cw_46 : lw_tbl[626]? = some (.code (q_mi 46).1 (q_mi 46).2.1 (q_mi 46).2.2.1 (q_mi 46).2.2.2.1) := by decide +kernel
set_option maxRecDepth 100000 in
theorem q_ok_47 : ∀ r ∈ q_p47, q_okr 47 r = true := List.all_eq_true.mp (by decide +kernel)
theorem q_cw_47 : lw_tbl[652]? = some (.code (q_mi 47).1 (q_mi 47).2.1 (q_mi 47).2.2.1 (q_mi 47).2.2.2.1) := by decide +kernel
set_option maxRecDepth 100000 in
theorem q_ok_48 : ∀ r ∈ q_p48, q_okr 48 r = true := List.all_eq_true.mp (by decide +kernel)
theorem q_cw_48 : lw_tbl[463]? = some (.code (q_mi 48).1 (q_mi 48).2.1 (q_mi 48).2.2.1 (q_mi 48).2.2.2.1) := by decide +kernel
set_option maxRecDepth 100000 in
theorem q_ok_49 : ∀ r ∈ q_p49, q_okr 49 r = true := List.all_eq_true.mp (by decide +kernel)
theorem q_cw_49 : lw_tbl[144]? = some (.code (q_mi 49).1 (q_mi 49).2.1 (q_mi 49).2.2.1 (q_mi 49).2.2.2.1) := by decide +kernel
set_option maxRecDepth 100000 in
theorem q_ok_50 : ∀ r ∈ q_p50, q_okr 50 r = true := List.all_eq_true.mp (by decide +kernel)
theorem q_cw_50 : lw_tbl[254]? = some (.code (q_mi 50).1 (q_mi 50).2.1 (q_mi 50).2.2.1 (q_mi 50).2.2.2.1) := by decide +kernel
set_option maxRecDepth 100000 in
theorem q_ok_51 : ∀ r ∈ q_p51, q_okr 51 r = true := List.all_eq_true.mp (by decide +kernel)
theorem q_cw_51 : lw_tbl[542]? = some (.code (q_mi 51).1 (q_mi 51).2.1 (q_mi 51).2.2.1 (q_mi 51).2.2.2.1) := by decide +kernel
set_option maxRecDepth 100000 in
theorem q_ok_52 : ∀ r ∈ q_p52, q_okr 52 r = true := List.all_eq_true.mp (by decide +kernel)
theorem q_cw_52 : lw_tbl[635]? = some (.code (q_mi 52).1 (q_mi 52).2.1 (q_mi 52).2.2.1 (q_mi 52).2.2.2.1) := by decide +kernel
set_option maxRecDepth 100000 in
theorem q_ok_53 : ∀ r ∈ q_p53, q_okr 53 r = true := List.all_eq_true.mp (by decide +kernel)
theorem q_cw_53 : lw_tbl[532]? = some (.code (q_mi 53).1 (q_mi 53).2.1 (q_mi 53).2.2.1 (q_mi 53).2.2.2.1) := by decide +kernel
set_option maxRecDepth 100000 in
theorem q_ok_54 : ∀ r ∈ q_p54, q_okr 54 r = true := List.all_eq_true.mp (by decide +kernel)
theorem q_cw_54 : lw_tbl[459]? = some (.code (q_mi 54).1 (q_mi 54).2.1 (q_mi 54).2.2.1 (q_mi 54).2.2.2.1) := by decide +kernel
set_option maxRecDepth 100000 in
theorem q_ok_55 : ∀ r ∈ q_p55, q_okr 55 r = true := List.all_eq_true.mp (by decide +kernel)
theorem q_cw_55 : lw_tbl[402]? = some (.code (q_mi 55).1 (q_mi 55).2.1 (q_mi 55).2.2.1 (q_mi 55).2.2.2.1) := by decide +kernel
set_option maxRecDepth 100000 in
theorem q_ok_56 : ∀ r ∈ q_p56, q_okr 56 r = true := List.all_eq_true.mp (by decide +kernel)
theorem q_cw_56 : lw_tbl[493]? = some (.code (q_mi 56).1 (q_mi 56).2.1 (q_mi 56).2.2.1 (q_mi 56).2.2.2.1) := by decide +kernel
set_option maxRecDepth 100000 in
theorem q_ok_57 : ∀ r ∈ q_p57, q_okr 57 r = true := List.all_eq_true.mp (by decide +kernel)
theorem q_cw_57 : lw_tbl[617]? = some (.code (q_mi 57).1 (q_mi 57).2.1 (q_mi 57).2.2.1 (q_mi 57).2.2.2.1) := by decide +kernel
set_option maxRecDepth 100000 in
theorem q_ok_58 : ∀ r ∈ q_p58, q_okr 58 r = true := List.all_eq_true.mp (by decide +kernel)
theorem q_cw_58 : lw_tbl[226]? = some (.code (q_mi 58).1 (q_mi 58).2.1 (q_mi 58).2.2.1 (q_mi 58).2.2.2.1) := by decide +kernel
set_option maxRecDepth 100000 in
theorem q_ok_59 : ∀ r ∈ q_p59, q_okr 59 r = true := List.all_eq_true.mp (by decide +kernel)
theorem q_cw_59 : lw_tbl[693]? = some (.code (q_mi 59).1 (q_mi 59).2.1 (q_mi 59).2.2.1 (q_mi 59).2.2.2.1) := by decide +kernel
set_option maxRecDepth 100000 in
theorem q_ok_60 : ∀ r ∈ q_p60, q_okr 60 r = true := List.all_eq_true.mp (by decide +kernel)
theorem q_cw_60 : lw_tbl[86]? = some (.code (q_mi 60).1 (q_mi 60).2.1 (q_mi 60).2.2.1 (q_mi 60).2.2.2.1) := by decide +kernel
set_option maxRecDepth 100000 in
theorem q_ok_61 : ∀ r ∈ q_p61, q_okr 61 r = true := List.all_eq_true.mp (by decide +kernel)
theorem q_cw_61 : lw_tbl[319]? = some (.code (q_mi 61).1 (q_mi 61).2.1 (q_mi 61).2.2.1 (q_mi 61).2.2.2.1) := by decide +kernel
set_option maxRecDepth 100000 in
theorem q_ok_62 : ∀ r ∈ q_p62, q_okr 62 r = true := List.all_eq_true.mp (by decide +kernel)
theorem q_cw_62 : lw_tbl[352]? = some (.code (q_mi 62).1 (q_mi 62).2.1 (q_mi 62).2.2.1 (q_mi 62).2.2.2.1) := by decide +kernel
set_option maxRecDepth 100000 in
theorem q_ok_63 : ∀ r ∈ q_p63, q_okr 63 r = true := List.all_eq_true.mp (by decide +kernel)
theorem q_cw_63 : lw_tbl[426]? = some (.code (q_mi 63).1 (q_mi 63).2.1 (q_mi 63).2.2.1 (q_mi 63).2.2.2.1) := by decide +kernel
set_option maxRecDepth 100000 in
theorem q_ok_64 : ∀ r ∈ q_p64, q_okr 64 r = true := List.all_eq_true.mp (by decide +kernel)
theorem q_cw_64 : lw_tbl[366]? = some (.code (q_mi 64).1 (q_mi 64).2.1 (q_mi 64).2.2.1 (q_mi 64).2.2.2.1) := by decide +kernel
set_option maxRecDepth 100000 in
theorem q_ok_65 : ∀ r ∈ q_p65, q_okr 65 r = true := List.all_eq_true.mp (by decide +kernel)
theorem q_cw_65 : lw_tbl[562]? = some (.code (q_mi 65).1 (q_mi 65).2.1 (q_mi 65).2.2.1 (q_mi 65).2.2.2.1) := by decide +kernel
set_option maxRecDepth 100000 in
theorem q_ok_66 : ∀ r ∈ q_p66, q_okr 66 r = true := List.all_eq_true.mp (by decide +kernel)
theorem q_cw_66 : lw_tbl[591]? = some (.code (q_mi 66).1 (q_mi 66).2.1 (q_mi 66).2.2.1 (q_mi 66).2.2.2.1) := by decide +kernel
set_option maxRecDepth 100000 in
theorem q_ok_67 : ∀ r ∈ q_p67, q_okr 67 r = true := List.all_eq_true.mp (by decide +kernel)
theorem q_cw_67 : lw_tbl[661]? = some (.code (q_mi 67).1 (q_mi 67).2.1 (q_mi 67).2.2.1 (q_mi 67).2.2.2.1) := by decide +kernel
set_option maxRecDepth 100000 in
theorem q_ok_68 : ∀ r ∈ q_p68, q_okr 68 r = true := List.all_eq_true.mp (by decide +kernel)
theorem q_cw_68 : lw_tbl[771]? = some (.code (q_mi 68).1 (q_mi 68).2.1 (q_mi 68).2.2.1 (q_mi 68).2.2.2.1) := by decide +kernel
set_option maxRecDepth 100000 in
theorem q_ok_69 : ∀ r ∈ q_p69, q_okr 69 r = true := List.all_eq_true.mp (by decide +kernel)
theorem q_cw_69 : lw_tbl[840]? = some (.code (q_mi 69).1 (q_mi 69).2.1 (q_mi 69).2.2.1 (q_mi 69).2.2.2.1) := by decide +kernel
set_option maxRecDepth 100000 in
theorem q_ok_70_0 : ∀ r ∈ (q_p70.drop 0).take 60, q_okr 70 r = true := List.all_eq_true.mp (by decide +kernel)
set_option maxRecDepth 100000 in
theorem q_ok_70_60 : ∀ r ∈ (q_p70.drop 60).take 60, q_okr 70 r = true := List.all_eq_true.mp (by decide +kernel)
set_option maxRecDepth 100000 in
theorem q_ok_70 : ∀ r ∈ q_p70, q_okr 70 r = true := by
  have e : q_p70 = (q_p70.drop 0).take 60 ++ (q_p70.drop 60).take 60 := by decide +kernel
  intro r h
  rw [e] at h
  simp only [List.mem_append] at h
  rcases h with h | h
  · exact q_ok_70_0 r h
  · exact q_ok_70_60 r h
theorem q_cw_70 : lw_tbl[870]? = some (.code (q_mi 70).1 (q_mi 70).2.1 (q_mi 70).2.2.1 (q_mi 70).2.2.2.1) := by decide +kernel
end
section
set_option maxRecDepth 100000 in
theorem q_ok_71 : ∀ r ∈ q_p71, q_okr 71 r = true := List.all_eq_true.mp (by decide +kernel)
theorem q_cw_71 : lw_tbl[758]? = some (.code (q_mi 71).1 (q_mi 71).2.1 (q_mi 71).2.2.1 (q_mi 71).2.2.2.1) := by decide +kernel
set_option maxRecDepth 100000 in
theorem q_ok_72 : ∀ r ∈ q_p72, q_okr 72 r = true := List.all_eq_true.mp (by decide +kernel)
theorem q_cw_72 : lw_tbl[858]? = some (.code (q_mi 72).1 (q_mi 72).2.1 (q_mi 72).2.2.1 (q_mi 72).2.2.2.1) := by decide +kernel
set_option maxRecDepth 100000 in
theorem q_ok_73 : ∀ r ∈ q_p73, q_okr 73 r = true := List.all_eq_true.mp (by decide +kernel)
theorem q_cw_73 : lw_tbl[716]? = some (.code (q_mi 73).1 (q_mi 73).2.1 (q_mi 73).2.2.1 (q_mi 73).2.2.2.1) := by decide +kernel
set_option maxRecDepth 100000 in
theorem q_ok_74 : ∀ r ∈ q_p74, q_okr 74 r = true := List.all_eq_true.mp (by decide +kernel)
theorem q_cw_74 : lw_tbl[779]? = some (.code (q_mi 74).1 (q_mi 74).2.1 (q_mi 74).2.2.1 (q_mi 74).2.2.2.1) := by decide +kernel
set_option maxRecDepth 100000 in
theorem q_ok_75 : ∀ r ∈ q_p75, q_okr 75 r = true := List.all_eq_true.mp (by decide +kernel)
theorem q_cw_75 : lw_tbl[791]? = some (.code (q_mi 75).1 (q_mi 75).2.1 (q_mi 75).2.2.1 (q_mi 75).2.2.2.1) := by decide +kernel
set_option maxRecDepth 100000 in
theorem q_ok_76 : ∀ r ∈ q_p76, q_okr 76 r = true := List.all_eq_true.mp (by decide +kernel)
theorem q_cw_76 : lw_tbl[750]? = some (.code (q_mi 76).1 (q_mi 76).2.1 (q_mi 76).2.2.1 (q_mi 76).2.2.2.1) := by decide +kernel
set_option maxRecDepth 100000 in
theorem q_ok_77 : ∀ r ∈ q_p77, q_okr 77 r = true := List.all_eq_true.mp (by decide +kernel)
theorem q_cw_77 : lw_tbl[970]? = some (.code (q_mi 77).1 (q_mi 77).2.1 (q_mi 77).2.2.1 (q_mi 77).2.2.2.1) := by decide +kernel
set_option maxRecDepth 100000 in
theorem q_ok_78_0 : ∀ r ∈ (q_p78.drop 0).take 60, q_okr 78 r = true := List.all_eq_true.mp (by decide +kernel)
set_option maxRecDepth 100000 in
theorem q_ok_78_60 : ∀ r ∈ (q_p78.drop 60).take 60, q_okr 78 r = true := List.all_eq_true.mp (by decide +kernel)
set_option maxRecDepth 100000 in
theorem q_ok_78 : ∀ r ∈ q_p78, q_okr 78 r = true := by
  have e : q_p78 = (q_p78.drop 0).take 60 ++ (q_p78.drop 60).take 60 := by decide +kernel
  intro r h
  rw [e] at h
  simp only [List.mem_append] at h
  rcases h with h | h
  · exact q_ok_78_0 r h
  · exact q_ok_78_60 r h
theorem q_cw_78 : lw_tbl[887]? = some (.code (q_mi 78).1 (q_mi 78).2.1 (q_mi 78).2.2.1 (q_mi 78).2.2.2.1) := by decide +kernel
set_option maxRecDepth 100000 in
theorem q_ok_79_0 : ∀ r ∈ (q_p79.drop 0).take 60, q_okr 79 r = true := List.all_eq_true.mp (by decide +kernel)
set_option maxRecDepth 100000 in
theorem q_ok_79_60 : ∀ r ∈ (q_p79.drop 60).take 60, q_okr 79 r = true := List.all_eq_true.mp (by decide +kernel)
set_option maxRecDepth 100000 in
theorem q_ok_79 : ∀ r ∈ q_p79, q_okr 79 r = true := by
  have e : q_p79 = (q_p79.drop 0).take 60 ++ (q_p79.drop 60).take 60 := by decide +kernel
  intro r h
  rw [e] at h
  simp only [List.mem_append] at h
  rcases h with h | h
  · exact q_ok_79_0 r h
  · exact q_ok_79_60 r h
theorem q_cw_79 : lw_tbl[882]? = some (.code (q_mi 79).1 (q_mi 79).2.1 (q_mi 79).2.2.1 (q_mi 79).2.2.2.1) := by decide +kernel
set_option maxRecDepth 100000 in
theorem q_ok_80 : ∀ r ∈ q_p80, q_okr 80 r = true := List.all_eq_true.mp (by decide +kernel)
theorem q_cw_80 : lw_tbl[966]? = some (.code (q_mi 80).1 (q_mi 80).2.1 (q_mi 80).2.2.1 (q_mi 80).2.2.2.1) := by decide +kernel
set_option maxRecDepth 100000 in
theorem q_ok_81 : ∀ r ∈ q_p81, q_okr 81 r = true := List.all_eq_true.mp (by decide +kernel)
theorem q_cw_81 : lw_tbl[942]? = some (.code (q_mi 81).1 (q_mi 81).2.1 (q_mi 81).2.2.1 (q_mi 81).2.2.2.1) := by decide +kernel
set_option maxRecDepth 100000 in
theorem q_ok_82 : ∀ r ∈ q_p82, q_okr 82 r = true := List.all_eq_true.mp (by decide +kernel)
theorem q_cw_82 : lw_tbl[938]? = some (.code (q_mi 82).1 (q_mi 82).2.1 (q_mi 82).2.2.1 (q_mi 82).2.2.2.1) := by decide +kernel
set_option maxRecDepth 100000 in
theorem q_ok_83 : ∀ r ∈ q_p83, q_okr 83 r = true := List.all_eq_true.mp (by decide +kernel)
theorem q_cw_83 : lw_tbl[316]? = some (.code (q_mi 83).1 (q_mi 83).2.1 (q_mi 83).2.2.1 (q_mi 83).2.2.2.1) := by decide +kernel
set_option maxRecDepth 100000 in
theorem q_ok_84 : ∀ r ∈ q_p84, q_okr 84 r = true := List.all_eq_true.mp (by decide +kernel)
theorem q_cw_84 : lw_tbl[587]? = some (.code (q_mi 84).1 (q_mi 84).2.1 (q_mi 84).2.2.1 (q_mi 84).2.2.2.1) := by decide +kernel
set_option maxRecDepth 100000 in
theorem q_ok_85 : ∀ r ∈ q_p85, q_okr 85 r = true := List.all_eq_true.mp (by decide +kernel)
theorem q_cw_85 : lw_tbl[580]? = some (.code (q_mi 85).1 (q_mi 85).2.1 (q_mi 85).2.2.1 (q_mi 85).2.2.2.1) := by decide +kernel
set_option maxRecDepth 100000 in
theorem q_ok_86 : ∀ r ∈ q_p86, q_okr 86 r = true := List.all_eq_true.mp (by decide +kernel)
theorem q_cw_86 : lw_tbl[344]? = some (.code (q_mi 86).1 (q_mi 86).2.1 (q_mi 86).2.2.1 (q_mi 86).2.2.2.1) := by decide +kernel
set_option maxRecDepth 100000 in
theorem q_ok_87 : ∀ r ∈ q_p87, q_okr 87 r = true := List.all_eq_true.mp (by decide +kernel)
theorem q_cw_87 : lw_tbl[334]? = some (.code (q_mi 87).1 (q_mi 87).2.1 (q_mi 87).2.2.1 (q_mi 87).2.2.2.1) := by decide +kernel
set_option maxRecDepth 100000 in
theorem q_ok_88 : ∀ r ∈ q_p88, q_okr 88 r = true := List.all_eq_true.mp (by decide +kernel)
theorem q_cw_88 : lw_tbl[339]? = some (.code (q_mi 88).1 (q_mi 88).2.1 (q_mi 88).2.2.1 (q_mi 88).2.2.2.1) := by decide +kernel
set_option maxRecDepth 100000 in
theorem q_ok_89 : ∀ r ∈ q_p89, q_okr 89 r = true := List.all_eq_true.mp (by decide +kernel)
theorem q_cw_89 : lw_tbl[349]? = some (.code (q_mi 89).1 (q_mi 89).2.1 (q_mi 89).2.2.1 (q_mi 89).2.2.2.1) := by decide +kernel
set_option maxRecDepth 100000 in
theorem q_ok_90 : ∀ r ∈ q_p90, q_okr 90 r = true := List.all_eq_true.mp (by decide +kernel)
theorem q_cw_90 : lw_tbl[557]? = some (.code (q_mi 90).1 (q_mi 90).2.1 (q_mi 90).2.2.1 (q_mi 90).2.2.2.1) := by decide +kernel
set_option maxRecDepth 100000 in
theorem q_ok_91 : ∀ r ∈ q_p91, q_okr 91 r = true := List.all_eq_true.mp (by decide +kernel)
theorem q_cw_91 : lw_tbl[374]? = some (.code (q_mi 91).1 (q_mi 91).2.1 (q_mi 91).2.2.1 (q_mi 91).2.2.2.1) := by decide +kernel
set_option maxRecDepth 100000 in
theorem q_ok_92 : ∀ r ∈ q_p92, q_okr 92 r = true := List.all_eq_true.mp (by decide +kernel)
theorem q_cw_92 : lw_tbl[435]? = some (.code (q_mi 92).1 (q_mi 92).2.1 (q_mi 92).2.2.1 (q_mi 92).2.2.2.1) := by decide +kernel
set_option maxRecDepth 100000 in
theorem q_ok_93 : ∀ r ∈ q_p93, q_okr 93 r = true := List.all_eq_true.mp (by decide +kernel)
theorem q_cw_93 : lw_tbl[59]? = some (.code (q_mi 93).1 (q_mi 93).2.1 (q_mi 93).2.2.1 (q_mi 93).2.2.2.1) := by decide +kernel
set_option maxRecDepth 100000 in
theorem q_ok_94_0 : ∀ r ∈ (q_p94.drop 0).take 60, q_okr 94 r = true := List.all_eq_true.mp (by decide +kernel)
set_option maxRecDepth 100000 in
theorem q_ok_94_60 : ∀ r ∈ (q_p94.drop 60).take 60, q_okr 94 r = true := List.all_eq_true.mp (by decide +kernel)
set_option maxRecDepth 100000 in
theorem q_ok_94 : ∀ r ∈ q_p94, q_okr 94 r = true := by
  have e : q_p94 = (q_p94.drop 0).take 60 ++ (q_p94.drop 60).take 60 := by decide +kernel
  intro r h
  rw [e] at h
  simp only [List.mem_append] at h
  rcases h with h | h
  · exact q_ok_94_0 r h
  · exact q_ok_94_60 r h
theorem q_cw_94 : lw_tbl[423]? = some (.code (q_mi 94).1 (q_mi 94).2.1 (q_mi 94).2.2.1 (q_mi 94).2.2.2.1) := by decide +kernel
set_option maxRecDepth 100000 in
theorem q_ok_95_0 : ∀ r ∈ (q_p95.drop 0).take 60, q_okr 95 r = true := List.all_eq_true.mp (by decide +kernel)
set_option maxRecDepth 100000 in
theorem q_ok_95_60 : ∀ r ∈ (q_p95.drop 60).take 60, q_okr 95 r = true := List.all_eq_true.mp (by decide +kernel)
set_option maxRecDepth 100000 in
theorem q_ok_95 : ∀ r ∈ q_p95, q_okr 95 r = true := by
  have e : q_p95 = (q_p95.drop 0).take 60 ++ (q_p95.drop 60).take 60 := by decide +kernel
  intro r h
  rw [e] at h
  simp only [List.mem_append] at h
  rcases h with h | h
  · exact q_ok_95_0 r h
  · exact q_ok_95_60 r h
theorem q_cw_95 : lw_tbl[390]? = some (.code (q_mi 95).1 (q_mi 95).2.1 (q_mi 95).2.2.1 (q_mi 95).2.2.2.1) := by decide +kernel
set_option maxRecDepth 100000 in
theorem q_ok_96 : ∀ r ∈ q_p96, q_okr 96 r = true := List.all_eq_true.mp (by decide +kernel)
theorem q_cw_96 : lw_tbl[489]? = some (.code (q_mi 96).1 (q_mi 96).2.1 (q_mi 96).2.2.1 (q_mi 96).2.2.2.1) := by decide +kernel
set_option maxRecDepth 100000 in
theorem q_ok_97 : ∀ r ∈ q_p97, q_okr 97 r = true := List.all_eq_true.mp (by decide +kernel)
theorem q_cw_97 : lw_tbl[455]? = some (.code (q_mi 97).1 (q_mi 97).2.1 (q_mi 97).2.2.1 (q_mi 97).2.2.2.1) := by decide +kernel
set_option maxRecDepth 100000 in
theorem q_ok_98 : ∀ r ∈ q_p98, q_okr 98 r = true := List.all_eq_true.mp (by decide +kernel)
theorem q_cw_98 : lw_tbl[609]? = some (.code (q_mi 98).1 (q_mi 98).2.1 (q_mi 98).2.2.1 (q_mi 98).2.2.2.1) := by decide +kernel
set_option maxRecDepth 100000 in
theorem q_ok_99 : ∀ r ∈ q_p99, q_okr 99 r = true := List.all_eq_true.mp (by decide +kernel)
theorem q_cw_99 : lw_tbl[513]? = some (.code (q_mi 99).1 (q_mi 99).2.1 (q_mi 99).2.2.1 (q_mi 99).2.2.2.1) := by decide +kernel
set_option maxRecDepth 100000 in
theorem q_ok_100 : ∀ r ∈ q_p100, q_okr 100 r = true := List.all_eq_true.mp (by decide +kernel)
theorem q_cw_100 : lw_tbl[682]? = some (.code (q_mi 100).1 (q_mi 100).2.1 (q_mi 100).2.2.1 (q_mi 100).2.2.2.1) := by decide +kernel
set_option maxRecDepth 100000 in
theorem q_ok_101 : ∀ r ∈ q_p101, q_okr 101 r = true := List.all_eq_true.mp (by decide +kernel)
theorem q_cw_101 : lw_tbl[329]? = some (.code (q_mi 101).1 (q_mi 101).2.1 (q_mi 101).2.2.1 (q_mi 101).2.2.2.1) := by decide +kernel
set_option maxRecDepth 100000 in
theorem q_ok_102_0 : ∀ r ∈ (q_p102.drop 0).take 60, q_okr 102 r = true := List.all_eq_true.mp (by decide +kernel)
set_option maxRecDepth 100000 in
theorem q_ok_102_60 : ∀ r ∈ (q_p102.drop 60).take 60, q_okr 102 r = true := List.all_eq_true.mp (by decide +kernel)
set_option maxRecDepth 100000 in
theorem q_ok_102 : ∀ r ∈ q_p102, q_okr 102 r = true := by
  have e : q_p102 = (q_p102.drop 0).take 60 ++ (q_p102.drop 60).take 60 := by decide +kernel
  intro r h
  rw [e] at h
  simp only [List.mem_append] at h
  rcases h with h | h
  · exact q_ok_102_0 r h
  · exact q_ok_102_60 r h
theorem q_cw_102 : lw_tbl[644]? = some (.code (q_mi 102).1 (q_mi 102).2.1 (q_mi 102).2.2.1 (q_mi 102).2.2.2.1) := by decide +kernel
set_option maxRecDepth 100000 in
theorem q_ok_103 : ∀ r ∈ q_p103, q_okr 103 r = true := List.all_eq_true.mp (by decide +kernel)
theorem q_cw_103 : lw_tbl[631]? = some (.code (q_mi 103).1 (q_mi 103).2.1 (q_mi 103).2.2.1 (q_mi 103).2.2.2.1) := by decide +kernel
set_option maxRecDepth 100000 in
theorem q_ok_104 : ∀ r ∈ q_p104, q_okr 104 r = true := List.all_eq_true.mp (by decide +kernel)
theorem q_cw_104 : lw_tbl[622]? = some (.code (q_mi 104).1 (q_mi 104).2.1 (q_mi 104).2.2.1 (q_mi 104).2.2.2.1) := by decide +kernel
set_option maxRecDepth 100000 in
theorem q_ok_105 : ∀ r ∈ q_p105, q_okr 105 r = true := List.all_eq_true.mp (by decide +kernel)
theorem q_cw_105 : lw_tbl[362]? = some (.code (q_mi 105).1 (q_mi 105).2.1 (q_mi 105).2.2.1 (q_mi 105).2.2.2.1) := by decide +kernel
set_option maxRecDepth 100000 in
theorem q_ok_106 : ∀ r ∈ q_p106, q_okr 106 r = true := List.all_eq_true.mp (by decide +kernel)
theorem q_cw_106 : lw_tbl[536]? = some (.code (q_mi 106).1 (q_mi 106).2.1 (q_mi 106).2.2.1 (q_mi 106).2.2.2.1) := by decide +kernel
set_option maxRecDepth 100000 in
theorem q_ok_107_0 : ∀ r ∈ (q_p107.drop 0).take 60, q_okr 107 r = true := List.all_eq_true.mp (by decide +kernel)
set_option maxRecDepth 100000 in
theorem q_ok_107_60 : ∀ r ∈ (q_p107.drop 60).take 60, q_okr 107 r = true := List.all_eq_true.mp (by decide +kernel)
set_option maxRecDepth 100000 in
theorem q_ok_107 : ∀ r ∈ q_p107, q_okr 107 r = true := by
  have e : q_p107 = (q_p107.drop 0).take 60 ++ (q_p107.drop 60).take 60 := by decide +kernel
  intro r h
  rw [e] at h
  simp only [List.mem_append] at h
  rcases h with h | h
  · exact q_ok_107_0 r h
  · exact q_ok_107_60 r h
theorem q_cw_107 : lw_tbl[903]? = some (.code (q_mi 107).1 (q_mi 107).2.1 (q_mi 107).2.2.1 (q_mi 107).2.2.2.1) := by decide +kernel
set_option maxRecDepth 100000 in
theorem q_ok_108_0 : ∀ r ∈ (q_p108.drop 0).take 60, q_okr 108 r = true := List.all_eq_true.mp (by decide +kernel)
set_option maxRecDepth 100000 in
theorem q_ok_108_60 : ∀ r ∈ (q_p108.drop 60).take 60, q_okr 108 r = true := List.all_eq_true.mp (by decide +kernel)
set_option maxRecDepth 100000 in
theorem q_ok_108 : ∀ r ∈ q_p108, q_okr 108 r = true := by
  have e : q_p108 = (q_p108.drop 0).take 60 ++ (q_p108.drop 60).take 60 := by decide +kernel
  intro r h
  rw [e] at h
  simp only [List.mem_append] at h
  rcases h with h | h
  · exact q_ok_108_0 r h
  · exact q_ok_108_60 r h
theorem q_cw_108 : lw_tbl[820]? = some (.code (q_mi 108).1 (q_mi 108).2.1 (q_mi 108).2.2.1 (q_mi 108).2.2.2.1) := by decide +kernel
end
section
set_option maxRecDepth 100000 in
theorem q_ok_109_0 : ∀ r ∈ (q_p109.drop 0).take 60, q_okr 109 r = true := List.all_eq_true.mp (by decide +kernel)
set_option maxRecDepth 100000 in
theorem q_ok_109_60 : ∀ r ∈ (q_p109.drop 60).take 60, q_okr 109 r = true := List.all_eq_true.mp (by decide +kernel)
set_option maxRecDepth 100000 in
theorem q_ok_109 : ∀ r ∈ q_p109, q_okr 109 r = true := by
  have e : q_p109 = (q_p109.drop 0).take 60 ++ (q_p109.drop 60).take 60 := by decide +kernel
  intro r h
  rw [e] at h
  simp only [List.mem_append] at h
  rcases h with h | h
  · exact q_ok_109_0 r h
  · exact q_ok_109_60 r h
theorem q_cw_109 : lw_tbl[807]? = some (.code (q_mi 109).1 (q_mi 109).2.1 (q_mi 109).2.2.1 (q_mi 109).2.2.2.1) := by decide +kernel
set_option maxRecDepth 100000 in
theorem q_ok_110_0 : ∀ r ∈ (q_p110.drop 0).take 60, q_okr 110 r = true := List.all_eq_true.mp (by decide +kernel)
set_option maxRecDepth 100000 in
theorem q_ok_110_60 : ∀ r ∈ (q_p110.drop 60).take 60, q_okr 110 r = true := List.all_eq_true.mp (by decide +kernel)
set_option maxRecDepth 100000 in
theorem q_ok_110 : ∀ r ∈ q_p110, q_okr 110 r = true := by
  have e : q_p110 = (q_p110.drop 0).take 60 ++ (q_p110.drop 60).take 60 := by decide +kernel
  intro r h
  rw [e] at h
  simp only [List.mem_append] at h
  rcases h with h | h
  · exact q_ok_110_0 r h
  · exact q_ok_110_60 r h
theorem q_cw_110 : lw_tbl[787]? = some (.code (q_mi 110).1 (q_mi 110).2.1 (q_mi 110).2.2.1 (q_mi 110).2.2.2.1) := by decide +kernel
set_option maxRecDepth 100000 in
theorem q_ok_111 : ∀ r ∈ q_p111, q_okr 111 r = true := List.all_eq_true.mp (by decide +kernel)
theorem q_cw_111 : lw_tbl[866]? = some (.code (q_mi 111).1 (q_mi 111).2.1 (q_mi 111).2.2.1 (q_mi 111).2.2.2.1) := by decide +kernel
set_option maxRecDepth 100000 in
theorem q_ok_112_0 : ∀ r ∈ (q_p112.drop 0).take 60, q_okr 112 r = true := List.all_eq_true.mp (by decide +kernel)
set_option maxRecDepth 100000 in
theorem q_ok_112_60 : ∀ r ∈ (q_p112.drop 60).take 60, q_okr 112 r = true := List.all_eq_true.mp (by decide +kernel)
set_option maxRecDepth 100000 in
theorem q_ok_112 : ∀ r ∈ q_p112, q_okr 112 r = true := by
  have e : q_p112 = (q_p112.drop 0).take 60 ++ (q_p112.drop 60).take 60 := by decide +kernel
  intro r h
  rw [e] at h
  simp only [List.mem_append] at h
  rcases h with h | h
  · exact q_ok_112_0 r h
  · exact q_ok_112_60 r h
theorem q_cw_112 : lw_tbl[854]? = some (.code (q_mi 112).1 (q_mi 112).2.1 (q_mi 112).2.2.1 (q_mi 112).2.2.2.1) := by decide +kernel
set_option maxRecDepth 100000 in
theorem q_ok_113_0 : ∀ r ∈ (q_p113.drop 0).take 60, q_okr 113 r = true := List.all_eq_true.mp (by decide +kernel)
set_option maxRecDepth 100000 in
theorem q_ok_113_60 : ∀ r ∈ (q_p113.drop 60).take 60, q_okr 113 r = true := List.all_eq_true.mp (by decide +kernel)
set_option maxRecDepth 100000 in
theorem q_ok_113 : ∀ r ∈ q_p113, q_okr 113 r = true := by
  have e : q_p113 = (q_p113.drop 0).take 60 ++ (q_p113.drop 60).take 60 := by decide +kernel
  intro r h
  rw [e] at h
  simp only [List.mem_append] at h
  rcases h with h | h
  · exact q_ok_113_0 r h
  · exact q_ok_113_60 r h
theorem q_cw_113 : lw_tbl[962]? = some (.code (q_mi 113).1 (q_mi 113).2.1 (q_mi 113).2.2.1 (q_mi 113).2.2.2.1) := by decide +kernel
set_option maxRecDepth 100000 in
theorem q_ok_114 : ∀ r ∈ q_p114, q_okr 114 r = true := List.all_eq_true.mp (by decide +kernel)
theorem q_cw_114 : lw_tbl[911]? = some (.code (q_mi 114).1 (q_mi 114).2.1 (q_mi 114).2.2.1 (q_mi 114).2.2.2.1) := by decide +kernel
set_option maxRecDepth 100000 in
theorem q_ok_115_0 : ∀ r ∈ (q_p115.drop 0).take 60, q_okr 115 r = true := List.all_eq_true.mp (by decide +kernel)
set_option maxRecDepth 100000 in
theorem q_ok_115_60 : ∀ r ∈ (q_p115.drop 60).take 60, q_okr 115 r = true := List.all_eq_true.mp (by decide +kernel)
set_option maxRecDepth 100000 in
theorem q_ok_115 : ∀ r ∈ q_p115, q_okr 115 r = true := by
  have e : q_p115 = (q_p115.drop 0).take 60 ++ (q_p115.drop 60).take 60 := by decide +kernel
  intro r h
  rw [e] at h
  simp only [List.mem_append] at h
  rcases h with h | h
  · exact q_ok_115_0 r h
  · exact q_ok_115_60 r h
theorem q_cw_115 : lw_tbl[891]? = some (.code (q_mi 115).1 (q_mi 115).2.1 (q_mi 115).2.2.1 (q_mi 115).2.2.2.1) := by decide +kernel
set_option maxRecDepth 100000 in
theorem q_ok_116 : ∀ r ∈ q_p116, q_okr 116 r = true := List.all_eq_true.mp (by decide +kernel)
theorem q_cw_116 : lw_tbl[907]? = some (.code (q_mi 116).1 (q_mi 116).2.1 (q_mi 116).2.2.1 (q_mi 116).2.2.2.1) := by decide +kernel
set_option maxRecDepth 100000 in
theorem q_ok_117 : ∀ r ∈ q_p117, q_okr 117 r = true := List.all_eq_true.mp (by decide +kernel)
theorem q_cw_117 : lw_tbl[775]? = some (.code (q_mi 117).1 (q_mi 117).2.1 (q_mi 117).2.2.1 (q_mi 117).2.2.2.1) := by decide +kernel
set_option maxRecDepth 100000 in
theorem q_ok_118 : ∀ r ∈ q_p118, q_okr 118 r = true := List.all_eq_true.mp (by decide +kernel)
theorem q_cw_118 : lw_tbl[874]? = some (.code (q_mi 118).1 (q_mi 118).2.1 (q_mi 118).2.2.1 (q_mi 118).2.2.2.1) := by decide +kernel
set_option maxRecDepth 100000 in
theorem q_ok_119_0 : ∀ r ∈ (q_p119.drop 0).take 60, q_okr 119 r = true := List.all_eq_true.mp (by decide +kernel)
set_option maxRecDepth 100000 in
theorem q_ok_119_60 : ∀ r ∈ (q_p119.drop 60).take 60, q_okr 119 r = true := List.all_eq_true.mp (by decide +kernel)
set_option maxRecDepth 100000 in
theorem q_ok_119 : ∀ r ∈ q_p119, q_okr 119 r = true := by
  have e : q_p119 = (q_p119.drop 0).take 60 ++ (q_p119.drop 60).take 60 := by decide +kernel
  intro r h
  rw [e] at h
  simp only [List.mem_append] at h
  rcases h with h | h
  · exact q_ok_119_0 r h
  · exact q_ok_119_60 r h
theorem q_cw_119 : lw_tbl[836]? = some (.code (q_mi 119).1 (q_mi 119).2.1 (q_mi 119).2.2.1 (q_mi 119).2.2.2.1) := by decide +kernel
set_option maxRecDepth 100000 in
theorem q_ok_120 : ∀ r ∈ q_p120, q_okr 120 r = true := List.all_eq_true.mp (by decide +kernel)
theorem q_cw_120 : lw_tbl[929]? = some (.code (q_mi 120).1 (q_mi 120).2.1 (q_mi 120).2.2.1 (q_mi 120).2.2.2.1) := by decide +kernel
set_option maxRecDepth 100000 in
theorem q_ok_121 : ∀ r ∈ q_p121, q_okr 121 r = true := List.all_eq_true.mp (by decide +kernel)
theorem q_cw_121 : lw_tbl[895]? = some (.code (q_mi 121).1 (q_mi 121).2.1 (q_mi 121).2.2.1 (q_mi 121).2.2.2.1) := by decide +kernel
set_option maxRecDepth 100000 in
theorem q_ok_122 : ∀ r ∈ q_p122, q_okr 122 r = true := List.all_eq_true.mp (by decide +kernel)
theorem q_cw_122 : lw_tbl[746]? = some (.code (q_mi 122).1 (q_mi 122).2.1 (q_mi 122).2.2.1 (q_mi 122).2.2.2.1) := by decide +kernel
set_option maxRecDepth 100000 in
theorem q_ok_123 : ∀ r ∈ q_p123, q_okr 123 r = true := List.all_eq_true.mp (by decide +kernel)
theorem q_cw_123 : lw_tbl[878]? = some (.code (q_mi 123).1 (q_mi 123).2.1 (q_mi 123).2.2.1 (q_mi 123).2.2.2.1) := by decide +kernel
set_option maxRecDepth 100000 in
theorem q_ok_124 : ∀ r ∈ q_p124, q_okr 124 r = true := List.all_eq_true.mp (by decide +kernel)
theorem q_cw_124 : lw_tbl[575]? = some (.code (q_mi 124).1 (q_mi 124).2.1 (q_mi 124).2.2.1 (q_mi 124).2.2.2.1) := by decide +kernel
set_option maxRecDepth 100000 in
theorem q_ok_125 : ∀ r ∈ q_p125, q_okr 125 r = true := List.all_eq_true.mp (by decide +kernel)
theorem q_cw_125 : lw_tbl[551]? = some (.code (q_mi 125).1 (q_mi 125).2.1 (q_mi 125).2.2.1 (q_mi 125).2.2.2.1) := by decide +kernel
set_option maxRecDepth 100000 in
theorem q_ok_126 : ∀ r ∈ q_p126, q_okr 126 r = true := List.all_eq_true.mp (by decide +kernel)
theorem q_cw_126 : lw_tbl[312]? = some (.code (q_mi 126).1 (q_mi 126).2.1 (q_mi 126).2.2.1 (q_mi 126).2.2.2.1) := by decide +kernel
set_option maxRecDepth 100000 in
theorem q_ok_127 : ∀ r ∈ q_p127, q_okr 127 r = true := List.all_eq_true.mp (by decide +kernel)
theorem q_cw_127 : lw_tbl[509]? = some (.code (q_mi 127).1 (q_mi 127).2.1 (q_mi 127).2.2.1 (q_mi 127).2.2.2.1) := by decide +kernel
set_option maxRecDepth 100000 in
theorem q_ok_128 : ∀ r ∈ q_p128, q_okr 128 r = true := List.all_eq_true.mp (by decide +kernel)
theorem q_cw_128 : lw_tbl[447]? = some (.code (q_mi 128).1 (q_mi 128).2.1 (q_mi 128).2.2.1 (q_mi 128).2.2.2.1) := by decide +kernel
set_option maxRecDepth 100000 in
theorem q_ok_129 : ∀ r ∈ q_p129, q_okr 129 r = true := List.all_eq_true.mp (by decide +kernel)
theorem q_cw_129 : lw_tbl[605]? = some (.code (q_mi 129).1 (q_mi 129).2.1 (q_mi 129).2.2.1 (q_mi 129).2.2.2.1) := by decide +kernel
set_option maxRecDepth 100000 in
theorem q_ok_130 : ∀ r ∈ q_p130, q_okr 130 r = true := List.all_eq_true.mp (by decide +kernel)
theorem q_cw_130 : lw_tbl[51]? = some (.code (q_mi 130).1 (q_mi 130).2.1 (q_mi 130).2.2.1 (q_mi 130).2.2.2.1) := by decide +kernel
set_option maxRecDepth 100000 in
theorem q_ok_131_0 : ∀ r ∈ (q_p131.drop 0).take 60, q_okr 131 r = true := List.all_eq_true.mp (by decide +kernel)
set_option maxRecDepth 100000 in
theorem q_ok_131_60 : ∀ r ∈ (q_p131.drop 60).take 60, q_okr 131 r = true := List.all_eq_true.mp (by decide +kernel)
set_option maxRecDepth 100000 in
theorem q_ok_131 : ∀ r ∈ q_p131, q_okr 131 r = true := by
  have e : q_p131 = (q_p131.drop 0).take 60 ++ (q_p131.drop 60).take 60 := by decide +kernel
  intro r h
  rw [e] at h
  simp only [List.mem_append] at h
  rcases h with h | h
  · exact q_ok_131_0 r h
  · exact q_ok_131_60 r h
theorem q_cw_131 : lw_tbl[925]? = some (.code (q_mi 131).1 (q_mi 131).2.1 (q_mi 131).2.2.1 (q_mi 131).2.2.2.1) := by decide +kernel
set_option maxRecDepth 100000 in
theorem q_ok_132 : ∀ r ∈ q_p132, q_okr 132 r = true := List.all_eq_true.mp (by decide +kernel)
theorem q_cw_132 : lw_tbl[803]? = some (.code (q_mi 132).1 (q_mi 132).2.1 (q_mi 132).2.2.1 (q_mi 132).2.2.2.1) := by decide +kernel
set_option maxRecDepth 100000 in
theorem q_ok_133 : ∀ r ∈ q_p133, q_okr 133 r = true := List.all_eq_true.mp (by decide +kernel)
theorem q_cw_133 : lw_tbl[783]? = some (.code (q_mi 133).1 (q_mi 133).2.1 (q_mi 133).2.2.1 (q_mi 133).2.2.2.1) := by decide +kernel
set_option maxRecDepth 100000 in
theorem q_ok_134 : ∀ r ∈ q_p134, q_okr 134 r = true := List.all_eq_true.mp (by decide +kernel)
theorem q_cw_134 : lw_tbl[862]? = some (.code (q_mi 134).1 (q_mi 134).2.1 (q_mi 134).2.2.1 (q_mi 134).2.2.2.1) := by decide +kernel
set_option maxRecDepth 100000 in
theorem q_ok_135_0 : ∀ r ∈ (q_p135.drop 0).take 60, q_okr 135 r = true := List.all_eq_true.mp (by decide +kernel)
set_option maxRecDepth 100000 in
theorem q_ok_135_60 : ∀ r ∈ (q_p135.drop 60).take 60, q_okr 135 r = true := List.all_eq_true.mp (by decide +kernel)
set_option maxRecDepth 100000 in
theorem q_ok_135 : ∀ r ∈ q_p135, q_okr 135 r = true := by
  have e : q_p135 = (q_p135.drop 0).take 60 ++ (q_p135.drop 60).take 60 := by decide +kernel
  intro r h
  rw [e] at h
  simp only [List.mem_append] at h
  rcases h with h | h
  · exact q_ok_135_0 r h
  · exact q_ok_135_60 r h
theorem q_cw_135 : lw_tbl[832]? = some (.code (q_mi 135).1 (q_mi 135).2.1 (q_mi 135).2.2.1 (q_mi 135).2.2.2.1) := by decide +kernel
set_option maxRecDepth 100000 in
theorem q_ok_136 : ∀ r ∈ q_p136, q_okr 136 r = true := List.all_eq_true.mp (by decide +kernel)
theorem q_cw_136 : lw_tbl[899]? = some (.code (q_mi 136).1 (q_mi 136).2.1 (q_mi 136).2.2.1 (q_mi 136).2.2.2.1) := by decide +kernel
set_option maxRecDepth 100000 in
theorem q_ok_137_0 : ∀ r ∈ (q_p137.drop 0).take 60, q_okr 137 r = true := List.all_eq_true.mp (by decide +kernel)
set_option maxRecDepth 100000 in
theorem q_ok_137_60 : ∀ r ∈ (q_p137.drop 60).take 60, q_okr 137 r = true := List.all_eq_true.mp (by decide +kernel)
set_option maxRecDepth 100000 in
theorem q_ok_137 : ∀ r ∈ q_p137, q_okr 137 r = true := by
  have e : q_p137 = (q_p137.drop 0).take 60 ++ (q_p137.drop 60).take 60 := by decide +kernel
  intro r h
  rw [e] at h
  simp only [List.mem_append] at h
  rcases h with h | h
  · exact q_ok_137_0 r h
  · exact q_ok_137_60 r h
theorem q_cw_137 : lw_tbl[443]? = some (.code (q_mi 137).1 (q_mi 137).2.1 (q_mi 137).2.2.1 (q_mi 137).2.2.2.1) := by decide +kernel
set_option maxRecDepth 100000 in
theorem q_ok_138 : ∀ r ∈ q_p138, q_okr 138 r = true := List.all_eq_true.mp (by decide +kernel)
theorem q_cw_138 : lw_tbl[308]? = some (.code (q_mi 138).1 (q_mi 138).2.1 (q_mi 138).2.2.1 (q_mi 138).2.2.2.1) := by decide +kernel
set_option maxRecDepth 100000 in
theorem q_ok_139 : ∀ r ∈ q_p139, q_okr 139 r = true := List.all_eq_true.mp (by decide +kernel)
theorem q_cw_139 : lw_tbl[570]? = some (.code (q_mi 139).1 (q_mi 139).2.1 (q_mi 139).2.2.1 (q_mi 139).2.2.2.1) := by decide +kernel
set_option maxRecDepth 100000 in
theorem q_ok_140 : ∀ r ∈ q_p140, q_okr 140 r = true := List.all_eq_true.mp (by decide +kernel)
theorem q_cw_140 : lw_tbl[546]? = some (.code (q_mi 140).1 (q_mi 140).2.1 (q_mi 140).2.2.1 (q_mi 140).2.2.2.1) := by decide +kernel
set_option maxRecDepth 100000 in
theorem q_ok_141 : ∀ r ∈ q_p141, q_okr 141 r = true := List.all_eq_true.mp (by decide +kernel)
theorem q_cw_141 : lw_tbl[599]? = some (.code (q_mi 141).1 (q_mi 141).2.1 (q_mi 141).2.2.1 (q_mi 141).2.2.2.1) := by decide +kernel
set_option maxRecDepth 100000 in
theorem q_ok_142 : ∀ r ∈ q_p142, q_okr 142 r = true := List.all_eq_true.mp (by decide +kernel)
theorem q_cw_142 : lw_tbl[828]? = some (.code (q_mi 142).1 (q_mi 142).2.1 (q_mi 142).2.2.1 (q_mi 142).2.2.2.1) := by decide +kernel
set_option maxRecDepth 100000 in
theorem q_ok_143 : ∀ r ∈ q_p143, q_okr 143 r = true := List.all_eq_true.mp (by decide +kernel)
theorem q_cw_143 : lw_tbl[847]? = some (.code (q_mi 143).1 (q_mi 143).2.1 (q_mi 143).2.2.1 (q_mi 143).2.2.2.1) := by decide +kernel
end
section
set_option maxRecDepth 100000 in
theorem q_ok_144 : ∀ r ∈ q_p144, q_okr 144 r = true := List.all_eq_true.mp (by decide +kernel)
theorem q_cw_144 : lw_tbl[697]? = some (.code (q_mi 144).1 (q_mi 144).2.1 (q_mi 144).2.2.1 (q_mi 144).2.2.2.1) := by decide +kernel
set_option maxRecDepth 100000 in
theorem q_ok_145 : ∀ r ∈ q_p145, q_okr 145 r = true := List.all_eq_true.mp (by decide +kernel)
theorem q_cw_145 : lw_tbl[476]? = some (.code (q_mi 145).1 (q_mi 145).2.1 (q_mi 145).2.2.1 (q_mi 145).2.2.2.1) := by decide +kernel
set_option maxRecDepth 100000 in
theorem q_ok_146 : ∀ r ∈ q_p146, q_okr 146 r = true := List.all_eq_true.mp (by decide +kernel)
theorem q_cw_146 : lw_tbl[431]? = some (.code (q_mi 146).1 (q_mi 146).2.1 (q_mi 146).2.2.1 (q_mi 146).2.2.2.1) := by decide +kernel
set_option maxRecDepth 100000 in
theorem q_ok_147 : ∀ r ∈ q_p147, q_okr 147 r = true := List.all_eq_true.mp (by decide +kernel)
theorem q_cw_147 : lw_tbl[485]? = some (.code (q_mi 147).1 (q_mi 147).2.1 (q_mi 147).2.2.1 (q_mi 147).2.2.2.1) := by decide +kernel
set_option maxRecDepth 100000 in
theorem q_ok_148 : ∀ r ∈ q_p148, q_okr 148 r = true := List.all_eq_true.mp (by decide +kernel)
theorem q_cw_148 : lw_tbl[419]? = some (.code (q_mi 148).1 (q_mi 148).2.1 (q_mi 148).2.2.1 (q_mi 148).2.2.2.1) := by decide +kernel
set_option maxRecDepth 100000 in
theorem q_ok_149 : ∀ r ∈ q_p149, q_okr 149 r = true := List.all_eq_true.mp (by decide +kernel)
theorem q_cw_149 : lw_tbl[386]? = some (.code (q_mi 149).1 (q_mi 149).2.1 (q_mi 149).2.2.1 (q_mi 149).2.2.2.1) := by decide +kernel
set_option maxRecDepth 100000 in
theorem q_ok_150 : ∀ r ∈ q_p150, q_okr 150 r = true := List.all_eq_true.mp (by decide +kernel)
theorem q_cw_150 : lw_tbl[505]? = some (.code (q_mi 150).1 (q_mi 150).2.1 (q_mi 150).2.2.1 (q_mi 150).2.2.2.1) := by decide +kernel
set_option maxRecDepth 100000 in
theorem q_ok_151 : ∀ r ∈ q_p151, q_okr 151 r = true := List.all_eq_true.mp (by decide +kernel)
theorem q_cw_151 : lw_tbl[370]? = some (.code (q_mi 151).1 (q_mi 151).2.1 (q_mi 151).2.2.1 (q_mi 151).2.2.2.1) := by decide +kernel
set_option maxRecDepth 100000 in
theorem q_ok_152 : ∀ r ∈ q_p152, q_okr 152 r = true := List.all_eq_true.mp (by decide +kernel)
theorem q_cw_152 : lw_tbl[439]? = some (.code (q_mi 152).1 (q_mi 152).2.1 (q_mi 152).2.2.1 (q_mi 152).2.2.2.1) := by decide +kernel
set_option maxRecDepth 100000 in
theorem q_ok_153 : ∀ r ∈ q_p153, q_okr 153 r = true := List.all_eq_true.mp (by decide +kernel)
theorem q_cw_153 : lw_tbl[528]? = some (.code (q_mi 153).1 (q_mi 153).2.1 (q_mi 153).2.2.1 (q_mi 153).2.2.2.1) := by decide +kernel
set_option maxRecDepth 100000 in
theorem q_ok_154 : ∀ r ∈ q_p154, q_okr 154 r = true := List.all_eq_true.mp (by decide +kernel)
theorem q_cw_154 : lw_tbl[304]? = some (.code (q_mi 154).1 (q_mi 154).2.1 (q_mi 154).2.2.1 (q_mi 154).2.2.2.1) := by decide +kernel
set_option maxRecDepth 100000 in
theorem q_ok_155 : ∀ r ∈ q_p155, q_okr 155 r = true := List.all_eq_true.mp (by decide +kernel)
theorem q_cw_155 : lw_tbl[974]? = some (.code (q_mi 155).1 (q_mi 155).2.1 (q_mi 155).2.2.1 (q_mi 155).2.2.2.1) := by decide +kernel
set_option maxRecDepth 100000 in
theorem q_ok_156 : ∀ r ∈ q_p156, q_okr 156 r = true := List.all_eq_true.mp (by decide +kernel)
theorem q_cw_156 : lw_tbl[824]? = some (.code (q_mi 156).1 (q_mi 156).2.1 (q_mi 156).2.2.1 (q_mi 156).2.2.2.1) := by decide +kernel
set_option maxRecDepth 100000 in
theorem q_ok_157_0 : ∀ r ∈ (q_p157.drop 0).take 60, q_okr 157 r = true := List.all_eq_true.mp (by decide +kernel)
set_option maxRecDepth 100000 in
theorem q_ok_157_60 : ∀ r ∈ (q_p157.drop 60).take 60, q_okr 157 r = true := List.all_eq_true.mp (by decide +kernel)
set_option maxRecDepth 100000 in
theorem q_ok_157 : ∀ r ∈ q_p157, q_okr 157 r = true := by
  have e : q_p157 = (q_p157.drop 0).take 60 ++ (q_p157.drop 60).take 60 := by decide +kernel
  intro r h
  rw [e] at h
  simp only [List.mem_append] at h
  rcases h with h | h
  · exact q_ok_157_0 r h
  · exact q_ok_157_60 r h
theorem q_cw_157 : lw_tbl[678]? = some (.code (q_mi 157).1 (q_mi 157).2.1 (q_mi 157).2.2.1 (q_mi 157).2.2.2.1) := by decide +kernel
set_option maxRecDepth 100000 in
theorem q_ok_158 : ∀ r ∈ q_p158, q_okr 158 r = true := List.all_eq_true.mp (by decide +kernel)
theorem q_cw_158 : lw_tbl[472]? = some (.code (q_mi 158).1 (q_mi 158).2.1 (q_mi 158).2.2.1 (q_mi 158).2.2.2.1) := by decide +kernel
set_option maxRecDepth 100000 in
theorem q_ok_159 : ∀ r ∈ q_p159, q_okr 159 r = true := List.all_eq_true.mp (by decide +kernel)
theorem q_cw_159 : lw_tbl[954]? = some (.code (q_mi 159).1 (q_mi 159).2.1 (q_mi 159).2.2.1 (q_mi 159).2.2.2.1) := by decide +kernel
set_option maxRecDepth 100000 in
theorem q_ok_160 : ∀ r ∈ q_p160, q_okr 160 r = true := List.all_eq_true.mp (by decide +kernel)
theorem q_cw_160 : lw_tbl[674]? = some (.code (q_mi 160).1 (q_mi 160).2.1 (q_mi 160).2.2.1 (q_mi 160).2.2.2.1) := by decide +kernel
set_option maxRecDepth 100000 in
theorem q_ok_161 : ∀ r ∈ q_p161, q_okr 161 r = true := List.all_eq_true.mp (by decide +kernel)
theorem q_cw_161 : lw_tbl[711]? = some (.code (q_mi 161).1 (q_mi 161).2.1 (q_mi 161).2.2.1 (q_mi 161).2.2.2.1) := by decide +kernel
set_option maxRecDepth 100000 in
theorem q_ok_162 : ∀ r ∈ q_p162, q_okr 162 r = true := List.all_eq_true.mp (by decide +kernel)
theorem q_cw_162 : lw_tbl[950]? = some (.code (q_mi 162).1 (q_mi 162).2.1 (q_mi 162).2.2.1 (q_mi 162).2.2.2.1) := by decide +kernel
set_option maxRecDepth 100000 in
theorem q_ok_163 : ∀ r ∈ q_p163, q_okr 163 r = true := List.all_eq_true.mp (by decide +kernel)
theorem q_cw_163 : lw_tbl[978]? = some (.code (q_mi 163).1 (q_mi 163).2.1 (q_mi 163).2.2.1 (q_mi 163).2.2.2.1) := by decide +kernel
set_option maxRecDepth 100000 in
theorem q_ok_164_0 : ∀ r ∈ (q_p164.drop 0).take 60, q_okr 164 r = true := List.all_eq_true.mp (by decide +kernel)
set_option maxRecDepth 100000 in
theorem q_ok_164_60 : ∀ r ∈ (q_p164.drop 60).take 60, q_okr 164 r = true := List.all_eq_true.mp (by decide +kernel)
set_option maxRecDepth 100000 in
theorem q_ok_164_120 : ∀ r ∈ (q_p164.drop 120).take 60, q_okr 164 r = true := List.all_eq_true.mp (by decide +kernel)
set_option maxRecDepth 100000 in
theorem q_ok_164_180 : ∀ r ∈ (q_p164.drop 180).take 60, q_okr 164 r = true := List.all_eq_true.mp (by decide +kernel)
set_option maxRecDepth 100000 in
theorem q_ok_164_240 : ∀ r ∈ (q_p164.drop 240).take 60, q_okr 164 r = true := List.all_eq_true.mp (by decide +kernel)
set_option maxRecDepth 100000 in
theorem q_ok_164_300 : ∀ r ∈ (q_p164.drop 300).take 60, q_okr 164 r = true := List.all_eq_true.mp (by decide +kernel)
set_option maxRecDepth 100000 in
theorem q_ok_164_360 : ∀ r ∈ (q_p164.drop 360).take 60, q_okr 164 r = true := List.all_eq_true.mp (by decide +kernel)
set_option maxRecDepth 100000 in
theorem q_ok_164_420 : ∀ r ∈ (q_p164.drop 420).take 60, q_okr 164 r = true := List.all_eq_true.mp (by decide +kernel)
set_option maxRecDepth 100000 in
theorem q_ok_164_480 : ∀ r ∈ (q_p164.drop 480).take 60, q_okr 164 r = true := List.all_eq_true.mp (by decide +kernel)
set_option maxRecDepth 100000 in
theorem q_ok_164_540 : ∀ r ∈ (q_p164.drop 540).take 60, q_okr 164 r = true := List.all_eq_true.mp (by decide +kernel)
set_option maxRecDepth 100000 in
theorem q_ok_164 : ∀ r ∈ q_p164, q_okr 164 r = true := by
  have e : q_p164 = (q_p164.drop 0).take 60 ++ ((q_p164.drop 60).take 60 ++ ((q_p164.drop 120).take 60 ++ ((q_p164.drop 180).take 60 ++ ((q_p164.drop 240).take 60 ++ ((q_p164.drop 300).take 60 ++ ((q_p164.drop 360).take 60 ++ ((q_p164.drop 420).take 60 ++ ((q_p164.drop 480).take 60 ++ (q_p164.drop 540).take 60)))))))) := by decide +kernel
  intro r h
  rw [e] at h
  simp only [List.mem_append] at h
  rcases h with h | h | h | h | h | h | h | h | h | h
  · exact q_ok_164_0 r h
  · exact q_ok_164_60 r h
  · exact q_ok_164_120 r h
  · exact q_ok_164_180 r h
  · exact q_ok_164_240 r h
  · exact q_ok_164_300 r h
  · exact q_ok_164_360 r h
  · exact q_ok_164_420 r h
  · exact q_ok_164_480 r h
  · exact q_ok_164_540 r h
end
section
theorem q_ka0 : ∀ i, i < 20 → ∀ r ∈ q_tab (20 * 0 + i), q_okr (20 * 0 + i) r = true := by
  intro i hi
  match i, hi with
  | 0, _ => exact q_ok_0
  | 1, _ => exact q_ok_1
  | 2, _ => exact q_ok_2
  | 3, _ => exact q_ok_3
  | 4, _ => exact q_ok_4
  | 5, _ => exact q_ok_5
  | 6, _ => exact q_ok_6
  | 7, _ => exact q_ok_7
  | 8, _ => exact q_ok_8
  | 9, _ => exact q_ok_9
  | 10, _ => exact q_ok_10
  | 11, _ => exact q_ok_11
  | 12, _ => exact q_ok_12
  | 13, _ => exact q_ok_13
  | 14, _ => exact q_ok_14
  | 15, _ => exact q_ok_15
  | 16, _ => exact q_ok_16
  | 17, _ => exact q_ok_17
  | 18, _ => exact q_ok_18
  | 19, _ => exact q_ok_19
  | i + 20, h => exact absurd h (by omega)
theorem q_ka1 : ∀ i, i < 20 → ∀ r ∈ q_tab (20 * 1 + i), q_okr (20 * 1 + i) r = true := by
  intro i hi
  match i, hi with
  | 0, _ => exact q_ok_20
  | 1, _ => exact q_ok_21
  | 2, _ => exact q_ok_22
  | 3, _ => exact q_ok_23
  | 4, _ => exact q_ok_24
  | 5, _ => exact q_ok_25
  | 6, _ => exact q_ok_26
  | 7, _ => exact q_ok_27
  | 8, _ => exact q_ok_28
  | 9, _ => exact q_ok_29
  | 10, _ => exact q_ok_30
  | 11, _ => exact q_ok_31
  | 12, _ => exact q_ok_32
  | 13, _ => exact q_ok_33
  | 14, _ => exact q_ok_34
  | 15, _ => exact q_ok_35
  | 16, _ => exact q_ok_36
  | 17, _ => exact q_ok_37
  | 18, _ => exact q_ok_38
  | 19, _ => exact q_ok_39
  | i + 20, h => exact absurd h (by omega)
theorem q_ka2 : ∀ i, i < 20 → ∀ r ∈ q_tab (20 * 2 + i), q_okr (20 * 2 + i) r = true := by
  intro i hi
  match i, hi with
  | 0, _ => exact q_ok_40
  | 1, _ => exact q_ok_41
  | 2, _ => exact q_ok_42
  | 3, _ => exact q_ok_43
  | 4, _ => exact q_ok_44
  | 5, _ => exact q_ok_45
  | 6, _ => exact q_ok_46
  | 7, _ => exact q_ok_47
  | 8, _ => exact q_ok_48
  | 9, _ => exact q_ok_49
  | 10, _ => exact q_ok_50
  | 11, _ => exact q_ok_51
  | 12, _ => exact q_ok_52
  | 13, _ => exact q_ok_53
  | 14, _ => exact q_ok_54
  | 15, _ => exact q_ok_55
  | 16, _ => exact q_ok_56
  | 17, _ => exact q_ok_57
  | 18, _ => exact q_ok_58
  | 19, _ => exact q_ok_59
  | i + 20, h => exact absurd h (by omega)
theorem q_ka3 : ∀ i, i < 20 → ∀ r ∈ q_tab (20 * 3 + i), q_okr (20 * 3 + i) r = true := by
  intro i hi
  match i, hi with
  | 0, _ => exact q_ok_60
  | 1, _ => exact q_ok_61
  | 2, _ => exact q_ok_62
  | 3, _ => exact q_ok_63
  | 4, _ => exact q_ok_64
  | 5, _ => exact q_ok_65
  | 6, _ => exact q_ok_66
  | 7, _ => exact q_ok_67
  | 8, _ => exact q_ok_68
  | 9, _ => exact q_ok_69
  | 10, _ => exact q_ok_70
  | 11, _ => exact q_ok_71
  | 12, _ => exact q_ok_72
  | 13, _ => exact q_ok_73
  | 14, _ => exact q_ok_74
  | 15, _ => exact q_ok_75
  | 16, _ => exact q_ok_76
  | 17, _ => exact q_ok_77
  | 18, _ => exact q_ok_78
  | 19, _ => exact q_ok_79
  | i + 20, h => exact absurd h (by omega)
theorem q_ka4 : ∀ i, i < 20 → ∀ r ∈ q_tab (20 * 4 + i), q_okr (20 * 4 + i) r = true := by
  intro i hi
  match i, hi with
  | 0, _ => exact q_ok_80
  | 1, _ => exact q_ok_81
  | 2, _ => exact q_ok_82
  | 3, _ => exact q_ok_83
  | 4, _ => exact q_ok_84
  | 5, _ => exact q_ok_85
  | 6, _ => exact q_ok_86
  | 7, _ => exact q_ok_87
  | 8, _ => exact q_ok_88
  | 9, _ => exact q_ok_89
  | 10, _ => exact q_ok_90
  | 11, _ => exact q_ok_91
  | 12, _ => exact q_ok_92
  | 13, _ => exact q_ok_93
  | 14, _ => exact q_ok_94
  | 15, _ => exact q_ok_95
  | 16, _ => exact q_ok_96
  | 17, _ => exact q_ok_97
  | 18, _ => exact q_ok_98
  | 19, _ => exact q_ok_99
  | i + 20, h => exact absurd h (by omega)
theorem q_ka5 : ∀ i, i < 20 → ∀ r ∈ q_tab (20 * 5 + i), q_okr (20 * 5 + i) r = true := by
  intro i hi
  match i, hi with
  | 0, _ => exact q_ok_100
  | 1, _ => exact q_ok_101
  | 2, _ => exact q_ok_102
  | 3, _ => exact q_ok_103
  | 4, _ => exact q_ok_104
  | 5, _ => exact q_ok_105
  | 6, _ => exact q_ok_106
  | 7, _ => exact q_ok_107
  | 8, _ => exact q_ok_108
  | 9, _ => exact q_ok_109
  | 10, _ => exact q_ok_110
  | 11, _ => exact q_ok_111
  | 12, _ => exact q_ok_112
  | 13, _ => exact q_ok_113
  | 14, _ => exact q_ok_114
  | 15, _ => exact q_ok_115
  | 16, _ => exact q_ok_116
  | 17, _ => exact q_ok_117
  | 18, _ => exact q_ok_118
  | 19, _ => exact q_ok_119
  | i + 20, h => exact absurd h (by omega)
theorem q_ka6 : ∀ i, i < 20 → ∀ r ∈ q_tab (20 * 6 + i), q_okr (20 * 6 + i) r = true := by
  intro i hi
  match i, hi with
  | 0, _ => exact q_ok_120
  | 1, _ => exact q_ok_121
  | 2, _ => exact q_ok_122
  | 3, _ => exact q_ok_123
  | 4, _ => exact q_ok_124
  | 5, _ => exact q_ok_125
  | 6, _ => exact q_ok_126
  | 7, _ => exact q_ok_127
  | 8, _ => exact q_ok_128
  | 9, _ => exact q_ok_129
  | 10, _ => exact q_ok_130
  | 11, _ => exact q_ok_131
  | 12, _ => exact q_ok_132
  | 13, _ => exact q_ok_133
  | 14, _ => exact q_ok_134
  | 15, _ => exact q_ok_135
  | 16, _ => exact q_ok_136
  | 17, _ => exact q_ok_137
  | 18, _ => exact q_ok_138
  | 19, _ => exact q_ok_139
  | i + 20, h => exact absurd h (by omega)
theorem q_ka7 : ∀ i, i < 20 → ∀ r ∈ q_tab (20 * 7 + i), q_okr (20 * 7 + i) r = true := by
  intro i hi
  match i, hi with
  | 0, _ => exact q_ok_140
  | 1, _ => exact q_ok_141
  | 2, _ => exact q_ok_142
  | 3, _ => exact q_ok_143
  | 4, _ => exact q_ok_144
  | 5, _ => exact q_ok_145
  | 6, _ => exact q_ok_146
  | 7, _ => exact q_ok_147
  | 8, _ => exact q_ok_148
  | 9, _ => exact q_ok_149
  | 10, _ => exact q_ok_150
  | 11, _ => exact q_ok_151
  | 12, _ => exact q_ok_152
  | 13, _ => exact q_ok_153
  | 14, _ => exact q_ok_154
  | 15, _ => exact q_ok_155
  | 16, _ => exact q_ok_156
  | 17, _ => exact q_ok_157
  | 18, _ => exact q_ok_158
  | 19, _ => exact q_ok_159
  | i + 20, h => exact absurd h (by omega)
theorem q_ka8 : ∀ i, i < 20 → ∀ r ∈ q_tab (20 * 8 + i), q_okr (20 * 8 + i) r = true := by
  intro i hi
  match i, hi with
  | 0, _ => exact q_ok_160
  | 1, _ => exact q_ok_161
  | 2, _ => exact q_ok_162
  | 3, _ => exact q_ok_163
  | 4, _ => exact q_ok_164
  | i + 5, _ => exact fun r h => absurd h (by
    have e : q_tab (20 * 8 + (i + 5)) = [] := by
      unfold q_tab
      rw [show (20 * 8 + (i + 5)) / 20 = 8 by omega, show (20 * 8 + (i + 5)) % 20 = i + 5 by omega]
      rfl
    rw [e]
    exact List.not_mem_nil)
theorem q_okf {k pc : Nat} {r : q_R} (h : q_P k pc = some r) : r.1 = pc ∧ q_okr k r = true := by
  unfold q_P at h
  refine ⟨by have := List.find?_some h; simpa using this, ?_⟩
  have hm : r ∈ q_tab k := List.mem_of_find?_eq_some h
  by_cases hk : k / 20 < 9
  · have key : ∀ j, (∀ i, i < 20 → ∀ r ∈ q_tab (20 * j + i), q_okr (20 * j + i) r = true) → k / 20 = j → q_okr k r = true := by
      intro j hj e
      have h1 := hj (k % 20) (by omega)
      rw [show 20 * j + k % 20 = k by omega] at h1
      exact h1 r hm
    have : k / 20 = 0 ∨ k / 20 = 1 ∨ k / 20 = 2 ∨ k / 20 = 3 ∨ k / 20 = 4 ∨ k / 20 = 5 ∨ k / 20 = 6 ∨ k / 20 = 7 ∨ k / 20 = 8 := by omega
    rcases this with e | e | e | e | e | e | e | e | e
    · exact key 0 q_ka0 e
    · exact key 1 q_ka1 e
    · exact key 2 q_ka2 e
    · exact key 3 q_ka3 e
    · exact key 4 q_ka4 e
    · exact key 5 q_ka5 e
    · exact key 6 q_ka6 e
    · exact key 7 q_ka7 e
    · exact key 8 q_ka8 e
  · exfalso
    unfold q_tab at hm
    split at hm <;> first | omega | exact List.not_mem_nil hm
theorem q_pf0 : ∀ i, i < 20 → plainFor (q_mi (20 * 0 + i)).1 = true ∧ (q_mi (20 * 0 + i)).2.2.1 ≤ 18 := by decide +kernel
theorem q_cd0 : ∀ i, i < 20 → Cond.code (q_mi (20 * 0 + i)).1 (q_mi (20 * 0 + i)).2.1 (q_mi (20 * 0 + i)).2.2.1 (q_mi (20 * 0 + i)).2.2.2.1 ∈ lw_tbl := by
  intro i hi
  match i, hi with
  | 0, _ => exact List.mem_of_getElem? q_cw_0
  | 1, _ => exact List.mem_of_getElem? q_cw_1
  | 2, _ => exact List.mem_of_getElem? q_cw_2
  | 3, _ => exact List.mem_of_getElem? q_cw_3
  | 4, _ => exact List.mem_of_getElem? q_cw_4
  | 5, _ => exact List.mem_of_getElem? q_cw_5
  | 6, _ => exact List.mem_of_getElem? q_cw_6
  | 7, _ => exact List.mem_of_getElem? q_cw_7
  | 8, _ => exact List.mem_of_getElem? q_cw_8
  | 9, _ => exact List.mem_of_getElem? q_cw_9
  | 10, _ => exact List.mem_of_getElem? q_cw_10
  | 11, _ => exact List.mem_of_getElem? q_cw_11
  | 12, _ => exact List.mem_of_getElem? q_cw_12
  | 13, _ => exact List.mem_of_getElem? q_cw_13
  | 14, _ => exact List.mem_of_getElem? q_cw_14
  | 15, _ => exact List.mem_of_getElem? q_cw_15
  | 16, _ => exact List.mem_of_getElem? q_cw_16
  | 17, _ => exact List.mem_of_getElem? q_cw_17
  | 18, _ => exact List.mem_of_getElem? q_cw_18
  | 19, _ => exact List.mem_of_getElem? q_cw_19
  | i + 20, h => exact absurd h (by omega)
theorem q_pf1 : ∀ i, i < 20 → plainFor (q_mi (20 * 1 + i)).1 = true ∧ (q_mi (20 * 1 + i)).2.2.1 ≤ 18 := by decide +kernel
theorem q_cd1 : ∀ i, i < 20 → Cond.code (q_mi (20 * 1 + i)).1 (q_mi (20 * 1 + i)).2.1 (q_mi (20 * 1 + i)).2.2.1 (q_mi (20 * 1 + i)).2.2.2.1 ∈ lw_tbl := by
  intro i hi
  match i, hi with
  | 0, _ => exact List.mem_of_getElem? q_cw_20
  | 1, _ => exact List.mem_of_getElem? q_cw_21
  | 2, _ => exact List.mem_of_getElem? q_cw_22
  | 3, _ => exact List.mem_of_getElem? q_cw_23
  | 4, _ => exact List.mem_of_getElem? q_cw_24
  | 5, _ => exact List.mem_of_getElem? q_cw_25
  | 6, _ => exact List.mem_of_getElem? q_cw_26
  | 7, _ => exact List.mem_of_getElem? q_cw_27
  | 8, _ => exact List.mem_of_getElem? q_cw_28
  | 9, _ => exact List.mem_of_getElem? q_cw_29
  | 10, _ => exact List.mem_of_getElem? q_cw_30
  | 11, _ => exact List.mem_of_getElem? q_cw_31
  | 12, _ => exact List.mem_of_getElem? q_cw_32
  | 13, _ => exact List.mem_of_getElem? q_cw_33
  | 14, _ => exact List.mem_of_getElem? q_cw_34
  | 15, _ => exact List.mem_of_getElem? q_cw_35
  | 16, _ => exact List.mem_of_getElem? q_cw_36
  | 17, _ => exact List.mem_of_getElem? q_cw_37
  | 18, _ => exact List.mem_of_getElem? q_cw_38
  | 19, _ => exact List.mem_of_getElem? q_cw_39
  | i + 20, h => exact absurd h (by omega)
theorem q_pf2 : ∀ i, i < 20 → plainFor (q_mi (20 * 2 + i)).1 = true ∧ (q_mi (20 * 2 + i)).2.2.1 ≤ 18 := by decide +kernel
theorem q_cd2 : ∀ i, i < 20 → Cond.code (q_mi (20 * 2 + i)).1 (q_mi (20 * 2 + i)).2.1 (q_mi (20 * 2 + i)).2.2.1 (q_mi (20 * 2 + i)).2.2.2.1 ∈ lw_tbl := by
  intro i hi
  match i, hi with
  | 0, _ => exact List.mem_of_getElem? q_cw_40
  | 1, _ => exact List.mem_of_getElem? q_cw_41
  | 2, _ => exact List.mem_of_getElem? q_cw_42
  | 3, _ => exact List.mem_of_getElem? q_cw_43
  | 4, _ => exact List.mem_of_getElem? q_cw_44
  | 5, _ => exact List.mem_of_getElem? q_cw_45
  | 6, _ => exact List.mem_of_getElem? q_cw_46
  | 7, _ => exact List.mem_of_getElem? q_cw_47
  | 8, _ => exact List.mem_of_getElem? q_cw_48
  | 9, _ => exact List.mem_of_getElem? q_cw_49
  | 10, _ => exact List.mem_of_getElem? q_cw_50
  | 11, _ => exact List.mem_of_getElem? q_cw_51
  | 12, _ => exact List.mem_of_getElem? q_cw_52
  | 13, _ => exact List.mem_of_getElem? q_cw_53
  | 14, _ => exact List.mem_of_getElem? q_cw_54
  | 15, _ => exact List.mem_of_getElem? q_cw_55
  | 16, _ => exact List.mem_of_getElem? q_cw_56
  | 17, _ => exact List.mem_of_getElem? q_cw_57
  | 18, _ => exact List.mem_of_getElem? q_cw_58
  | 19, _ => exact List.mem_of_getElem? q_cw_59
  | i + 20, h => exact absurd h (by omega)
theorem q_pf3 : ∀ i, i < 20 → plainFor (q_mi (20 * 3 + i)).1 = true ∧ (q_mi (20 * 3 + i)).2.2.1 ≤ 18 := by decide +kernel
theorem q_cd3 : ∀ i, i < 20 → Cond.code (q_mi (20 * 3 + i)).1 (q_mi (20 * 3 + i)).2.1 (q_mi (20 * 3 + i)).2.2.1 (q_mi (20 * 3 + i)).2.2.2.1 ∈ lw_tbl := by
  intro i hi
  match i, hi with
  | 0, _ => exact List.mem_of_getElem? q_cw_60
  | 1, _ => exact List.mem_of_getElem? q_cw_61
  | 2, _ => exact List.mem_of_getElem? q_cw_62
  | 3, _ => exact List.mem_of_getElem? q_cw_63
  | 4, _ => exact List.mem_of_getElem? q_cw_64
  | 5, _ => exact List.mem_of_getElem? q_cw_65
  | 6, _ => exact List.mem_of_getElem? q_cw_66
  | 7, _ => exact List.mem_of_getElem? q_cw_67
  | 8, _ => exact List.mem_of_getElem? q_cw_68
  | 9, _ => exact List.mem_of_getElem? q_cw_69
  | 10, _ => exact List.mem_of_getElem? q_cw_70
  | 11, _ => exact List.mem_of_getElem? q_cw_71
  | 12, _ => exact List.mem_of_getElem? q_cw_72
  | 13, _ => exact List.mem_of_getElem? q_cw_73
  | 14, _ => exact List.mem_of_getElem? q_cw_74
  | 15, _ => exact List.mem_of_getElem? q_cw_75
  | 16, _ => exact List.mem_of_getElem? q_cw_76
  | 17, _ => exact List.mem_of_getElem? q_cw_77
  | 18, _ => exact List.mem_of_getElem? q_cw_78
  | 19, _ => exact List.mem_of_getElem? q_cw_79
  | i + 20, h => exact absurd h (by omega)
theorem q_pf4 : ∀ i, i < 20 → plainFor (q_mi (20 * 4 + i)).1 = true ∧ (q_mi (20 * 4 + i)).2.2.1 ≤ 18 := by decide +kernel
theorem q_cd4 : ∀ i, i < 20 → Cond.code (q_mi (20 * 4 + i)).1 (q_mi (20 * 4 + i)).2.1 (q_mi (20 * 4 + i)).2.2.1 (q_mi (20 * 4 + i)).2.2.2.1 ∈ lw_tbl := by
  intro i hi
  match i, hi with
  | 0, _ => exact List.mem_of_getElem? q_cw_80
  | 1, _ => exact List.mem_of_getElem? q_cw_81
  | 2, _ => exact List.mem_of_getElem? q_cw_82
  | 3, _ => exact List.mem_of_getElem? q_cw_83
  | 4, _ => exact List.mem_of_getElem? q_cw_84
  | 5, _ => exact List.mem_of_getElem? q_cw_85
  | 6, _ => exact List.mem_of_getElem? q_cw_86
  | 7, _ => exact List.mem_of_getElem? q_cw_87
  | 8, _ => exact List.mem_of_getElem? q_cw_88
  | 9, _ => exact List.mem_of_getElem? q_cw_89
  | 10, _ => exact List.mem_of_getElem? q_cw_90
  | 11, _ => exact List.mem_of_getElem? q_cw_91
  | 12, _ => exact List.mem_of_getElem? q_cw_92
  | 13, _ => exact List.mem_of_getElem? q_cw_93
  | 14, _ => exact List.mem_of_getElem? q_cw_94
  | 15, _ => exact List.mem_of_getElem? q_cw_95
  | 16, _ => exact List.mem_of_getElem? q_cw_96
  | 17, _ => exact List.mem_of_getElem? q_cw_97
  | 18, _ => exact List.mem_of_getElem? q_cw_98
  | 19, _ => exact List.mem_of_getElem? q_cw_99
  | i + 20, h => exact absurd h (by omega)
theorem q_pf5 : ∀ i, i < 20 → plainFor (q_mi (20 * 5 + i)).1 = true ∧ (q_mi (20 * 5 + i)).2.2.1 ≤ 18 := by decide +kernel
theorem q_cd5 : ∀ i, i < 20 → Cond.code (q_mi (20 * 5 + i)).1 (q_mi (20 * 5 + i)).2.1 (q_mi (20 * 5 + i)).2.2.1 (q_mi (20 * 5 + i)).2.2.2.1 ∈ lw_tbl := by
  intro i hi
  match i, hi with
  | 0, _ => exact List.mem_of_getElem? q_cw_100
  | 1, _ => exact List.mem_of_getElem? q_cw_101
  | 2, _ => exact List.mem_of_getElem? q_cw_102
  | 3, _ => exact List.mem_of_getElem? q_cw_103
  | 4, _ => exact List.mem_of_getElem? q_cw_104
  | 5, _ => exact List.mem_of_getElem? q_cw_105
  | 6, _ => exact List.mem_of_getElem? q_cw_106
  | 7, _ => exact List.mem_of_getElem? q_cw_107
  | 8, _ => exact List.mem_of_getElem? q_cw_108
  | 9, _ => exact List.mem_of_getElem? q_cw_109
  | 10, _ => exact List.mem_of_getElem? q_cw_110
  | 11, _ => exact List.mem_of_getElem? q_cw_111
  | 12, _ => exact List.mem_of_getElem? q_cw_112
  | 13, _ => exact List.mem_of_getElem? q_cw_113
  | 14, _ => exact List.mem_of_getElem? q_cw_114
  | 15, _ => exact List.mem_of_getElem? q_cw_115
  | 16, _ => exact List.mem_of_getElem? q_cw_116
  | 17, _ => exact List.mem_of_getElem? q_cw_117
  | 18, _ => exact List.mem_of_getElem? q_cw_118
  | 19, _ => exact List.mem_of_getElem? q_cw_119
  | i + 20, h => exact absurd h (by omega)
theorem q_pf6 : ∀ i, i < 20 → plainFor (q_mi (20 * 6 + i)).1 = true ∧ (q_mi (20 * 6 + i)).2.2.1 ≤ 18 := by decide +kernel
theorem q_cd6 : ∀ i, i < 20 → Cond.code (q_mi (20 * 6 + i)).1 (q_mi (20 * 6 + i)).2.1 (q_mi (20 * 6 + i)).2.2.1 (q_mi (20 * 6 + i)).2.2.2.1 ∈ lw_tbl := by
  intro i hi
  match i, hi with
  | 0, _ => exact List.mem_of_getElem? q_cw_120
  | 1, _ => exact List.mem_of_getElem? q_cw_121
  | 2, _ => exact List.mem_of_getElem? q_cw_122
  | 3, _ => exact List.mem_of_getElem? q_cw_123
  | 4, _ => exact List.mem_of_getElem? q_cw_124
  | 5, _ => exact List.mem_of_getElem? q_cw_125
  | 6, _ => exact List.mem_of_getElem? q_cw_126
  | 7, _ => exact List.mem_of_getElem? q_cw_127
  | 8, _ => exact List.mem_of_getElem? q_cw_128
  | 9, _ => exact List.mem_of_getElem? q_cw_129
  | 10, _ => exact List.mem_of_getElem? q_cw_130
  | 11, _ => exact List.mem_of_getElem? q_cw_131
  | 12, _ => exact List.mem_of_getElem? q_cw_132
  | 13, _ => exact List.mem_of_getElem? q_cw_133
  | 14, _ => exact List.mem_of_getElem? q_cw_134
  | 15, _ => exact List.mem_of_getElem? q_cw_135
  | 16, _ => exact List.mem_of_getElem? q_cw_136
  | 17, _ => exact List.mem_of_getElem? q_cw_137
  | 18, _ => exact List.mem_of_getElem? q_cw_138
  | 19, _ => exact List.mem_of_getElem? q_cw_139
  | i + 20, h => exact absurd h (by omega)
theorem q_pf7 : ∀ i, i < 20 → plainFor (q_mi (20 * 7 + i)).1 = true ∧ (q_mi (20 * 7 + i)).2.2.1 ≤ 18 := by decide +kernel
theorem q_cd7 : ∀ i, i < 20 → Cond.code (q_mi (20 * 7 + i)).1 (q_mi (20 * 7 + i)).2.1 (q_mi (20 * 7 + i)).2.2.1 (q_mi (20 * 7 + i)).2.2.2.1 ∈ lw_tbl := by
  intro i hi
  match i, hi with
  | 0, _ => exact List.mem_of_getElem? q_cw_140
  | 1, _ => exact List.mem_of_getElem? q_cw_141
  | 2, _ => exact List.mem_of_getElem? q_cw_142
  | 3, _ => exact List.mem_of_getElem? q_cw_143
  | 4, _ => exact List.mem_of_getElem? q_cw_144
  | 5, _ => exact List.mem_of_getElem? q_cw_145
  | 6, _ => exact List.mem_of_getElem? q_cw_146
  | 7, _ => exact List.mem_of_getElem? q_cw_147
  | 8, _ => exact List.mem_of_getElem? q_cw_148
  | 9, _ => exact List.mem_of_getElem? q_cw_149
  | 10, _ => exact List.mem_of_getElem? q_cw_150
  | 11, _ => exact List.mem_of_getElem? q_cw_151
  | 12, _ => exact List.mem_of_getElem? q_cw_152
  | 13, _ => exact List.mem_of_getElem? q_cw_153
  | 14, _ => exact List.mem_of_getElem? q_cw_154
  | 15, _ => exact List.mem_of_getElem? q_cw_155
  | 16, _ => exact List.mem_of_getElem? q_cw_156
  | 17, _ => exact List.mem_of_getElem? q_cw_157
  | 18, _ => exact List.mem_of_getElem? q_cw_158
  | 19, _ => exact List.mem_of_getElem? q_cw_159
  | i + 20, h => exact absurd h (by omega)
theorem q_pf8 : ∀ i, i < 4 → plainFor (q_mi (20 * 8 + i)).1 = true ∧ (q_mi (20 * 8 + i)).2.2.1 ≤ 18 := by decide +kernel
theorem q_cd8 : ∀ i, i < 4 → Cond.code (q_mi (20 * 8 + i)).1 (q_mi (20 * 8 + i)).2.1 (q_mi (20 * 8 + i)).2.2.1 (q_mi (20 * 8 + i)).2.2.2.1 ∈ lw_tbl := by
  intro i hi
  match i, hi with
  | 0, _ => exact List.mem_of_getElem? q_cw_160
  | 1, _ => exact List.mem_of_getElem? q_cw_161
  | 2, _ => exact List.mem_of_getElem? q_cw_162
  | 3, _ => exact List.mem_of_getElem? q_cw_163
  | i + 4, h => exact absurd h (by omega)
theorem q_mif {k : Nat} (h : k < 164) : plainFor (q_mi k).1 = true ∧ (q_mi k).2.2.1 ≤ 18 ∧ Cond.code (q_mi k).1 (q_mi k).2.1 (q_mi k).2.2.1 (q_mi k).2.2.2.1 ∈ q_LW := by
  have key : ∀ j n, (∀ i, i < n → plainFor (q_mi (20 * j + i)).1 = true ∧ (q_mi (20 * j + i)).2.2.1 ≤ 18) → (∀ i, i < n → Cond.code (q_mi (20 * j + i)).1 (q_mi (20 * j + i)).2.1 (q_mi (20 * j + i)).2.2.1 (q_mi (20 * j + i)).2.2.2.1 ∈ lw_tbl) → k / 20 = j → k % 20 < n → plainFor (q_mi k).1 = true ∧ (q_mi k).2.2.1 ≤ 18 ∧ Cond.code (q_mi k).1 (q_mi k).2.1 (q_mi k).2.2.1 (q_mi k).2.2.2.1 ∈ q_LW := by
    intro j n h1 h2 e hn
    have a1 := h1 _ hn
    have a2 := h2 _ hn
    rw [show 20 * j + k % 20 = k by omega] at a1 a2
    exact ⟨a1.1, a1.2, List.mem_filter.mpr ⟨a2, rfl⟩⟩
  have : k / 20 = 0 ∨ k / 20 = 1 ∨ k / 20 = 2 ∨ k / 20 = 3 ∨ k / 20 = 4 ∨ k / 20 = 5 ∨ k / 20 = 6 ∨ k / 20 = 7 ∨ k / 20 = 8 := by omega
  rcases this with e | e | e | e | e | e | e | e | e
  · exact key 0 20 q_pf0 q_cd0 e (by omega)
  · exact key 1 20 q_pf1 q_cd1 e (by omega)
  · exact key 2 20 q_pf2 q_cd2 e (by omega)
  · exact key 3 20 q_pf3 q_cd3 e (by omega)
  · exact key 4 20 q_pf4 q_cd4 e (by omega)
  · exact key 5 20 q_pf5 q_cd5 e (by omega)
  · exact key 6 20 q_pf6 q_cd6 e (by omega)
  · exact key 7 20 q_pf7 q_cd7 e (by omega)
  · exact key 8 4 q_pf8 q_cd8 e (by omega)
end
section
/-! A SMALL MACHINE of our own over numbered objects: q_run. Its heap: how many objects there are (1 the script, 2 the static row, 3 .. the new ones), how many slots they take, each object's kind and length,
what its reference fields refer to (0: null), and its numbers. Kinds: 1 a row that is only read, 2 an int row, 3 a char row, 4 + c an object of class c. -/
abbrev q_E : Type := Nat × Nat × (Nat → Nat × Nat) × (Nat → Nat → Nat)
abbrev q_G : Type := Nat → Nat → Int32
abbrev q_O : Type := Nat × List Value × List Value × q_E × q_G
def q_kd (E : q_E) (a : Nat) : Nat × Nat := E.2.2.1 a
def q_rf (E : q_E) (a k : Nat) : Nat := E.2.2.2 a k
def q_upA (g : q_G) (a : Nat) (f : Nat → Int32) : q_G := fun b => if b = a then f else g b
def q_up (g : q_G) (a i : Nat) (v : Int32) : q_G := q_upA g a (upd (g a) i v)
def q_setR (E : q_E) (a k v : Nat) : q_E := (E.1, E.2.1, E.2.2.1, fun b j => if b = a ∧ j = k then v else E.2.2.2 b j)
def q_new (E : q_E) (t n : Nat) : q_E := (E.1 + 1, E.2.1 + n, fun b => if b = E.1 then (t, n) else E.2.2.1 b, fun b j => if b = E.1 then 0 else E.2.2.2 b j)
def q_pI {β : Type} (S : List Value) (f : Int32 → List Value → Option β) : Option β := match S with
  | .int x :: t => f x t
  | _ => none
def q_pF {β : Type} (S : List Value) (f : UInt32 → List Value → Option β) : Option β := match S with
  | .float x :: t => f x t
  | _ => none
def q_pR {β : Type} (S : List Value) (f : Nat → List Value → Option β) : Option β := match S with
  | .ref x :: t => f x t
  | _ => none
def q_lI {β : Type} (L : List Value) (i : Nat) (f : Int32 → Option β) : Option β := match L[i]? with
  | some (.int x) => f x
  | _ => none
def q_lF {β : Type} (L : List Value) (i : Nat) (f : UInt32 → Option β) : Option β := match L[i]? with
  | some (.float x) => f x
  | _ => none
def q_lR {β : Type} (L : List Value) (i : Nat) (f : Nat → Option β) : Option β := match L[i]? with
  | some (.ref x) => f x
  | _ => none
def q_st (L : List Value) (i : Nat) (v : Value) (f : List Value → Option q_O) : Option q_O := if i < L.length then f (L.set i v) else none
def q_j (pc : Nat) (off : Int) : Nat := ((pc : Int) + off).toNat
def q_c (c : Jvm.ClassFile.Cond) (x y : Int32) : Bool := match c with
  | .eq => decide (x = y)
  | .ne => !decide (x = y)
  | .lt => decide (x < y)
  | .ge => decide (y ≤ x)
  | .gt => decide (y < x)
  | .le => decide (x ≤ y)
def q_sw (pc : Nat) (x : Int32) (dflt lo hi : Int) (offs : Array Int) : Option Nat :=
  if x.toInt < lo ∨ hi < x.toInt then some (q_j pc dflt) else (offs[(x.toInt - lo).toNat]?).map (q_j pc)
def q_stp (r : q_R) (L S : List Value) (E : q_E) (g : q_G) : Option q_O := match r.2.1 with
  | .iconst i => some (r.1 + 1, L, .int (Int32.ofInt i) :: S, E, g)
  | .bipush i => some (r.1 + 2, L, .int (Int8.ofInt i).toInt32 :: S, E, g)
  | .sipush i => some (r.1 + 3, L, .int (Int16.ofInt i).toInt32 :: S, E, g)
  | .ldc _ => if r.2.2.2.1.getD 0 0 = 0 then some (r.1 + 2, L, .int (Int32.ofInt r.2.2.2.2) :: S, E, g) else some (r.1 + 2, L, .float (UInt32.ofNat r.2.2.2.2.toNat) :: S, E, g)
  | .ldc_w _ => some (r.1 + 3, L, .float (UInt32.ofNat r.2.2.2.2.toNat) :: S, E, g)
  | .fconst k => some (r.1 + 1, L, .float (match k with | 0 => FP.fconst0 | 1 => FP.fconst1 | 2 => FP.fconst2) :: S, E, g)
  | .iload i => q_lI L i fun x => some (r.1 + 2, L, .int x :: S, E, g)
  | .iload_n i => q_lI L i fun x => some (r.1 + 1, L, .int x :: S, E, g)
  | .fload i => q_lF L i fun x => some (r.1 + 2, L, .float x :: S, E, g)
  | .fload_n i => q_lF L i fun x => some (r.1 + 1, L, .float x :: S, E, g)
  | .aload_n i => q_lR L i fun x => some (r.1 + 1, L, .ref x :: S, E, g)
  | .istore i => q_pI S fun x t => q_st L i (.int x) fun L' => some (r.1 + 2, L', t, E, g)
  | .istore_n i => q_pI S fun x t => q_st L i (.int x) fun L' => some (r.1 + 1, L', t, E, g)
  | .fstore i => q_pF S fun x t => q_st L i (.float x) fun L' => some (r.1 + 2, L', t, E, g)
  | .fstore_n i => q_pF S fun x t => q_st L i (.float x) fun L' => some (r.1 + 1, L', t, E, g)
  | .astore_n i => q_pR S fun x t => q_st L i (.ref x) fun L' => some (r.1 + 1, L', t, E, g)
  | .iinc i n => q_lI L i fun x => q_st L i (.int (x + Int32.ofInt n)) fun L' => some (r.1 + 3, L', S, E, g)
  | .dup => match S with
    | v :: t => if v.category = 1 then some (r.1 + 1, L, v :: v :: t, E, g) else none
    | _ => none
  | .dup2 => match S with
    | v :: w :: t => if v.category = 1 ∧ w.category = 1 then some (r.1 + 1, L, v :: w :: v :: w :: t, E, g) else none
    | _ => none
  | .iadd => q_pI S fun y t => q_pI t fun x t => some (r.1 + 1, L, .int (x + y) :: t, E, g)
  | .isub => q_pI S fun y t => q_pI t fun x t => some (r.1 + 1, L, .int (x - y) :: t, E, g)
  | .imul => q_pI S fun y t => q_pI t fun x t => some (r.1 + 1, L, .int (x * y) :: t, E, g)
  | .idiv => q_pI S fun y t => q_pI t fun x t => if y = 0 then none else some (r.1 + 1, L, .int (x / y) :: t, E, g)
  | .irem => q_pI S fun y t => q_pI t fun x t => if y = 0 then none else some (r.1 + 1, L, .int (x - x / y * y) :: t, E, g)
  | .ineg => q_pI S fun x t => some (r.1 + 1, L, .int (-x) :: t, E, g)
  | .iand => q_pI S fun y t => q_pI t fun x t => some (r.1 + 1, L, .int (x &&& y) :: t, E, g)
  | .ior => q_pI S fun y t => q_pI t fun x t => some (r.1 + 1, L, .int (x ||| y) :: t, E, g)
  | .ixor => q_pI S fun y t => q_pI t fun x t => some (r.1 + 1, L, .int (x ^^^ y) :: t, E, g)
  | .ishl => q_pI S fun y t => q_pI t fun x t => some (r.1 + 1, L, .int (x <<< (y &&& 31)) :: t, E, g)
  | .ishr => q_pI S fun y t => q_pI t fun x t => some (r.1 + 1, L, .int (x >>> (y &&& 31)) :: t, E, g)
  | .i2c => q_pI S fun x t => some (r.1 + 1, L, .int (x.toUInt32 % 65536).toInt32 :: t, E, g)
  | .i2f => q_pI S fun x t => some (r.1 + 1, L, .float (FP.i2f x) :: t, E, g)
  | .f2i => q_pF S fun x t => some (r.1 + 1, L, .int (FP.f2i x) :: t, E, g)
  | .fmul => q_pF S fun y t => q_pF t fun x t => if FP.fmul x y &&& 0x7fffffff ≤ 0x7f800000 then some (r.1 + 1, L, .float (FP.fmul x y) :: t, E, g) else none
  | .fdiv => q_pF S fun y t => q_pF t fun x t => if FP.fdiv x y &&& 0x7fffffff ≤ 0x7f800000 then some (r.1 + 1, L, .float (FP.fdiv x y) :: t, E, g) else none
  | .fsub => q_pF S fun y t => q_pF t fun x t => if FP.fsub x y &&& 0x7fffffff ≤ 0x7f800000 then some (r.1 + 1, L, .float (FP.fsub x y) :: t, E, g) else none
  | .fcmp op => q_pF S fun y t => q_pF t fun x t => some (r.1 + 1, L, .int (Op.cmpValue (FP.fcmp x y) op) :: t, E, g)
  | .goto off => some (q_j r.1 off, L, S, E, g)
  | .ifCond c off => q_pI S fun x t => some (if q_c c x 0 = true then q_j r.1 off else r.1 + 3, L, t, E, g)
  | .if_icmp c off => q_pI S fun y t => q_pI t fun x t => some (if q_c c x y = true then q_j r.1 off else r.1 + 3, L, t, E, g)
  | .tableswitch d lo hi offs => q_pI S fun x t => (q_sw r.1 x d lo hi offs).map fun pc => (pc, L, t, E, g)
  | .lookupswitch d ps => q_pI S fun x t => some (q_j r.1 (Op.lookupswitch.offset ps.toList d x.toInt), L, t, E, g)
  | .getfield _ => q_pR S fun a t => if (q_kd E a).1 = 4 + r.2.2.2.1.getD 0 0 then
      (if r.2.2.2.1.getD 2 0 = 1 then (if q_rf E a (r.2.2.2.1.getD 1 0) = 0 then none else some (r.1 + 3, L, .ref (q_rf E a (r.2.2.2.1.getD 1 0)) :: t, E, g)) else some (r.1 + 3, L, .int (g a (r.2.2.2.1.getD 1 0)) :: t, E, g)) else none
  | .putfield _ => if r.2.2.2.1.getD 2 0 = 1 then q_pR S fun v t => q_pR t fun a t => if (q_kd E a).1 = 4 + r.2.2.2.1.getD 0 0 ∧ v ≠ 0 then some (r.1 + 3, L, t, q_setR E a (r.2.2.2.1.getD 1 0) v, g) else none
      else q_pI S fun v t => q_pR t fun a t => if (q_kd E a).1 = 4 + r.2.2.2.1.getD 0 0 ∧ (r.2.2.2.1.getD 2 0 = 2 → narrow .char (.int v) = .int v ∧ fits .char (.int v) = true) then some (r.1 + 3, L, t, E, q_up g a (r.2.2.2.1.getD 1 0) v) else none
  | .getstatic _ => some (r.1 + 3, L, .ref 2 :: S, E, g)
  | .new _ => some (r.1 + 3, L, .ref E.1 :: S, q_new E (4 + r.2.2.2.1.getD 0 0) (r.2.2.2.1.getD 1 0), q_upA g E.1 (fun _ => 0))
  | .newarray ty => q_pI S fun n t => if n < 0 ∨ 100000 < n.toNatClampNeg then none else
      match ty with
      | .int => some (r.1 + 2, L, .ref E.1 :: t, q_new E 2 n.toNatClampNeg, q_upA g E.1 (fun _ => 0))
      | .char => some (r.1 + 2, L, .ref E.1 :: t, q_new E 3 n.toNatClampNeg, q_upA g E.1 (fun _ => 0))
      | _ => none
  | .arraylength => q_pR S fun a t => if (q_kd E a).1 = 1 ∨ (q_kd E a).1 = 2 ∨ (q_kd E a).1 = 3 then some (r.1 + 1, L, .int (Int32.ofNat (q_kd E a).2) :: t, E, g) else none
  | .iaload => q_pI S fun i t => q_pR t fun a t => if ((q_kd E a).1 = 1 ∨ (q_kd E a).1 = 2) ∧ ¬ (i < 0 ∨ (q_kd E a).2 ≤ i.toNatClampNeg) then some (r.1 + 1, L, .int (g a i.toNatClampNeg) :: t, E, g) else none
  | .caload => q_pI S fun i t => q_pR t fun a t => if (q_kd E a).1 = 3 ∧ ¬ (i < 0 ∨ (q_kd E a).2 ≤ i.toNatClampNeg) then some (r.1 + 1, L, .int (g a i.toNatClampNeg) :: t, E, g) else none
  | .iastore => q_pI S fun x t => q_pI t fun i t => q_pR t fun a t => if (q_kd E a).1 = 2 ∧ ¬ (i < 0 ∨ (q_kd E a).2 ≤ i.toNatClampNeg) then some (r.1 + 1, L, t, E, q_up g a i.toNatClampNeg x) else none
  | .castore => q_pI S fun x t => q_pI t fun i t => q_pR t fun a t => if (q_kd E a).1 = 3 ∧ ¬ (i < 0 ∨ (q_kd E a).2 ≤ i.toNatClampNeg) then some (r.1 + 1, L, t, E, q_up g a i.toNatClampNeg (vp_nar .char x)) else none
  | .invokespecial _ => q_pR S fun _ t => if t = [] then some (r.1 + 3, L, t, E, g) else none
  | .invokestatic _ => if r.2.2.2.1.getD 2 0 = 8 then q_pF S fun b t => if t.length ≤ 8 then some (r.1 + 3, L, .int b.toInt32 :: t, E, g) else none
      else q_pI S fun n t => q_pI t fun dp t => q_pR t fun a t => q_pI t fun sp t => q_pR t fun a0 t =>
        if (q_kd E a).1 = 2 ∧ (q_kd E a0).1 = 2 ∧ t = [] ∧ ¬ sp < 0 ∧ ¬ dp < 0 ∧ ¬ n < 0 ∧ sp.toNatClampNeg + n.toNatClampNeg ≤ (q_kd E a0).2 ∧ dp.toNatClampNeg + n.toNatClampNeg ≤ (q_kd E a).2 then
          some (r.1 + 3, L, t, E, q_upA g a (va_cpy (g a0) (g a) sp.toNatClampNeg dp.toNatClampNeg n.toNatClampNeg)) else none
  | _ => none
/-- 1: it returns, 2: it calls one of ours, 0: a step -/
def q_cls (r : q_R) : Nat := match r.2.1 with
  | .ireturn => 1
  | .areturn => 1
  | .return_ => 1
  | .invokevirtual _ => 2
  | .invokespecial _ => if r.2.2.2.1.getD 2 0 < 6 then 2 else 0
  | .invokestatic _ => if r.2.2.2.1.getD 2 0 < 6 then 2 else 0
  | _ => 0
def q_ret (k : Nat) (r : q_R) (S : List Value) : Option (Option Value) := match r.2.1 with
  | .ireturn => match S with
    | [.int v] => if ((q_mi k).2.2.2.1.map fun ty => narrow ty (.int v)) = some (.int v) then some (some (.int v)) else none
    | _ => none
  | .areturn => match S with
    | [.ref v] => some (some (.ref v))
    | _ => none
  | .return_ => match S with
    | [] => some none
    | _ => none
  | _ => none
def q_rok (m ci : Nat) (E : q_E) (as : List Value) : Bool := match m with
  | 0 => match as with
    | .ref b :: _ => (q_kd E b).1 == 4 + ci
    | _ => false
  | 2 => true
  | 3 => true
  | _ => match as with
    | .ref _ :: _ => true
    | _ => false
def q_cal (r : q_R) (S : List Value) (E : q_E) : Option (List Value × List Value) :=
  if q_cnt r.2.2.2.1 ≤ S.length ∧ ((S.drop (q_cnt r.2.2.2.1)).map (fun v => v.category)).sum ≤ 8 ∧ (S.take (q_cnt r.2.2.2.1)).all (fun v => v.category == 1) = true ∧ q_rok (r.2.2.2.1.getD 2 0) (r.2.2.2.1.getD 7 0) E (S.take (q_cnt r.2.2.2.1)).reverse = true then
    some ((S.take (q_cnt r.2.2.2.1)).reverse, S.drop (q_cnt r.2.2.2.1)) else none
def q_loc (as : List Value) (n : Nat) : List Value := as ++ List.replicate (n - as.length) .null
def q_run : Nat → Nat → Nat → List Value → List Value → q_E → q_G → Option (Option Value × q_E × q_G)
  | 0, _, _, _, _, _, _ => none
  | n + 1, k, pc, L, S, E, g => match q_P k pc with
    | none => none
    | some r =>
      if q_cls r = 1 then (q_ret k r S).map fun v => (v, E, g)
      else if q_cls r = 2 then
        match q_cal r S E with
        | none => none
        | some q => match q_run n (r.2.2.2.1.getD 0 0) 0 (q_loc q.1 (q_mi (r.2.2.2.1.getD 0 0)).2.2.1) [] E g with
          | none => none
          | some z => q_run n k (pc + 3) L (z.1.toList ++ q.2) z.2.1 z.2.2
      else match q_stp r L S E g with
        | none => none
        | some z => q_run n k z.1 z.2.1 z.2.2.1 z.2.2.2.1 z.2.2.2.2
theorem q_run_s (n k pc : Nat) (L S : List Value) (E : q_E) (g : q_G) : q_run (n + 1) k pc L S E g = match q_P k pc with
    | none => none
    | some r =>
      if q_cls r = 1 then (q_ret k r S).map fun v => (v, E, g)
      else if q_cls r = 2 then
        match q_cal r S E with
        | none => none
        | some q => match q_run n (r.2.2.2.1.getD 0 0) 0 (q_loc q.1 (q_mi (r.2.2.2.1.getD 0 0)).2.2.1) [] E g with
          | none => none
          | some z => q_run n k (pc + 3) L (z.1.toList ++ q.2) z.2.1 z.2.2
      else match q_stp r L S E g with
        | none => none
        | some z => q_run n k z.1 z.2.1 z.2.2.1 z.2.2.2.1 z.2.2.2.2 := rfl
theorem q_run_mono (n : Nat) : ∀ (k pc : Nat) (L S : List Value) (E : q_E) (g : q_G) (z : Option Value × q_E × q_G), q_run n k pc L S E g = some z → q_run (n + 1) k pc L S E g = some z := by
  induction n with
  | zero => intro k pc L S E g z h; cases h
  | succ n ih =>
    intro k pc L S E g z h
    rw [q_run_s] at h ⊢
    cases hP : q_P k pc with
    | none => rw [hP] at h; cases h
    | some r =>
      rw [hP] at h
      dsimp only at h ⊢
      by_cases h1 : q_cls r = 1
      · rw [if_pos h1] at h ⊢; exact h
      · rw [if_neg h1] at h ⊢
        by_cases h2 : q_cls r = 2
        · rw [if_pos h2] at h ⊢
          cases hc : q_cal r S E with
          | none => rw [hc] at h; cases h
          | some q =>
            rw [hc] at h
            dsimp only at h ⊢
            cases hz : q_run n (r.2.2.2.1.getD 0 0) 0 (q_loc q.1 (q_mi (r.2.2.2.1.getD 0 0)).2.2.1) [] E g with
            | none => rw [hz] at h; cases h
            | some w =>
              rw [hz] at h
              rw [ih _ _ _ _ _ _ _ hz]
              exact ih _ _ _ _ _ _ _ h
        · rw [if_neg h2] at h ⊢
          cases hs : q_stp r L S E g with
          | none => rw [hs] at h; cases h
          | some w =>
            rw [hs] at h
            exact ih _ _ _ _ _ _ _ h
theorem q_run_le {n m : Nat} (h : n ≤ m) {k pc : Nat} {L S : List Value} {E : q_E} {g : q_G} {z : Option Value × q_E × q_G} (hr : q_run n k pc L S E g = some z) : q_run m k pc L S E g = some z := by
  induction h with
  | refl => exact hr
  | step _ ih => exact q_run_mono _ _ _ _ _ _ _ _ ih
/-- from here the run ends, with Q of what it answers and of the heap then -/
def q_X (k pc : Nat) (L S : List Value) (E : q_E) (g : q_G) (Q : Option Value → q_E → q_G → Prop) : Prop := ∃ (n : Nat) (v : Option Value) (E' : q_E) (g' : q_G), q_run n k pc L S E g = some (v, E', g') ∧ Q v E' g'
theorem q_X_stp {k pc : Nat} {L S : List Value} {E : q_E} {g : q_G} {Q : Option Value → q_E → q_G → Prop} {r : q_R} (hP : q_P k pc = some r) (h0 : q_cls r = 0) {pc' : Nat} {L' S' : List Value} {E' : q_E} {g' : q_G} (hs : q_stp r L S E g = some (pc', L', S', E', g')) : q_X k pc L S E g Q = q_X k pc' L' S' E' g' Q := by
  have key : ∀ n, q_run (n + 1) k pc L S E g = q_run n k pc' L' S' E' g' := by
    intro n
    rw [q_run_s, hP]
    dsimp only
    rw [if_neg (by rw [h0]; decide), if_neg (by rw [h0]; decide), hs]
  apply propext
  constructor
  · rintro ⟨n, v, E1, g1, h, hq⟩
    cases n with
    | zero => cases h
    | succ n => exact ⟨n, v, E1, g1, by rw [← key]; exact h, hq⟩
  · rintro ⟨n, v, E1, g1, h, hq⟩
    exact ⟨n + 1, v, E1, g1, by rw [key]; exact h, hq⟩
theorem q_X_non {k pc : Nat} {L S : List Value} {E : q_E} {g : q_G} {Q : Option Value → q_E → q_G → Prop} {r : q_R} (hP : q_P k pc = some r) (h0 : q_cls r = 0) (hs : q_stp r L S E g = none) : q_X k pc L S E g Q = False := by
  apply propext
  constructor
  · rintro ⟨n, v, E1, g1, h, hq⟩
    cases n with
    | zero => cases h
    | succ n =>
      rw [q_run_s, hP] at h
      dsimp only at h
      rw [if_neg (by rw [h0]; decide), if_neg (by rw [h0]; decide), hs] at h
      cases h
  · exact False.elim
theorem q_X_cnd {k pc : Nat} {L S : List Value} {E : q_E} {g : q_G} {Q : Option Value → q_E → q_G → Prop} {r : q_R} (hP : q_P k pc = some r) (h0 : q_cls r = 0) {c : Prop} [hd : Decidable c] {pc' : Nat} {L' S' : List Value} {E' : q_E} {g' : q_G} (hs : q_stp r L S E g = if c then some (pc', L', S', E', g') else none) : q_X k pc L S E g Q = (c ∧ q_X k pc' L' S' E' g' Q) := by
  by_cases hc : c
  · rw [if_pos hc] at hs
    rw [q_X_stp hP h0 hs, eq_true hc, true_and]
  · rw [if_neg hc] at hs
    rw [q_X_non hP h0 hs, eq_false hc, false_and]
theorem q_X_cnn {k pc : Nat} {L S : List Value} {E : q_E} {g : q_G} {Q : Option Value → q_E → q_G → Prop} {r : q_R} (hP : q_P k pc = some r) (h0 : q_cls r = 0) {c : Prop} [hd : Decidable c] {pc' : Nat} {L' S' : List Value} {E' : q_E} {g' : q_G} (hs : q_stp r L S E g = if c then none else some (pc', L', S', E', g')) : q_X k pc L S E g Q = (¬ c ∧ q_X k pc' L' S' E' g' Q) := by
  by_cases hc : c
  · rw [if_pos hc] at hs
    rw [q_X_non hP h0 hs, eq_true hc, not_true, false_and]
  · rw [if_neg hc] at hs
    rw [q_X_stp hP h0 hs, eq_false hc, not_false_eq_true, true_and]
theorem q_X_bra {k pc : Nat} {L S : List Value} {E : q_E} {g : q_G} {Q : Option Value → q_E → q_G → Prop} {r : q_R} (hP : q_P k pc = some r) (h0 : q_cls r = 0) {c : Bool} {t f : Nat} {S' : List Value} (hs : q_stp r L S E g = some (if c = true then t else f, L, S', E, g)) : q_X k pc L S E g Q = (if c = true then q_X k t L S' E g Q else q_X k f L S' E g Q) := by
  by_cases hc : c = true
  · rw [if_pos hc] at hs ⊢
    exact q_X_stp hP h0 hs
  · rw [if_neg hc] at hs ⊢
    exact q_X_stp hP h0 hs
theorem q_X_ret {k pc : Nat} {L S : List Value} {E : q_E} {g : q_G} {Q : Option Value → q_E → q_G → Prop} {r : q_R} (hP : q_P k pc = some r) (h0 : q_cls r = 1) {v : Option Value} (hs : q_ret k r S = some v) : q_X k pc L S E g Q = Q v E g := by
  apply propext
  have key : ∀ n, q_run (n + 1) k pc L S E g = some (v, E, g) := by
    intro n
    rw [q_run_s, hP]
    dsimp only
    rw [if_pos h0, hs]
    rfl
  constructor
  · rintro ⟨n, v1, E1, g1, h, hq⟩
    cases n with
    | zero => cases h
    | succ n =>
      rw [key] at h
      cases h
      exact hq
  · intro h
    exact ⟨1, v, E, g, key 0, h⟩
theorem q_X_rti {k pc : Nat} {L : List Value} {E : q_E} {g : q_G} {Q : Option Value → q_E → q_G → Prop} {r : q_R} (hP : q_P k pc = some r) (h0 : r.2.1 = .ireturn) {v : Int32} {ty : FieldType} (hty : (q_mi k).2.2.2.1 = some ty) : q_X k pc L [.int v] E g Q = (narrow ty (.int v) = .int v ∧ Q (some (.int v)) E g) := by
  have hc : q_cls r = 1 := by unfold q_cls; rw [h0]
  by_cases hn : narrow ty (.int v) = .int v
  · rw [q_X_ret hP hc (v := some (.int v)) (by unfold q_ret; rw [h0]; dsimp only; rw [hty]; simp [hn]), eq_true hn, true_and]
  · rw [eq_false hn, false_and]
    apply propext
    constructor
    · rintro ⟨n, v1, E1, g1, h, hq⟩
      cases n with
      | zero => cases h
      | succ n =>
        rw [q_run_s, hP] at h
        dsimp only at h
        rw [if_pos hc] at h
        unfold q_ret at h
        rw [h0] at h
        dsimp only at h
        rw [hty] at h
        simp [hn] at h
    · exact False.elim
theorem q_X_cl {k pc : Nat} {L S : List Value} {E : q_E} {g : q_G} {Q : Option Value → q_E → q_G → Prop} {r : q_R} (hP : q_P k pc = some r) (h0 : q_cls r = 2) {as rest L1 : List Value} (hc : q_cal r S E = some (as, rest)) (hl : q_loc as (q_mi (r.2.2.2.1.getD 0 0)).2.2.1 = L1) : q_X k pc L S E g Q = q_X (r.2.2.2.1.getD 0 0) 0 L1 [] E g (fun v E' g' => q_X k (pc + 3) L (v.toList ++ rest) E' g' Q) := by
  subst hl
  apply propext
  constructor
  · rintro ⟨n, v, E1, g1, h, hq⟩
    cases n with
    | zero => cases h
    | succ n =>
      rw [q_run_s, hP] at h
      dsimp only at h
      rw [if_neg (by rw [h0]; decide), if_pos h0, hc] at h
      dsimp only at h
      cases hz : q_run n (r.2.2.2.1.getD 0 0) 0 (q_loc as (q_mi (r.2.2.2.1.getD 0 0)).2.2.1) [] E g with
      | none => rw [hz] at h; cases h
      | some w =>
        rw [hz] at h
        exact ⟨n, w.1, w.2.1, w.2.2, hz, n, v, E1, g1, h, hq⟩
  · rintro ⟨n, v, E1, g1, h, n2, v2, E2, g2, h2, hq⟩
    refine ⟨n + n2 + 1, v2, E2, g2, ?_, hq⟩
    rw [q_run_s, hP]
    dsimp only
    rw [if_neg (by rw [h0]; decide), if_pos h0, hc]
    dsimp only
    rw [q_run_le (by omega : n ≤ n + n2) h]
    exact q_run_le (by omega : n2 ≤ n + n2) h2
theorem q_X_cv {k pc : Nat} {L S : List Value} {E : q_E} {g : q_G} {Q : Option Value → q_E → q_G → Prop} {r : q_R} (hP : q_P k pc = some r) (h0 : q_cls r = 2) {as rest L1 : List Value} {c : Prop} [hd : Decidable c] (hc : q_cal r S E = if c then some (as, rest) else none) (hl : q_loc as (q_mi (r.2.2.2.1.getD 0 0)).2.2.1 = L1) : q_X k pc L S E g Q = (c ∧ q_X (r.2.2.2.1.getD 0 0) 0 L1 [] E g (fun v E' g' => q_X k (pc + 3) L (v.toList ++ rest) E' g' Q)) := by
  by_cases h : c
  · rw [if_pos h] at hc
    rw [q_X_cl hP h0 hc hl, eq_true h, true_and]
  · rw [if_neg h] at hc
    rw [eq_false h, false_and]
    apply propext
    constructor
    · rintro ⟨n, v, E1, g1, h, hq⟩
      cases n with
      | zero => cases h
      | succ n =>
        rw [q_run_s, hP] at h
        dsimp only at h
        rw [if_neg (by rw [h0]; decide), if_pos h0, hc] at h
        cases h
    · exact False.elim
theorem q_X_mono {k pc : Nat} {L S : List Value} {E : q_E} {g : q_G} {Q Q' : Option Value → q_E → q_G → Prop} (h : q_X k pc L S E g Q) (hq : ∀ v E' g', Q v E' g' → Q' v E' g') : q_X k pc L S E g Q' := by
  obtain ⟨n, v, E', g', h1, h2⟩ := h
  exact ⟨n, v, E', g', h1, hq _ _ _ h2⟩
end
section
/-! WHAT THE SMALL MACHINE'S HEAP IS of the real one. Z: the tables' numbers of classes and fields; int[] and char[]; where the new cells begin, the script's cell, the static row's cell; the script's length, the script -/
abbrev q_Z : Type := va_G × (ClassId × ClassId) × (Nat × Nat × Nat) × Nat × (Nat → Int32)
def q_bes (j : Nat) : Int32 := ([34, 69, 138, 276, 520, 65, 162, 324, 648, 272] : List Int32).getD j 0
def q_ad (Z : q_Z) (a : Nat) : Nat := if a = 1 then Z.2.2.1.2.1 else if a = 2 then Z.2.2.1.2.2 else Z.2.2.1.1 + (a - 3)
def q_rv (Z : q_Z) (v : Value) : Value := match v with
  | .ref a => .ref (q_ad Z a)
  | v => v
def q_A (Z : q_Z) : Nat → Prop := fun q => Z.2.2.1.1 ≤ q
def q_fv (Z : q_Z) (E : q_E) (g : q_G) (a ci k : Nat) : Value := if q_isR ci k = true then (if q_rf E a k = 0 then .null else .ref (q_ad Z (q_rf E a k))) else .int (g a k)
def q_en (Z : q_Z) (E : q_E) (g : q_G) (a : Nat) : va_E :=
  if (q_kd E a).1 = 2 then .inl (Z.2.1.1, ((q_kd E a).2, .inl (g a)))
  else if (q_kd E a).1 = 3 then .inl (Z.2.1.2, ((q_kd E a).2, .inl (g a)))
  else .inr ((q_kd E a).1 - 4, (List.range (q_cl ((q_kd E a).1 - 4)).2.2).map (q_fv Z E g a ((q_kd E a).1 - 4)))
def q_ws (Z : q_Z) (E : q_E) (g : q_G) : va_W := (List.range (E.1 - 3)).map (fun i => (Z.2.2.1.1 + i, q_en Z E g (i + 3)))
def q_I (Z : q_Z) (E : q_E) (g : q_G) : Prop := 3 ≤ E.1 ∧ (∀ a, 2 ≤ (q_kd E a).1 → 3 ≤ a ∧ a < E.1) ∧ (∀ a, (q_kd E a).1 = 1 → (a = 1 ∧ (q_kd E a).2 = Z.2.2.2.1 ∧ ∀ j, j < Z.2.2.2.1 → g a j = Z.2.2.2.2 j) ∨ (a = 2 ∧ (q_kd E a).2 = 10 ∧ ∀ j, j < 10 → g a j = q_bes j))
abbrev q_Pi (Z : q_Z) (E : q_E) (g : q_G) (H : Heap) : Prop := va_P Z.1 vwCl (q_ws Z E g) H
def q_Wd (Z : q_Z) (E : q_E) (g : q_G) (H : Heap) : Prop := q_Pi Z E g H ∧ H.size = Z.2.2.1.1 + (E.1 - 3) ∧ q_I Z E g
def q_Ks (Z : q_Z) (s : State) : Prop := va_K Z.1 vwCl [(Z.2.1.1, .int), (Z.2.1.2, .char)] s ∧ va_T .int Z.2.2.1.2.1 Z.2.2.2.1 (fun j => .int (Z.2.2.2.2 j)) (q_A Z) s s.heap ∧ va_T .int Z.2.2.1.2.2 10 (fun j => .int (q_bes j)) (q_A Z) s s.heap ∧ va_Z "CardRacks" "BESIDE" "[I" (.ref Z.2.2.1.2.2) (q_A Z) s s.heap ∧ ∀ w ∈ q_NW, va_Nw w s
theorem q_NW_warm {s U : State} (hW : s.WarmedH U.vm) : ∀ w ∈ q_NW, va_Nw w s → va_Nw w U := by
  intro w hw
  simp only [q_NW, List.mem_cons, List.not_mem_nil, or_false] at hw
  rcases hw with rfl | rfl | rfl | rfl | rfl | rfl | rfl | rfl | rfl | rfl | rfl | rfl | rfl | rfl | rfl | rfl | rfl | rfl <;> first | exact va_Nw.warmM hW | exact va_Nw.warmF hW
theorem q_Ks_mv {Z : q_Z} {u U : State} (hv : u.vm = U.vm) (hh : u.heap = U.heap) (h : q_Ks Z u) : q_Ks Z U := by
  obtain ⟨h1, h2, h3, h4, h5⟩ := h
  have ha : u.vm.Alike U.vm := by rw [hv]; exact Vm.Alike.refl _
  refine ⟨h1.moved ha, ?_, ?_, ?_, fun w hw => va_Nw.same (q_NW_tab w hw) hv (h5 w hw)⟩
  · rw [← hh]; exact h2.moved ha
  · rw [← hh]; exact h3.moved ha
  · rw [← hh]; exact h4.moved ha
theorem q_Ks_nx {Z : q_Z} {s U : State} {H : Heap} {locs : List Loc} (h : q_Ks Z s) (hS : va_S (q_A Z) s.heap H locs) (hW : s.WarmedH U.vm) (hU : U.heap = H) : q_Ks Z U := by
  obtain ⟨h1, h2, h3, h4, h5⟩ := h
  refine ⟨h1.moved hW.alike, ?_, ?_, ?_, fun w hw => q_NW_warm hW w hw (h5 w hw)⟩
  · rw [hU]; exact (h2.kept hS.2.1).moved hW.alike
  · rw [hU]; exact (h3.kept hS.2.1).moved hW.alike
  · rw [hU]; exact (h4.kept hS.2.1).moved hW.alike
theorem q_rv_cat (Z : q_Z) (v : Value) : (q_rv Z v).category = v.category := by cases v <;> rfl
theorem q_rv_cats (Z : q_Z) (S : List Value) : ((S.map (q_rv Z)).map fun v => v.category) = S.map fun v => v.category := by
  rw [List.map_map]
  exact List.map_congr_left (fun v _ => q_rv_cat Z v)
theorem q_ad_n {Z : q_Z} {a : Nat} (h : 3 ≤ a) : q_ad Z a = Z.2.2.1.1 + (a - 3) := by
  unfold q_ad
  rw [if_neg (by omega), if_neg (by omega)]
theorem q_ws_get {Z : q_Z} {E : q_E} {g : q_G} {i : Nat} {q : Nat × va_E} (h : (q_ws Z E g)[i]? = some q) : i < E.1 - 3 ∧ q = (Z.2.2.1.1 + i, q_en Z E g (i + 3)) := by
  unfold q_ws at h
  rw [List.getElem?_map] at h
  by_cases hi : i < E.1 - 3
  · rw [List.getElem?_range hi] at h
    exact ⟨hi, (Option.some.inj h).symm⟩
  · rw [List.getElem?_eq_none (by simp; omega)] at h
    cases h
theorem q_ws_at {Z : q_Z} {E : q_E} {g : q_G} {a : Nat} (h3 : 3 ≤ a) (h : a < E.1) : (q_ws Z E g)[a - 3]? = some (q_ad Z a, q_en Z E g a) := by
  unfold q_ws
  rw [List.getElem?_map, List.getElem?_range (by omega), Option.map_some, q_ad_n h3, show a - 3 + 3 = a by omega]
theorem q_ws_D {Z : q_Z} {E : q_E} {g : q_G} : va_D (q_A Z) (q_ws Z E g) := by
  refine ⟨fun i j p q hp hq hpq => ?_, fun k q hq => ?_⟩
  · obtain ⟨-, rfl⟩ := q_ws_get hp
    obtain ⟨-, rfl⟩ := q_ws_get hq
    have : Z.2.2.1.1 + i = Z.2.2.1.1 + j := hpq
    omega
  · obtain ⟨-, rfl⟩ := q_ws_get hq
    exact Nat.le_add_right _ _
theorem q_ws_ext {Z : q_Z} {E : q_E} {g : q_G} {w : va_W} (hl : w.length = E.1 - 3) (h : ∀ i, i < E.1 - 3 → w[i]? = some (Z.2.2.1.1 + i, q_en Z E g (i + 3))) : w = q_ws Z E g := by
  refine List.ext_getElem? fun i => ?_
  by_cases hi : i < E.1 - 3
  · rw [h i hi]
    unfold q_ws
    rw [List.getElem?_map, List.getElem?_range hi]
    rfl
  · rw [List.getElem?_eq_none (by omega), List.getElem?_eq_none (by unfold q_ws; simp; omega)]
theorem q_ws_len {Z : q_Z} {E : q_E} {g : q_G} : (q_ws Z E g).length = E.1 - 3 := by unfold q_ws; simp
theorem q_ws_set {Z : q_Z} {E E' : q_E} {g g' : q_G} {a : Nat} (h3 : 3 ≤ a) (h : a < E.1) (he : E'.1 = E.1) (ho : ∀ b, b ≠ a → q_en Z E' g' b = q_en Z E g b) : (q_ws Z E g).set (a - 3) (q_ad Z a, q_en Z E' g' a) = q_ws Z E' g' := by
  refine q_ws_ext (by rw [List.length_set, q_ws_len, he]) fun i hi => ?_
  rw [he] at hi
  by_cases hia : i = a - 3
  · subst hia
    rw [List.getElem?_set_self (by rw [q_ws_len]; omega), q_ad_n h3, show a - 3 + 3 = a by omega]
  · rw [List.getElem?_set_ne (fun q => hia q.symm)]
    have h1 := q_ws_at (Z := Z) (E := E) (g := g) (a := i + 3) (by omega) (by omega)
    rw [show i + 3 - 3 = i by omega] at h1
    rw [h1, q_ad_n (by omega), ho (i + 3) (by omega), show i + 3 - 3 = i by omega]
theorem q_ws_push {Z : q_Z} {E E' : q_E} {g g' : q_G} (h3 : 3 ≤ E.1) (he : E'.1 = E.1 + 1) (ho : ∀ b, b < E.1 → q_en Z E' g' b = q_en Z E g b) : q_ws Z E g ++ [(Z.2.2.1.1 + (E.1 - 3), q_en Z E' g' E.1)] = q_ws Z E' g' := by
  refine q_ws_ext (by rw [List.length_append, q_ws_len, he]; simp; omega) fun i hi => ?_
  rw [he] at hi
  by_cases hl : i < E.1 - 3
  · rw [List.getElem?_append_left (by rw [q_ws_len]; exact hl)]
    have h1 := q_ws_at (Z := Z) (E := E) (g := g) (a := i + 3) (by omega) (by omega)
    rw [show i + 3 - 3 = i by omega] at h1
    rw [h1, q_ad_n (by omega), ho (i + 3) (by omega), show i + 3 - 3 = i by omega]
  · rw [List.getElem?_append_right (by rw [q_ws_len]; omega), q_ws_len, show i - (E.1 - 3) = 0 by omega]
    show some _ = some _
    rw [show i = E.1 - 3 by omega, show E.1 - 3 + 3 = E.1 by omega]
/-- the last cell is there: so many cells at least -/
theorem q_Pi_sz {Z : q_Z} {E : q_E} {g : q_G} {H : Heap} (h : q_Pi Z E g H) (h0 : Z.2.2.1.1 ≤ H.size) : Z.2.2.1.1 + (E.1 - 3) ≤ H.size := by
  by_cases h3 : E.1 ≤ 3
  · omega
  · have h1 := (h _ _ (q_ws_at (Z := Z) (E := E) (g := g) (a := E.1 - 1) (by omega) (by omega))).lt
    rw [q_ad_n (by omega)] at h1
    have h2 : Z.2.2.1.1 + (E.1 - 1 - 3) < H.size := h1
    omega
theorem q_upA_s (g : q_G) (a : Nat) (f : Nat → Int32) : q_upA g a f a = f := by unfold q_upA; rw [if_pos rfl]
theorem q_upA_n (g : q_G) {a b : Nat} (f : Nat → Int32) (h : b ≠ a) : q_upA g a f b = g b := by unfold q_upA; rw [if_neg h]
theorem q_up_s (g : q_G) (a i : Nat) (v : Int32) : q_up g a i v a = upd (g a) i v := q_upA_s _ _ _
theorem q_up_n (g : q_G) {a b : Nat} (i : Nat) (v : Int32) (h : b ≠ a) : q_up g a i v b = g b := q_upA_n _ _ h
theorem q_en_2 {Z : q_Z} {E : q_E} {g : q_G} {a : Nat} (h : (q_kd E a).1 = 2) : q_en Z E g a = .inl (Z.2.1.1, ((q_kd E a).2, .inl (g a))) := by unfold q_en; rw [if_pos h]
theorem q_en_3 {Z : q_Z} {E : q_E} {g : q_G} {a : Nat} (h : (q_kd E a).1 = 3) : q_en Z E g a = .inl (Z.2.1.2, ((q_kd E a).2, .inl (g a))) := by unfold q_en; rw [if_neg (by omega), if_pos h]
theorem q_en_4 {Z : q_Z} {E : q_E} {g : q_G} {a ci : Nat} (h : (q_kd E a).1 = 4 + ci) : q_en Z E g a = .inr (ci, (List.range (q_cl ci).2.2).map (q_fv Z E g a ci)) := by
  unfold q_en
  rw [if_neg (by omega), if_neg (by omega), h, show 4 + ci - 4 = ci by omega]
theorem q_en_up {Z : q_Z} {E : q_E} {g : q_G} {a b : Nat} (f : Nat → Int32) (h : b ≠ a) : q_en Z E (q_upA g a f) b = q_en Z E g b := by
  unfold q_en q_fv
  rw [q_upA_n g f h]
theorem q_setR_n {E : q_E} {a k v b j : Nat} (h : ¬ (b = a ∧ j = k)) : q_rf (q_setR E a k v) b j = q_rf E b j := by unfold q_rf q_setR; exact if_neg h
theorem q_setR_s {E : q_E} {a k v : Nat} : q_rf (q_setR E a k v) a k = v := by unfold q_rf q_setR; exact if_pos ⟨rfl, rfl⟩
theorem q_en_setR {Z : q_Z} {E : q_E} {g : q_G} {a k v b : Nat} (h : b ≠ a) : q_en Z (q_setR E a k v) g b = q_en Z E g b := by
  have e : ∀ ci j, q_fv Z (q_setR E a k v) g b ci j = q_fv Z E g b ci j := by
    intro ci j
    unfold q_fv
    rw [q_setR_n (fun q => h q.1)]
  have e2 : q_fv Z (q_setR E a k v) g b = q_fv Z E g b := by funext ci j; exact e ci j
  unfold q_en
  rw [e2]
  rfl
theorem q_I_up {Z : q_Z} {E : q_E} {g : q_G} {a : Nat} (f : Nat → Int32) (h : q_I Z E g) (ha : 2 ≤ (q_kd E a).1) : q_I Z E (q_upA g a f) := by
  refine ⟨h.1, h.2.1, fun b hb => ?_⟩
  have hne : b ≠ a := by intro q; rw [q] at hb; omega
  rw [q_upA_n g f hne]
  exact h.2.2 b hb
theorem q_kd_new {E : q_E} {t n b : Nat} (h : b ≠ E.1) : q_kd (q_new E t n) b = q_kd E b := by unfold q_kd q_new; exact if_neg h
theorem q_kd_news {E : q_E} {t n : Nat} : q_kd (q_new E t n) E.1 = (t, n) := by unfold q_kd q_new; exact if_pos rfl
theorem q_I_new {Z : q_Z} {E : q_E} {g : q_G} {t n : Nat} (f : Nat → Int32) (h : q_I Z E g) (ht : 2 ≤ t) : q_I Z (q_new E t n) (q_upA g E.1 f) := by
  refine ⟨Nat.le_succ_of_le h.1, fun b hb => ?_, fun b hb => ?_⟩
  · by_cases e : b = E.1
    · subst e; exact ⟨h.1, Nat.lt_succ_self _⟩
    · rw [q_kd_new e] at hb
      have h2 := h.2.1 b hb
      exact ⟨h2.1, Nat.lt_succ_of_lt h2.2⟩
  · by_cases e : b = E.1
    · subst e; rw [q_kd_news] at hb; exact absurd hb (by show ¬ t = 1; omega)
    · rw [q_kd_new e] at hb ⊢
      rw [q_upA_n g f e]
      exact h.2.2 b hb
theorem q_en_new {Z : q_Z} {E : q_E} {g : q_G} {t n b : Nat} (f : Nat → Int32) (h : b < E.1) : q_en Z (q_new E t n) (q_upA g E.1 f) b = q_en Z E g b := by
  have hne : b ≠ E.1 := by omega
  have e : q_fv Z (q_new E t n) (q_upA g E.1 f) b = q_fv Z E g b := by
    funext ci j
    unfold q_fv
    rw [q_upA_n g f hne, show q_rf (q_new E t n) b j = q_rf E b j by unfold q_rf q_new; exact if_neg hne]
  unfold q_en
  rw [e, q_kd_new hne, q_upA_n g f hne]
/-- the locals -/
def q_LR (Z : q_Z) (ls : Array Slot) (nL : Nat) (L : List Value) : Prop := L.length = nL ∧ lv_has ls nL [] ∧ (∀ v ∈ L, v.category = 1) ∧ ∀ (i : Nat) (v : Value), L[i]? = some v → v ≠ .null → ls[i]? = some (.val (q_rv Z v))
theorem q_LR_st {Z : q_Z} {ls : Array Slot} {nL : Nat} {L : List Value} (h : q_LR Z ls nL L) {i : Nat} {v : Value} (hi : i < L.length) (hv : v.category = 1) :
    ∃ lv, lv_has ls nL lv ∧ (∀ (j : Nat) (x : Value), L[j]? = some x → x ≠ .null → (j, q_rv Z x) ∈ lv) ∧ ∀ ls', lv_has ls' nL ((i, q_rv Z v) :: lv.filter (fun q => !(q.1 == i) && !(q.1 + 1 == i && q.2.category == 2))) → q_LR Z ls' nL (L.set i v) := by
  refine ⟨(List.range nL).filterMap (fun j => match L[j]? with | some x => if x = .null then none else some (j, q_rv Z x) | none => none), ⟨h.2.1.1, h.2.1.2.1, fun q hq => ?_⟩, fun j x hj hx => ?_, fun ls' h' => ⟨by rw [List.length_set]; exact h.1, ⟨h'.1, h'.2.1, fun q hq => by cases hq⟩, fun w hw => ?_, fun j w hj hw => ?_⟩⟩
  · obtain ⟨j, hj, hq⟩ := List.mem_filterMap.mp hq
    cases hL : L[j]? with
    | none => rw [hL] at hq; cases hq
    | some x =>
      rw [hL] at hq
      dsimp only at hq
      by_cases hx : x = .null
      · rw [if_pos hx] at hq; cases hq
      · rw [if_neg hx] at hq; cases hq
        exact h.2.2.2 j x hL hx
  · refine List.mem_filterMap.mpr ⟨j, List.mem_range.mpr (by rw [← h.1]; exact (List.getElem?_eq_some_iff.mp hj).1), ?_⟩
    rw [hj]
    dsimp only
    rw [if_neg hx]
  · rcases List.mem_or_eq_of_mem_set hw with hw | hw
    · exact h.2.2.1 w hw
    · rw [hw]; exact hv
  · by_cases hji : j = i
    · subst hji
      rw [List.getElem?_set_self hi] at hj
      cases hj
      exact h'.2.2 _ List.mem_cons_self
    · rw [List.getElem?_set_ne (fun q => hji q.symm)] at hj
      refine h'.2.2 (j, q_rv Z w) (List.mem_cons_of_mem _ (List.mem_filter.mpr ⟨List.mem_filterMap.mpr ⟨j, List.mem_range.mpr (by rw [← h.1]; exact (List.getElem?_eq_some_iff.mp hj).1), ?_⟩, ?_⟩))
      · rw [hj]
        dsimp only
        rw [if_neg hw]
      · have hc := h.2.2.1 w (List.mem_of_getElem? hj)
        simp [hji, q_rv_cat, hc]
theorem q_args_in (vs : List Value) (hc : ∀ v ∈ vs, v.category = 1) : ∀ (n i : Nat) (v : Value), vs[i]? = some v → (n + i, v) ∈ lv_args n vs := by
  induction vs with
  | nil => intro n i v h; simp at h
  | cons w vs ih =>
    intro n i v h
    unfold lv_args
    rw [if_neg (by rw [hc w List.mem_cons_self]; decide)]
    cases i with
    | zero => simp at h; subst h; exact List.mem_cons_self
    | succ i =>
      have := ih (fun v hv => hc v (List.mem_cons_of_mem _ hv)) (n + 1) i v (by simpa using h)
      rw [show n + 1 + i = n + (i + 1) by omega] at this
      exact List.mem_cons_of_mem _ this
theorem q_sl_len (vs : List Value) (hc : ∀ v ∈ vs, v.category = 1) : (lg_sl vs).length = vs.length := by
  induction vs with
  | nil => rfl
  | cons w vs ih =>
    have h1 := hc w List.mem_cons_self
    have h2 := ih (fun v hv => hc v (List.mem_cons_of_mem _ hv))
    unfold lg_sl at h2 ⊢
    rw [List.flatMap_cons, if_neg (by rw [h1]; decide)]
    simp only [List.length_append, List.length_cons, List.length_nil, h2]
    omega
theorem q_LR_in {Z : q_Z} {as : List Value} {n : Nat} (hc : ∀ v ∈ as, v.category = 1) (hn : as.length ≤ n) : q_LR Z ((lg_sl (as.map (q_rv Z)) ++ List.replicate (n - (lg_sl (as.map (q_rv Z))).length) Slot.unset).toArray) n (q_loc as n) := by
  have hc' : ∀ v ∈ as.map (q_rv Z), v.category = 1 := by
    intro v hv
    obtain ⟨w, hw, rfl⟩ := List.mem_map.mp hv
    rw [q_rv_cat]; exact hc w hw
  have hl := lv_entry (as.map (q_rv Z)) (n := n) (by rw [q_sl_len _ hc']; simpa using hn)
  refine ⟨by unfold q_loc; simp; omega, ⟨hl.1, hl.2.1, fun q hq => by cases hq⟩, fun v hv => ?_, fun i v hi hv => ?_⟩
  · unfold q_loc at hv
    rcases List.mem_append.mp hv with hv | hv
    · exact hc v hv
    · rw [List.eq_of_mem_replicate hv]; rfl
  · unfold q_loc at hi
    by_cases hia : i < as.length
    · rw [List.getElem?_append_left hia] at hi
      have := q_args_in (as.map (q_rv Z)) hc' 0 i (q_rv Z v) (by rw [List.getElem?_map, hi]; rfl)
      rw [Nat.zero_add] at this
      exact hl.2.2 _ this
    · rw [List.getElem?_append_right (by omega)] at hi
      exact absurd (List.eq_of_mem_replicate (List.mem_of_getElem? hi)) hv
end
section
theorem q_pI_s {β : Type} {S : List Value} {f : Int32 → List Value → Option β} {z : β} (h : q_pI S f = some z) : ∃ x t, S = .int x :: t ∧ f x t = some z := by
  unfold q_pI at h
  split at h
  · exact ⟨_, _, rfl, h⟩
  · cases h
theorem q_pF_s {β : Type} {S : List Value} {f : UInt32 → List Value → Option β} {z : β} (h : q_pF S f = some z) : ∃ x t, S = .float x :: t ∧ f x t = some z := by
  unfold q_pF at h
  split at h
  · exact ⟨_, _, rfl, h⟩
  · cases h
theorem q_pR_s {β : Type} {S : List Value} {f : Nat → List Value → Option β} {z : β} (h : q_pR S f = some z) : ∃ x t, S = .ref x :: t ∧ f x t = some z := by
  unfold q_pR at h
  split at h
  · exact ⟨_, _, rfl, h⟩
  · cases h
theorem q_lI_s {β : Type} {L : List Value} {i : Nat} {f : Int32 → Option β} {z : β} (h : q_lI L i f = some z) : ∃ x, L[i]? = some (.int x) ∧ f x = some z := by
  unfold q_lI at h
  split at h
  · exact ⟨_, by assumption, h⟩
  · cases h
theorem q_lF_s {β : Type} {L : List Value} {i : Nat} {f : UInt32 → Option β} {z : β} (h : q_lF L i f = some z) : ∃ x, L[i]? = some (.float x) ∧ f x = some z := by
  unfold q_lF at h
  split at h
  · exact ⟨_, by assumption, h⟩
  · cases h
theorem q_lR_s {β : Type} {L : List Value} {i : Nat} {f : Nat → Option β} {z : β} (h : q_lR L i f = some z) : ∃ x, L[i]? = some (.ref x) ∧ f x = some z := by
  unfold q_lR at h
  split at h
  · exact ⟨_, by assumption, h⟩
  · cases h
theorem q_st_s {L : List Value} {i : Nat} {v : Value} {f : List Value → Option q_O} {z : q_O} (h : q_st L i v f = some z) : i < L.length ∧ f (L.set i v) = some z := by
  unfold q_st at h
  split at h
  · exact ⟨by assumption, h⟩
  · cases h
theorem q_if_s {β : Type} {c : Prop} [hd : Decidable c] {x : Option β} {z : β} (h : (if c then x else none) = some z) : c ∧ x = some z := by
  by_cases hc : c
  · rw [if_pos hc] at h; exact ⟨hc, h⟩
  · rw [if_neg hc] at h; cases h
theorem q_ifn_s {β : Type} {c : Prop} [hd : Decidable c] {x : Option β} {z : β} (h : (if c then none else x) = some z) : ¬ c ∧ x = some z := by
  by_cases hc : c
  · rw [if_pos hc] at h; cases h
  · rw [if_neg hc] at h; exact ⟨hc, h⟩
theorem q_jt {pc : Nat} {off : Int} (h : 0 ≤ (pc : Int) + off) : (pc : Int) + off = ((q_j pc off : Nat) : Int) := by
  unfold q_j
  rw [Int.toNat_of_nonneg h]
theorem q_look {pc : Nat} {x d : Int} : ∀ (ps : List (Int × Int)), (∀ o ∈ ps, 0 ≤ (pc : Int) + o.2) → 0 ≤ (pc : Int) + d → 0 ≤ (pc : Int) + Op.lookupswitch.offset ps d x := by
  intro ps
  induction ps with
  | nil => intro _ h; exact h
  | cons o ps ih =>
    intro h hd
    obtain ⟨a, b⟩ := o
    rw [Op.lookupswitch.offset_cons]
    split
    · exact h (a, b) List.mem_cons_self
    · exact ih (fun q hq => h q (List.mem_cons_of_mem _ hq)) hd
theorem q_map_set {N j : Nat} {f f' : Nat → Value} {v : Value} (hj : j < N) (hv : f' j = v) (ho : ∀ i, i ≠ j → f' i = f i) : ((List.range N).map f).set j v = (List.range N).map f' := by
  refine List.ext_getElem? fun i => ?_
  by_cases hi : i < N
  · by_cases hij : i = j
    · subst hij
      rw [List.getElem?_set_self (by simpa using hi), List.getElem?_map, List.getElem?_range hi, Option.map_some, hv]
    · rw [List.getElem?_set_ne (fun q => hij q.symm), List.getElem?_map, List.getElem?_map, List.getElem?_range hi, Option.map_some, Option.map_some, ho i hij]
  · rw [List.getElem?_eq_none (by simp; omega), List.getElem?_eq_none (by simp; omega)]
theorem q_tyk : ∀ ci, ci < 10 → ∀ j, j < (q_cl ci).2.2 → q_ty ci j = .int ∨ q_ty ci j = .char ∨ (∃ n, q_ty ci j = .object n) ∨ ∃ n, q_ty ci j = .array n := by
  have key : ∀ ci, ci < 10 → ∀ j, j < (q_cl ci).2.2 → (match q_ty ci j with | .int => true | .char => true | .object _ => true | .array _ => true | _ => false) = true := q_lt10 (by decide +kernel) (by decide +kernel) (by decide +kernel) (by decide +kernel) (by decide +kernel) (by decide +kernel) (by decide +kernel) (by decide +kernel) (by decide +kernel) (by decide +kernel)
  intro ci hci j hj
  have := key ci hci j hj
  cases h : q_ty ci j <;> rw [h] at this <;> simp at this ⊢
theorem q_map_getD {N j : Nat} {f : Nat → Value} (hj : j < N) : vp_V ((List.range N).map f) j = f j := by
  unfold vp_V
  rw [List.getD_eq_getElem?_getD, List.getElem?_map, List.getElem?_range hj]
  rfl
/-- what holds in a frame of the method k, from its start on -/
def q_Cx (Z : q_Z) (p : Program) (R : Room) (s : State) (m : MethodId) (args : Array Value) (meth : Method) (c : Code) (k : Nat) : Prop :=
  p.tables.exec = Jvm.exec ∧ c.code = (q_mi k).2.1 ∧ c.maxLocals = (q_mi k).2.2.1 ∧ s.vm.findClass (q_mi k).1.cls = some m.cls ∧ (∀ w ∈ q_LW, w.before args s = true) ∧ ((q_mi k).1.name = "<init>" → meth.name = "<init>") ∧ q_Ks Z s ∧ (q_mi k).2.2.2.2.1 ≤ R.frames ∧ 37 * (q_mi k).2.2.2.2.1 ≤ R.locals
section
variable {p : Program} {l : Launch} {e : Env} {R : Room} {s : State} {m : MethodId} {args : Array Value} {below : List Frame} {meth : Method} {c : Code} {H : Heap} {locs : List Loc} {cells slots : Nat} {Q : State → Prop} {Z : q_Z} {k : Nat}
/-- what comes behind a step -/
abbrev q_KK (Z : q_Z) (p : Program) (l : Launch) (e : Env) (R : Room) (s : State) (m : MethodId) (args : Array Value) (below : List Frame) (meth : Method) (c : Code) (cells slots : Nat) (Q : State → Prop) (E : q_E) (nL : Nat) (o : q_O) : Prop :=
  ∀ (ls : Array Slot) (H : Heap) (locs : List Loc) (c' s' : Nat), c' = cells + (o.2.2.2.1.1 - E.1) → s' = slots + (o.2.2.2.1.2.1 - E.2.1) → q_LR Z ls nL o.2.1 → q_Pi Z o.2.2.2.1 o.2.2.2.2 H → q_I Z o.2.2.2.1 o.2.2.2.2 → va_S (q_A Z) s.heap H locs → W p l e R s m args below meth c H locs c' s' Q (F0 m o.1 ls (o.2.2.1.map (q_rv Z)))
theorem q_br {b : Bool} {x y : Nat} {ls : Array Slot} {st : List Value} (K : W p l e R s m args below meth c H locs cells slots Q (F0 m (if b = true then x else y) ls st)) : (b = true → W p l e R s m args below meth c H locs cells slots Q (F0 m x ls st)) ∧ (b = false → W p l e R s m args below meth c H locs cells slots Q (F0 m y ls st)) := by
  refine ⟨fun h => ?_, fun h => ?_⟩
  · rw [if_pos h] at K; exact K
  · rw [if_neg (by rw [h]; decide)] at K; exact K
theorem q_ldcwf {cc : ByteArray} {pc : Nat} {ls : Array Slot} {rest : List Value} (hexec : p.tables.exec = Jvm.exec) (hb : c.code = cc) {own : String} {index : Nat} {v : UInt32} (hown : s.vm.findClass own = some m.cls) (hconst : (Jvm.Cond.constantFloat own index v).before args s = true) (hdg : decode cc pc = .ok (.ldc_w index, 3)) (k : W p l e R s m args below meth c H locs cells slots Q (F0 m (pc + 3) ls (.float v :: rest))) : W p l e R s m args below meth c H locs cells slots Q (F0 m pc ls rest) := by
  intro T hT X
  obtain ⟨t, a, b⟩ := k T hT X
  refine ⟨t, ?_, b⟩
  obtain ⟨kk, cf, hk, hcf, hcp⟩ := Cond.constantFloat_spec hown hconst
  obtain ⟨k', hk', he⟩ := X.warmed.alike.2.2 _ _ hk
  have hdg' : decode c.code pc = .ok (.ldc_w index, 3) := by rw [hb]; exact hdg
  jvm_step X.here [hexec, hdg', Op.ldc_w.wp_float (s := T) (f := F0 m pc ls rest) X.here.top hk' (by rw [he]; exact hcf) hcp]
  exact a
theorem q_ifc {cc : ByteArray} {pc : Nat} {ls : Array Slot} {rest : List Value} {cd : Jvm.ClassFile.Cond} {off : Int} {x : Int32} (hx : p.tables.exec = Jvm.exec) (hb : c.code = cc) (hdg : decode cc pc = .ok (.ifCond cd off, 3)) (h0 : 0 ≤ (pc : Int) + off)
    (K : W p l e R s m args below meth c H locs cells slots Q (F0 m (if q_c cd x 0 = true then q_j pc off else pc + 3) ls rest)) : W p l e R s m args below meth c H locs cells slots Q (F0 m pc ls (.int x :: rest)) := by
  obtain ⟨k1, k2⟩ := q_br K
  cases cd with
  | eq => exact lv_if_eq hx hb hdg (q_jt h0) (fun h => k1 (by simp [q_c, h])) (fun h => k2 (by simp [q_c, h]))
  | ne => exact lv_if_ne hx hb hdg (q_jt h0) (fun h => k1 (by simp [q_c, h])) (fun h => k2 (by simp [q_c, h]))
  | lt => exact lv_if_lt hx hb hdg (q_jt h0) (fun h => k1 (decide_eq_true h)) (fun h => k2 (decide_eq_false h))
  | ge => exact lv_if_ge hx hb hdg (q_jt h0) (fun h => k1 (decide_eq_true h)) (fun h => k2 (decide_eq_false h))
  | gt => exact lv_if_gt hx hb hdg (q_jt h0) (fun h => k1 (decide_eq_true h)) (fun h => k2 (decide_eq_false h))
  | le => exact lv_if_le hx hb hdg (q_jt h0) (fun h => k1 (decide_eq_true h)) (fun h => k2 (decide_eq_false h))
theorem q_icmp {cc : ByteArray} {pc : Nat} {ls : Array Slot} {rest : List Value} {cd : Jvm.ClassFile.Cond} {off : Int} {x y : Int32} (hx : p.tables.exec = Jvm.exec) (hb : c.code = cc) (hdg : decode cc pc = .ok (.if_icmp cd off, 3)) (h0 : 0 ≤ (pc : Int) + off)
    (K : W p l e R s m args below meth c H locs cells slots Q (F0 m (if q_c cd x y = true then q_j pc off else pc + 3) ls rest)) : W p l e R s m args below meth c H locs cells slots Q (F0 m pc ls (.int y :: .int x :: rest)) := by
  obtain ⟨k1, k2⟩ := q_br K
  cases cd with
  | eq => exact lv_icmp_eq hx hb hdg (q_jt h0) (fun h => k1 (by simp [q_c, h])) (fun h => k2 (by simp [q_c, h]))
  | ne => exact lv_icmp_ne hx hb hdg (q_jt h0) (fun h => k1 (by simp [q_c, h])) (fun h => k2 (by simp [q_c, h]))
  | lt => exact lv_icmp_lt hx hb hdg (q_jt h0) (fun h => k1 (decide_eq_true h)) (fun h => k2 (decide_eq_false h))
  | ge => exact lv_icmp_ge hx hb hdg (q_jt h0) (fun h => k1 (decide_eq_true h)) (fun h => k2 (decide_eq_false h))
  | gt => exact lv_icmp_gt hx hb hdg (q_jt h0) (fun h => k1 (decide_eq_true h)) (fun h => k2 (decide_eq_false h))
  | le => exact lv_icmp_le hx hb hdg (q_jt h0) (fun h => k1 (decide_eq_true h)) (fun h => k2 (decide_eq_false h))
/-- one step of the small machine is one of the real one -/
theorem q_step (hC : q_Cx Z p R s m args meth c k) {pc : Nat} {r : q_R} (hP : q_P k pc = some r) (h0 : q_cls r = 0) {L S : List Value} {E : q_E} {g : q_G} {o : q_O} (hs : q_stp r L S E g = some o) {ls : Array Slot} (hL : q_LR Z ls (q_mi k).2.2.1 L) (hW : q_Pi Z E g H) (hsz : H.size = Z.2.2.1.1 + (E.1 - 3)) (hI : q_I Z E g) (hS : va_S (q_A Z) s.heap H locs)
    (hc : cells + (o.2.2.2.1.1 - E.1) ≤ R.cells) (hsl : slots + (o.2.2.2.1.2.1 - E.2.1) ≤ R.slots) (kk : q_KK Z p l e R s m args below meth c cells slots Q E (q_mi k).2.2.1 o) : W p l e R s m args below meth c H locs cells slots Q (F0 m pc ls (S.map (q_rv Z))) := by
  obtain ⟨hpc, hok⟩ := q_okf hP
  obtain ⟨pc', ins, ln, ax, z⟩ := r
  have hpc : pc' = pc := hpc
  subst hpc
  obtain ⟨hx, hb, hml, hown, hts, hnm, hK, hRf, hRl⟩ := hC
  simp only [q_okr, Bool.and_eq_true, decide_eq_true_eq] at hok
  obtain ⟨⟨⟨hln, hdg⟩, hox⟩, hon⟩ := hok
  have hlsz : ls.size = (q_mi k).2.2.1 := hL.2.1.1
  have hts' : ∀ {w : Cond} {i : Nat}, q_w i w = true → w.before args s = true := fun h => hts _ (q_w_in h)
  cases ins with
  | iconst i => cases hs; (unfold q_ln at hln; dsimp only at hln; subst hln); exact lv_iconst hx hb hdg rfl (kk ls H locs cells slots (by simp) (by simp) hL hW hI hS)
  | bipush i => cases hs; (unfold q_ln at hln; dsimp only at hln; subst hln); exact lv_bipush hx hb hdg rfl (kk ls H locs cells slots (by simp) (by simp) hL hW hI hS)
  | sipush i => cases hs; (unfold q_ln at hln; dsimp only at hln; subst hln); exact lv_sipush hx hb hdg rfl (kk ls H locs cells slots (by simp) (by simp) hL hW hI hS)
  | ldc i =>
    (unfold q_ln at hln; dsimp only at hln; subst hln)
    unfold q_stp at hs
    dsimp only at hs
    unfold q_okx at hox
    dsimp only at hox
    by_cases h : ax.getD 0 0 = 0
    · rw [if_pos h] at hs hox
      cases hs
      exact lv_ldc hx hb hown (hts' hox) hdg (kk ls H locs cells slots (by simp) (by simp) hL hW hI hS)
    · rw [if_neg h] at hs hox
      cases hs
      exact lv_ldcf hx hb hown (hts' hox) hdg (kk ls H locs cells slots (by simp) (by simp) hL hW hI hS)
  | ldc_w i => cases hs; (unfold q_ln at hln; dsimp only at hln; subst hln); exact q_ldcwf hx hb hown (hts' hox) hdg (kk ls H locs cells slots (by simp) (by simp) hL hW hI hS)
  | fconst f =>
    cases hs; (unfold q_ln at hln; dsimp only at hln; subst hln)
    have K := kk ls H locs cells slots (by simp) (by simp) hL hW hI hS
    match f, hdg, K with
    | 0, hdg, K => exact lv_fconst0 hx hb hdg K
    | 1, hdg, K => exact lv_fconst1 hx hb hdg K
    | 2, hdg, K => exact lv_fconst2 hx hb hdg K
  | iload i =>
    (unfold q_ln at hln; dsimp only at hln; subst hln)
    obtain ⟨x, hl, hs⟩ := q_lI_s hs
    cases hs
    exact lv_iload hx hb hdg (hL.2.2.2 i _ hl (by simp)) (kk ls H locs cells slots (by simp) (by simp) hL hW hI hS)
  | iload_n i =>
    (unfold q_ln at hln; dsimp only at hln; subst hln)
    obtain ⟨x, hl, hs⟩ := q_lI_s hs
    cases hs
    exact lv_iload_n hx hb hdg rfl (hL.2.2.2 i _ hl (by simp)) (kk ls H locs cells slots (by simp) (by simp) hL hW hI hS)
  | fload i =>
    (unfold q_ln at hln; dsimp only at hln; subst hln)
    obtain ⟨x, hl, hs⟩ := q_lF_s hs
    cases hs
    exact lv_fload hx hb hdg (hL.2.2.2 i _ hl (by simp)) (kk ls H locs cells slots (by simp) (by simp) hL hW hI hS)
  | fload_n i =>
    (unfold q_ln at hln; dsimp only at hln; subst hln)
    obtain ⟨x, hl, hs⟩ := q_lF_s hs
    cases hs
    exact lv_fload_n hx hb hdg rfl (hL.2.2.2 i _ hl (by simp)) (kk ls H locs cells slots (by simp) (by simp) hL hW hI hS)
  | aload_n i =>
    (unfold q_ln at hln; dsimp only at hln; subst hln)
    obtain ⟨x, hl, hs⟩ := q_lR_s hs
    cases hs
    exact lv_aload_n hx hb hdg rfl (hL.2.2.2 i _ hl (by simp)) (kk ls H locs cells slots (by simp) (by simp) hL hW hI hS)
  | istore i =>
    (unfold q_ln at hln; dsimp only at hln; subst hln)
    obtain ⟨x, t, rfl, hs⟩ := q_pI_s hs
    obtain ⟨hi, hs⟩ := q_st_s (L := L) (i := i) (v := .int x) (f := fun L' => some (pc' + 2, L', t, E, g)) hs
    cases hs
    obtain ⟨lv, h1, -, h2⟩ := q_LR_st (v := .int x) hL hi rfl
    exact lv_istore hx hb hdg h1 (by rw [← hL.1]; exact hi) rfl (fun ls' h' => kk ls' H locs cells slots (by simp) (by simp) (h2 ls' h') hW hI hS)
  | istore_n i =>
    (unfold q_ln at hln; dsimp only at hln; subst hln)
    obtain ⟨x, t, rfl, hs⟩ := q_pI_s hs
    obtain ⟨hi, hs⟩ := q_st_s (L := L) (i := i) (v := .int x) (f := fun L' => some (pc' + 1, L', t, E, g)) hs
    cases hs
    obtain ⟨lv, h1, -, h2⟩ := q_LR_st (v := .int x) hL hi rfl
    exact lv_istore_n hx hb hdg rfl h1 (by rw [← hL.1]; exact hi) rfl (fun ls' h' => kk ls' H locs cells slots (by simp) (by simp) (h2 ls' h') hW hI hS)
  | fstore i =>
    (unfold q_ln at hln; dsimp only at hln; subst hln)
    obtain ⟨x, t, rfl, hs⟩ := q_pF_s hs
    obtain ⟨hi, hs⟩ := q_st_s (L := L) (i := i) (v := .float x) (f := fun L' => some (pc' + 2, L', t, E, g)) hs
    cases hs
    obtain ⟨lv, h1, -, h2⟩ := q_LR_st (v := .float x) hL hi rfl
    exact lv_fstore hx hb hdg h1 (by rw [← hL.1]; exact hi) rfl (fun ls' h' => kk ls' H locs cells slots (by simp) (by simp) (h2 ls' h') hW hI hS)
  | fstore_n i =>
    (unfold q_ln at hln; dsimp only at hln; subst hln)
    obtain ⟨x, t, rfl, hs⟩ := q_pF_s hs
    obtain ⟨hi, hs⟩ := q_st_s (L := L) (i := i) (v := .float x) (f := fun L' => some (pc' + 1, L', t, E, g)) hs
    cases hs
    obtain ⟨lv, h1, -, h2⟩ := q_LR_st (v := .float x) hL hi rfl
    exact lv_fstore_n hx hb hdg rfl h1 (by rw [← hL.1]; exact hi) rfl (fun ls' h' => kk ls' H locs cells slots (by simp) (by simp) (h2 ls' h') hW hI hS)
  | astore_n i =>
    (unfold q_ln at hln; dsimp only at hln; subst hln)
    obtain ⟨x, t, rfl, hs⟩ := q_pR_s hs
    obtain ⟨hi, hs⟩ := q_st_s (L := L) (i := i) (v := .ref x) (f := fun L' => some (pc' + 1, L', t, E, g)) hs
    cases hs
    obtain ⟨lv, h1, -, h2⟩ := q_LR_st (v := .ref x) hL hi rfl
    exact lv_astore_n hx hb hdg rfl h1 (by rw [← hL.1]; exact hi) rfl (fun ls' h' => kk ls' H locs cells slots (by simp) (by simp) (h2 ls' h') hW hI hS)
  | iinc i n =>
    (unfold q_ln at hln; dsimp only at hln; subst hln)
    obtain ⟨x, hl, hs⟩ := q_lI_s hs
    obtain ⟨hi, hs⟩ := q_st_s hs
    cases hs
    obtain ⟨lv, h1, h3, h2⟩ := q_LR_st (v := .int (x + Int32.ofInt n)) hL hi rfl
    obtain ⟨j, hj⟩ := List.getElem?_of_mem (h3 i _ hl (by simp))
    exact lv_iinc hx hb hdg h1 hj rfl (by rw [← hL.1]; exact hi) rfl (fun ls' h' => kk ls' H locs cells slots (by simp) (by simp) (h2 ls' h') hW hI hS)
  | dup =>
    (unfold q_ln at hln; dsimp only at hln; subst hln)
    unfold q_stp at hs
    dsimp only at hs
    split at hs
    · obtain ⟨h1, hs⟩ := q_if_s hs
      cases hs
      exact lv_dup hx hb hdg (by rw [q_rv_cat]; exact h1) (kk ls H locs cells slots (by simp) (by simp) hL hW hI hS)
    · cases hs
  | dup2 =>
    (unfold q_ln at hln; dsimp only at hln; subst hln)
    unfold q_stp at hs
    dsimp only at hs
    split at hs
    · obtain ⟨h1, hs⟩ := q_if_s hs
      cases hs
      exact lv_dup2_11 hx hb hdg (by rw [q_rv_cat]; exact h1.1) (by rw [q_rv_cat]; exact h1.2) (kk ls H locs cells slots (by simp) (by simp) hL hW hI hS)
    · cases hs
  | iadd =>
    (unfold q_ln at hln; dsimp only at hln; subst hln)
    obtain ⟨y, t, rfl, hs⟩ := q_pI_s hs
    obtain ⟨x, t, rfl, hs⟩ := q_pI_s hs
    cases hs
    exact lv_iadd hx hb hdg (kk ls H locs cells slots (by simp) (by simp) hL hW hI hS)
  | isub =>
    (unfold q_ln at hln; dsimp only at hln; subst hln)
    obtain ⟨y, t, rfl, hs⟩ := q_pI_s hs
    obtain ⟨x, t, rfl, hs⟩ := q_pI_s hs
    cases hs
    exact lv_isub hx hb hdg (kk ls H locs cells slots (by simp) (by simp) hL hW hI hS)
  | imul =>
    (unfold q_ln at hln; dsimp only at hln; subst hln)
    obtain ⟨y, t, rfl, hs⟩ := q_pI_s hs
    obtain ⟨x, t, rfl, hs⟩ := q_pI_s hs
    cases hs
    exact lv_imul hx hb hdg (kk ls H locs cells slots (by simp) (by simp) hL hW hI hS)
  | idiv =>
    (unfold q_ln at hln; dsimp only at hln; subst hln)
    obtain ⟨y, t, rfl, hs⟩ := q_pI_s hs
    obtain ⟨x, t, rfl, hs⟩ := q_pI_s hs
    obtain ⟨h1, hs⟩ := q_ifn_s hs
    cases hs
    exact lv_idiv hx hb hdg h1 (kk ls H locs cells slots (by simp) (by simp) hL hW hI hS)
  | irem =>
    (unfold q_ln at hln; dsimp only at hln; subst hln)
    obtain ⟨y, t, rfl, hs⟩ := q_pI_s hs
    obtain ⟨x, t, rfl, hs⟩ := q_pI_s hs
    obtain ⟨h1, hs⟩ := q_ifn_s hs
    cases hs
    exact lv_irem hx hb hdg h1 (kk ls H locs cells slots (by simp) (by simp) hL hW hI hS)
  | ineg =>
    (unfold q_ln at hln; dsimp only at hln; subst hln)
    obtain ⟨x, t, rfl, hs⟩ := q_pI_s hs
    cases hs
    exact lv_ineg hx hb hdg (kk ls H locs cells slots (by simp) (by simp) hL hW hI hS)
  | iand =>
    (unfold q_ln at hln; dsimp only at hln; subst hln)
    obtain ⟨y, t, rfl, hs⟩ := q_pI_s hs
    obtain ⟨x, t, rfl, hs⟩ := q_pI_s hs
    cases hs
    exact lv_iand hx hb hdg (kk ls H locs cells slots (by simp) (by simp) hL hW hI hS)
  | ior =>
    (unfold q_ln at hln; dsimp only at hln; subst hln)
    obtain ⟨y, t, rfl, hs⟩ := q_pI_s hs
    obtain ⟨x, t, rfl, hs⟩ := q_pI_s hs
    cases hs
    exact lv_ior hx hb hdg (kk ls H locs cells slots (by simp) (by simp) hL hW hI hS)
  | ixor =>
    (unfold q_ln at hln; dsimp only at hln; subst hln)
    obtain ⟨y, t, rfl, hs⟩ := q_pI_s hs
    obtain ⟨x, t, rfl, hs⟩ := q_pI_s hs
    cases hs
    exact lv_ixor hx hb hdg (kk ls H locs cells slots (by simp) (by simp) hL hW hI hS)
  | ishl =>
    (unfold q_ln at hln; dsimp only at hln; subst hln)
    obtain ⟨y, t, rfl, hs⟩ := q_pI_s hs
    obtain ⟨x, t, rfl, hs⟩ := q_pI_s hs
    cases hs
    exact lv_ishl hx hb hdg (kk ls H locs cells slots (by simp) (by simp) hL hW hI hS)
  | ishr =>
    (unfold q_ln at hln; dsimp only at hln; subst hln)
    obtain ⟨y, t, rfl, hs⟩ := q_pI_s hs
    obtain ⟨x, t, rfl, hs⟩ := q_pI_s hs
    cases hs
    exact lv_ishr hx hb hdg (kk ls H locs cells slots (by simp) (by simp) hL hW hI hS)
  | i2c =>
    (unfold q_ln at hln; dsimp only at hln; subst hln)
    obtain ⟨x, t, rfl, hs⟩ := q_pI_s hs
    cases hs
    exact lv_i2c hx hb hdg rfl (kk ls H locs cells slots (by simp) (by simp) hL hW hI hS)
  | i2f =>
    (unfold q_ln at hln; dsimp only at hln; subst hln)
    obtain ⟨x, t, rfl, hs⟩ := q_pI_s hs
    cases hs
    exact lv_i2f hx hb hdg (kk ls H locs cells slots (by simp) (by simp) hL hW hI hS)
  | f2i =>
    (unfold q_ln at hln; dsimp only at hln; subst hln)
    obtain ⟨x, t, rfl, hs⟩ := q_pF_s hs
    cases hs
    exact lv_f2i hx hb hdg (kk ls H locs cells slots (by simp) (by simp) hL hW hI hS)
  | fmul =>
    (unfold q_ln at hln; dsimp only at hln; subst hln)
    obtain ⟨y, t, rfl, hs⟩ := q_pF_s hs
    obtain ⟨x, t, rfl, hs⟩ := q_pF_s hs
    obtain ⟨h1, hs⟩ := q_if_s hs
    cases hs
    exact lv_fmul hx hb hdg h1 (kk ls H locs cells slots (by simp) (by simp) hL hW hI hS)
  | fdiv =>
    (unfold q_ln at hln; dsimp only at hln; subst hln)
    obtain ⟨y, t, rfl, hs⟩ := q_pF_s hs
    obtain ⟨x, t, rfl, hs⟩ := q_pF_s hs
    obtain ⟨h1, hs⟩ := q_if_s hs
    cases hs
    exact lv_fdiv hx hb hdg h1 (kk ls H locs cells slots (by simp) (by simp) hL hW hI hS)
  | fsub =>
    (unfold q_ln at hln; dsimp only at hln; subst hln)
    obtain ⟨y, t, rfl, hs⟩ := q_pF_s hs
    obtain ⟨x, t, rfl, hs⟩ := q_pF_s hs
    obtain ⟨h1, hs⟩ := q_if_s hs
    cases hs
    exact lv_fsub hx hb hdg h1 (kk ls H locs cells slots (by simp) (by simp) hL hW hI hS)
  | fcmp op =>
    (unfold q_ln at hln; dsimp only at hln; subst hln)
    obtain ⟨y, t, rfl, hs⟩ := q_pF_s hs
    obtain ⟨x, t, rfl, hs⟩ := q_pF_s hs
    cases hs
    exact lv_fcmp hx hb hdg (kk ls H locs cells slots (by simp) (by simp) hL hW hI hS)
  | goto off =>
    cases hs; (unfold q_ln at hln; dsimp only at hln; subst hln)
    exact lv_goto hx hb hdg (q_jt (of_decide_eq_true hox)) (kk ls H locs cells slots (by simp) (by simp) hL hW hI hS)
  | ifCond cd off =>
    (unfold q_ln at hln; dsimp only at hln; subst hln)
    obtain ⟨x, t, rfl, hs⟩ := q_pI_s hs
    cases hs
    exact q_ifc hx hb hdg (of_decide_eq_true hox) (kk ls H locs cells slots (by simp) (by simp) hL hW hI hS)
  | if_icmp cd off =>
    (unfold q_ln at hln; dsimp only at hln; subst hln)
    obtain ⟨y, t, rfl, hs⟩ := q_pI_s hs
    obtain ⟨x, t, rfl, hs⟩ := q_pI_s hs
    cases hs
    exact q_icmp hx hb hdg (of_decide_eq_true hox) (kk ls H locs cells slots (by simp) (by simp) hL hW hI hS)
  | tableswitch d lo hi offs =>
    obtain ⟨x, t, rfl, hs⟩ := q_pI_s hs
    unfold q_okx at hox
    simp only [Bool.and_eq_true, decide_eq_true_eq, List.all_eq_true] at hox
    have hs : (q_sw pc' x d lo hi offs).map (fun pc => (pc, L, t, E, g)) = some o := hs
    unfold q_sw at hs
    by_cases h : x.toInt < lo ∨ hi < x.toInt
    · rw [if_pos h] at hs
      cases hs
      exact lv_tableOut hx hb hdg h (q_jt hox.1) (kk ls H locs cells slots (by simp) (by simp) hL hW hI hS)
    · rw [if_neg h] at hs
      cases ho : offs[(x.toInt - lo).toNat]? with
      | none => rw [ho] at hs; cases hs
      | some off =>
        rw [ho] at hs
        cases hs
        exact lv_tableIn hx hb hdg (fun q => h (Or.inl q)) (fun q => h (Or.inr q)) ho (q_jt (hox.2 off (Array.mem_toList_iff.mpr (Array.mem_of_getElem? ho)))) (kk ls H locs cells slots (by simp) (by simp) hL hW hI hS)
  | lookupswitch d ps =>
    obtain ⟨x, t, rfl, hs⟩ := q_pI_s hs
    unfold q_okx at hox
    simp only [Bool.and_eq_true] at hox
    obtain ⟨⟨h1, h2⟩, h3⟩ := hox
    cases hs
    exact lv_lookup hx hb hdg h3 rfl (q_jt (q_look _ (fun o ho => of_decide_eq_true (List.all_eq_true.mp h2 o ho)) (of_decide_eq_true h1))) (kk ls H locs cells slots (by simp) (by simp) hL hW hI hS)
  | getfield idx =>
    (unfold q_ln at hln; dsimp only at hln; subst hln)
    obtain ⟨a, t, rfl, hs⟩ := q_pR_s hs
    obtain ⟨hkd, hs⟩ := q_if_s hs
    unfold q_okx at hox
    dsimp only at hox hkd hs
    simp only [Bool.and_eq_true, decide_eq_true_eq] at hox
    obtain ⟨⟨⟨hci, hkf⟩, hisR⟩, hw⟩ := hox
    obtain ⟨ha3, haE⟩ := hI.2.1 a (by omega)
    have hat := q_ws_at (Z := Z) (g := g) ha3 haE
    rw [q_en_4 hkd] at hat
    have hfs : ((List.range (q_cl (ax.getD 0 0)).2.2).map (q_fv Z E g a (ax.getD 0 0)))[ax.getD 1 0]? = some (q_fv Z E g a (ax.getD 0 0) (ax.getD 1 0)) := by
      rw [List.getElem?_map, List.getElem?_range hkf]; rfl
    by_cases h2 : ax.getD 2 0 = 1
    · rw [if_pos h2] at hs
      obtain ⟨hz, hs⟩ := q_ifn_s hs
      cases hs
      have hv : q_fv Z E g a (ax.getD 0 0) (ax.getD 1 0) = .ref (q_ad Z (q_rf E a (ax.getD 1 0))) := by
        unfold q_fv
        rw [if_pos (by rw [← hisR]; exact h2), if_neg hz]
      rw [hv] at hfs
      exact va_get hx hb hts (q_in _ hci) hown hK.1 hW _ hat (q_cl_some _ hci) _ hkf (hts' hw) (fun _ h => h) hfs hdg (kk ls H locs cells slots (by simp) (by simp) hL hW hI hS)
    · rw [if_neg h2] at hs
      cases hs
      have hv : q_fv Z E g a (ax.getD 0 0) (ax.getD 1 0) = .int (g a (ax.getD 1 0)) := by
        unfold q_fv
        rw [if_neg (by rw [← hisR]; exact h2)]
      rw [hv] at hfs
      exact va_get hx hb hts (q_in _ hci) hown hK.1 hW _ hat (q_cl_some _ hci) _ hkf (hts' hw) (fun _ h => h) hfs hdg (kk ls H locs cells slots (by simp) (by simp) hL hW hI hS)
  | putfield idx =>
    (unfold q_ln at hln; dsimp only at hln; subst hln)
    unfold q_okx at hox
    dsimp only at hox
    simp only [Bool.and_eq_true, decide_eq_true_eq] at hox
    obtain ⟨⟨⟨⟨hci, hkf⟩, hw⟩, hty⟩, hfin⟩ := hox
    have hd := q_ty_ok _ hci _ hkf
    -- the write itself
    have put : ∀ (a : Nat) (v w : Value) (t : List Value) (E' : q_E) (g' : q_G), (q_kd E a).1 = 4 + ax.getD 0 0 → q_rv Z w = v → narrow (q_ty (ax.getD 0 0) (ax.getD 1 0)) v = v → fits (q_ty (ax.getD 0 0) (ax.getD 1 0)) v = true → E'.1 = E.1 → E'.2.1 = E.2.1 → q_kd E' a = q_kd E a → q_fv Z E' g' a (ax.getD 0 0) (ax.getD 1 0) = v → (∀ i, i ≠ ax.getD 1 0 → q_fv Z E' g' a (ax.getD 0 0) i = q_fv Z E g a (ax.getD 0 0) i) → (∀ b, b ≠ a → q_en Z E' g' b = q_en Z E g b) → q_I Z E' g' → q_KK Z p l e R s m args below meth c cells slots Q E (q_mi k).2.2.1 (pc' + 3, L, t, E', g') →
        W p l e R s m args below meth c H locs cells slots Q (F0 m pc' ls (v :: .ref (q_ad Z a) :: t.map (q_rv Z))) := by
      intro a v w t E' g' hkd hwv hn hfit e1 e2 hkd' hfv hfo ho hI' kk
      obtain ⟨ha3, haE⟩ := hI.2.1 a (by omega)
      have hat := q_ws_at (Z := Z) (g := g) ha3 haE
      rw [q_en_4 hkd] at hat
      have hset : ((List.range (q_cl (ax.getD 0 0)).2.2).map (q_fv Z E g a (ax.getD 0 0))).set (ax.getD 1 0) v = (List.range (q_cl (ax.getD 0 0)).2.2).map (q_fv Z E' g' a (ax.getD 0 0)) := q_map_set hkf hfv hfo
      have hen : q_en Z E' g' a = .inr (ax.getD 0 0, (List.range (q_cl (ax.getD 0 0)).2.2).map (q_fv Z E' g' a (ax.getD 0 0))) := q_en_4 (by rw [hkd']; exact hkd)
      have hws : (q_ws Z E g).set (a - 3) (q_ad Z a, .inr (ax.getD 0 0, ((List.range (q_cl (ax.getD 0 0)).2.2).map (q_fv Z E g a (ax.getD 0 0))).set (ax.getD 1 0) v)) = q_ws Z E' g' := by
        rw [hset, ← hen]
        exact q_ws_set ha3 haE e1 ho
      have hlen : ax.getD 1 0 < ((List.range (q_cl (ax.getD 0 0)).2.2).map (q_fv Z E g a (ax.getD 0 0))).length := by simpa using hkf
      have K : ∀ (H1 : Heap) (locs1 : List Loc), va_P Z.1 vwCl ((q_ws Z E g).set (a - 3) (q_ad Z a, .inr (ax.getD 0 0, ((List.range (q_cl (ax.getD 0 0)).2.2).map (q_fv Z E g a (ax.getD 0 0))).set (ax.getD 1 0) v))) H1 → va_D (q_A Z) ((q_ws Z E g).set (a - 3) (q_ad Z a, .inr (ax.getD 0 0, ((List.range (q_cl (ax.getD 0 0)).2.2).map (q_fv Z E g a (ax.getD 0 0))).set (ax.getD 1 0) v))) → va_S (q_A Z) s.heap H1 locs1 → W p l e R s m args below meth c H1 locs1 cells slots Q (F0 m (pc' + 3) ls (t.map (q_rv Z))) := by
        intro H1 locs1 h1 _ h3
        rw [hws] at h1
        exact kk ls H1 locs1 cells slots (by show cells = cells + (E'.1 - E.1); omega) (by show slots = slots + (E'.2.1 - E.2.1); omega) hL h1 hI' h3
      cases hfl : ((q_cl (ax.getD 0 0)).2.1 (ax.getD 1 0)).2.2.2 with
      | false => exact va_put hx hb hts (q_in _ hci) (q_ty (ax.getD 0 0)) (q_ty_ok _ hci) (q_nm _ hci) hown hK.1 hW q_ws_D hS _ hat (q_cl_some _ hci) _ hkf (hts' hw) (fun _ h => h) hfl hd hn hfit hlen hdg K
      | true =>
        rw [hfl] at hfin
        simp only [Bool.not_true, Bool.false_or, Bool.and_eq_true, decide_eq_true_eq] at hfin
        exact va_putF hx hb hts (q_in _ hci) (q_ty (ax.getD 0 0)) (q_ty_ok _ hci) (q_nm _ hci) hown hK.1 hW q_ws_D hS _ hat (q_cl_some _ hci) _ hkf (hts' hw) (fun _ h => h) hfl (hnm hfin.2) hfin.1 hd hn hfit hlen hdg K
    have hrefs : ax.getD 2 0 = 1 → (∃ n, q_ty (ax.getD 0 0) (ax.getD 1 0) = .object n) ∨ ∃ n, q_ty (ax.getD 0 0) (ax.getD 1 0) = .array n := by
      intro h
      rw [h] at hty
      cases hq : q_ty (ax.getD 0 0) (ax.getD 1 0) <;> rw [hq] at hty <;> first | exact Or.inl ⟨_, rfl⟩ | exact Or.inr ⟨_, rfl⟩ | exact absurd hty (by decide)
    have hints : ax.getD 2 0 ≠ 1 → q_ty (ax.getD 0 0) (ax.getD 1 0) = .int ∨ (q_ty (ax.getD 0 0) (ax.getD 1 0) = .char ∧ ax.getD 2 0 = 2) := by
      intro h
      cases hq : q_ty (ax.getD 0 0) (ax.getD 1 0) <;> rw [hq] at hty <;> first | exact Or.inl rfl | exact Or.inr ⟨rfl, eq_of_beq hty⟩ | exact absurd (eq_of_beq hty) h | exact absurd (show false = true from hty) (by decide)
    unfold q_stp at hs
    dsimp only at hs
    by_cases h2 : ax.getD 2 0 = 1
    · rw [if_pos h2] at hs
      obtain ⟨v, t1, e1, hs1⟩ := q_pR_s hs
      obtain ⟨a, t2, e2, hs2⟩ := q_pR_s hs1
      obtain ⟨⟨hkd, hv0⟩, hs3⟩ := q_if_s hs2
      clear hs hs1 hs2
      subst e2
      subst e1
      cases hs3
      have hR : q_isR (ax.getD 0 0) (ax.getD 1 0) = true := by
        unfold q_isR
        rcases hrefs h2 with ⟨n, h⟩ | ⟨n, h⟩ <;> rw [h]
      refine put a (.ref (q_ad Z v)) (.ref v) t2 (q_setR E a (ax.getD 1 0) v) g hkd rfl ?_ ?_ rfl rfl rfl ?_ (fun i hi => ?_) (fun b hb => q_en_setR hb) hI kk
      · rcases hrefs h2 with ⟨n, h⟩ | ⟨n, h⟩ <;> rw [h] <;> rfl
      · rcases hrefs h2 with ⟨n, h⟩ | ⟨n, h⟩ <;> rw [h] <;> rfl
      · unfold q_fv
        rw [if_pos hR, q_setR_s, if_neg hv0]
      · unfold q_fv
        rw [q_setR_n (fun q => hi q.2)]
    · rw [if_neg h2] at hs
      obtain ⟨v, t1, e1, hs1⟩ := q_pI_s hs
      obtain ⟨a, t2, e2, hs2⟩ := q_pR_s hs1
      obtain ⟨⟨hkd, hch⟩, hs3⟩ := q_if_s hs2
      clear hs hs1 hs2
      subst e2
      subst e1
      cases hs3
      have hR : q_isR (ax.getD 0 0) (ax.getD 1 0) = false := by
        unfold q_isR
        rcases hints h2 with h | ⟨h, -⟩ <;> rw [h]
      refine put a (.int v) (.int v) t2 E (q_up g a (ax.getD 1 0) v) hkd rfl ?_ ?_ rfl rfl rfl ?_ (fun i hi => ?_) (fun b hb => q_en_up _ hb) (q_I_up (a := a) _ hI (by omega)) kk
      · rcases hints h2 with h | ⟨h, h'⟩
        · rw [h]; rfl
        · rw [h]; exact (hch h').1
      · rcases hints h2 with h | ⟨h, h'⟩
        · rw [h]; rfl
        · rw [h]; exact (hch h').2
      · unfold q_fv
        rw [hR, if_neg (by decide), q_up_s]
        simp [upd]
      · unfold q_fv
        rw [q_up_s]
        simp only [upd, if_neg hi]
  | getstatic idx =>
    cases hs; (unfold q_ln at hln; dsimp only at hln; subst hln)
    unfold q_okx at hox
    dsimp only at hox
    simp only [Bool.or_eq_true, Bool.and_eq_true, decide_eq_true_eq] at hox
    have K := kk ls H locs cells slots (by simp) (by simp) hL hW hI hS
    rcases hox with ⟨-, h⟩ | ⟨-, h⟩
    · exact va_gets hx hb hK.2.2.2.1 hS hown (hts' h) (fun _ h => h) hdg K
    · exact va_getsN hx hb hK.2.2.2.1 hS hown (va_Nw.use rfl (hK.2.2.2.2 _ h)) (fun _ h => h) hdg K
  | new idx =>
    cases hs; (unfold q_ln at hln; dsimp only at hln; subst hln)
    unfold q_okx at hox
    dsimp only at hox
    simp only [Bool.and_eq_true, decide_eq_true_eq] at hox
    obtain ⟨⟨⟨⟨hci, hnf⟩, h1⟩, h2⟩, h3⟩ := hox
    have hKn := hK.1.1 _ _ (q_cl_some _ hci)
    have hc1 : cells + 1 ≤ R.cells := by
      have : cells + (E.1 + 1 - E.1) ≤ R.cells := hc
      omega
    have hs1 : slots + (q_cl (ax.getD 0 0)).2.2 ≤ R.slots := by
      have : slots + (E.2.1 + ax.getD 1 0 - E.2.1) ≤ R.slots := hsl
      omega
    refine W.newcK hx hb hown (hts' h1) (hts' h2) (hts' h3) rfl hdg hc1 hs1 hKn.2.1 rfl fun H1 kC hkC e1 z1 o1 => ?_
    have hk : ∀ (k : Nat) (x : Nat × va_E), (q_ws Z E g)[k]? = some x → H1[x.1]? = H[x.1]? := fun k x hx => o1 x.1 ((hW k x hx).lt)
    have hen : q_en Z (q_new E (4 + ax.getD 0 0) (ax.getD 1 0)) (q_upA g E.1 (fun _ => 0)) E.1 = .inr (ax.getD 0 0, (List.range (q_cl (ax.getD 0 0)).2.2).map (q_fv Z (q_new E (4 + ax.getD 0 0) (ax.getD 1 0)) (q_upA g E.1 (fun _ => 0)) E.1 (ax.getD 0 0))) := q_en_4 (by rw [q_kd_news])
    have hP1 : q_Pi Z (q_new E (4 + ax.getD 0 0) (ax.getD 1 0)) (q_upA g E.1 (fun _ => 0)) H1 := by
      show va_P _ _ _ _
      rw [← q_ws_push (E := E) (g := g) hI.1 rfl (fun b hb => q_en_new _ hb)]
      refine (hW.kept hk).app fun j x hx => ?_
      have hz : j < 1 := (List.getElem?_eq_some_iff.mp hx).1
      rw [show j = 0 by omega] at hx
      cases hx
      show va_at _ _ (_, q_en _ _ _ _) _
      rw [hen]
      refine ⟨_, q_cl_some _ hci, ?_⟩
      have hb1 := u_born (q_ty (ax.getD 0 0)) hts (q_in _ hci) hKn hkC e1 (q_ty_ok _ hci)
      rw [hsz] at hb1
      refine hb1.to fun j hj => ?_
      refine Eq.trans ?_ (q_map_getD hj).symm
      unfold q_fv
      rw [q_upA_s, show q_rf (q_new E (4 + ax.getD 0 0) (ax.getD 1 0)) E.1 j = 0 by unfold q_rf q_new; exact if_pos rfl]
      have := q_tyk _ hci j hj
      unfold q_isR
      rcases this with h | h | ⟨n, h⟩ | ⟨n, h⟩ <;> rw [h] <;> rfl
    have K := kk ls H1 locs (cells + 1) (slots + (q_cl (ax.getD 0 0)).2.2) (by show cells + 1 = cells + (E.1 + 1 - E.1); omega) (by show _ = slots + (E.2.1 + ax.getD 1 0 - E.2.1); omega) hL hP1 (q_I_new _ hI (by omega)) ⟨Nat.le_trans hS.1 (by omega), fun x h1 h2 => (o1 x (Nat.lt_of_lt_of_le h1 hS.1)).trans (hS.2.1 x h1 h2), hS.2.2⟩
    have e3 : q_rv Z (.ref E.1) = .ref H.size := by
      show Value.ref (q_ad Z E.1) = _
      rw [q_ad_n hI.1, hsz]
    have K : W p l e R s m args below meth c H1 locs (cells + 1) (slots + (q_cl (ax.getD 0 0)).2.2) Q (F0 m (pc' + 3) ls (q_rv Z (.ref E.1) :: S.map (q_rv Z))) := K
    rw [e3] at K
    exact K
  | newarray ty =>
    (unfold q_ln at hln; dsimp only at hln; subst hln)
    obtain ⟨n, t, rfl, hs⟩ := q_pI_s hs
    obtain ⟨hn, hs⟩ := q_ifn_s hs
    have hn1 : ¬ n < 0 := fun q => hn (Or.inl q)
    have hn2 : n.toNatClampNeg ≤ 100000 := Nat.not_lt.mp fun q => hn (Or.inr q)
    have arr : ∀ (tg : Nat) (cA0 : ClassId) (ft : FieldType) (t0 : Nat), newarray.typeOf ty = ft → componentBytes ft ≤ 4 → (tg = 2 ∧ cA0 = Z.2.1.1 ∨ tg = 3 ∧ cA0 = Z.2.1.2) → defaultValue ft = .int 0 → ([(Z.2.1.1, .int), (Z.2.1.2, .char)] : List (ClassId × FieldType))[t0]? = some (cA0, ft) → (ft = .int ∨ ft = .char) → cells + 1 ≤ R.cells → slots + n.toNatClampNeg ≤ R.slots → q_KK Z p l e R s m args below meth c cells slots Q E (q_mi k).2.2.1 (pc' + 2, L, .ref E.1 :: t, q_new E tg n.toNatClampNeg, q_upA g E.1 (fun _ => 0)) →
        W p l e R s m args below meth c H locs cells slots Q (F0 m pc' ls (.int n :: t.map (q_rv Z))) := by
      intro tg cA0 ft t0 hft hcb htg hdv ht0 hft2 hc1 hs1 kk
      subst hft
      refine va_newaK hx hb (hts' hox) rfl hdg rfl hn1 rfl (by
        have := Nat.mul_le_mul hn2 hcb
        omega) hc1 hs1 rfl fun H1 cA e1 z1 o1 hAr hNm => ?_
      have hcA : cA = cA0 := by
        have h9 := (hK.1.2 t0 _ ht0).2
        rcases hft2 with h | h
        · rw [h] at h9 hNm
          exact Option.some.inj (hNm.symm.trans h9)
        · rw [h] at h9 hNm
          exact Option.some.inj (hNm.symm.trans h9)
      have hk : ∀ (k : Nat) (x : Nat × va_E), (q_ws Z E g)[k]? = some x → H1[x.1]? = H[x.1]? := fun k x hx => o1 x.1 ((hW k x hx).lt)
      have hen : q_en Z (q_new E tg n.toNatClampNeg) (q_upA g E.1 (fun _ => 0)) E.1 = .inl (cA0, (n.toNatClampNeg, .inl (fun _ => 0))) := by
        rcases htg with ⟨h1, h2⟩ | ⟨h1, h2⟩
        · subst h1; rw [q_en_2 (by rw [q_kd_news]), q_kd_news, q_upA_s, h2]
        · subst h1; rw [q_en_3 (by rw [q_kd_news]), q_kd_news, q_upA_s, h2]
      have hP1 : q_Pi Z (q_new E tg n.toNatClampNeg) (q_upA g E.1 (fun _ => 0)) H1 := by
        show va_P _ _ _ _
        rw [← q_ws_push (E := E) (g := g) hI.1 rfl (fun b hb => q_en_new _ hb)]
        refine (hW.kept hk).app fun j x hx => ?_
        have hz : j < 1 := (List.getElem?_eq_some_iff.mp hx).1
        rw [show j = 0 by omega] at hx
        cases hx
        show va_at _ _ (_, q_en _ _ _ _) _
        rw [hen]
        show H1[_]? = some (vp_cell cA0 (n.toNatClampNeg, .inl (fun _ => 0)))
        rw [← hsz, e1, vp_cell_i, hcA, hdv]
      have K := kk ls H1 locs (cells + 1) (slots + n.toNatClampNeg) (by show cells + 1 = cells + (E.1 + 1 - E.1); omega) (by show _ = slots + (E.2.1 + n.toNatClampNeg - E.2.1); omega) hL hP1 (q_I_new _ hI (by omega)) ⟨Nat.le_trans hS.1 (by omega), fun x h1 h2 => (o1 x (Nat.lt_of_lt_of_le h1 hS.1)).trans (hS.2.1 x h1 h2), hS.2.2⟩
      have e3 : q_rv Z (.ref E.1) = .ref H.size := by
        show Value.ref (q_ad Z E.1) = _
        rw [q_ad_n hI.1, hsz]
      have K : W p l e R s m args below meth c H1 locs (cells + 1) (slots + n.toNatClampNeg) Q (F0 m (pc' + 2) ls (q_rv Z (.ref E.1) :: t.map (q_rv Z))) := K
      rw [e3] at K
      exact K
    cases ty with
    | int =>
      cases hs
      exact arr 2 _ .int 0 rfl (by decide) (Or.inl ⟨rfl, rfl⟩) rfl rfl (Or.inl rfl) (by have : cells + (E.1 + 1 - E.1) ≤ R.cells := hc; omega) (by have : slots + (E.2.1 + n.toNatClampNeg - E.2.1) ≤ R.slots := hsl; omega) kk
    | char =>
      cases hs
      exact arr 3 _ .char 1 rfl (by decide) (Or.inr ⟨rfl, rfl⟩) rfl rfl (Or.inr rfl) (by have : cells + (E.1 + 1 - E.1) ≤ R.cells := hc; omega) (by have : slots + (E.2.1 + n.toNatClampNeg - E.2.1) ≤ R.slots := hsl; omega) kk
    | _ => cases hs
  | arraylength =>
    (unfold q_ln at hln; dsimp only at hln; subst hln)
    obtain ⟨a, t, rfl, hs⟩ := q_pR_s hs
    obtain ⟨h1, hs⟩ := q_if_s hs
    cases hs
    have K := kk ls H locs cells slots (by simp) (by simp) hL hW hI hS
    rcases h1 with h | h | h
    · rcases hI.2.2 a h with ⟨rfl, h2, -⟩ | ⟨rfl, h2, -⟩
      · rw [h2] at K
        exact va_tlen hx hb hK.2.1 hS rfl hdg K
      · rw [h2] at K
        exact va_tlen hx hb hK.2.2.1 hS rfl hdg K
    · obtain ⟨ha3, haE⟩ := hI.2.1 a (by omega)
      have hat := q_ws_at (Z := Z) (g := g) ha3 haE
      rw [q_en_2 h] at hat
      exact va_alen hx hb hK.1 hW _ 0 hat rfl rfl hdg K
    · obtain ⟨ha3, haE⟩ := hI.2.1 a (by omega)
      have hat := q_ws_at (Z := Z) (g := g) ha3 haE
      rw [q_en_3 h] at hat
      exact va_alen hx hb hK.1 hW _ 1 hat rfl rfl hdg K
  | iaload =>
    (unfold q_ln at hln; dsimp only at hln; subst hln)
    obtain ⟨i, t, rfl, hs⟩ := q_pI_s hs
    obtain ⟨a, t, rfl, hs⟩ := q_pR_s hs
    obtain ⟨⟨h1, hin⟩, hs⟩ := q_if_s hs
    cases hs
    have K := kk ls H locs cells slots (by simp) (by simp) hL hW hI hS
    have hlt : i.toNatClampNeg < (q_kd E a).2 := Nat.not_le.mp fun q => hin (Or.inr q)
    rcases h1 with h | h
    · rcases hI.2.2 a h with ⟨rfl, h2, h3⟩ | ⟨rfl, h2, h3⟩
      · rw [h2] at hin hlt
        exact va_ti (v := .int (g 1 i.toNatClampNeg)) hx hb hK.2.1 hS hin (by show Value.int _ = Value.int _; rw [h3 _ hlt]) hdg K
      · rw [h2] at hin hlt
        exact va_ti (v := .int (g 2 i.toNatClampNeg)) hx hb hK.2.2.1 hS hin (by show Value.int _ = Value.int _; rw [h3 _ hlt]) hdg K
    · obtain ⟨ha3, haE⟩ := hI.2.1 a (by omega)
      have hat := q_ws_at (Z := Z) (g := g) ha3 haE
      rw [q_en_2 h] at hat
      exact va_iald hx hb hK.1 hW _ 0 hat rfl hin hdg K
  | caload =>
    (unfold q_ln at hln; dsimp only at hln; subst hln)
    obtain ⟨i, t, rfl, hs⟩ := q_pI_s hs
    obtain ⟨a, t, rfl, hs⟩ := q_pR_s hs
    obtain ⟨⟨h, hin⟩, hs⟩ := q_if_s hs
    cases hs
    have K := kk ls H locs cells slots (by simp) (by simp) hL hW hI hS
    obtain ⟨ha3, haE⟩ := hI.2.1 a (by omega)
    have hat := q_ws_at (Z := Z) (g := g) ha3 haE
    rw [q_en_3 h] at hat
    exact va_cald hx hb hK.1 hW _ 1 hat rfl hin hdg K
  | iastore =>
    (unfold q_ln at hln; dsimp only at hln; subst hln)
    obtain ⟨x, t, rfl, hs⟩ := q_pI_s hs
    obtain ⟨i, t, rfl, hs⟩ := q_pI_s hs
    obtain ⟨a, t, rfl, hs⟩ := q_pR_s hs
    obtain ⟨⟨h, hin⟩, hs⟩ := q_if_s hs
    cases hs
    obtain ⟨ha3, haE⟩ := hI.2.1 a (by omega)
    have hat := q_ws_at (Z := Z) (g := g) ha3 haE
    rw [q_en_2 h] at hat
    have hws : (q_ws Z E g).set (a - 3) (q_ad Z a, .inl (Z.2.1.1, ((q_kd E a).2, .inl (upd (g a) i.toNatClampNeg x)))) = q_ws Z E (q_up g a i.toNatClampNeg x) := by
      rw [← q_ws_set (Z := Z) (E := E) (E' := E) (g := g) (g' := q_up g a i.toNatClampNeg x) ha3 haE rfl (fun b hb => q_en_up _ hb), q_en_2 h, q_up_s]
    refine va_iast hx hb hK.1 hW q_ws_D hS _ 0 hat rfl hin hdg fun H1 locs1 h1 _ h3 => ?_
    rw [hws] at h1
    exact kk ls H1 locs1 cells slots (by simp) (by simp) hL h1 (q_I_up (a := a) _ hI (show 2 ≤ (q_kd E a).1 by omega)) h3
  | castore =>
    (unfold q_ln at hln; dsimp only at hln; subst hln)
    obtain ⟨x, t, rfl, hs⟩ := q_pI_s hs
    obtain ⟨i, t, rfl, hs⟩ := q_pI_s hs
    obtain ⟨a, t, rfl, hs⟩ := q_pR_s hs
    obtain ⟨⟨h, hin⟩, hs⟩ := q_if_s hs
    cases hs
    obtain ⟨ha3, haE⟩ := hI.2.1 a (by omega)
    have hat := q_ws_at (Z := Z) (g := g) ha3 haE
    rw [q_en_3 h] at hat
    have hws : (q_ws Z E g).set (a - 3) (q_ad Z a, .inl (Z.2.1.2, ((q_kd E a).2, .inl (upd (g a) i.toNatClampNeg (vp_nar .char x))))) = q_ws Z E (q_up g a i.toNatClampNeg (vp_nar .char x)) := by
      rw [← q_ws_set (Z := Z) (E := E) (E' := E) (g := g) (g' := q_up g a i.toNatClampNeg (vp_nar .char x)) ha3 haE rfl (fun b hb => q_en_up _ hb), q_en_3 h, q_up_s]
    refine va_cast hx hb hK.1 hW q_ws_D hS _ 1 hat rfl hin hdg fun H1 locs1 h1 _ h3 => ?_
    rw [hws] at h1
    exact kk ls H1 locs1 cells slots (by simp) (by simp) hL h1 (q_I_up (a := a) _ hI (show 2 ≤ (q_kd E a).1 by omega)) h3
  | invokespecial idx =>
    (unfold q_ln at hln; dsimp only at hln; subst hln)
    unfold q_cls at h0
    dsimp only at h0
    have h6 : ¬ ax.getD 2 0 < 6 := by
      intro h
      rw [if_pos h] at h0
      cases h0
    unfold q_okn at hon
    dsimp only at hon
    rw [if_neg h6] at hon
    simp only [Bool.and_eq_true, decide_eq_true_eq] at hon
    obtain ⟨⟨⟨h1, h2⟩, h3⟩, h4⟩ := hon
    obtain ⟨a, t, rfl, hs⟩ := q_pR_s hs
    obtain ⟨rfl, hs⟩ := q_if_s hs
    cases hs
    refine W.objInit hx hb hown (hts' h2) (hts' h3) (hts' h4) rfl (by rw [hml]; exact hlsz) rfl hdg (by omega) (by show 2 * 0 + 0 + 12 ≤ _; omega) ?_
    exact kk ls H locs cells slots (by simp) (by simp) hL hW hI hS
  | invokestatic idx =>
    (unfold q_ln at hln; dsimp only at hln; subst hln)
    unfold q_cls at h0
    dsimp only at h0
    have h6 : ¬ ax.getD 2 0 < 6 := by
      intro h
      rw [if_pos h] at h0
      cases h0
    unfold q_okn at hon
    dsimp only at hon
    rw [if_neg h6] at hon
    unfold q_stp at hs
    dsimp only at hs
    by_cases h8 : ax.getD 2 0 = 8
    · rw [if_pos h8] at hs hon
      simp only [Bool.and_eq_true, decide_eq_true_eq] at hon
      obtain ⟨⟨⟨⟨h1, h2⟩, h3⟩, h4⟩, h5⟩ := hon
      obtain ⟨b, t, rfl, hs⟩ := q_pF_s hs
      obtain ⟨ht, hs⟩ := q_if_s hs
      cases hs
      have hcat : ((t.map (q_rv Z)).map fun v => v.category).sum ≤ 16 := by
        have : ∀ (t : List Value), (t.map fun v => v.category).sum ≤ 2 * t.length := by
          intro t
          induction t with
          | nil => simp
          | cons v t ih =>
            have hv : v.category ≤ 2 := by cases v <;> simp [Value.category]
            simp only [List.map_cons, List.sum_cons, List.length_cons]
            omega
        have := this (t.map (q_rv Z))
        rw [List.length_map] at this
        omega
      exact vn_f2i hx hb (by rw [hml]; exact hlsz.symm) hown (hts' h2) (hts' h3) (hts' h4) (hts' h5) (by omega) (by omega) hdg (kk ls H locs cells slots (by simp) (by simp) hL hW hI hS)
    · rw [if_neg h8] at hs hon
      simp only [Bool.and_eq_true, decide_eq_true_eq] at hon
      obtain ⟨⟨⟨⟨h1, h2⟩, h3⟩, h4⟩, h5⟩ := hon
      obtain ⟨n, t1, e1, hs1⟩ := q_pI_s hs
      obtain ⟨dp, t2, e2, hs2⟩ := q_pI_s hs1
      obtain ⟨a, t3, e3, hs3⟩ := q_pR_s hs2
      obtain ⟨sp, t4, e4, hs4⟩ := q_pI_s hs3
      obtain ⟨a0, t, e5, hs5⟩ := q_pR_s hs4
      obtain ⟨⟨ka, ka0, e6, p1, p2, p3, p4, p5⟩, hs6⟩ := q_if_s hs5
      clear hs hs1 hs2 hs3 hs4 hs5
      subst e6; subst e5; subst e4; subst e3; subst e2; subst e1
      cases hs6
      obtain ⟨ha3, haE⟩ := hI.2.1 a (by omega)
      obtain ⟨hb3, hbE⟩ := hI.2.1 a0 (by omega)
      have hat := q_ws_at (Z := Z) (g := g) ha3 haE
      rw [q_en_2 ka] at hat
      have hbt := q_ws_at (Z := Z) (g := g) hb3 hbE
      rw [q_en_2 ka0] at hbt
      have hws : (q_ws Z E g).set (a - 3) (q_ad Z a, .inl (Z.2.1.1, ((q_kd E a).2, .inl (va_cpy (g a0) (g a) sp.toNatClampNeg dp.toNatClampNeg n.toNatClampNeg)))) = q_ws Z E (q_upA g a (va_cpy (g a0) (g a) sp.toNatClampNeg dp.toNatClampNeg n.toNatClampNeg)) := by
        rw [← q_ws_set (Z := Z) (E := E) (E' := E) (g := g) (g' := q_upA g a (va_cpy (g a0) (g a) sp.toNatClampNeg dp.toNatClampNeg n.toNatClampNeg)) ha3 haE rfl (fun b hb => q_en_up _ hb), q_en_2 ka, q_upA_s]
      refine va_copyi hx hb (by rw [hml]; exact hlsz.symm) hown (hts' h2) (hts' h3) (hts' h4) (hts' h5) hK.1 hW q_ws_D hS _ _ 0 0 hbt hat rfl rfl rfl p1 p2 p3 p4 p5 (fun _ _ => rfl) (by omega) (by
        have hw : nativeFrameWords "java/lang/System" "arraycopy" 5 = 7 := by decide
        rw [hw]
        show 0 + (7 + 11) ≤ _
        omega) hdg fun H1 locs1 q1 _ q3 => ?_
      rw [hws] at q1
      exact kk ls H1 locs1 cells slots (by simp) (by simp) hL q1 (q_I_up (a := a) _ hI (show 2 ≤ (q_kd E a).1 by omega)) q3
  | _ => exact absurd hs (by intro q; cases q)
end
end
section
theorem q_stp_le {r : q_R} {L S : List Value} {E : q_E} {g : q_G} {o : q_O} (h : q_stp r L S E g = some o) : E.1 ≤ o.2.2.2.1.1 ∧ E.2.1 ≤ o.2.2.2.1.2.1 := by
  have fin : ∀ {x : q_O}, some x = some o → x.2.2.2.1 = E → E.1 ≤ o.2.2.2.1.1 ∧ E.2.1 ≤ o.2.2.2.1.2.1 := by
    intro x hx he
    cases hx
    rw [he]
    exact ⟨Nat.le_refl _, Nat.le_refl _⟩
  unfold q_stp at h
  split at h
  all_goals first
    | exact fin h rfl
    | (split at h <;> exact fin h rfl)
    | (obtain ⟨_, _, h⟩ := q_lI_s h; exact fin h rfl)
    | (obtain ⟨_, _, h⟩ := q_lF_s h; exact fin h rfl)
    | (obtain ⟨_, _, h⟩ := q_lR_s h; exact fin h rfl)
    | (obtain ⟨_, _, _, h⟩ := q_pI_s h; obtain ⟨_, h⟩ := q_st_s h; exact fin h rfl)
    | (obtain ⟨_, _, _, h⟩ := q_pF_s h; obtain ⟨_, h⟩ := q_st_s h; exact fin h rfl)
    | (obtain ⟨_, _, _, h⟩ := q_pR_s h; obtain ⟨_, h⟩ := q_st_s h; exact fin h rfl)
    | (obtain ⟨_, _, h⟩ := q_lI_s h; obtain ⟨_, h⟩ := q_st_s h; exact fin h rfl)
    | (split at h
       · obtain ⟨_, h⟩ := q_if_s h; exact fin h rfl
       · cases h)
    | (obtain ⟨_, _, _, h⟩ := q_pI_s h; exact fin h rfl)
    | (obtain ⟨_, _, _, h⟩ := q_pF_s h; exact fin h rfl)
    | (obtain ⟨_, _, _, h⟩ := q_pI_s h; obtain ⟨_, _, _, h⟩ := q_pI_s h; exact fin h rfl)
    | (obtain ⟨_, _, _, h⟩ := q_pI_s h; obtain ⟨_, _, _, h⟩ := q_pI_s h; obtain ⟨_, h⟩ := q_ifn_s h; exact fin h rfl)
    | (obtain ⟨_, _, _, h⟩ := q_pF_s h; obtain ⟨_, _, _, h⟩ := q_pF_s h; exact fin h rfl)
    | (obtain ⟨_, _, _, h⟩ := q_pF_s h; obtain ⟨_, _, _, h⟩ := q_pF_s h; obtain ⟨_, h⟩ := q_if_s h; exact fin h rfl)
    | (obtain ⟨_, _, _, h⟩ := q_pI_s h
       obtain ⟨_, _, h⟩ := Option.map_eq_some_iff.mp h
       exact fin (congrArg some h) rfl)
    | (obtain ⟨_, _, _, h⟩ := q_pR_s h; obtain ⟨_, h⟩ := q_if_s h; exact fin h rfl)
    | (obtain ⟨_, _, _, h⟩ := q_pR_s h; obtain ⟨_, h⟩ := q_if_s h; split at h
       · obtain ⟨_, h⟩ := q_ifn_s h; exact fin h rfl
       · exact fin h rfl)
    | (split at h
       · obtain ⟨_, _, _, h⟩ := q_pR_s h; obtain ⟨_, _, _, h⟩ := q_pR_s h; obtain ⟨_, h⟩ := q_if_s h
         cases h; exact ⟨Nat.le_refl _, Nat.le_refl _⟩
       · obtain ⟨_, _, _, h⟩ := q_pI_s h; obtain ⟨_, _, _, h⟩ := q_pR_s h; obtain ⟨_, h⟩ := q_if_s h; exact fin h rfl)
    | (cases h; exact ⟨Nat.le_succ _, Nat.le_add_right _ _⟩)
    | (obtain ⟨_, _, _, h⟩ := q_pI_s h; obtain ⟨_, h⟩ := q_ifn_s h; split at h
       · cases h; exact ⟨Nat.le_succ _, Nat.le_add_right _ _⟩
       · cases h; exact ⟨Nat.le_succ _, Nat.le_add_right _ _⟩
       · cases h)
    | (obtain ⟨_, _, _, h⟩ := q_pI_s h; obtain ⟨_, _, _, h⟩ := q_pR_s h; obtain ⟨_, h⟩ := q_if_s h; exact fin h rfl)
    | (obtain ⟨_, _, _, h⟩ := q_pI_s h; obtain ⟨_, _, _, h⟩ := q_pI_s h; obtain ⟨_, _, _, h⟩ := q_pR_s h; obtain ⟨_, h⟩ := q_if_s h; exact fin h rfl)
    | (split at h
       · obtain ⟨_, _, _, h⟩ := q_pF_s h; obtain ⟨_, h⟩ := q_if_s h; exact fin h rfl
       · obtain ⟨_, _, _, h⟩ := q_pI_s h; obtain ⟨_, _, _, h⟩ := q_pI_s h; obtain ⟨_, _, _, h⟩ := q_pR_s h; obtain ⟨_, _, _, h⟩ := q_pI_s h; obtain ⟨_, _, _, h⟩ := q_pR_s h; obtain ⟨_, h⟩ := q_if_s h; exact fin h rfl)
    | cases h
theorem q_run_inc (n : Nat) : ∀ (k pc : Nat) (L S : List Value) (E : q_E) (g : q_G) (z : Option Value × q_E × q_G), q_run n k pc L S E g = some z → E.1 ≤ z.2.1.1 ∧ E.2.1 ≤ z.2.1.2.1 := by
  induction n with
  | zero => intro k pc L S E g z h; cases h
  | succ n ih =>
    intro k pc L S E g z h
    rw [q_run_s] at h
    cases hP : q_P k pc with
    | none => rw [hP] at h; cases h
    | some r =>
      rw [hP] at h
      dsimp only at h
      by_cases h1 : q_cls r = 1
      · rw [if_pos h1] at h
        obtain ⟨v, _, rfl⟩ := Option.map_eq_some_iff.mp h
        exact ⟨Nat.le_refl _, Nat.le_refl _⟩
      · rw [if_neg h1] at h
        by_cases h2 : q_cls r = 2
        · rw [if_pos h2] at h
          cases hc : q_cal r S E with
          | none => rw [hc] at h; cases h
          | some q =>
            rw [hc] at h
            dsimp only at h
            cases hz : q_run n (r.2.2.2.1.getD 0 0) 0 (q_loc q.1 (q_mi (r.2.2.2.1.getD 0 0)).2.2.1) [] E g with
            | none => rw [hz] at h; cases h
            | some w =>
              rw [hz] at h
              have a1 := ih _ _ _ _ _ _ _ hz
              have a2 := ih _ _ _ _ _ _ _ h
              exact ⟨Nat.le_trans a1.1 a2.1, Nat.le_trans a1.2 a2.2⟩
        · rw [if_neg h2] at h
          cases hs : q_stp r L S E g with
          | none => rw [hs] at h; cases h
          | some w =>
            rw [hs] at h
            have a1 := q_stp_le hs
            have a2 := ih _ _ _ _ _ _ _ h
            exact ⟨Nat.le_trans a1.1 a2.1, Nat.le_trans a1.2 a2.2⟩
section
variable {p : Program} {l : Launch} {e : Env} {R : Room} {s : State} {m : MethodId} {args : Array Value} {below : List Frame} {meth : Method} {c : Code} {H : Heap} {locs : List Loc} {cells slots : Nat} {Q : State → Prop} {Z : q_Z} {k : Nat}
theorem q_siz {gF : JFrame} (kk : H.size ≤ s.heap.size + cells → W p l e R s m args below meth c H locs cells slots Q gF) : W p l e R s m args below meth c H locs cells slots Q gF := fun T hT X => kk (by rw [← hT]; exact X.heapSize) T hT X
def q_Pc (Z : q_Z) (as : List Value) (E : q_E) (g : q_G) : Array Value → State → Prop := va_Pc (as.map (q_rv Z)) (fun U => q_Wd Z E g U.heap ∧ q_Ks Z U)
def q_Qc (Z : q_Z) (v : Option Value) (E : q_E) (g : q_G) : Array Value → State → Outcome → State → Prop := fun _ st oc t => oc = .returned (v.map (q_rv Z)) ∧ q_Wd Z E g t.heap ∧ va_F (q_A Z) st t
def q_rm (k mc ms : Nat) : Room := { frames := (q_mi k).2.2.2.2.1, cells := mc, slots := ms, locals := 37 * (q_mi k).2.2.2.2.1 }
def q_wk (k : Nat) : List Cond := .code (q_mi k).1 (q_mi k).2.1 (q_mi k).2.2.1 (q_mi k).2.2.2.1 :: q_LW
theorem q_Pc_blind (Z : q_Z) (as : List Value) (E : q_E) (g : q_G) : FrameBlind (q_Pc Z as E g) := fun a U gF mk q => ⟨q.1, q.2.1, q_Ks_mv (u := U) (U := U.calling gF mk a) rfl rfl q.2.2⟩
theorem q_row {pc : Nat} {ls : Array Slot} {st0 rest : List Value} {a : Array Value} {v : Option Value} {E' : q_E} {g' : q_G} {mc ms : Nat} (hr : va_Run p l e R s m args below meth c H locs cells slots mc ms (F0 m pc ls st0) rest (q_Qc Z v E' g' a) (q_A Z)) (hS : va_S (q_A Z) s.heap H locs)
    (kk : ∀ (H1 : Heap) (locs1 : List Loc), q_Wd Z E' g' H1 → va_S (q_A Z) s.heap H1 locs1 → W p l e R s m args below meth c H1 locs1 (cells + mc) (slots + ms) Q (F0 m (pc + 3) ls ((v.map (q_rv Z)).toList ++ rest))) : W p l e R s m args below meth c H locs cells slots Q (F0 m pc ls st0) := by
  intro T hT X
  obtain ⟨w, st₀, t, T', L, h0, X', hL, e1, e2, ⟨hv, hw, hz, hk⟩, st⟩ := hr T hT X
  cases hv
  rw [h0] at hz hk
  obtain ⟨t2, a1, b1⟩ := kk T'.heap (locs ++ L) (by rw [e1]; exact hw)
    ⟨Nat.le_trans hS.1 (by rw [e1]; exact hz), fun q h1 h2 => by rw [e1, hk q (Nat.lt_of_lt_of_le h1 hS.1) h2]; exact hS.2.1 q h1 h2, fun q hq => by
      rcases List.mem_append.mp hq with h | h
      · exact hS.2.2 q h
      · exact hL q h⟩ T' rfl X'
  exact ⟨t2, st t2 a1, b1⟩
end
def q_okv (k : Nat) (r : q_R) : Bool := match r.2.1 with
  | .areturn => match (q_mi k).2.2.2.1 with
    | some (.object _) => true
    | _ => false
  | .return_ => (q_mi k).2.2.2.1.isNone
  | _ => true
theorem q_okv_all : (List.range 180).all (fun k => (q_tab k).all (q_okv k)) = true := by decide +kernel
theorem q_okv_of {k pc : Nat} {r : q_R} (h : q_P k pc = some r) : q_okv k r = true := by
  have hm : r ∈ q_tab k := List.mem_of_find?_eq_some h
  by_cases hk : k < 180
  · exact List.all_eq_true.mp (List.all_eq_true.mp q_okv_all k (List.mem_range.mpr hk)) r hm
  · exfalso
    unfold q_tab at hm
    split at hm <;> first | omega | exact List.not_mem_nil hm
theorem q_arj {k pc pc0 ln : Nat} {ax : List Nat} {z : Int} (h : q_P k pc = some (pc0, .areturn, ln, ax, z)) : ∃ n, (q_mi k).2.2.2.1 = some (.object n) := by
  have h1 := q_okv_of h
  unfold q_okv at h1
  dsimp only at h1
  split at h1
  · exact ⟨_, by assumption⟩
  · cases h1
theorem q_vrj {k pc pc0 ln : Nat} {ax : List Nat} {z : Int} (h : q_P k pc = some (pc0, .return_, ln, ax, z)) : (q_mi k).2.2.2.1 = none := Option.isNone_iff_eq_none.mp (q_okv_of h)
def q_STn (l : Launch) (n : Nat) : Prop := ∀ (k pc : Nat) (L S : List Value) (E : q_E) (g : q_G) (v : Option Value) (E' : q_E) (g' : q_G), q_run n k pc L S E g = some (v, E', g') →
  ∀ (p : Program) (e : Env) (R : Room) (s : State) (m : MethodId) (args : Array Value) (below : List Frame) (meth : Method) (c : Code) (H : Heap) (locs : List Loc) (cells slots : Nat) (Q : State → Prop) (Z : q_Z) (ls : Array Slot),
  q_Cx Z p R s m args meth c k → q_LR Z ls (q_mi k).2.2.1 L → q_Pi Z E g H → q_I Z E g → va_S (q_A Z) s.heap H locs → Z.2.2.1.1 ≤ s.heap.size → s.heap.size + cells = Z.2.2.1.1 + (E.1 - 3) → cells + (E'.1 - E.1) ≤ R.cells → slots + (E'.2.1 - E.2.1) ≤ R.slots →
  (∀ (r : q_R) (pc' : Nat) (ls' : Array Slot) (S' : List Value) (H' : Heap) (locs' : List Loc) (c' s' : Nat), q_P k pc' = some r → q_ret k r S' = some v → c' = cells + (E'.1 - E.1) → s' = slots + (E'.2.1 - E.2.1) → q_Wd Z E' g' H' → va_S (q_A Z) s.heap H' locs' → W p l e R s m args below meth c H' locs' c' s' Q (F0 m pc' ls' (S'.map (q_rv Z)))) →
  W p l e R s m args below meth c H locs cells slots Q (F0 m pc ls (S.map (q_rv Z)))
/-- a method's contract, for a run of the small machine from its entry to its end -/
theorem q_met {l : Launch} {n : Nat} (hST : q_STn l n) {j : Nat} (hj : j < 164) {as : List Value} {E : q_E} {g : q_G} {v : Option Value} {E' : q_E} {g' : q_G} (hrun : q_run n j 0 (q_loc as (q_mi j).2.2.1) [] E g = some (v, E', g')) (hc : ∀ v ∈ as, v.category = 1) (hn : as.length ≤ (q_mi j).2.2.1) (Z : q_Z) :
    Met l (q_mi j).1 (q_wk j) (q_rm j (E'.1 - E.1) (E'.2.1 - E.2.1)) (q_Pc Z as E g) (q_Qc Z v E' g') (E'.1 - E.1) (E'.2.1 - E.2.1) (q_A Z) := by
  refine va_MetF (cc := (q_mi j).2.1) (maxL := (q_mi j).2.2.1) (ret := (q_mi j).2.2.2.1) (q_mif hj).1 rfl ?_
  intro p e s m args below meth c s₁ B hml hv
  obtain ⟨rfl, ⟨hP, hsz, hI⟩, hK⟩ := hv
  have hx := B.exec
  have hb := B.bytes
  have hr := B.returns
  have hlocks := B.notSynchronized
  have hts : ∀ w ∈ q_LW, w.before _ s = true := fun w hw => atoms_spec (ws := q_wk j) B.pre w (List.mem_cons_of_mem _ hw)
  have hown : s.vm.findClass (q_mi j).1.cls = some m.cls := findClass_of_methodNamed B.named
  have hnm : (q_mi j).1.name = "<init>" → meth.name = "<init>" := fun h => (name_of_methodNamed B.named B.method).1.trans h
  rw [lg_entry_eq]
  refine hST j 0 (q_loc as (q_mi j).2.2.1) [] E g v E' g' hrun p e _ s m _ below meth c s.heap [] 0 0 _ Z _ ⟨hx, hb, hml, hown, hts, hnm, hK, Nat.le_refl _, Nat.le_refl _⟩ (q_LR_in hc hn) hP hI va_S.rf (by omega) (by omega) (by show 0 + (E'.1 - E.1) ≤ E'.1 - E.1; omega) (by show 0 + (E'.2.1 - E.2.1) ≤ E'.2.1 - E.2.1; omega) ?_
  intro r pc' ls' S' H' locs' c' s' hPr hret hc' hs' hWd hS
  rw [Nat.zero_add] at hc' hs'
  subst hc' hs'
  obtain ⟨hpc, hok⟩ := q_okf hPr
  obtain ⟨pc0, ins, ln, ax, z⟩ := r
  have hpc : pc0 = pc' := hpc
  subst hpc
  simp only [q_okr, Bool.and_eq_true, decide_eq_true_eq] at hok
  obtain ⟨⟨⟨hln, hdg⟩, -⟩, -⟩ := hok
  cases ins with
  | ireturn =>
    (unfold q_ln at hln; dsimp only at hln; subst hln)
    unfold q_ret at hret
    dsimp only at hret
    split at hret
    · rename_i x
      split at hret
      · rename_i hnr
        cases hret
        obtain ⟨ty, hty, hn2⟩ := Option.map_eq_some_iff.mp hnr
        rw [hty] at hr
        exact W.zret hx hb hr hn2 (fun t ht hW => ⟨rfl, by rw [ht]; exact hWd, hS.F ht⟩) hS.2.2 hdg
      · cases hret
    · cases hret
  | areturn =>
    (unfold q_ln at hln; dsimp only at hln; subst hln)
    unfold q_ret at hret
    dsimp only at hret
    split at hret
    · rename_i x
      cases hret
      obtain ⟨nm, hnm2⟩ := q_arj hPr
      exact W.aret hx hb (hr.trans hnm2) (Or.inl ⟨nm, rfl⟩) (Or.inr ⟨_, rfl⟩) (fun t ht hW => ⟨rfl, by rw [ht]; exact hWd, hS.F ht⟩) hS.2.2 hdg
    · cases hret
  | return_ =>
    (unfold q_ln at hln; dsimp only at hln; subst hln)
    unfold q_ret at hret
    dsimp only at hret
    split at hret
    · cases hret
      exact W.vret hx hb (hr.trans (q_vrj hPr)) (fun t ht hW => ⟨rfl, by rw [ht]; exact hWd, hS.F ht⟩) hS.2.2 hdg
    · cases hret
  | _ => exact absurd hret (by intro q; cases q)
end
section
theorem q_GI {xs : List Cond} (h : ∀ w ∈ xs, w ∈ q_LW) : GoodIn q_LW xs := fun w hw => q_LW_good w (h w hw)
theorem q_lapp (v : Option Value) (rest : List Value) (f : Value → Value) : (v.map f).toList ++ rest.map f = (v.toList ++ rest).map f := by cases v <;> simp
theorem q_cats {S : List Value} (h : S.all (fun v => v.category == 1) = true) : ∀ v ∈ S.reverse, v.category = 1 := by
  intro v hv
  have := List.all_eq_true.mp h v (List.mem_reverse.mp hv)
  simpa using this
theorem q_rok_0 {ci : Nat} {E : q_E} {as : List Value} (h : q_rok 0 ci E as = true) : ∃ b as', as = .ref b :: as' ∧ (q_kd E b).1 = 4 + ci := by
  cases as with
  | nil => exact absurd (show false = true from h) (by decide)
  | cons v t =>
    cases v with
    | ref b => exact ⟨b, t, rfl, eq_of_beq h⟩
    | _ => exact absurd (show false = true from h) (by decide)
theorem q_rok_4 {m ci : Nat} {E : q_E} {as : List Value} (hm : m = 4 ∨ m = 5) (h : q_rok m ci E as = true) : ∃ b as', as = .ref b :: as' := by
  cases as with
  | nil => rcases hm with rfl | rfl <;> exact absurd (show false = true from h) (by decide)
  | cons v t =>
    cases v with
    | ref b => exact ⟨b, t, rfl⟩
    | _ => rcases hm with rfl | rfl <;> exact absurd (show false = true from h) (by decide)
set_option maxHeartbeats 4000000 in
theorem q_ST (l : Launch) (n : Nat) : q_STn l n := by
  induction n with
  | zero => intro k pc L S E g v E' g' h; cases h
  | succ n ih =>
    intro k pc L S E g v E' g' h p e R s m args below meth c H locs cells slots Q Z ls hC hL hP hI hS hZ0 hcs hRc hRs hfin
    have hinc := q_run_inc _ _ _ _ _ _ _ _ h
    dsimp only at hinc
    refine q_siz fun hup => ?_
    have hlo := q_Pi_sz hP (Nat.le_trans hZ0 hS.1)
    have hsz : H.size = Z.2.2.1.1 + (E.1 - 3) := by omega
    rw [q_run_s] at h
    cases hPr : q_P k pc with
    | none => rw [hPr] at h; cases h
    | some r =>
      rw [hPr] at h
      dsimp only at h
      by_cases h1 : q_cls r = 1
      · rw [if_pos h1] at h
        obtain ⟨w, hw, hq⟩ := Option.map_eq_some_iff.mp h
        cases hq
        exact hfin r pc ls S H locs cells slots hPr hw (by omega) (by omega) ⟨hP, hsz, hI⟩ hS
      · rw [if_neg h1] at h
        by_cases h2 : q_cls r = 2
        · rw [if_pos h2] at h
          cases hc : q_cal r S E with
          | none => rw [hc] at h; cases h
          | some q =>
            rw [hc] at h
            dsimp only at h
            cases hz : q_run n (r.2.2.2.1.getD 0 0) 0 (q_loc q.1 (q_mi (r.2.2.2.1.getD 0 0)).2.2.1) [] E g with
            | none => rw [hz] at h; cases h
            | some w =>
              rw [hz] at h
              obtain ⟨v1, E1, g1⟩ := w
              dsimp only at h
              have i1 := q_run_inc _ _ _ _ _ _ _ _ hz
              have i2 := q_run_inc _ _ _ _ _ _ _ _ h
              dsimp only at i1 i2
              obtain ⟨hx, hb, hml, hown, hts, hnm, hK, hRf, hRl⟩ := id hC
              obtain ⟨hpc, hok⟩ := q_okf hPr
              obtain ⟨pc0, ins, ln, ax, z⟩ := r
              have hpc : pc0 = pc := hpc
              subst hpc
              simp only [q_okr, Bool.and_eq_true, decide_eq_true_eq] at hok
              obtain ⟨⟨⟨hln, hdg⟩, -⟩, hon⟩ := hok
              have hts' : ∀ {w : Cond} {i : Nat}, q_w i w = true → w.before args s = true := fun h => hts _ (q_w_in h)
              have hlsz : ls.size = (q_mi k).2.2.1 := hL.2.1.1
              -- what the call takes
              unfold q_cal at hc
              obtain ⟨⟨hlen, hrest, hcat, hrok⟩, hc⟩ := q_if_s hc
              cases hc
              dsimp only at hlen hrest hcat hrok hz h
              have hcat2 := q_cats hcat
              have hSS : S.map (q_rv Z) = ((S.take (q_cnt ax)).reverse.map (q_rv Z)).reverse ++ (S.drop (q_cnt ax)).map (q_rv Z) := by
                rw [← List.map_reverse, List.reverse_reverse, ← List.map_append, List.take_append_drop]
              have hlas : ((S.take (q_cnt ax)).reverse.map (q_rv Z)).length = q_cnt ax := by simp; omega
              have hroom : 2 * (F0 m pc0 ls (S.map (q_rv Z))).monitorRoom + (((S.drop (q_cnt ax)).map (q_rv Z)).map fun v => v.category).sum ≤ 8 := by
                rw [q_rv_cats]; exact lv_room hrest
              -- the callee's own
              have key : ∀ idx : Nat, q_okc k (pc0, ins, ln, ax, z) idx = true → (ax.getD 0 0 < 164 ∧ q_w (ax.getD 6 0) (.initialized (q_mi (ax.getD 0 0)).1.cls) = true ∧ (q_mi (ax.getD 0 0)).2.2.2.2.1 + 1 ≤ (q_mi k).2.2.2.2.1 ∧ (q_mi (ax.getD 0 0)).2.2.1 ≤ 18 ∧ ((q_mi (ax.getD 0 0)).1.cls ≠ "java/lang/invoke/MethodHandle" ∧ (q_mi (ax.getD 0 0)).1.cls ≠ "java/lang/invoke/VarHandle" ∧ (parseMethodDescriptor (q_mi (ax.getD 0 0)).1.desc).map (fun d => d.parameters.length) = some (ax.getD 1 0)) ∧ q_cnt ax ≤ (q_mi (ax.getD 0 0)).2.2.1) ∧
                  (match ax.getD 2 0 with
                    | 0 => decide (ax.getD 7 0 < 10) && decide ((q_cl (ax.getD 7 0)).1 = (q_mi (ax.getD 0 0)).1.cls) && q_w (ax.getD 3 0) (.methodLink (q_own k) idx (q_mi (ax.getD 0 0)).1) && q_w (ax.getD 4 0) (.instanceMethod (q_mi (ax.getD 0 0)).1) && q_w (ax.getD 5 0) (.selects (q_mi (ax.getD 0 0)).1.cls (q_mi (ax.getD 0 0)).1 (q_mi (ax.getD 0 0)).1)
                    | 2 => q_w (ax.getD 3 0) (.methodLink (q_own k) idx (q_mi (ax.getD 0 0)).1) && q_w (ax.getD 4 0) (.static (q_mi (ax.getD 0 0)).1)
                    | 3 => decide (Cond.methodLinkNest (q_own k) idx (q_mi (ax.getD 0 0)).1 "CardRacks" ∈ q_NW) && q_w (ax.getD 4 0) (.static (q_mi (ax.getD 0 0)).1)
                    | 4 => q_w (ax.getD 3 0) (.methodLink (q_own k) idx (q_mi (ax.getD 0 0)).1) && q_w (ax.getD 4 0) (.instanceMethod (q_mi (ax.getD 0 0)).1) && decide ((q_mi (ax.getD 0 0)).1.name = "<init>") && decide ((q_mi (ax.getD 0 0)).2.2.2.1 = none)
                    | 5 => decide (Cond.methodLinkNest (q_own k) idx (q_mi (ax.getD 0 0)).1 "CardRacks" ∈ q_NW) && q_w (ax.getD 4 0) (.instanceMethod (q_mi (ax.getD 0 0)).1) && decide ((q_mi (ax.getD 0 0)).1.name = "<init>") && decide ((q_mi (ax.getD 0 0)).2.2.2.1 = none)
                    | _ => false) = true := by
                intro idx hk
                unfold q_okc at hk
                rw [Bool.and_eq_true] at hk
                obtain ⟨hk, hm⟩ := hk
                simp only [Bool.and_eq_true, decide_eq_true_eq] at hk
                obtain ⟨⟨⟨⟨⟨a1, a2⟩, a3⟩, a4⟩, a5⟩, a6⟩ := hk
                exact ⟨⟨a1, a2, a3, a4, a5, a6⟩, hm⟩
              have goes : ∀ idx : Nat, (ax.getD 0 0 < 164 ∧ q_w (ax.getD 6 0) (.initialized (q_mi (ax.getD 0 0)).1.cls) = true ∧ (q_mi (ax.getD 0 0)).2.2.2.2.1 + 1 ≤ (q_mi k).2.2.2.2.1 ∧ (q_mi (ax.getD 0 0)).2.2.1 ≤ 18 ∧ ((q_mi (ax.getD 0 0)).1.cls ≠ "java/lang/invoke/MethodHandle" ∧ (q_mi (ax.getD 0 0)).1.cls ≠ "java/lang/invoke/VarHandle" ∧ (parseMethodDescriptor (q_mi (ax.getD 0 0)).1.desc).map (fun d => d.parameters.length) = some (ax.getD 1 0)) ∧ q_cnt ax ≤ (q_mi (ax.getD 0 0)).2.2.1) →
                  (∀ (hM : Met l (q_mi (ax.getD 0 0)).1 (q_wk (ax.getD 0 0)) (q_rm (ax.getD 0 0) (E1.1 - E.1) (E1.2.1 - E.2.1)) (q_Pc Z (S.take (q_cnt ax)).reverse E g) (q_Qc Z v1 E1 g1) (E1.1 - E.1) (E1.2.1 - E.2.1) (q_A Z)) (hRr : (q_rm (ax.getD 0 0) (E1.1 - E.1) (E1.2.1 - E.2.1)).frames + 1 ≤ R.frames ∧ 8 + ((q_mi (ax.getD 0 0)).2.2.1 + 11) + (q_rm (ax.getD 0 0) (E1.1 - E.1) (E1.2.1 - E.2.1)).locals ≤ R.locals) (hgi : ∀ w ∈ q_wk (ax.getD 0 0), w ∈ q_LW) (hpre : ∀ U : State, U.heap = H → s.WarmedH U.vm → q_Pc Z (S.take (q_cnt ax)).reverse E g ((S.take (q_cnt ax)).reverse.map (q_rv Z)).toArray U) (hf : cells + (E1.1 - E.1) ≤ R.cells ∧ slots + (E1.2.1 - E.2.1) ≤ R.slots),
                    va_Run p l e R s m args below meth c H locs cells slots (E1.1 - E.1) (E1.2.1 - E.2.1) (F0 m pc0 ls (S.map (q_rv Z))) ((S.drop (q_cnt ax)).map (q_rv Z)) (q_Qc Z v1 E1 g1 ((S.take (q_cnt ax)).reverse.map (q_rv Z)).toArray) (q_A Z)) →
                  W p l e R s m args below meth c H locs cells slots Q (F0 m pc0 ls (S.map (q_rv Z))) := by
                intro idx hk hrun
                obtain ⟨a1, a2, a3, a4, a5, a6⟩ := hk
                have hM := q_met ih a1 hz hcat2 (by rw [List.length_reverse, List.length_take]; omega) Z
                have hr := hrun hM ⟨by show (q_mi _).2.2.2.2.1 + 1 ≤ _; omega, by show 8 + _ + 37 * (q_mi _).2.2.2.2.1 ≤ _; omega⟩ (fun w hw => by
                    rcases List.mem_cons.mp hw with rfl | hw
                    · exact (q_mif a1).2.2
                    · exact hw) (fun U hU hW => ⟨rfl, by rw [hU]; exact ⟨hP, hsz, hI⟩, q_Ks_nx hK hS hW hU⟩) ⟨by omega, by omega⟩
                refine q_row hr hS fun H1 locs1 hW1 hS1 => ?_
                rw [q_lapp]
                refine ih k (pc0 + 3) L _ E1 g1 v E' g' h p e R s m args below meth c H1 locs1 _ _ Q Z ls hC hL hW1.1 hW1.2.2 hS1 hZ0 (by have := hI.1; omega) (by omega) (by omega) ?_
                intro r pc' ls' S' H' locs' c' s' b1 b2 b3 b4 b5 b6
                exact hfin r pc' ls' S' H' locs' c' s' b1 b2 (by omega) (by omega) b5 b6
              cases ins with
              | invokevirtual idx =>
                (unfold q_ln at hln; dsimp only at hln; subst hln)
                unfold q_okn at hon
                dsimp only at hon
                rw [Bool.and_eq_true, decide_eq_true_eq] at hon
                obtain ⟨hm0, hon⟩ := hon
                obtain ⟨hk, hm⟩ := key idx hon
                rw [hm0] at hm hrok
                try dsimp only at hm
                simp only [Bool.and_eq_true, decide_eq_true_eq] at hm
                obtain ⟨⟨⟨⟨b1, b2⟩, b3⟩, b4⟩, b5⟩ := hm
                refine goes idx hk fun hM hRr hgi hpre hf => ?_
                obtain ⟨b, as', has, hkd⟩ := q_rok_0 hrok
                · skip
                  obtain ⟨hb3, hbE⟩ := hI.2.1 b (by omega)
                  have hat := q_ws_at (Z := Z) (g := g) hb3 hbE
                  rw [q_en_4 hkd] at hat
                  rw [has] at hM hpre hlas hSS ⊢
                  have hcn : q_cnt ax = ax.getD 1 0 + 1 := by unfold q_cnt; rw [hm0]; rfl
                  have hrv := va_recv hK.1 hP (q_cl_some _ b1) hat
                  rw [show ((q_cl (ax.getD 7 0)).1, (q_cl (ax.getD 7 0)).2.1, (q_cl (ax.getD 7 0)).2.2).1 = (q_mi (ax.getD 0 0)).1.cls from b2] at hrv
                  exact va_runV (As := as'.map (q_rv Z)) (nL := (q_mi k).2.2.1) ⟨hx, hb, hml, hown, hts⟩ hM
                    (cwV (C := (q_mi (ax.getD 0 0)).1.cls) (ax.getD 1 0) hts (q_GI (fun w hw => by
                      rcases List.mem_append.mp hw with hw | hw
                      · simp only [List.mem_cons, List.not_mem_nil, or_false] at hw
                        rcases hw with rfl | rfl | rfl | rfl
                        · exact q_w_in b3
                        · exact q_w_in b4
                        · exact q_w_in b5
                        · exact q_w_in hk.2.1
                      · exact hgi w hw)) rfl rfl rfl ⟨rfl, hk.2.2.2.2.1⟩ hRr)
                    ⟨q_Pc_blind _ _ _ _, hrv, hpre⟩ rfl (by
                      have : (as'.map (q_rv Z)).length + 1 = q_cnt ax := by simpa using hlas
                      omega) hlsz (by
                      show S.map (q_rv Z) = _
                      rw [hSS]
                      simp [q_rv]) hroom hdg hf
              | invokespecial idx =>
                (unfold q_ln at hln; dsimp only at hln; subst hln)
                unfold q_cls at h2
                dsimp only at h2
                have h6 : ax.getD 2 0 < 6 := by
                  by_cases h : ax.getD 2 0 < 6
                  · exact h
                  · rw [if_neg h] at h2; cases h2
                unfold q_okn at hon
                dsimp only at hon
                rw [if_pos h6, Bool.and_eq_true, Bool.or_eq_true, decide_eq_true_eq, decide_eq_true_eq] at hon
                obtain ⟨hm0, hon⟩ := hon
                obtain ⟨hk, hm⟩ := key idx hon
                have hcn : q_cnt ax = ax.getD 1 0 + 1 := by
                  unfold q_cnt
                  rw [if_neg (by omega)]
                have hrf := q_rok_4 hm0 hrok
                obtain ⟨b, as', has⟩ := hrf
                refine goes idx hk fun hM hRr hgi hpre hf => ?_
                rw [has] at hM hpre hlas hSS ⊢
                have hst : S.map (q_rv Z) = (as'.map (q_rv Z)).reverse ++ .ref (q_ad Z b) :: (S.drop (q_cnt ax)).map (q_rv Z) := by
                  rw [hSS]
                  simp [q_rv]
                have hln' : (as'.map (q_rv Z)).length = ax.getD 1 0 := by
                  have : (as'.map (q_rv Z)).length + 1 = q_cnt ax := by simpa using hlas
                  omega
                rcases hm0 with hm0 | hm0 <;> rw [hm0] at hm <;> (try dsimp only at hm) <;> simp only [Bool.and_eq_true, decide_eq_true_eq] at hm <;> obtain ⟨⟨⟨b3, b4⟩, b5⟩, b6⟩ := hm
                · exact va_runI (As := as'.map (q_rv Z)) (b := q_ad Z b) (nL := (q_mi k).2.2.1) (maxL := (q_mi (ax.getD 0 0)).2.2.1) (bytes := (q_mi (ax.getD 0 0)).2.1) ⟨hx, hb, hml, hown, hts⟩ hM
                    (cwI (ax.getD 1 0) hts (q_GI hgi) (by unfold q_wk; rw [b6]) rfl rfl (hts' hk.2.1) (hts' b3) (hts' b4) b5 hk.2.2.2.2.1 hRr)
                    ⟨q_Pc_blind _ _ _ _, hpre⟩ rfl hln' hlsz hst hroom hdg hf
                · exact va_runIN (As := as'.map (q_rv Z)) (b := q_ad Z b) (nL := (q_mi k).2.2.1) (maxL := (q_mi (ax.getD 0 0)).2.2.1) (bytes := (q_mi (ax.getD 0 0)).2.1) ⟨hx, hb, hml, hown, hts⟩ hM
                    ⟨va_cnB (ax.getD 1 0) hts (q_GI hgi) (by unfold q_wk; rw [b6]) rfl rfl (hK.2.2.2.2 _ b3) (hts' hk.2.1) hk.2.2.2.2.1 hRr, b5, hts' b4⟩
                    ⟨q_Pc_blind _ _ _ _, hpre⟩ rfl hln' hlsz hst hroom hdg hf
              | invokestatic idx =>
                (unfold q_ln at hln; dsimp only at hln; subst hln)
                unfold q_cls at h2
                dsimp only at h2
                have h6 : ax.getD 2 0 < 6 := by
                  by_cases h : ax.getD 2 0 < 6
                  · exact h
                  · rw [if_neg h] at h2; cases h2
                unfold q_okn at hon
                dsimp only at hon
                rw [if_pos h6, Bool.and_eq_true, Bool.or_eq_true, decide_eq_true_eq, decide_eq_true_eq] at hon
                obtain ⟨hm0, hon⟩ := hon
                obtain ⟨hk, hm⟩ := key idx hon
                have hcn : q_cnt ax = ax.getD 1 0 := by
                  unfold q_cnt
                  rw [if_pos (by omega)]
                refine goes idx hk fun hM hRr hgi hpre hf => ?_
                rcases hm0 with hm0 | hm0 <;> rw [hm0] at hm <;> (try dsimp only at hm) <;> simp only [Bool.and_eq_true, decide_eq_true_eq] at hm <;> obtain ⟨b3, b4⟩ := hm
                · exact va_runS (As := (S.take (q_cnt ax)).reverse.map (q_rv Z)) (nL := (q_mi k).2.2.1) ⟨hx, hb, hml, hown, hts⟩ hM
                    (va_cwS (ax.getD 1 0) hts (q_GI (fun w hw => by
                      rcases List.mem_append.mp hw with hw | hw
                      · simp only [List.mem_cons, List.not_mem_nil, or_false] at hw
                        rcases hw with rfl | rfl | rfl
                        · exact q_w_in b3
                        · exact q_w_in b4
                        · exact q_w_in hk.2.1
                      · exact hgi w hw)) rfl rfl rfl hk.2.2.2.2.1 hRr)
                    ⟨q_Pc_blind _ _ _ _, hpre⟩ rfl (by omega) hlsz hSS hroom hdg hf
                · exact va_runSN (As := (S.take (q_cnt ax)).reverse.map (q_rv Z)) (nL := (q_mi k).2.2.1) ⟨hx, hb, hml, hown, hts⟩ hM
                    ⟨va_cnB (ax.getD 1 0) hts (q_GI hgi) rfl rfl rfl (hK.2.2.2.2 _ b3) (hts' hk.2.1) hk.2.2.2.2.1 hRr, hts' b4, trivial⟩
                    ⟨q_Pc_blind _ _ _ _, hpre⟩ rfl (by omega) hlsz hSS hroom hdg hf
              | _ => exact absurd h2 (by intro q; cases q)
        · rw [if_neg h2] at h
          have h00 : q_cls r = 0 := by
            have : ∀ r, q_cls r = 0 ∨ q_cls r = 1 ∨ q_cls r = 2 := by
              intro r
              unfold q_cls
              split <;> first | exact Or.inr (Or.inl rfl) | exact Or.inr (Or.inr rfl) | exact Or.inl rfl | (split <;> first | exact Or.inr (Or.inr rfl) | exact Or.inl rfl)
            rcases this r with h | h | h
            · exact h
            · exact absurd h h1
            · exact absurd h h2
          cases hs : q_stp r L S E g with
          | none => rw [hs] at h; cases h
          | some o =>
            rw [hs] at h
            dsimp only at h
            have i1 := q_stp_le hs
            have i2 := q_run_inc _ _ _ _ _ _ _ _ h
            dsimp only at i2
            refine q_step hC hPr h00 hs hL hP hsz hI hS (by omega) (by omega) ?_
            intro ls' H' locs' c' s' b1 b2 b3 b4 b5 b6
            refine ih k o.1 o.2.1 o.2.2.1 o.2.2.2.1 o.2.2.2.2 v E' g' h p e R s m args below meth c H' locs' c' s' Q Z ls' hC b3 b4 b5 b6 hZ0 (by have := hI.1; omega) (by omega) (by omega) ?_
            intro r2 pc' ls2 S' H2 locs2 c2 s2 d1 d2 d3 d4 d5 d6
            exact hfin r2 pc' ls2 S' H2 locs2 c2 s2 d1 d2 (by omega) (by omega) d5 d6
end
section
/-! EQUATIONS OF THE SMALL MACHINE, one for each kind of instruction -/
section
variable {k pc ln : Nat} {ax : List Nat} {z : Int} {L S : List Value} {E : q_E} {g : q_G} {Q : Option Value → q_E → q_G → Prop}
theorem x_iconst {i : Int} {v : Int32} (hP : q_P k pc = some (pc, .iconst i, ln, ax, z)) (hv : Int32.ofInt i = v) : q_X k pc L S E g Q = q_X k (pc + 1) L (.int v :: S) E g Q := by subst hv; exact q_X_stp hP rfl rfl
theorem x_bipush {i : Int} {v : Int32} (hP : q_P k pc = some (pc, .bipush i, ln, ax, z)) (hv : (Int8.ofInt i).toInt32 = v) : q_X k pc L S E g Q = q_X k (pc + 2) L (.int v :: S) E g Q := by subst hv; exact q_X_stp hP rfl rfl
theorem x_sipush {i : Int} {v : Int32} (hP : q_P k pc = some (pc, .sipush i, ln, ax, z)) (hv : (Int16.ofInt i).toInt32 = v) : q_X k pc L S E g Q = q_X k (pc + 3) L (.int v :: S) E g Q := by subst hv; exact q_X_stp hP rfl rfl
theorem x_ldc {i i1 : Nat} {v : Int32} (hP : q_P k pc = some (pc, .ldc i, ln, [0, i1], z)) (hv : Int32.ofInt z = v) : q_X k pc L S E g Q = q_X k (pc + 2) L (.int v :: S) E g Q := by subst hv; exact q_X_stp hP rfl rfl
theorem x_ldcw {i i1 : Nat} {v : UInt32} (hP : q_P k pc = some (pc, .ldc_w i, ln, [1, i1], z)) (hv : UInt32.ofNat z.toNat = v) : q_X k pc L S E g Q = q_X k (pc + 3) L (.float v :: S) E g Q := by subst hv; exact q_X_stp hP rfl rfl
theorem x_ldI {i i' : Instr} {o : Nat} {x : Int32} (hP : q_P k pc = some (pc, i, ln, ax, z)) (h0 : q_cls (pc, i, ln, ax, z) = 0) (hs : q_stp (pc, i, ln, ax, z) L S E g = some (o, L, .int x :: S, E, g)) : q_X k pc L S E g Q = q_X k o L (.int x :: S) E g Q := q_X_stp hP h0 hs
theorem x_iadd {x y : Int32} (hP : q_P k pc = some (pc, .iadd, ln, ax, z)) : q_X k pc L (.int y :: .int x :: S) E g Q = q_X k (pc + 1) L (.int (x + y) :: S) E g Q := q_X_stp hP rfl rfl
theorem x_isub {x y : Int32} (hP : q_P k pc = some (pc, .isub, ln, ax, z)) : q_X k pc L (.int y :: .int x :: S) E g Q = q_X k (pc + 1) L (.int (x - y) :: S) E g Q := q_X_stp hP rfl rfl
theorem x_imul {x y : Int32} (hP : q_P k pc = some (pc, .imul, ln, ax, z)) : q_X k pc L (.int y :: .int x :: S) E g Q = q_X k (pc + 1) L (.int (x * y) :: S) E g Q := q_X_stp hP rfl rfl
theorem x_iand {x y : Int32} (hP : q_P k pc = some (pc, .iand, ln, ax, z)) : q_X k pc L (.int y :: .int x :: S) E g Q = q_X k (pc + 1) L (.int (x &&& y) :: S) E g Q := q_X_stp hP rfl rfl
theorem x_ior {x y : Int32} (hP : q_P k pc = some (pc, .ior, ln, ax, z)) : q_X k pc L (.int y :: .int x :: S) E g Q = q_X k (pc + 1) L (.int (x ||| y) :: S) E g Q := q_X_stp hP rfl rfl
theorem x_ixor {x y : Int32} (hP : q_P k pc = some (pc, .ixor, ln, ax, z)) : q_X k pc L (.int y :: .int x :: S) E g Q = q_X k (pc + 1) L (.int (x ^^^ y) :: S) E g Q := q_X_stp hP rfl rfl
theorem x_ishl {x y : Int32} (hP : q_P k pc = some (pc, .ishl, ln, ax, z)) : q_X k pc L (.int y :: .int x :: S) E g Q = q_X k (pc + 1) L (.int (x <<< (y &&& 31)) :: S) E g Q := q_X_stp hP rfl rfl
theorem x_ishr {x y : Int32} (hP : q_P k pc = some (pc, .ishr, ln, ax, z)) : q_X k pc L (.int y :: .int x :: S) E g Q = q_X k (pc + 1) L (.int (x >>> (y &&& 31)) :: S) E g Q := q_X_stp hP rfl rfl
theorem x_ineg {x : Int32} (hP : q_P k pc = some (pc, .ineg, ln, ax, z)) : q_X k pc L (.int x :: S) E g Q = q_X k (pc + 1) L (.int (-x) :: S) E g Q := q_X_stp hP rfl rfl
theorem x_i2c {x : Int32} (hP : q_P k pc = some (pc, .i2c, ln, ax, z)) : q_X k pc L (.int x :: S) E g Q = q_X k (pc + 1) L (.int (x.toUInt32 % 65536).toInt32 :: S) E g Q := q_X_stp hP rfl rfl
theorem x_i2f {x : Int32} (hP : q_P k pc = some (pc, .i2f, ln, ax, z)) : q_X k pc L (.int x :: S) E g Q = q_X k (pc + 1) L (.float (FP.i2f x) :: S) E g Q := q_X_stp hP rfl rfl
theorem x_f2i {x : UInt32} (hP : q_P k pc = some (pc, .f2i, ln, ax, z)) : q_X k pc L (.float x :: S) E g Q = q_X k (pc + 1) L (.int (FP.f2i x) :: S) E g Q := q_X_stp hP rfl rfl
theorem x_idiv {x y : Int32} (hP : q_P k pc = some (pc, .idiv, ln, ax, z)) : q_X k pc L (.int y :: .int x :: S) E g Q = (¬ y = 0 ∧ q_X k (pc + 1) L (.int (x / y) :: S) E g Q) := q_X_cnn hP rfl rfl
theorem x_irem {x y : Int32} (hP : q_P k pc = some (pc, .irem, ln, ax, z)) : q_X k pc L (.int y :: .int x :: S) E g Q = (¬ y = 0 ∧ q_X k (pc + 1) L (.int (x - x / y * y) :: S) E g Q) := q_X_cnn hP rfl rfl
theorem x_fmul {x y : UInt32} (hP : q_P k pc = some (pc, .fmul, ln, ax, z)) : q_X k pc L (.float y :: .float x :: S) E g Q = (FP.fmul x y &&& 0x7fffffff ≤ 0x7f800000 ∧ q_X k (pc + 1) L (.float (FP.fmul x y) :: S) E g Q) := q_X_cnd hP rfl rfl
theorem x_fdiv {x y : UInt32} (hP : q_P k pc = some (pc, .fdiv, ln, ax, z)) : q_X k pc L (.float y :: .float x :: S) E g Q = (FP.fdiv x y &&& 0x7fffffff ≤ 0x7f800000 ∧ q_X k (pc + 1) L (.float (FP.fdiv x y) :: S) E g Q) := q_X_cnd hP rfl rfl
theorem x_fsub {x y : UInt32} (hP : q_P k pc = some (pc, .fsub, ln, ax, z)) : q_X k pc L (.float y :: .float x :: S) E g Q = (FP.fsub x y &&& 0x7fffffff ≤ 0x7f800000 ∧ q_X k (pc + 1) L (.float (FP.fsub x y) :: S) E g Q) := q_X_cnd hP rfl rfl
theorem x_fcmp {x y : UInt32} {op : CmpOp} (hP : q_P k pc = some (pc, .fcmp op, ln, ax, z)) : q_X k pc L (.float y :: .float x :: S) E g Q = q_X k (pc + 1) L (.int (Op.cmpValue (FP.fcmp x y) op) :: S) E g Q := q_X_stp hP rfl rfl
theorem x_goto {off : Int} {t : Nat} (hP : q_P k pc = some (pc, .goto off, ln, ax, z)) (ht : q_j pc off = t) : q_X k pc L S E g Q = q_X k t L S E g Q := by subst ht; exact q_X_stp hP rfl rfl
theorem x_ieq {off : Int} {t : Nat} {x y : Int32} (hP : q_P k pc = some (pc, .if_icmp .eq off, ln, ax, z)) (ht : q_j pc off = t) : q_X k pc L (.int y :: .int x :: S) E g Q = (if x = y then q_X k t L S E g Q else q_X k (pc + 3) L S E g Q) := by subst ht; rw [q_X_bra hP rfl (c := decide (x = y)) (S' := S) rfl]; by_cases h : x = y <;> simp [h]
theorem x_ine {off : Int} {t : Nat} {x y : Int32} (hP : q_P k pc = some (pc, .if_icmp .ne off, ln, ax, z)) (ht : q_j pc off = t) : q_X k pc L (.int y :: .int x :: S) E g Q = (if x = y then q_X k (pc + 3) L S E g Q else q_X k t L S E g Q) := by subst ht; rw [q_X_bra hP rfl (c := !decide (x = y)) (S' := S) rfl]; by_cases h : x = y <;> simp [h]
theorem x_ilt {off : Int} {t : Nat} {x y : Int32} (hP : q_P k pc = some (pc, .if_icmp .lt off, ln, ax, z)) (ht : q_j pc off = t) : q_X k pc L (.int y :: .int x :: S) E g Q = (if x < y then q_X k t L S E g Q else q_X k (pc + 3) L S E g Q) := by subst ht; rw [q_X_bra hP rfl (c := decide (x < y)) (S' := S) rfl]; by_cases h : x < y <;> simp [h]
theorem x_ige {off : Int} {t : Nat} {x y : Int32} (hP : q_P k pc = some (pc, .if_icmp .ge off, ln, ax, z)) (ht : q_j pc off = t) : q_X k pc L (.int y :: .int x :: S) E g Q = (if y ≤ x then q_X k t L S E g Q else q_X k (pc + 3) L S E g Q) := by subst ht; rw [q_X_bra hP rfl (c := decide (y ≤ x)) (S' := S) rfl]; by_cases h : y ≤ x <;> simp [h]
theorem x_igt {off : Int} {t : Nat} {x y : Int32} (hP : q_P k pc = some (pc, .if_icmp .gt off, ln, ax, z)) (ht : q_j pc off = t) : q_X k pc L (.int y :: .int x :: S) E g Q = (if y < x then q_X k t L S E g Q else q_X k (pc + 3) L S E g Q) := by subst ht; rw [q_X_bra hP rfl (c := decide (y < x)) (S' := S) rfl]; by_cases h : y < x <;> simp [h]
theorem x_ile {off : Int} {t : Nat} {x y : Int32} (hP : q_P k pc = some (pc, .if_icmp .le off, ln, ax, z)) (ht : q_j pc off = t) : q_X k pc L (.int y :: .int x :: S) E g Q = (if x ≤ y then q_X k t L S E g Q else q_X k (pc + 3) L S E g Q) := by subst ht; rw [q_X_bra hP rfl (c := decide (x ≤ y)) (S' := S) rfl]; by_cases h : x ≤ y <;> simp [h]
theorem x_zeq {off : Int} {t : Nat} {x : Int32} (hP : q_P k pc = some (pc, .ifCond .eq off, ln, ax, z)) (ht : q_j pc off = t) : q_X k pc L (.int x :: S) E g Q = (if x = nI 0 then q_X k t L S E g Q else q_X k (pc + 3) L S E g Q) := by subst ht; rw [nI_0, q_X_bra hP rfl (c := decide (x = 0)) (S' := S) rfl]; by_cases h : x = 0 <;> simp [h]
theorem x_zne {off : Int} {t : Nat} {x : Int32} (hP : q_P k pc = some (pc, .ifCond .ne off, ln, ax, z)) (ht : q_j pc off = t) : q_X k pc L (.int x :: S) E g Q = (if x = nI 0 then q_X k (pc + 3) L S E g Q else q_X k t L S E g Q) := by subst ht; rw [nI_0, q_X_bra hP rfl (c := !decide (x = 0)) (S' := S) rfl]; by_cases h : x = 0 <;> simp [h]
theorem x_zlt {off : Int} {t : Nat} {x : Int32} (hP : q_P k pc = some (pc, .ifCond .lt off, ln, ax, z)) (ht : q_j pc off = t) : q_X k pc L (.int x :: S) E g Q = (if x < nI 0 then q_X k t L S E g Q else q_X k (pc + 3) L S E g Q) := by subst ht; rw [nI_0, q_X_bra hP rfl (c := decide (x < 0)) (S' := S) rfl]; by_cases h : x < 0 <;> simp [h]
theorem x_zge {off : Int} {t : Nat} {x : Int32} (hP : q_P k pc = some (pc, .ifCond .ge off, ln, ax, z)) (ht : q_j pc off = t) : q_X k pc L (.int x :: S) E g Q = (if nI 0 ≤ x then q_X k t L S E g Q else q_X k (pc + 3) L S E g Q) := by subst ht; rw [nI_0, q_X_bra hP rfl (c := decide (0 ≤ x)) (S' := S) rfl]; by_cases h : 0 ≤ x <;> simp [h]
theorem x_zgt {off : Int} {t : Nat} {x : Int32} (hP : q_P k pc = some (pc, .ifCond .gt off, ln, ax, z)) (ht : q_j pc off = t) : q_X k pc L (.int x :: S) E g Q = (if nI 0 < x then q_X k t L S E g Q else q_X k (pc + 3) L S E g Q) := by subst ht; rw [nI_0, q_X_bra hP rfl (c := decide (0 < x)) (S' := S) rfl]; by_cases h : 0 < x <;> simp [h]
theorem x_zle {off : Int} {t : Nat} {x : Int32} (hP : q_P k pc = some (pc, .ifCond .le off, ln, ax, z)) (ht : q_j pc off = t) : q_X k pc L (.int x :: S) E g Q = (if x ≤ nI 0 then q_X k t L S E g Q else q_X k (pc + 3) L S E g Q) := by subst ht; rw [nI_0, q_X_bra hP rfl (c := decide (x ≤ 0)) (S' := S) rfl]; by_cases h : x ≤ 0 <;> simp [h]
theorem x_getI {idx ci sl iw ty a t : Nat} (hP : q_P k pc = some (pc, .getfield idx, ln, [ci, sl, ty, iw], z)) (hty : ¬ ty = 1) (ht : 4 + ci = t) : q_X k pc L (.ref a :: S) E g Q = ((q_kd E a).1 = t ∧ q_X k (pc + 3) L (.int (g a sl) :: S) E g Q) := by
  subst ht
  exact q_X_cnd hP rfl (by show (if _ then _ else none) = _; simp [hty])
theorem x_getR {idx ci sl iw a t : Nat} (hP : q_P k pc = some (pc, .getfield idx, ln, [ci, sl, 1, iw], z)) (ht : 4 + ci = t) : q_X k pc L (.ref a :: S) E g Q = ((q_kd E a).1 = t ∧ ¬ q_rf E a sl = 0 ∧ q_X k (pc + 3) L (.ref (q_rf E a sl) :: S) E g Q) := by
  subst ht
  by_cases h1 : (q_kd E a).1 = 4 + ci
  · by_cases h2 : q_rf E a sl = 0
    · rw [q_X_non hP rfl (by show (if (q_kd E a).1 = 4 + ci then _ else none) = none; rw [if_pos h1]; show (if q_rf E a sl = 0 then none else _) = none; rw [if_pos h2])]
      simp [h2]
    · rw [q_X_stp hP rfl (by show (if (q_kd E a).1 = 4 + ci then _ else none) = _; rw [if_pos h1]; show (if q_rf E a sl = 0 then none else _) = _; rw [if_neg h2])]
      simp [h1, h2]
  · rw [q_X_non hP rfl (by show (if (q_kd E a).1 = 4 + ci then _ else none) = none; rw [if_neg h1])]
    simp [h1]
theorem x_putR {idx ci sl iw f a v t : Nat} (hP : q_P k pc = some (pc, .putfield idx, ln, [ci, sl, 1, iw, f], z)) (ht : 4 + ci = t) : q_X k pc L (.ref v :: .ref a :: S) E g Q = (((q_kd E a).1 = t ∧ v ≠ 0) ∧ q_X k (pc + 3) L S (q_setR E a sl v) g Q) := by subst ht; exact q_X_cnd hP rfl rfl
theorem x_putI {idx ci sl iw f a t : Nat} {v : Int32} (hP : q_P k pc = some (pc, .putfield idx, ln, [ci, sl, 0, iw, f], z)) (ht : 4 + ci = t) : q_X k pc L (.int v :: .ref a :: S) E g Q = ((q_kd E a).1 = t ∧ q_X k (pc + 3) L S E (q_up g a sl v) Q) := by
  subst ht
  rw [q_X_cnd hP rfl (c := (q_kd E a).1 = 4 + ci ∧ ((0 : Nat) = 2 → narrow .char (.int v) = .int v ∧ fits .char (.int v) = true)) rfl]
  simp
theorem x_putC {idx ci sl iw f a t : Nat} {v : Int32} (hP : q_P k pc = some (pc, .putfield idx, ln, [ci, sl, 2, iw, f], z)) (ht : 4 + ci = t) : q_X k pc L (.int v :: .ref a :: S) E g Q = ((q_kd E a).1 = t ∧ (narrow .char (.int v) = .int v ∧ fits .char (.int v) = true) ∧ q_X k (pc + 3) L S E (q_up g a sl v) Q) := by
  subst ht
  rw [q_X_cnd hP rfl (c := (q_kd E a).1 = 4 + ci ∧ ((2 : Nat) = 2 → narrow .char (.int v) = .int v ∧ fits .char (.int v) = true)) rfl]
  simp only [true_implies, and_assoc]
  rfl
theorem x_gets {idx : Nat} (hP : q_P k pc = some (pc, .getstatic idx, ln, ax, z)) : q_X k pc L S E g Q = q_X k (pc + 3) L (.ref 2 :: S) E g Q := q_X_stp hP rfl rfl
theorem x_new {idx ci nf i1 i2 i3 t : Nat} (hP : q_P k pc = some (pc, .new idx, ln, [ci, nf, i1, i2, i3], z)) (ht : 4 + ci = t) : q_X k pc L S E g Q = q_X k (pc + 3) L (.ref E.1 :: S) (q_new E t nf) (q_upA g E.1 (fun _ => nI 0)) Q := by subst ht; exact q_X_stp hP rfl rfl
theorem x_newI {n : Nat} (hP : q_P k pc = some (pc, .newarray .int, ln, ax, z)) (hn : n ≤ 100000) : q_X k pc L (.int (nI n) :: S) E g Q = q_X k (pc + 2) L (.ref E.1 :: S) (q_new E 2 n) (q_upA g E.1 (fun _ => nI 0)) Q := by
  refine q_X_stp hP rfl ?_
  show (if _ then none else _) = _
  rw [if_neg (by rw [nI_clamp (by omega)]; intro h; rcases h with h | h; exact nI_pos (by omega) h; omega), nI_clamp (by omega)]
  rfl
theorem x_newC {n : Nat} (hP : q_P k pc = some (pc, .newarray .char, ln, ax, z)) (hn : n ≤ 100000) : q_X k pc L (.int (nI n) :: S) E g Q = q_X k (pc + 2) L (.ref E.1 :: S) (q_new E 3 n) (q_upA g E.1 (fun _ => nI 0)) Q := by
  refine q_X_stp hP rfl ?_
  show (if _ then none else _) = _
  rw [if_neg (by rw [nI_clamp (by omega)]; intro h; rcases h with h | h; exact nI_pos (by omega) h; omega), nI_clamp (by omega)]
  rfl
theorem x_alen {a : Nat} (hP : q_P k pc = some (pc, .arraylength, ln, ax, z)) : q_X k pc L (.ref a :: S) E g Q = (((q_kd E a).1 = 1 ∨ (q_kd E a).1 = 2 ∨ (q_kd E a).1 = 3) ∧ q_X k (pc + 1) L (.int (nI (q_kd E a).2) :: S) E g Q) := q_X_cnd hP rfl rfl
theorem x_iald {a : Nat} {i : Int32} (hP : q_P k pc = some (pc, .iaload, ln, ax, z)) : q_X k pc L (.int i :: .ref a :: S) E g Q = ((((q_kd E a).1 = 1 ∨ (q_kd E a).1 = 2) ∧ vp_in i (q_kd E a).2) ∧ q_X k (pc + 1) L (.int (g a i.toNatClampNeg) :: S) E g Q) := (q_X_cnd hP rfl (c := ((q_kd E a).1 = 1 ∨ (q_kd E a).1 = 2) ∧ ¬ (i < 0 ∨ (q_kd E a).2 ≤ i.toNatClampNeg)) rfl).trans rfl
theorem x_cald {a : Nat} {i : Int32} (hP : q_P k pc = some (pc, .caload, ln, ax, z)) : q_X k pc L (.int i :: .ref a :: S) E g Q = (((q_kd E a).1 = 3 ∧ vp_in i (q_kd E a).2) ∧ q_X k (pc + 1) L (.int (g a i.toNatClampNeg) :: S) E g Q) := (q_X_cnd hP rfl (c := (q_kd E a).1 = 3 ∧ ¬ (i < 0 ∨ (q_kd E a).2 ≤ i.toNatClampNeg)) rfl).trans rfl
theorem x_iast {a : Nat} {i x : Int32} (hP : q_P k pc = some (pc, .iastore, ln, ax, z)) : q_X k pc L (.int x :: .int i :: .ref a :: S) E g Q = (((q_kd E a).1 = 2 ∧ vp_in i (q_kd E a).2) ∧ q_X k (pc + 1) L S E (q_up g a i.toNatClampNeg x) Q) := (q_X_cnd hP rfl (c := (q_kd E a).1 = 2 ∧ ¬ (i < 0 ∨ (q_kd E a).2 ≤ i.toNatClampNeg)) rfl).trans rfl
theorem x_cast {a : Nat} {i x : Int32} (hP : q_P k pc = some (pc, .castore, ln, ax, z)) : q_X k pc L (.int x :: .int i :: .ref a :: S) E g Q = (((q_kd E a).1 = 3 ∧ vp_in i (q_kd E a).2) ∧ q_X k (pc + 1) L S E (q_up g a i.toNatClampNeg (vp_nar .char x)) Q) := (q_X_cnd hP rfl (c := (q_kd E a).1 = 3 ∧ ¬ (i < 0 ∨ (q_kd E a).2 ≤ i.toNatClampNeg)) rfl).trans rfl
theorem x_oini {idx i1 i2 i3 a : Nat} (hP : q_P k pc = some (pc, .invokespecial idx, ln, [0, 0, 6, i1, i2, i3], z)) : q_X k pc L [.ref a] E g Q = q_X k (pc + 3) L [] E g Q := q_X_stp hP rfl rfl
theorem x_f2b {idx i1 i2 i3 i4 : Nat} {b : UInt32} (hP : q_P k pc = some (pc, .invokestatic idx, ln, [0, 1, 8, i1, i2, i3, i4], z)) : q_X k pc L [.float b] E g Q = q_X k (pc + 3) L [.int b.toInt32] E g Q := q_X_stp hP rfl rfl
theorem x_acpy {idx i1 i2 i3 i4 a a0 : Nat} {n dp sp : Int32} (hP : q_P k pc = some (pc, .invokestatic idx, ln, [0, 5, 7, i1, i2, i3, i4], z)) : q_X k pc L [.int n, .int dp, .ref a, .int sp, .ref a0] E g Q = (((q_kd E a).1 = 2 ∧ (q_kd E a0).1 = 2 ∧ ([] : List Value) = [] ∧ ¬ sp < 0 ∧ ¬ dp < 0 ∧ ¬ n < 0 ∧ sp.toNatClampNeg + n.toNatClampNeg ≤ (q_kd E a0).2 ∧ dp.toNatClampNeg + n.toNatClampNeg ≤ (q_kd E a).2) ∧ q_X k (pc + 3) L [] E (q_upA g a (va_cpy (g a0) (g a) sp.toNatClampNeg dp.toNatClampNeg n.toNatClampNeg)) Q) := q_X_cnd hP rfl rfl
theorem x_reti {v : Int32} {ty : FieldType} (hP : q_P k pc = some (pc, .ireturn, ln, ax, z)) (hty : (q_mi k).2.2.2.1 = some ty) : q_X k pc L [.int v] E g Q = (narrow ty (.int v) = .int v ∧ Q (some (.int v)) E g) := q_X_rti hP rfl hty
theorem x_retI {v : Int32} (hP : q_P k pc = some (pc, .ireturn, ln, ax, z)) (hty : (q_mi k).2.2.2.1 = some .int) : q_X k pc L [.int v] E g Q = Q (some (.int v)) E g := by
  rw [q_X_rti hP rfl hty]
  exact propext ⟨fun h => h.2, fun h => ⟨rfl, h⟩⟩
theorem x_reta {a : Nat} (hP : q_P k pc = some (pc, .areturn, ln, ax, z)) : q_X k pc L [.ref a] E g Q = Q (some (.ref a)) E g := q_X_ret hP rfl rfl
theorem x_retv (hP : q_P k pc = some (pc, .return_, ln, ax, z)) : q_X k pc L [] E g Q = Q none E g := q_X_ret hP rfl rfl
end
/-- a truth as an int -/
def q_b (c : Bool) : Int32 := if c = true then nI 1 else nI 0
theorem q_b_0 (c : Bool) : (q_b c = nI 0) = (c = false) := by cases c <;> simp [q_b, nI]
theorem q_b_t : q_b true = nI 1 := rfl
theorem q_b_f : q_b false = nI 0 := rfl
theorem q_nz (c : Bool) : (narrow .boolean (.int (q_b c)) = .int (q_b c)) = True := by cases c <;> decide
theorem q_nz1 : (narrow .boolean (.int (nI 1)) = .int (nI 1)) = True := by decide
theorem q_nz0 : (narrow .boolean (.int (nI 0)) = .int (nI 0)) = True := by decide
theorem q_tl (v : Value) (S : List Value) : (some v).toList ++ S = v :: S := rfl
theorem q_tn (S : List Value) : (none : Option Value).toList ++ S = S := rfl
end
section
-- J9_floorMod_7cf53
theorem x0_0 {l1 l2 : Value} {x : Int32} {S : List Value} {E : q_E} {g : q_G} {Q : Option Value → q_E → q_G → Prop} : q_X 0 0 [(.int x), l1, l2] S E g Q = q_X 0 1 [(.int x), l1, l2] ((.int x) :: S) E g Q := q_X_stp (show q_P 0 0 = some (0, .iload_n 0, 1, [], 0) by decide +kernel) rfl rfl
theorem x0_1 {l0 l2 : Value} {x : Int32} {S : List Value} {E : q_E} {g : q_G} {Q : Option Value → q_E → q_G → Prop} : q_X 0 1 [l0, (.int x), l2] S E g Q = q_X 0 2 [l0, (.int x), l2] ((.int x) :: S) E g Q := q_X_stp (show q_P 0 1 = some (1, .iload_n 1, 1, [], 0) by decide +kernel) rfl rfl
theorem x0_2 {x y : Int32} {L S : List Value} {E : q_E} {g : q_G} {Q : Option Value → q_E → q_G → Prop} : q_X 0 2 L (.int y :: .int x :: S) E g Q = (¬ y = 0 ∧ q_X 0 3 L (.int (x - x / y * y) :: S) E g Q) := x_irem (show q_P 0 2 = some (2, .irem, 1, [], 0) by decide +kernel)
theorem x0_3 {l0 l1 l2 : Value} {x : Int32} {S : List Value} {E : q_E} {g : q_G} {Q : Option Value → q_E → q_G → Prop} : q_X 0 3 [l0, l1, l2] ((.int x) :: S) E g Q = q_X 0 4 [l0, l1, (.int x)] S E g Q := q_X_stp (show q_P 0 3 = some (3, .istore_n 2, 1, [], 0) by decide +kernel) rfl rfl
theorem x0_4 {l1 l2 : Value} {x : Int32} {S : List Value} {E : q_E} {g : q_G} {Q : Option Value → q_E → q_G → Prop} : q_X 0 4 [(.int x), l1, l2] S E g Q = q_X 0 5 [(.int x), l1, l2] ((.int x) :: S) E g Q := q_X_stp (show q_P 0 4 = some (4, .iload_n 0, 1, [], 0) by decide +kernel) rfl rfl
theorem x0_5 {l0 l2 : Value} {x : Int32} {S : List Value} {E : q_E} {g : q_G} {Q : Option Value → q_E → q_G → Prop} : q_X 0 5 [l0, (.int x), l2] S E g Q = q_X 0 6 [l0, (.int x), l2] ((.int x) :: S) E g Q := q_X_stp (show q_P 0 5 = some (5, .iload_n 1, 1, [], 0) by decide +kernel) rfl rfl
theorem x0_6 {x y : Int32} {L S : List Value} {E : q_E} {g : q_G} {Q : Option Value → q_E → q_G → Prop} : q_X 0 6 L (.int y :: .int x :: S) E g Q = q_X 0 7 L (.int (x ^^^ y) :: S) E g Q := x_ixor (show q_P 0 6 = some (6, .ixor, 1, [], 0) by decide +kernel)
theorem x0_7 {x : Int32} {L S : List Value} {E : q_E} {g : q_G} {Q : Option Value → q_E → q_G → Prop} : q_X 0 7 L (.int x :: S) E g Q = (if nI 0 ≤ x then q_X 0 18 L S E g Q else q_X 0 10 L S E g Q) := x_zge (show q_P 0 7 = some (7, .ifCond .ge 11, 3, [], 0) by decide +kernel) (by decide)
theorem x0_10 {l0 l1 : Value} {x : Int32} {S : List Value} {E : q_E} {g : q_G} {Q : Option Value → q_E → q_G → Prop} : q_X 0 10 [l0, l1, (.int x)] S E g Q = q_X 0 11 [l0, l1, (.int x)] ((.int x) :: S) E g Q := q_X_stp (show q_P 0 10 = some (10, .iload_n 2, 1, [], 0) by decide +kernel) rfl rfl
theorem x0_11 {x : Int32} {L S : List Value} {E : q_E} {g : q_G} {Q : Option Value → q_E → q_G → Prop} : q_X 0 11 L (.int x :: S) E g Q = (if x = nI 0 then q_X 0 18 L S E g Q else q_X 0 14 L S E g Q) := x_zeq (show q_P 0 11 = some (11, .ifCond .eq 7, 3, [], 0) by decide +kernel) (by decide)
theorem x0_14 {l0 l1 : Value} {x : Int32} {S : List Value} {E : q_E} {g : q_G} {Q : Option Value → q_E → q_G → Prop} : q_X 0 14 [l0, l1, (.int x)] S E g Q = q_X 0 15 [l0, l1, (.int x)] ((.int x) :: S) E g Q := q_X_stp (show q_P 0 14 = some (14, .iload_n 2, 1, [], 0) by decide +kernel) rfl rfl
theorem x0_15 {l0 l2 : Value} {x : Int32} {S : List Value} {E : q_E} {g : q_G} {Q : Option Value → q_E → q_G → Prop} : q_X 0 15 [l0, (.int x), l2] S E g Q = q_X 0 16 [l0, (.int x), l2] ((.int x) :: S) E g Q := q_X_stp (show q_P 0 15 = some (15, .iload_n 1, 1, [], 0) by decide +kernel) rfl rfl
theorem x0_16 {x y : Int32} {L S : List Value} {E : q_E} {g : q_G} {Q : Option Value → q_E → q_G → Prop} : q_X 0 16 L (.int y :: .int x :: S) E g Q = q_X 0 17 L (.int (x + y) :: S) E g Q := x_iadd (show q_P 0 16 = some (16, .iadd, 1, [], 0) by decide +kernel)
theorem x0_17 {v : Int32} {L : List Value} {E : q_E} {g : q_G} {Q : Option Value → q_E → q_G → Prop} : q_X 0 17 L [.int v] E g Q = Q (some (.int v)) E g := x_retI (show q_P 0 17 = some (17, .ireturn, 1, [], 0) by decide +kernel) rfl
theorem x0_18 {l0 l1 : Value} {x : Int32} {S : List Value} {E : q_E} {g : q_G} {Q : Option Value → q_E → q_G → Prop} : q_X 0 18 [l0, l1, (.int x)] S E g Q = q_X 0 19 [l0, l1, (.int x)] ((.int x) :: S) E g Q := q_X_stp (show q_P 0 18 = some (18, .iload_n 2, 1, [], 0) by decide +kernel) rfl rfl
theorem x0_19 {v : Int32} {L : List Value} {E : q_E} {g : q_G} {Q : Option Value → q_E → q_G → Prop} : q_X 0 19 L [.int v] E g Q = Q (some (.int v)) E g := x_retI (show q_P 0 19 = some (19, .ireturn, 1, [], 0) by decide +kernel) rfl
-- J9_max_7cf53
theorem x1_0 {l1 : Value} {x : Int32} {S : List Value} {E : q_E} {g : q_G} {Q : Option Value → q_E → q_G → Prop} : q_X 1 0 [(.int x), l1] S E g Q = q_X 1 1 [(.int x), l1] ((.int x) :: S) E g Q := q_X_stp (show q_P 1 0 = some (0, .iload_n 0, 1, [], 0) by decide +kernel) rfl rfl
theorem x1_1 {l0 : Value} {x : Int32} {S : List Value} {E : q_E} {g : q_G} {Q : Option Value → q_E → q_G → Prop} : q_X 1 1 [l0, (.int x)] S E g Q = q_X 1 2 [l0, (.int x)] ((.int x) :: S) E g Q := q_X_stp (show q_P 1 1 = some (1, .iload_n 1, 1, [], 0) by decide +kernel) rfl rfl
theorem x1_2 {x y : Int32} {L S : List Value} {E : q_E} {g : q_G} {Q : Option Value → q_E → q_G → Prop} : q_X 1 2 L (.int y :: .int x :: S) E g Q = (if x < y then q_X 1 9 L S E g Q else q_X 1 5 L S E g Q) := x_ilt (show q_P 1 2 = some (2, .if_icmp .lt 7, 3, [], 0) by decide +kernel) (by decide)
theorem x1_5 {l1 : Value} {x : Int32} {S : List Value} {E : q_E} {g : q_G} {Q : Option Value → q_E → q_G → Prop} : q_X 1 5 [(.int x), l1] S E g Q = q_X 1 6 [(.int x), l1] ((.int x) :: S) E g Q := q_X_stp (show q_P 1 5 = some (5, .iload_n 0, 1, [], 0) by decide +kernel) rfl rfl
theorem x1_6 {L S : List Value} {E : q_E} {g : q_G} {Q : Option Value → q_E → q_G → Prop} : q_X 1 6 L S E g Q = q_X 1 10 L S E g Q := x_goto (show q_P 1 6 = some (6, .goto 4, 3, [], 0) by decide +kernel) (by decide)
theorem x1_9 {l0 : Value} {x : Int32} {S : List Value} {E : q_E} {g : q_G} {Q : Option Value → q_E → q_G → Prop} : q_X 1 9 [l0, (.int x)] S E g Q = q_X 1 10 [l0, (.int x)] ((.int x) :: S) E g Q := q_X_stp (show q_P 1 9 = some (9, .iload_n 1, 1, [], 0) by decide +kernel) rfl rfl
theorem x1_10 {v : Int32} {L : List Value} {E : q_E} {g : q_G} {Q : Option Value → q_E → q_G → Prop} : q_X 1 10 L [.int v] E g Q = Q (some (.int v)) E g := x_retI (show q_P 1 10 = some (10, .ireturn, 1, [], 0) by decide +kernel) rfl
-- J9_min_7cf53
theorem x2_0 {l1 : Value} {x : Int32} {S : List Value} {E : q_E} {g : q_G} {Q : Option Value → q_E → q_G → Prop} : q_X 2 0 [(.int x), l1] S E g Q = q_X 2 1 [(.int x), l1] ((.int x) :: S) E g Q := q_X_stp (show q_P 2 0 = some (0, .iload_n 0, 1, [], 0) by decide +kernel) rfl rfl
theorem x2_1 {l0 : Value} {x : Int32} {S : List Value} {E : q_E} {g : q_G} {Q : Option Value → q_E → q_G → Prop} : q_X 2 1 [l0, (.int x)] S E g Q = q_X 2 2 [l0, (.int x)] ((.int x) :: S) E g Q := q_X_stp (show q_P 2 1 = some (1, .iload_n 1, 1, [], 0) by decide +kernel) rfl rfl
theorem x2_2 {x y : Int32} {L S : List Value} {E : q_E} {g : q_G} {Q : Option Value → q_E → q_G → Prop} : q_X 2 2 L (.int y :: .int x :: S) E g Q = (if y < x then q_X 2 9 L S E g Q else q_X 2 5 L S E g Q) := x_igt (show q_P 2 2 = some (2, .if_icmp .gt 7, 3, [], 0) by decide +kernel) (by decide)
theorem x2_5 {l1 : Value} {x : Int32} {S : List Value} {E : q_E} {g : q_G} {Q : Option Value → q_E → q_G → Prop} : q_X 2 5 [(.int x), l1] S E g Q = q_X 2 6 [(.int x), l1] ((.int x) :: S) E g Q := q_X_stp (show q_P 2 5 = some (5, .iload_n 0, 1, [], 0) by decide +kernel) rfl rfl
theorem x2_6 {L S : List Value} {E : q_E} {g : q_G} {Q : Option Value → q_E → q_G → Prop} : q_X 2 6 L S E g Q = q_X 2 10 L S E g Q := x_goto (show q_P 2 6 = some (6, .goto 4, 3, [], 0) by decide +kernel) (by decide)
theorem x2_9 {l0 : Value} {x : Int32} {S : List Value} {E : q_E} {g : q_G} {Q : Option Value → q_E → q_G → Prop} : q_X 2 9 [l0, (.int x)] S E g Q = q_X 2 10 [l0, (.int x)] ((.int x) :: S) E g Q := q_X_stp (show q_P 2 9 = some (9, .iload_n 1, 1, [], 0) by decide +kernel) rfl rfl
theorem x2_10 {v : Int32} {L : List Value} {E : q_E} {g : q_G} {Q : Option Value → q_E → q_G → Prop} : q_X 2 10 L [.int v] E g Q = Q (some (.int v)) E g := x_retI (show q_P 2 10 = some (10, .ireturn, 1, [], 0) by decide +kernel) rfl
-- Jxf58ca_isNaN_12338
theorem x3_0 {x : UInt32} {S : List Value} {E : q_E} {g : q_G} {Q : Option Value → q_E → q_G → Prop} : q_X 3 0 [(.float x)] S E g Q = q_X 3 1 [(.float x)] ((.float x) :: S) E g Q := q_X_stp (show q_P 3 0 = some (0, .fload_n 0, 1, [], 0) by decide +kernel) rfl rfl
theorem x3_1 {x : UInt32} {S : List Value} {E : q_E} {g : q_G} {Q : Option Value → q_E → q_G → Prop} : q_X 3 1 [(.float x)] S E g Q = q_X 3 2 [(.float x)] ((.float x) :: S) E g Q := q_X_stp (show q_P 3 1 = some (1, .fload_n 0, 1, [], 0) by decide +kernel) rfl rfl
theorem x3_2 {x y : UInt32} {L S : List Value} {E : q_E} {g : q_G} {Q : Option Value → q_E → q_G → Prop} : q_X 3 2 L (.float y :: .float x :: S) E g Q = q_X 3 3 L (.int (Op.cmpValue (FP.fcmp x y) .l) :: S) E g Q := x_fcmp (show q_P 3 2 = some (2, .fcmp .l, 1, [], 0) by decide +kernel)
theorem x3_3 {x : Int32} {L S : List Value} {E : q_E} {g : q_G} {Q : Option Value → q_E → q_G → Prop} : q_X 3 3 L (.int x :: S) E g Q = (if x = nI 0 then q_X 3 10 L S E g Q else q_X 3 6 L S E g Q) := x_zeq (show q_P 3 3 = some (3, .ifCond .eq 7, 3, [], 0) by decide +kernel) (by decide)
theorem x3_6 {L S : List Value} {E : q_E} {g : q_G} {Q : Option Value → q_E → q_G → Prop} : q_X 3 6 L S E g Q = q_X 3 7 L (.int (nI 1) :: S) E g Q := x_iconst (show q_P 3 6 = some (6, .iconst 1, 1, [], 0) by decide +kernel) (by decide)
theorem x3_7 {L S : List Value} {E : q_E} {g : q_G} {Q : Option Value → q_E → q_G → Prop} : q_X 3 7 L S E g Q = q_X 3 11 L S E g Q := x_goto (show q_P 3 7 = some (7, .goto 4, 3, [], 0) by decide +kernel) (by decide)
theorem x3_10 {L S : List Value} {E : q_E} {g : q_G} {Q : Option Value → q_E → q_G → Prop} : q_X 3 10 L S E g Q = q_X 3 11 L (.int (nI 0) :: S) E g Q := x_iconst (show q_P 3 10 = some (10, .iconst 0, 1, [], 0) by decide +kernel) (by decide)
theorem x3_11 {v : Int32} {L : List Value} {E : q_E} {g : q_G} {Q : Option Value → q_E → q_G → Prop} : q_X 3 11 L [.int v] E g Q = (narrow .boolean (.int v) = .int v ∧ Q (some (.int v)) E g) := x_reti (show q_P 3 11 = some (11, .ireturn, 1, [], 0) by decide +kernel) rfl
-- X0_dayOfYear
theorem x4_0 {x : Nat} {S : List Value} {E : q_E} {g : q_G} {Q : Option Value → q_E → q_G → Prop} : q_X 4 0 [(.ref x)] S E g Q = q_X 4 1 [(.ref x)] ((.ref x) :: S) E g Q := q_X_stp (show q_P 4 0 = some (0, .aload_n 0, 1, [], 0) by decide +kernel) rfl rfl
theorem x4_1 {a : Nat} {L S : List Value} {E : q_E} {g : q_G} {Q : Option Value → q_E → q_G → Prop} : q_X 4 1 L (.ref a :: S) E g Q = ((q_kd E a).1 = 4 ∧ q_X 4 4 L (.int (g a 0) :: S) E g Q) := x_getI (show q_P 4 1 = some (1, .getfield 9, 3, [0, 0, 0, 67], 0) by decide +kernel) (by decide) rfl
theorem x4_4 {L S : List Value} {E : q_E} {g : q_G} {Q : Option Value → q_E → q_G → Prop} : q_X 4 4 L S E g Q = q_X 4 7 L (.int (nI 360) :: S) E g Q := x_sipush (show q_P 4 4 = some (4, .sipush 360, 3, [], 0) by decide +kernel) (by decide)
theorem x4_7 {x y : Int32} {L S : List Value} {E : q_E} {g : q_G} {Q : Option Value → q_E → q_G → Prop} : q_X 4 7 L (.int y :: .int x :: S) E g Q = (¬ y = 0 ∧ q_X 4 8 L (.int (x - x / y * y) :: S) E g Q) := x_irem (show q_P 4 7 = some (7, .irem, 1, [], 0) by decide +kernel)
theorem x4_8 {v : Int32} {L : List Value} {E : q_E} {g : q_G} {Q : Option Value → q_E → q_G → Prop} : q_X 4 8 L [.int v] E g Q = Q (some (.int v)) E g := x_retI (show q_P 4 8 = some (8, .ireturn, 1, [], 0) by decide +kernel) rfl
-- X1_cardsOf
theorem x5_0 {L S : List Value} {E : q_E} {g : q_G} {Q : Option Value → q_E → q_G → Prop} : q_X 5 0 L S E g Q = q_X 5 1 L (.int (nI 0) :: S) E g Q := x_iconst (show q_P 5 0 = some (0, .iconst 0, 1, [], 0) by decide +kernel) (by decide)
theorem x5_1 {l0 l1 l2 l3 : Value} {x : Int32} {S : List Value} {E : q_E} {g : q_G} {Q : Option Value → q_E → q_G → Prop} : q_X 5 1 [l0, l1, l2, l3] ((.int x) :: S) E g Q = q_X 5 2 [l0, l1, (.int x), l3] S E g Q := q_X_stp (show q_P 5 1 = some (1, .istore_n 2, 1, [], 0) by decide +kernel) rfl rfl
theorem x5_2 {L S : List Value} {E : q_E} {g : q_G} {Q : Option Value → q_E → q_G → Prop} : q_X 5 2 L S E g Q = q_X 5 3 L (.int (nI 0) :: S) E g Q := x_iconst (show q_P 5 2 = some (2, .iconst 0, 1, [], 0) by decide +kernel) (by decide)
theorem x5_3 {l0 l1 l2 l3 : Value} {x : Int32} {S : List Value} {E : q_E} {g : q_G} {Q : Option Value → q_E → q_G → Prop} : q_X 5 3 [l0, l1, l2, l3] ((.int x) :: S) E g Q = q_X 5 4 [l0, l1, l2, (.int x)] S E g Q := q_X_stp (show q_P 5 3 = some (3, .istore_n 3, 1, [], 0) by decide +kernel) rfl rfl
theorem x5_4 {l0 l1 l2 : Value} {x : Int32} {S : List Value} {E : q_E} {g : q_G} {Q : Option Value → q_E → q_G → Prop} : q_X 5 4 [l0, l1, l2, (.int x)] S E g Q = q_X 5 5 [l0, l1, l2, (.int x)] ((.int x) :: S) E g Q := q_X_stp (show q_P 5 4 = some (4, .iload_n 3, 1, [], 0) by decide +kernel) rfl rfl
theorem x5_5 {l1 l2 l3 : Value} {x : Nat} {S : List Value} {E : q_E} {g : q_G} {Q : Option Value → q_E → q_G → Prop} : q_X 5 5 [(.ref x), l1, l2, l3] S E g Q = q_X 5 6 [(.ref x), l1, l2, l3] ((.ref x) :: S) E g Q := q_X_stp (show q_P 5 5 = some (5, .aload_n 0, 1, [], 0) by decide +kernel) rfl rfl
theorem x5_6 {a : Nat} {L S : List Value} {E : q_E} {g : q_G} {Q : Option Value → q_E → q_G → Prop} : q_X 5 6 L (.ref a :: S) E g Q = ((q_kd E a).1 = 5 ∧ q_X 5 9 L (.int (g a 0) :: S) E g Q) := x_getI (show q_P 5 6 = some (6, .getfield 9, 3, [1, 0, 0, 167], 0) by decide +kernel) (by decide) rfl
theorem x5_9 {x y : Int32} {L S : List Value} {E : q_E} {g : q_G} {Q : Option Value → q_E → q_G → Prop} : q_X 5 9 L (.int y :: .int x :: S) E g Q = (if y ≤ x then q_X 5 37 L S E g Q else q_X 5 12 L S E g Q) := x_ige (show q_P 5 9 = some (9, .if_icmp .ge 28, 3, [], 0) by decide +kernel) (by decide)
theorem x5_12 {l1 l2 l3 : Value} {x : Nat} {S : List Value} {E : q_E} {g : q_G} {Q : Option Value → q_E → q_G → Prop} : q_X 5 12 [(.ref x), l1, l2, l3] S E g Q = q_X 5 13 [(.ref x), l1, l2, l3] ((.ref x) :: S) E g Q := q_X_stp (show q_P 5 12 = some (12, .aload_n 0, 1, [], 0) by decide +kernel) rfl rfl
theorem x5_13 {a : Nat} {L S : List Value} {E : q_E} {g : q_G} {Q : Option Value → q_E → q_G → Prop} : q_X 5 13 L (.ref a :: S) E g Q = ((q_kd E a).1 = 5 ∧ ¬ q_rf E a 1 = 0 ∧ q_X 5 16 L (.ref (q_rf E a 1) :: S) E g Q) := x_getR (show q_P 5 13 = some (13, .getfield 15, 3, [1, 1, 1, 170], 0) by decide +kernel) rfl
theorem x5_16 {l0 l1 l2 : Value} {x : Int32} {S : List Value} {E : q_E} {g : q_G} {Q : Option Value → q_E → q_G → Prop} : q_X 5 16 [l0, l1, l2, (.int x)] S E g Q = q_X 5 17 [l0, l1, l2, (.int x)] ((.int x) :: S) E g Q := q_X_stp (show q_P 5 16 = some (16, .iload_n 3, 1, [], 0) by decide +kernel) rfl rfl
theorem x5_17 {a : Nat} {i : Int32} {L S : List Value} {E : q_E} {g : q_G} {Q : Option Value → q_E → q_G → Prop} : q_X 5 17 L (.int i :: .ref a :: S) E g Q = ((((q_kd E a).1 = 1 ∨ (q_kd E a).1 = 2) ∧ vp_in i (q_kd E a).2) ∧ q_X 5 18 L (.int (g a i.toNatClampNeg) :: S) E g Q) := x_iald (show q_P 5 17 = some (17, .iaload, 1, [], 0) by decide +kernel)
theorem x5_18 {l0 l2 l3 : Value} {x : Int32} {S : List Value} {E : q_E} {g : q_G} {Q : Option Value → q_E → q_G → Prop} : q_X 5 18 [l0, (.int x), l2, l3] S E g Q = q_X 5 19 [l0, (.int x), l2, l3] ((.int x) :: S) E g Q := q_X_stp (show q_P 5 18 = some (18, .iload_n 1, 1, [], 0) by decide +kernel) rfl rfl
theorem x5_19 {x y : Int32} {L S : List Value} {E : q_E} {g : q_G} {Q : Option Value → q_E → q_G → Prop} : q_X 5 19 L (.int y :: .int x :: S) E g Q = (if x = y then q_X 5 22 L S E g Q else q_X 5 31 L S E g Q) := x_ine (show q_P 5 19 = some (19, .if_icmp .ne 12, 3, [], 0) by decide +kernel) (by decide)
theorem x5_22 {l0 l1 l3 : Value} {x : Int32} {S : List Value} {E : q_E} {g : q_G} {Q : Option Value → q_E → q_G → Prop} : q_X 5 22 [l0, l1, (.int x), l3] S E g Q = q_X 5 23 [l0, l1, (.int x), l3] ((.int x) :: S) E g Q := q_X_stp (show q_P 5 22 = some (22, .iload_n 2, 1, [], 0) by decide +kernel) rfl rfl
theorem x5_23 {l1 l2 l3 : Value} {x : Nat} {S : List Value} {E : q_E} {g : q_G} {Q : Option Value → q_E → q_G → Prop} : q_X 5 23 [(.ref x), l1, l2, l3] S E g Q = q_X 5 24 [(.ref x), l1, l2, l3] ((.ref x) :: S) E g Q := q_X_stp (show q_P 5 23 = some (23, .aload_n 0, 1, [], 0) by decide +kernel) rfl rfl
theorem x5_24 {a : Nat} {L S : List Value} {E : q_E} {g : q_G} {Q : Option Value → q_E → q_G → Prop} : q_X 5 24 L (.ref a :: S) E g Q = ((q_kd E a).1 = 5 ∧ ¬ q_rf E a 2 = 0 ∧ q_X 5 27 L (.ref (q_rf E a 2) :: S) E g Q) := x_getR (show q_P 5 24 = some (24, .getfield 19, 3, [1, 2, 1, 172], 0) by decide +kernel) rfl
theorem x5_27 {l0 l1 l2 : Value} {x : Int32} {S : List Value} {E : q_E} {g : q_G} {Q : Option Value → q_E → q_G → Prop} : q_X 5 27 [l0, l1, l2, (.int x)] S E g Q = q_X 5 28 [l0, l1, l2, (.int x)] ((.int x) :: S) E g Q := q_X_stp (show q_P 5 27 = some (27, .iload_n 3, 1, [], 0) by decide +kernel) rfl rfl
theorem x5_28 {a : Nat} {i : Int32} {L S : List Value} {E : q_E} {g : q_G} {Q : Option Value → q_E → q_G → Prop} : q_X 5 28 L (.int i :: .ref a :: S) E g Q = ((((q_kd E a).1 = 1 ∨ (q_kd E a).1 = 2) ∧ vp_in i (q_kd E a).2) ∧ q_X 5 29 L (.int (g a i.toNatClampNeg) :: S) E g Q) := x_iald (show q_P 5 28 = some (28, .iaload, 1, [], 0) by decide +kernel)
theorem x5_29 {x y : Int32} {L S : List Value} {E : q_E} {g : q_G} {Q : Option Value → q_E → q_G → Prop} : q_X 5 29 L (.int y :: .int x :: S) E g Q = q_X 5 30 L (.int (x + y) :: S) E g Q := x_iadd (show q_P 5 29 = some (29, .iadd, 1, [], 0) by decide +kernel)
theorem x5_30 {l0 l1 l2 l3 : Value} {x : Int32} {S : List Value} {E : q_E} {g : q_G} {Q : Option Value → q_E → q_G → Prop} : q_X 5 30 [l0, l1, l2, l3] ((.int x) :: S) E g Q = q_X 5 31 [l0, l1, (.int x), l3] S E g Q := q_X_stp (show q_P 5 30 = some (30, .istore_n 2, 1, [], 0) by decide +kernel) rfl rfl
theorem x5_31 {l0 l1 l2 : Value} {x : Int32} {S : List Value} {E : q_E} {g : q_G} {Q : Option Value → q_E → q_G → Prop} : q_X 5 31 [l0, l1, l2, (.int x)] S E g Q = q_X 5 34 [l0, l1, l2, (.int (x + (nI 1)))] S E g Q := q_X_stp (show q_P 5 31 = some (31, .iinc 3 1, 3, [], 0) by decide +kernel) rfl rfl
theorem x5_34 {L S : List Value} {E : q_E} {g : q_G} {Q : Option Value → q_E → q_G → Prop} : q_X 5 34 L S E g Q = q_X 5 4 L S E g Q := x_goto (show q_P 5 34 = some (34, .goto (-30), 3, [], 0) by decide +kernel) (by decide)
theorem x5_37 {l0 l1 l3 : Value} {x : Int32} {S : List Value} {E : q_E} {g : q_G} {Q : Option Value → q_E → q_G → Prop} : q_X 5 37 [l0, l1, (.int x), l3] S E g Q = q_X 5 38 [l0, l1, (.int x), l3] ((.int x) :: S) E g Q := q_X_stp (show q_P 5 37 = some (37, .iload_n 2, 1, [], 0) by decide +kernel) rfl rfl
theorem x5_38 {v : Int32} {L : List Value} {E : q_E} {g : q_G} {Q : Option Value → q_E → q_G → Prop} : q_X 5 38 L [.int v] E g Q = Q (some (.int v)) E g := x_retI (show q_P 5 38 = some (38, .ireturn, 1, [], 0) by decide +kernel) rfl
-- X1_firstIsDue
theorem x6_0 {l1 : Value} {x : Nat} {S : List Value} {E : q_E} {g : q_G} {Q : Option Value → q_E → q_G → Prop} : q_X 6 0 [(.ref x), l1] S E g Q = q_X 6 1 [(.ref x), l1] ((.ref x) :: S) E g Q := q_X_stp (show q_P 6 0 = some (0, .aload_n 0, 1, [], 0) by decide +kernel) rfl rfl
theorem x6_1 {a : Nat} {L S : List Value} {E : q_E} {g : q_G} {Q : Option Value → q_E → q_G → Prop} : q_X 6 1 L (.ref a :: S) E g Q = ((q_kd E a).1 = 5 ∧ q_X 6 4 L (.int (g a 0) :: S) E g Q) := x_getI (show q_P 6 1 = some (1, .getfield 9, 3, [1, 0, 0, 167], 0) by decide +kernel) (by decide) rfl
theorem x6_4 {x : Int32} {L S : List Value} {E : q_E} {g : q_G} {Q : Option Value → q_E → q_G → Prop} : q_X 6 4 L (.int x :: S) E g Q = (if x ≤ nI 0 then q_X 6 21 L S E g Q else q_X 6 7 L S E g Q) := x_zle (show q_P 6 4 = some (4, .ifCond .le 17, 3, [], 0) by decide +kernel) (by decide)
theorem x6_7 {l1 : Value} {x : Nat} {S : List Value} {E : q_E} {g : q_G} {Q : Option Value → q_E → q_G → Prop} : q_X 6 7 [(.ref x), l1] S E g Q = q_X 6 8 [(.ref x), l1] ((.ref x) :: S) E g Q := q_X_stp (show q_P 6 7 = some (7, .aload_n 0, 1, [], 0) by decide +kernel) rfl rfl
theorem x6_8 {a : Nat} {L S : List Value} {E : q_E} {g : q_G} {Q : Option Value → q_E → q_G → Prop} : q_X 6 8 L (.ref a :: S) E g Q = ((q_kd E a).1 = 5 ∧ ¬ q_rf E a 3 = 0 ∧ q_X 6 11 L (.ref (q_rf E a 3) :: S) E g Q) := x_getR (show q_P 6 8 = some (8, .getfield 22, 3, [1, 3, 1, 174], 0) by decide +kernel) rfl
theorem x6_11 {L S : List Value} {E : q_E} {g : q_G} {Q : Option Value → q_E → q_G → Prop} : q_X 6 11 L S E g Q = q_X 6 12 L (.int (nI 0) :: S) E g Q := x_iconst (show q_P 6 11 = some (11, .iconst 0, 1, [], 0) by decide +kernel) (by decide)
theorem x6_12 {a : Nat} {i : Int32} {L S : List Value} {E : q_E} {g : q_G} {Q : Option Value → q_E → q_G → Prop} : q_X 6 12 L (.int i :: .ref a :: S) E g Q = ((((q_kd E a).1 = 1 ∨ (q_kd E a).1 = 2) ∧ vp_in i (q_kd E a).2) ∧ q_X 6 13 L (.int (g a i.toNatClampNeg) :: S) E g Q) := x_iald (show q_P 6 12 = some (12, .iaload, 1, [], 0) by decide +kernel)
theorem x6_13 {l0 : Value} {x : Int32} {S : List Value} {E : q_E} {g : q_G} {Q : Option Value → q_E → q_G → Prop} : q_X 6 13 [l0, (.int x)] S E g Q = q_X 6 14 [l0, (.int x)] ((.int x) :: S) E g Q := q_X_stp (show q_P 6 13 = some (13, .iload_n 1, 1, [], 0) by decide +kernel) rfl rfl
theorem x6_14 {x y : Int32} {L S : List Value} {E : q_E} {g : q_G} {Q : Option Value → q_E → q_G → Prop} : q_X 6 14 L (.int y :: .int x :: S) E g Q = (if y < x then q_X 6 21 L S E g Q else q_X 6 17 L S E g Q) := x_igt (show q_P 6 14 = some (14, .if_icmp .gt 7, 3, [], 0) by decide +kernel) (by decide)
theorem x6_17 {L S : List Value} {E : q_E} {g : q_G} {Q : Option Value → q_E → q_G → Prop} : q_X 6 17 L S E g Q = q_X 6 18 L (.int (nI 1) :: S) E g Q := x_iconst (show q_P 6 17 = some (17, .iconst 1, 1, [], 0) by decide +kernel) (by decide)
theorem x6_18 {L S : List Value} {E : q_E} {g : q_G} {Q : Option Value → q_E → q_G → Prop} : q_X 6 18 L S E g Q = q_X 6 22 L S E g Q := x_goto (show q_P 6 18 = some (18, .goto 4, 3, [], 0) by decide +kernel) (by decide)
theorem x6_21 {L S : List Value} {E : q_E} {g : q_G} {Q : Option Value → q_E → q_G → Prop} : q_X 6 21 L S E g Q = q_X 6 22 L (.int (nI 0) :: S) E g Q := x_iconst (show q_P 6 21 = some (21, .iconst 0, 1, [], 0) by decide +kernel) (by decide)
theorem x6_22 {v : Int32} {L : List Value} {E : q_E} {g : q_G} {Q : Option Value → q_E → q_G → Prop} : q_X 6 22 L [.int v] E g Q = (narrow .boolean (.int v) = .int v ∧ Q (some (.int v)) E g) := x_reti (show q_P 6 22 = some (22, .ireturn, 1, [], 0) by decide +kernel) rfl
-- X1_isFull
theorem x7_0 {x : Nat} {S : List Value} {E : q_E} {g : q_G} {Q : Option Value → q_E → q_G → Prop} : q_X 7 0 [(.ref x)] S E g Q = q_X 7 1 [(.ref x)] ((.ref x) :: S) E g Q := q_X_stp (show q_P 7 0 = some (0, .aload_n 0, 1, [], 0) by decide +kernel) rfl rfl
theorem x7_1 {a : Nat} {L S : List Value} {E : q_E} {g : q_G} {Q : Option Value → q_E → q_G → Prop} : q_X 7 1 L (.ref a :: S) E g Q = ((q_kd E a).1 = 5 ∧ q_X 7 4 L (.int (g a 0) :: S) E g Q) := x_getI (show q_P 7 1 = some (1, .getfield 9, 3, [1, 0, 0, 167], 0) by decide +kernel) (by decide) rfl
theorem x7_4 {L S : List Value} {E : q_E} {g : q_G} {Q : Option Value → q_E → q_G → Prop} : q_X 7 4 L S E g Q = q_X 7 6 L (.int (nI 8) :: S) E g Q := x_bipush (show q_P 7 4 = some (4, .bipush 8, 2, [], 0) by decide +kernel) (by decide)
theorem x7_6 {x y : Int32} {L S : List Value} {E : q_E} {g : q_G} {Q : Option Value → q_E → q_G → Prop} : q_X 7 6 L (.int y :: .int x :: S) E g Q = (if x < y then q_X 7 13 L S E g Q else q_X 7 9 L S E g Q) := x_ilt (show q_P 7 6 = some (6, .if_icmp .lt 7, 3, [], 0) by decide +kernel) (by decide)
theorem x7_9 {L S : List Value} {E : q_E} {g : q_G} {Q : Option Value → q_E → q_G → Prop} : q_X 7 9 L S E g Q = q_X 7 10 L (.int (nI 1) :: S) E g Q := x_iconst (show q_P 7 9 = some (9, .iconst 1, 1, [], 0) by decide +kernel) (by decide)
theorem x7_10 {L S : List Value} {E : q_E} {g : q_G} {Q : Option Value → q_E → q_G → Prop} : q_X 7 10 L S E g Q = q_X 7 14 L S E g Q := x_goto (show q_P 7 10 = some (10, .goto 4, 3, [], 0) by decide +kernel) (by decide)
theorem x7_13 {L S : List Value} {E : q_E} {g : q_G} {Q : Option Value → q_E → q_G → Prop} : q_X 7 13 L S E g Q = q_X 7 14 L (.int (nI 0) :: S) E g Q := x_iconst (show q_P 7 13 = some (13, .iconst 0, 1, [], 0) by decide +kernel) (by decide)
theorem x7_14 {v : Int32} {L : List Value} {E : q_E} {g : q_G} {Q : Option Value → q_E → q_G → Prop} : q_X 7 14 L [.int v] E g Q = (narrow .boolean (.int v) = .int v ∧ Q (some (.int v)) E g) := x_reti (show q_P 7 14 = some (14, .ireturn, 1, [], 0) by decide +kernel) rfl
-- X1_move
theorem x8_0 {l1 l2 : Value} {x : Nat} {S : List Value} {E : q_E} {g : q_G} {Q : Option Value → q_E → q_G → Prop} : q_X 8 0 [(.ref x), l1, l2] S E g Q = q_X 8 1 [(.ref x), l1, l2] ((.ref x) :: S) E g Q := q_X_stp (show q_P 8 0 = some (0, .aload_n 0, 1, [], 0) by decide +kernel) rfl rfl
theorem x8_1 {a : Nat} {L S : List Value} {E : q_E} {g : q_G} {Q : Option Value → q_E → q_G → Prop} : q_X 8 1 L (.ref a :: S) E g Q = ((q_kd E a).1 = 5 ∧ ¬ q_rf E a 1 = 0 ∧ q_X 8 4 L (.ref (q_rf E a 1) :: S) E g Q) := x_getR (show q_P 8 1 = some (1, .getfield 15, 3, [1, 1, 1, 170], 0) by decide +kernel) rfl
theorem x8_4 {l0 l1 : Value} {x : Int32} {S : List Value} {E : q_E} {g : q_G} {Q : Option Value → q_E → q_G → Prop} : q_X 8 4 [l0, l1, (.int x)] S E g Q = q_X 8 5 [l0, l1, (.int x)] ((.int x) :: S) E g Q := q_X_stp (show q_P 8 4 = some (4, .iload_n 2, 1, [], 0) by decide +kernel) rfl rfl
theorem x8_5 {l1 l2 : Value} {x : Nat} {S : List Value} {E : q_E} {g : q_G} {Q : Option Value → q_E → q_G → Prop} : q_X 8 5 [(.ref x), l1, l2] S E g Q = q_X 8 6 [(.ref x), l1, l2] ((.ref x) :: S) E g Q := q_X_stp (show q_P 8 5 = some (5, .aload_n 0, 1, [], 0) by decide +kernel) rfl rfl
theorem x8_6 {a : Nat} {L S : List Value} {E : q_E} {g : q_G} {Q : Option Value → q_E → q_G → Prop} : q_X 8 6 L (.ref a :: S) E g Q = ((q_kd E a).1 = 5 ∧ ¬ q_rf E a 1 = 0 ∧ q_X 8 9 L (.ref (q_rf E a 1) :: S) E g Q) := x_getR (show q_P 8 6 = some (6, .getfield 15, 3, [1, 1, 1, 170], 0) by decide +kernel) rfl
theorem x8_9 {l0 l2 : Value} {x : Int32} {S : List Value} {E : q_E} {g : q_G} {Q : Option Value → q_E → q_G → Prop} : q_X 8 9 [l0, (.int x), l2] S E g Q = q_X 8 10 [l0, (.int x), l2] ((.int x) :: S) E g Q := q_X_stp (show q_P 8 9 = some (9, .iload_n 1, 1, [], 0) by decide +kernel) rfl rfl
theorem x8_10 {a : Nat} {i : Int32} {L S : List Value} {E : q_E} {g : q_G} {Q : Option Value → q_E → q_G → Prop} : q_X 8 10 L (.int i :: .ref a :: S) E g Q = ((((q_kd E a).1 = 1 ∨ (q_kd E a).1 = 2) ∧ vp_in i (q_kd E a).2) ∧ q_X 8 11 L (.int (g a i.toNatClampNeg) :: S) E g Q) := x_iald (show q_P 8 10 = some (10, .iaload, 1, [], 0) by decide +kernel)
theorem x8_11 {a : Nat} {i x : Int32} {L S : List Value} {E : q_E} {g : q_G} {Q : Option Value → q_E → q_G → Prop} : q_X 8 11 L (.int x :: .int i :: .ref a :: S) E g Q = (((q_kd E a).1 = 2 ∧ vp_in i (q_kd E a).2) ∧ q_X 8 12 L S E (q_up g a i.toNatClampNeg x) Q) := x_iast (show q_P 8 11 = some (11, .iastore, 1, [], 0) by decide +kernel)
theorem x8_12 {l1 l2 : Value} {x : Nat} {S : List Value} {E : q_E} {g : q_G} {Q : Option Value → q_E → q_G → Prop} : q_X 8 12 [(.ref x), l1, l2] S E g Q = q_X 8 13 [(.ref x), l1, l2] ((.ref x) :: S) E g Q := q_X_stp (show q_P 8 12 = some (12, .aload_n 0, 1, [], 0) by decide +kernel) rfl rfl
theorem x8_13 {a : Nat} {L S : List Value} {E : q_E} {g : q_G} {Q : Option Value → q_E → q_G → Prop} : q_X 8 13 L (.ref a :: S) E g Q = ((q_kd E a).1 = 5 ∧ ¬ q_rf E a 2 = 0 ∧ q_X 8 16 L (.ref (q_rf E a 2) :: S) E g Q) := x_getR (show q_P 8 13 = some (13, .getfield 19, 3, [1, 2, 1, 172], 0) by decide +kernel) rfl
theorem x8_16 {l0 l1 : Value} {x : Int32} {S : List Value} {E : q_E} {g : q_G} {Q : Option Value → q_E → q_G → Prop} : q_X 8 16 [l0, l1, (.int x)] S E g Q = q_X 8 17 [l0, l1, (.int x)] ((.int x) :: S) E g Q := q_X_stp (show q_P 8 16 = some (16, .iload_n 2, 1, [], 0) by decide +kernel) rfl rfl
theorem x8_17 {l1 l2 : Value} {x : Nat} {S : List Value} {E : q_E} {g : q_G} {Q : Option Value → q_E → q_G → Prop} : q_X 8 17 [(.ref x), l1, l2] S E g Q = q_X 8 18 [(.ref x), l1, l2] ((.ref x) :: S) E g Q := q_X_stp (show q_P 8 17 = some (17, .aload_n 0, 1, [], 0) by decide +kernel) rfl rfl
theorem x8_18 {a : Nat} {L S : List Value} {E : q_E} {g : q_G} {Q : Option Value → q_E → q_G → Prop} : q_X 8 18 L (.ref a :: S) E g Q = ((q_kd E a).1 = 5 ∧ ¬ q_rf E a 2 = 0 ∧ q_X 8 21 L (.ref (q_rf E a 2) :: S) E g Q) := x_getR (show q_P 8 18 = some (18, .getfield 19, 3, [1, 2, 1, 172], 0) by decide +kernel) rfl
theorem x8_21 {l0 l2 : Value} {x : Int32} {S : List Value} {E : q_E} {g : q_G} {Q : Option Value → q_E → q_G → Prop} : q_X 8 21 [l0, (.int x), l2] S E g Q = q_X 8 22 [l0, (.int x), l2] ((.int x) :: S) E g Q := q_X_stp (show q_P 8 21 = some (21, .iload_n 1, 1, [], 0) by decide +kernel) rfl rfl
theorem x8_22 {a : Nat} {i : Int32} {L S : List Value} {E : q_E} {g : q_G} {Q : Option Value → q_E → q_G → Prop} : q_X 8 22 L (.int i :: .ref a :: S) E g Q = ((((q_kd E a).1 = 1 ∨ (q_kd E a).1 = 2) ∧ vp_in i (q_kd E a).2) ∧ q_X 8 23 L (.int (g a i.toNatClampNeg) :: S) E g Q) := x_iald (show q_P 8 22 = some (22, .iaload, 1, [], 0) by decide +kernel)
theorem x8_23 {a : Nat} {i x : Int32} {L S : List Value} {E : q_E} {g : q_G} {Q : Option Value → q_E → q_G → Prop} : q_X 8 23 L (.int x :: .int i :: .ref a :: S) E g Q = (((q_kd E a).1 = 2 ∧ vp_in i (q_kd E a).2) ∧ q_X 8 24 L S E (q_up g a i.toNatClampNeg x) Q) := x_iast (show q_P 8 23 = some (23, .iastore, 1, [], 0) by decide +kernel)
theorem x8_24 {l1 l2 : Value} {x : Nat} {S : List Value} {E : q_E} {g : q_G} {Q : Option Value → q_E → q_G → Prop} : q_X 8 24 [(.ref x), l1, l2] S E g Q = q_X 8 25 [(.ref x), l1, l2] ((.ref x) :: S) E g Q := q_X_stp (show q_P 8 24 = some (24, .aload_n 0, 1, [], 0) by decide +kernel) rfl rfl
theorem x8_25 {a : Nat} {L S : List Value} {E : q_E} {g : q_G} {Q : Option Value → q_E → q_G → Prop} : q_X 8 25 L (.ref a :: S) E g Q = ((q_kd E a).1 = 5 ∧ ¬ q_rf E a 3 = 0 ∧ q_X 8 28 L (.ref (q_rf E a 3) :: S) E g Q) := x_getR (show q_P 8 25 = some (25, .getfield 22, 3, [1, 3, 1, 174], 0) by decide +kernel) rfl
theorem x8_28 {l0 l1 : Value} {x : Int32} {S : List Value} {E : q_E} {g : q_G} {Q : Option Value → q_E → q_G → Prop} : q_X 8 28 [l0, l1, (.int x)] S E g Q = q_X 8 29 [l0, l1, (.int x)] ((.int x) :: S) E g Q := q_X_stp (show q_P 8 28 = some (28, .iload_n 2, 1, [], 0) by decide +kernel) rfl rfl
theorem x8_29 {l1 l2 : Value} {x : Nat} {S : List Value} {E : q_E} {g : q_G} {Q : Option Value → q_E → q_G → Prop} : q_X 8 29 [(.ref x), l1, l2] S E g Q = q_X 8 30 [(.ref x), l1, l2] ((.ref x) :: S) E g Q := q_X_stp (show q_P 8 29 = some (29, .aload_n 0, 1, [], 0) by decide +kernel) rfl rfl
theorem x8_30 {a : Nat} {L S : List Value} {E : q_E} {g : q_G} {Q : Option Value → q_E → q_G → Prop} : q_X 8 30 L (.ref a :: S) E g Q = ((q_kd E a).1 = 5 ∧ ¬ q_rf E a 3 = 0 ∧ q_X 8 33 L (.ref (q_rf E a 3) :: S) E g Q) := x_getR (show q_P 8 30 = some (30, .getfield 22, 3, [1, 3, 1, 174], 0) by decide +kernel) rfl
theorem x8_33 {l0 l2 : Value} {x : Int32} {S : List Value} {E : q_E} {g : q_G} {Q : Option Value → q_E → q_G → Prop} : q_X 8 33 [l0, (.int x), l2] S E g Q = q_X 8 34 [l0, (.int x), l2] ((.int x) :: S) E g Q := q_X_stp (show q_P 8 33 = some (33, .iload_n 1, 1, [], 0) by decide +kernel) rfl rfl
theorem x8_34 {a : Nat} {i : Int32} {L S : List Value} {E : q_E} {g : q_G} {Q : Option Value → q_E → q_G → Prop} : q_X 8 34 L (.int i :: .ref a :: S) E g Q = ((((q_kd E a).1 = 1 ∨ (q_kd E a).1 = 2) ∧ vp_in i (q_kd E a).2) ∧ q_X 8 35 L (.int (g a i.toNatClampNeg) :: S) E g Q) := x_iald (show q_P 8 34 = some (34, .iaload, 1, [], 0) by decide +kernel)
theorem x8_35 {a : Nat} {i x : Int32} {L S : List Value} {E : q_E} {g : q_G} {Q : Option Value → q_E → q_G → Prop} : q_X 8 35 L (.int x :: .int i :: .ref a :: S) E g Q = (((q_kd E a).1 = 2 ∧ vp_in i (q_kd E a).2) ∧ q_X 8 36 L S E (q_up g a i.toNatClampNeg x) Q) := x_iast (show q_P 8 35 = some (35, .iastore, 1, [], 0) by decide +kernel)
theorem x8_36 {L : List Value} {E : q_E} {g : q_G} {Q : Option Value → q_E → q_G → Prop} : q_X 8 36 L [] E g Q = Q none E g := x_retv (show q_P 8 36 = some (36, .return_, 1, [], 0) by decide +kernel)
-- X2_addOne
theorem x9_0 {l1 l2 : Value} {x : Nat} {S : List Value} {E : q_E} {g : q_G} {Q : Option Value → q_E → q_G → Prop} : q_X 9 0 [(.ref x), l1, l2] S E g Q = q_X 9 1 [(.ref x), l1, l2] ((.ref x) :: S) E g Q := q_X_stp (show q_P 9 0 = some (0, .aload_n 0, 1, [], 0) by decide +kernel) rfl rfl
theorem x9_1 {a : Nat} {L S : List Value} {E : q_E} {g : q_G} {Q : Option Value → q_E → q_G → Prop} : q_X 9 1 L (.ref a :: S) E g Q = ((q_kd E a).1 = 6 ∧ ¬ q_rf E a 0 = 0 ∧ q_X 9 4 L (.ref (q_rf E a 0) :: S) E g Q) := x_getR (show q_P 9 1 = some (1, .getfield 9, 3, [2, 0, 1, 136], 0) by decide +kernel) rfl
theorem x9_4 {l0 l2 : Value} {x : Int32} {S : List Value} {E : q_E} {g : q_G} {Q : Option Value → q_E → q_G → Prop} : q_X 9 4 [l0, (.int x), l2] S E g Q = q_X 9 5 [l0, (.int x), l2] ((.int x) :: S) E g Q := q_X_stp (show q_P 9 4 = some (4, .iload_n 1, 1, [], 0) by decide +kernel) rfl rfl
theorem x9_5 {L S : List Value} {E : q_E} {g : q_G} {Q : Option Value → q_E → q_G → Prop} : q_X 9 5 L S E g Q = q_X 9 7 L (.int (nI 12) :: S) E g Q := x_bipush (show q_P 9 5 = some (5, .bipush 12, 2, [], 0) by decide +kernel) (by decide)
theorem x9_7 {x y : Int32} {L S : List Value} {E : q_E} {g : q_G} {Q : Option Value → q_E → q_G → Prop} : q_X 9 7 L (.int y :: .int x :: S) E g Q = q_X 9 8 L (.int (x * y) :: S) E g Q := x_imul (show q_P 9 7 = some (7, .imul, 1, [], 0) by decide +kernel)
theorem x9_8 {l0 l1 : Value} {x : Int32} {S : List Value} {E : q_E} {g : q_G} {Q : Option Value → q_E → q_G → Prop} : q_X 9 8 [l0, l1, (.int x)] S E g Q = q_X 9 9 [l0, l1, (.int x)] ((.int x) :: S) E g Q := q_X_stp (show q_P 9 8 = some (8, .iload_n 2, 1, [], 0) by decide +kernel) rfl rfl
theorem x9_9 {x y : Int32} {L S : List Value} {E : q_E} {g : q_G} {Q : Option Value → q_E → q_G → Prop} : q_X 9 9 L (.int y :: .int x :: S) E g Q = q_X 9 10 L (.int (x + y) :: S) E g Q := x_iadd (show q_P 9 9 = some (9, .iadd, 1, [], 0) by decide +kernel)
theorem x9_10 {x : Int32} {y : Nat} {L S : List Value} {E : q_E} {g : q_G} {Q : Option Value → q_E → q_G → Prop} : q_X 9 10 L ((.int x) :: (.ref y) :: S) E g Q = q_X 9 11 L ((.int x) :: (.ref y) :: (.int x) :: (.ref y) :: S) E g Q := q_X_stp (show q_P 9 10 = some (10, .dup2, 1, [], 0) by decide +kernel) rfl rfl
theorem x9_11 {a : Nat} {i : Int32} {L S : List Value} {E : q_E} {g : q_G} {Q : Option Value → q_E → q_G → Prop} : q_X 9 11 L (.int i :: .ref a :: S) E g Q = ((((q_kd E a).1 = 1 ∨ (q_kd E a).1 = 2) ∧ vp_in i (q_kd E a).2) ∧ q_X 9 12 L (.int (g a i.toNatClampNeg) :: S) E g Q) := x_iald (show q_P 9 11 = some (11, .iaload, 1, [], 0) by decide +kernel)
theorem x9_12 {L S : List Value} {E : q_E} {g : q_G} {Q : Option Value → q_E → q_G → Prop} : q_X 9 12 L S E g Q = q_X 9 13 L (.int (nI 1) :: S) E g Q := x_iconst (show q_P 9 12 = some (12, .iconst 1, 1, [], 0) by decide +kernel) (by decide)
theorem x9_13 {x y : Int32} {L S : List Value} {E : q_E} {g : q_G} {Q : Option Value → q_E → q_G → Prop} : q_X 9 13 L (.int y :: .int x :: S) E g Q = q_X 9 14 L (.int (x + y) :: S) E g Q := x_iadd (show q_P 9 13 = some (13, .iadd, 1, [], 0) by decide +kernel)
theorem x9_14 {a : Nat} {i x : Int32} {L S : List Value} {E : q_E} {g : q_G} {Q : Option Value → q_E → q_G → Prop} : q_X 9 14 L (.int x :: .int i :: .ref a :: S) E g Q = (((q_kd E a).1 = 2 ∧ vp_in i (q_kd E a).2) ∧ q_X 9 15 L S E (q_up g a i.toNatClampNeg x) Q) := x_iast (show q_P 9 14 = some (14, .iastore, 1, [], 0) by decide +kernel)
theorem x9_15 {l0 l2 : Value} {x : Int32} {S : List Value} {E : q_E} {g : q_G} {Q : Option Value → q_E → q_G → Prop} : q_X 9 15 [l0, (.int x), l2] S E g Q = q_X 9 16 [l0, (.int x), l2] ((.int x) :: S) E g Q := q_X_stp (show q_P 9 15 = some (15, .iload_n 1, 1, [], 0) by decide +kernel) rfl rfl
theorem x9_16 {l0 l1 : Value} {x : Int32} {S : List Value} {E : q_E} {g : q_G} {Q : Option Value → q_E → q_G → Prop} : q_X 9 16 [l0, l1, (.int x)] S E g Q = q_X 9 17 [l0, l1, (.int x)] ((.int x) :: S) E g Q := q_X_stp (show q_P 9 16 = some (16, .iload_n 2, 1, [], 0) by decide +kernel) rfl rfl
theorem x9_17 {x y : Int32} {L S : List Value} {E : q_E} {g : q_G} {Q : Option Value → q_E → q_G → Prop} : q_X 9 17 L (.int y :: .int x :: S) E g Q = (if x = y then q_X 9 35 L S E g Q else q_X 9 20 L S E g Q) := x_ieq (show q_P 9 17 = some (17, .if_icmp .eq 18, 3, [], 0) by decide +kernel) (by decide)
theorem x9_20 {l1 l2 : Value} {x : Nat} {S : List Value} {E : q_E} {g : q_G} {Q : Option Value → q_E → q_G → Prop} : q_X 9 20 [(.ref x), l1, l2] S E g Q = q_X 9 21 [(.ref x), l1, l2] ((.ref x) :: S) E g Q := q_X_stp (show q_P 9 20 = some (20, .aload_n 0, 1, [], 0) by decide +kernel) rfl rfl
theorem x9_21 {a : Nat} {L S : List Value} {E : q_E} {g : q_G} {Q : Option Value → q_E → q_G → Prop} : q_X 9 21 L (.ref a :: S) E g Q = ((q_kd E a).1 = 6 ∧ ¬ q_rf E a 0 = 0 ∧ q_X 9 24 L (.ref (q_rf E a 0) :: S) E g Q) := x_getR (show q_P 9 21 = some (21, .getfield 9, 3, [2, 0, 1, 136], 0) by decide +kernel) rfl
theorem x9_24 {l0 l1 : Value} {x : Int32} {S : List Value} {E : q_E} {g : q_G} {Q : Option Value → q_E → q_G → Prop} : q_X 9 24 [l0, l1, (.int x)] S E g Q = q_X 9 25 [l0, l1, (.int x)] ((.int x) :: S) E g Q := q_X_stp (show q_P 9 24 = some (24, .iload_n 2, 1, [], 0) by decide +kernel) rfl rfl
theorem x9_25 {L S : List Value} {E : q_E} {g : q_G} {Q : Option Value → q_E → q_G → Prop} : q_X 9 25 L S E g Q = q_X 9 27 L (.int (nI 12) :: S) E g Q := x_bipush (show q_P 9 25 = some (25, .bipush 12, 2, [], 0) by decide +kernel) (by decide)
theorem x9_27 {x y : Int32} {L S : List Value} {E : q_E} {g : q_G} {Q : Option Value → q_E → q_G → Prop} : q_X 9 27 L (.int y :: .int x :: S) E g Q = q_X 9 28 L (.int (x * y) :: S) E g Q := x_imul (show q_P 9 27 = some (27, .imul, 1, [], 0) by decide +kernel)
theorem x9_28 {l0 l2 : Value} {x : Int32} {S : List Value} {E : q_E} {g : q_G} {Q : Option Value → q_E → q_G → Prop} : q_X 9 28 [l0, (.int x), l2] S E g Q = q_X 9 29 [l0, (.int x), l2] ((.int x) :: S) E g Q := q_X_stp (show q_P 9 28 = some (28, .iload_n 1, 1, [], 0) by decide +kernel) rfl rfl
theorem x9_29 {x y : Int32} {L S : List Value} {E : q_E} {g : q_G} {Q : Option Value → q_E → q_G → Prop} : q_X 9 29 L (.int y :: .int x :: S) E g Q = q_X 9 30 L (.int (x + y) :: S) E g Q := x_iadd (show q_P 9 29 = some (29, .iadd, 1, [], 0) by decide +kernel)
theorem x9_30 {x : Int32} {y : Nat} {L S : List Value} {E : q_E} {g : q_G} {Q : Option Value → q_E → q_G → Prop} : q_X 9 30 L ((.int x) :: (.ref y) :: S) E g Q = q_X 9 31 L ((.int x) :: (.ref y) :: (.int x) :: (.ref y) :: S) E g Q := q_X_stp (show q_P 9 30 = some (30, .dup2, 1, [], 0) by decide +kernel) rfl rfl
theorem x9_31 {a : Nat} {i : Int32} {L S : List Value} {E : q_E} {g : q_G} {Q : Option Value → q_E → q_G → Prop} : q_X 9 31 L (.int i :: .ref a :: S) E g Q = ((((q_kd E a).1 = 1 ∨ (q_kd E a).1 = 2) ∧ vp_in i (q_kd E a).2) ∧ q_X 9 32 L (.int (g a i.toNatClampNeg) :: S) E g Q) := x_iald (show q_P 9 31 = some (31, .iaload, 1, [], 0) by decide +kernel)
theorem x9_32 {L S : List Value} {E : q_E} {g : q_G} {Q : Option Value → q_E → q_G → Prop} : q_X 9 32 L S E g Q = q_X 9 33 L (.int (nI 1) :: S) E g Q := x_iconst (show q_P 9 32 = some (32, .iconst 1, 1, [], 0) by decide +kernel) (by decide)
theorem x9_33 {x y : Int32} {L S : List Value} {E : q_E} {g : q_G} {Q : Option Value → q_E → q_G → Prop} : q_X 9 33 L (.int y :: .int x :: S) E g Q = q_X 9 34 L (.int (x + y) :: S) E g Q := x_iadd (show q_P 9 33 = some (33, .iadd, 1, [], 0) by decide +kernel)
theorem x9_34 {a : Nat} {i x : Int32} {L S : List Value} {E : q_E} {g : q_G} {Q : Option Value → q_E → q_G → Prop} : q_X 9 34 L (.int x :: .int i :: .ref a :: S) E g Q = (((q_kd E a).1 = 2 ∧ vp_in i (q_kd E a).2) ∧ q_X 9 35 L S E (q_up g a i.toNatClampNeg x) Q) := x_iast (show q_P 9 34 = some (34, .iastore, 1, [], 0) by decide +kernel)
theorem x9_35 {L : List Value} {E : q_E} {g : q_G} {Q : Option Value → q_E → q_G → Prop} : q_X 9 35 L [] E g Q = Q none E g := x_retv (show q_P 9 35 = some (35, .return_, 1, [], 0) by decide +kernel)
-- X2_times
theorem x10_0 {l1 l2 : Value} {x : Nat} {S : List Value} {E : q_E} {g : q_G} {Q : Option Value → q_E → q_G → Prop} : q_X 10 0 [(.ref x), l1, l2] S E g Q = q_X 10 1 [(.ref x), l1, l2] ((.ref x) :: S) E g Q := q_X_stp (show q_P 10 0 = some (0, .aload_n 0, 1, [], 0) by decide +kernel) rfl rfl
theorem x10_1 {a : Nat} {L S : List Value} {E : q_E} {g : q_G} {Q : Option Value → q_E → q_G → Prop} : q_X 10 1 L (.ref a :: S) E g Q = ((q_kd E a).1 = 6 ∧ ¬ q_rf E a 0 = 0 ∧ q_X 10 4 L (.ref (q_rf E a 0) :: S) E g Q) := x_getR (show q_P 10 1 = some (1, .getfield 9, 3, [2, 0, 1, 136], 0) by decide +kernel) rfl
theorem x10_4 {l0 l2 : Value} {x : Int32} {S : List Value} {E : q_E} {g : q_G} {Q : Option Value → q_E → q_G → Prop} : q_X 10 4 [l0, (.int x), l2] S E g Q = q_X 10 5 [l0, (.int x), l2] ((.int x) :: S) E g Q := q_X_stp (show q_P 10 4 = some (4, .iload_n 1, 1, [], 0) by decide +kernel) rfl rfl
theorem x10_5 {L S : List Value} {E : q_E} {g : q_G} {Q : Option Value → q_E → q_G → Prop} : q_X 10 5 L S E g Q = q_X 10 7 L (.int (nI 12) :: S) E g Q := x_bipush (show q_P 10 5 = some (5, .bipush 12, 2, [], 0) by decide +kernel) (by decide)
theorem x10_7 {x y : Int32} {L S : List Value} {E : q_E} {g : q_G} {Q : Option Value → q_E → q_G → Prop} : q_X 10 7 L (.int y :: .int x :: S) E g Q = q_X 10 8 L (.int (x * y) :: S) E g Q := x_imul (show q_P 10 7 = some (7, .imul, 1, [], 0) by decide +kernel)
theorem x10_8 {l0 l1 : Value} {x : Int32} {S : List Value} {E : q_E} {g : q_G} {Q : Option Value → q_E → q_G → Prop} : q_X 10 8 [l0, l1, (.int x)] S E g Q = q_X 10 9 [l0, l1, (.int x)] ((.int x) :: S) E g Q := q_X_stp (show q_P 10 8 = some (8, .iload_n 2, 1, [], 0) by decide +kernel) rfl rfl
theorem x10_9 {x y : Int32} {L S : List Value} {E : q_E} {g : q_G} {Q : Option Value → q_E → q_G → Prop} : q_X 10 9 L (.int y :: .int x :: S) E g Q = q_X 10 10 L (.int (x + y) :: S) E g Q := x_iadd (show q_P 10 9 = some (9, .iadd, 1, [], 0) by decide +kernel)
theorem x10_10 {a : Nat} {i : Int32} {L S : List Value} {E : q_E} {g : q_G} {Q : Option Value → q_E → q_G → Prop} : q_X 10 10 L (.int i :: .ref a :: S) E g Q = ((((q_kd E a).1 = 1 ∨ (q_kd E a).1 = 2) ∧ vp_in i (q_kd E a).2) ∧ q_X 10 11 L (.int (g a i.toNatClampNeg) :: S) E g Q) := x_iald (show q_P 10 10 = some (10, .iaload, 1, [], 0) by decide +kernel)
theorem x10_11 {v : Int32} {L : List Value} {E : q_E} {g : q_G} {Q : Option Value → q_E → q_G → Prop} : q_X 10 11 L [.int v] E g Q = Q (some (.int v)) E g := x_retI (show q_P 10 11 = some (11, .ireturn, 1, [], 0) by decide +kernel) rfl
-- X3_cardsOf
theorem x11_0 {L S : List Value} {E : q_E} {g : q_G} {Q : Option Value → q_E → q_G → Prop} : q_X 11 0 L S E g Q = q_X 11 1 L (.int (nI 0) :: S) E g Q := x_iconst (show q_P 11 0 = some (0, .iconst 0, 1, [], 0) by decide +kernel) (by decide)
theorem x11_1 {l0 l1 l2 l3 : Value} {x : Int32} {S : List Value} {E : q_E} {g : q_G} {Q : Option Value → q_E → q_G → Prop} : q_X 11 1 [l0, l1, l2, l3] ((.int x) :: S) E g Q = q_X 11 2 [l0, l1, (.int x), l3] S E g Q := q_X_stp (show q_P 11 1 = some (1, .istore_n 2, 1, [], 0) by decide +kernel) rfl rfl
theorem x11_2 {L S : List Value} {E : q_E} {g : q_G} {Q : Option Value → q_E → q_G → Prop} : q_X 11 2 L S E g Q = q_X 11 3 L (.int (nI 0) :: S) E g Q := x_iconst (show q_P 11 2 = some (2, .iconst 0, 1, [], 0) by decide +kernel) (by decide)
theorem x11_3 {l0 l1 l2 l3 : Value} {x : Int32} {S : List Value} {E : q_E} {g : q_G} {Q : Option Value → q_E → q_G → Prop} : q_X 11 3 [l0, l1, l2, l3] ((.int x) :: S) E g Q = q_X 11 4 [l0, l1, l2, (.int x)] S E g Q := q_X_stp (show q_P 11 3 = some (3, .istore_n 3, 1, [], 0) by decide +kernel) rfl rfl
theorem x11_4 {l0 l1 l2 : Value} {x : Int32} {S : List Value} {E : q_E} {g : q_G} {Q : Option Value → q_E → q_G → Prop} : q_X 11 4 [l0, l1, l2, (.int x)] S E g Q = q_X 11 5 [l0, l1, l2, (.int x)] ((.int x) :: S) E g Q := q_X_stp (show q_P 11 4 = some (4, .iload_n 3, 1, [], 0) by decide +kernel) rfl rfl
theorem x11_5 {L S : List Value} {E : q_E} {g : q_G} {Q : Option Value → q_E → q_G → Prop} : q_X 11 5 L S E g Q = q_X 11 7 L (.int (nI 10) :: S) E g Q := x_bipush (show q_P 11 5 = some (5, .bipush 10, 2, [], 0) by decide +kernel) (by decide)
theorem x11_7 {x y : Int32} {L S : List Value} {E : q_E} {g : q_G} {Q : Option Value → q_E → q_G → Prop} : q_X 11 7 L (.int y :: .int x :: S) E g Q = (if y ≤ x then q_X 11 35 L S E g Q else q_X 11 10 L S E g Q) := x_ige (show q_P 11 7 = some (7, .if_icmp .ge 28, 3, [], 0) by decide +kernel) (by decide)
theorem x11_10 {l1 l2 l3 : Value} {x : Nat} {S : List Value} {E : q_E} {g : q_G} {Q : Option Value → q_E → q_G → Prop} : q_X 11 10 [(.ref x), l1, l2, l3] S E g Q = q_X 11 11 [(.ref x), l1, l2, l3] ((.ref x) :: S) E g Q := q_X_stp (show q_P 11 10 = some (10, .aload_n 0, 1, [], 0) by decide +kernel) rfl rfl
theorem x11_11 {a : Nat} {L S : List Value} {E : q_E} {g : q_G} {Q : Option Value → q_E → q_G → Prop} : q_X 11 11 L (.ref a :: S) E g Q = ((q_kd E a).1 = 7 ∧ ¬ q_rf E a 0 = 0 ∧ q_X 11 14 L (.ref (q_rf E a 0) :: S) E g Q) := x_getR (show q_P 11 11 = some (11, .getfield 9, 3, [3, 0, 1, 146], 0) by decide +kernel) rfl
theorem x11_14 {l0 l1 l2 : Value} {x : Int32} {S : List Value} {E : q_E} {g : q_G} {Q : Option Value → q_E → q_G → Prop} : q_X 11 14 [l0, l1, l2, (.int x)] S E g Q = q_X 11 15 [l0, l1, l2, (.int x)] ((.int x) :: S) E g Q := q_X_stp (show q_P 11 14 = some (14, .iload_n 3, 1, [], 0) by decide +kernel) rfl rfl
theorem x11_15 {a : Nat} {i : Int32} {L S : List Value} {E : q_E} {g : q_G} {Q : Option Value → q_E → q_G → Prop} : q_X 11 15 L (.int i :: .ref a :: S) E g Q = ((((q_kd E a).1 = 1 ∨ (q_kd E a).1 = 2) ∧ vp_in i (q_kd E a).2) ∧ q_X 11 16 L (.int (g a i.toNatClampNeg) :: S) E g Q) := x_iald (show q_P 11 15 = some (15, .iaload, 1, [], 0) by decide +kernel)
theorem x11_16 {l0 l2 l3 : Value} {x : Int32} {S : List Value} {E : q_E} {g : q_G} {Q : Option Value → q_E → q_G → Prop} : q_X 11 16 [l0, (.int x), l2, l3] S E g Q = q_X 11 17 [l0, (.int x), l2, l3] ((.int x) :: S) E g Q := q_X_stp (show q_P 11 16 = some (16, .iload_n 1, 1, [], 0) by decide +kernel) rfl rfl
theorem x11_17 {x y : Int32} {L S : List Value} {E : q_E} {g : q_G} {Q : Option Value → q_E → q_G → Prop} : q_X 11 17 L (.int y :: .int x :: S) E g Q = (if x = y then q_X 11 20 L S E g Q else q_X 11 29 L S E g Q) := x_ine (show q_P 11 17 = some (17, .if_icmp .ne 12, 3, [], 0) by decide +kernel) (by decide)
theorem x11_20 {l0 l1 l3 : Value} {x : Int32} {S : List Value} {E : q_E} {g : q_G} {Q : Option Value → q_E → q_G → Prop} : q_X 11 20 [l0, l1, (.int x), l3] S E g Q = q_X 11 21 [l0, l1, (.int x), l3] ((.int x) :: S) E g Q := q_X_stp (show q_P 11 20 = some (20, .iload_n 2, 1, [], 0) by decide +kernel) rfl rfl
theorem x11_21 {l1 l2 l3 : Value} {x : Nat} {S : List Value} {E : q_E} {g : q_G} {Q : Option Value → q_E → q_G → Prop} : q_X 11 21 [(.ref x), l1, l2, l3] S E g Q = q_X 11 22 [(.ref x), l1, l2, l3] ((.ref x) :: S) E g Q := q_X_stp (show q_P 11 21 = some (21, .aload_n 0, 1, [], 0) by decide +kernel) rfl rfl
theorem x11_22 {a : Nat} {L S : List Value} {E : q_E} {g : q_G} {Q : Option Value → q_E → q_G → Prop} : q_X 11 22 L (.ref a :: S) E g Q = ((q_kd E a).1 = 7 ∧ ¬ q_rf E a 1 = 0 ∧ q_X 11 25 L (.ref (q_rf E a 1) :: S) E g Q) := x_getR (show q_P 11 22 = some (22, .getfield 15, 3, [3, 1, 1, 149], 0) by decide +kernel) rfl
theorem x11_25 {l0 l1 l2 : Value} {x : Int32} {S : List Value} {E : q_E} {g : q_G} {Q : Option Value → q_E → q_G → Prop} : q_X 11 25 [l0, l1, l2, (.int x)] S E g Q = q_X 11 26 [l0, l1, l2, (.int x)] ((.int x) :: S) E g Q := q_X_stp (show q_P 11 25 = some (25, .iload_n 3, 1, [], 0) by decide +kernel) rfl rfl
theorem x11_26 {a : Nat} {i : Int32} {L S : List Value} {E : q_E} {g : q_G} {Q : Option Value → q_E → q_G → Prop} : q_X 11 26 L (.int i :: .ref a :: S) E g Q = ((((q_kd E a).1 = 1 ∨ (q_kd E a).1 = 2) ∧ vp_in i (q_kd E a).2) ∧ q_X 11 27 L (.int (g a i.toNatClampNeg) :: S) E g Q) := x_iald (show q_P 11 26 = some (26, .iaload, 1, [], 0) by decide +kernel)
theorem x11_27 {x y : Int32} {L S : List Value} {E : q_E} {g : q_G} {Q : Option Value → q_E → q_G → Prop} : q_X 11 27 L (.int y :: .int x :: S) E g Q = q_X 11 28 L (.int (x + y) :: S) E g Q := x_iadd (show q_P 11 27 = some (27, .iadd, 1, [], 0) by decide +kernel)
theorem x11_28 {l0 l1 l2 l3 : Value} {x : Int32} {S : List Value} {E : q_E} {g : q_G} {Q : Option Value → q_E → q_G → Prop} : q_X 11 28 [l0, l1, l2, l3] ((.int x) :: S) E g Q = q_X 11 29 [l0, l1, (.int x), l3] S E g Q := q_X_stp (show q_P 11 28 = some (28, .istore_n 2, 1, [], 0) by decide +kernel) rfl rfl
theorem x11_29 {l0 l1 l2 : Value} {x : Int32} {S : List Value} {E : q_E} {g : q_G} {Q : Option Value → q_E → q_G → Prop} : q_X 11 29 [l0, l1, l2, (.int x)] S E g Q = q_X 11 32 [l0, l1, l2, (.int (x + (nI 1)))] S E g Q := q_X_stp (show q_P 11 29 = some (29, .iinc 3 1, 3, [], 0) by decide +kernel) rfl rfl
theorem x11_32 {L S : List Value} {E : q_E} {g : q_G} {Q : Option Value → q_E → q_G → Prop} : q_X 11 32 L S E g Q = q_X 11 4 L S E g Q := x_goto (show q_P 11 32 = some (32, .goto (-28), 3, [], 0) by decide +kernel) (by decide)
theorem x11_35 {l0 l1 l3 : Value} {x : Int32} {S : List Value} {E : q_E} {g : q_G} {Q : Option Value → q_E → q_G → Prop} : q_X 11 35 [l0, l1, (.int x), l3] S E g Q = q_X 11 36 [l0, l1, (.int x), l3] ((.int x) :: S) E g Q := q_X_stp (show q_P 11 35 = some (35, .iload_n 2, 1, [], 0) by decide +kernel) rfl rfl
theorem x11_36 {v : Int32} {L : List Value} {E : q_E} {g : q_G} {Q : Option Value → q_E → q_G → Prop} : q_X 11 36 L [.int v] E g Q = Q (some (.int v)) E g := x_retI (show q_P 11 36 = some (36, .ireturn, 1, [], 0) by decide +kernel) rfl
-- X3_hasRoomFor
theorem x12_0 {l1 l2 : Value} {x : Nat} {S : List Value} {E : q_E} {g : q_G} {Q : Option Value → q_E → q_G → Prop} : q_X 12 0 [(.ref x), l1, l2] S E g Q = q_X 12 1 [(.ref x), l1, l2] ((.ref x) :: S) E g Q := q_X_stp (show q_P 12 0 = some (0, .aload_n 0, 1, [], 0) by decide +kernel) rfl rfl
theorem x12_1 {a : Nat} {L S : List Value} {E : q_E} {g : q_G} {Q : Option Value → q_E → q_G → Prop} : q_X 12 1 L (.ref a :: S) E g Q = ((q_kd E a).1 = 7 ∧ ¬ q_rf E a 0 = 0 ∧ q_X 12 4 L (.ref (q_rf E a 0) :: S) E g Q) := x_getR (show q_P 12 1 = some (1, .getfield 9, 3, [3, 0, 1, 146], 0) by decide +kernel) rfl
theorem x12_4 {l0 l2 : Value} {x : Int32} {S : List Value} {E : q_E} {g : q_G} {Q : Option Value → q_E → q_G → Prop} : q_X 12 4 [l0, (.int x), l2] S E g Q = q_X 12 5 [l0, (.int x), l2] ((.int x) :: S) E g Q := q_X_stp (show q_P 12 4 = some (4, .iload_n 1, 1, [], 0) by decide +kernel) rfl rfl
theorem x12_5 {a : Nat} {i : Int32} {L S : List Value} {E : q_E} {g : q_G} {Q : Option Value → q_E → q_G → Prop} : q_X 12 5 L (.int i :: .ref a :: S) E g Q = ((((q_kd E a).1 = 1 ∨ (q_kd E a).1 = 2) ∧ vp_in i (q_kd E a).2) ∧ q_X 12 6 L (.int (g a i.toNatClampNeg) :: S) E g Q) := x_iald (show q_P 12 5 = some (5, .iaload, 1, [], 0) by decide +kernel)
theorem x12_6 {L S : List Value} {E : q_E} {g : q_G} {Q : Option Value → q_E → q_G → Prop} : q_X 12 6 L S E g Q = q_X 12 7 L (.int (-1) :: S) E g Q := x_iconst (show q_P 12 6 = some (6, .iconst (-1), 1, [], 0) by decide +kernel) (by decide)
theorem x12_7 {x y : Int32} {L S : List Value} {E : q_E} {g : q_G} {Q : Option Value → q_E → q_G → Prop} : q_X 12 7 L (.int y :: .int x :: S) E g Q = (if x = y then q_X 12 31 L S E g Q else q_X 12 10 L S E g Q) := x_ieq (show q_P 12 7 = some (7, .if_icmp .eq 24, 3, [], 0) by decide +kernel) (by decide)
theorem x12_10 {l1 l2 : Value} {x : Nat} {S : List Value} {E : q_E} {g : q_G} {Q : Option Value → q_E → q_G → Prop} : q_X 12 10 [(.ref x), l1, l2] S E g Q = q_X 12 11 [(.ref x), l1, l2] ((.ref x) :: S) E g Q := q_X_stp (show q_P 12 10 = some (10, .aload_n 0, 1, [], 0) by decide +kernel) rfl rfl
theorem x12_11 {a : Nat} {L S : List Value} {E : q_E} {g : q_G} {Q : Option Value → q_E → q_G → Prop} : q_X 12 11 L (.ref a :: S) E g Q = ((q_kd E a).1 = 7 ∧ ¬ q_rf E a 0 = 0 ∧ q_X 12 14 L (.ref (q_rf E a 0) :: S) E g Q) := x_getR (show q_P 12 11 = some (11, .getfield 9, 3, [3, 0, 1, 146], 0) by decide +kernel) rfl
theorem x12_14 {l0 l2 : Value} {x : Int32} {S : List Value} {E : q_E} {g : q_G} {Q : Option Value → q_E → q_G → Prop} : q_X 12 14 [l0, (.int x), l2] S E g Q = q_X 12 15 [l0, (.int x), l2] ((.int x) :: S) E g Q := q_X_stp (show q_P 12 14 = some (14, .iload_n 1, 1, [], 0) by decide +kernel) rfl rfl
theorem x12_15 {a : Nat} {i : Int32} {L S : List Value} {E : q_E} {g : q_G} {Q : Option Value → q_E → q_G → Prop} : q_X 12 15 L (.int i :: .ref a :: S) E g Q = ((((q_kd E a).1 = 1 ∨ (q_kd E a).1 = 2) ∧ vp_in i (q_kd E a).2) ∧ q_X 12 16 L (.int (g a i.toNatClampNeg) :: S) E g Q) := x_iald (show q_P 12 15 = some (15, .iaload, 1, [], 0) by decide +kernel)
theorem x12_16 {l0 l1 : Value} {x : Int32} {S : List Value} {E : q_E} {g : q_G} {Q : Option Value → q_E → q_G → Prop} : q_X 12 16 [l0, l1, (.int x)] S E g Q = q_X 12 17 [l0, l1, (.int x)] ((.int x) :: S) E g Q := q_X_stp (show q_P 12 16 = some (16, .iload_n 2, 1, [], 0) by decide +kernel) rfl rfl
theorem x12_17 {x y : Int32} {L S : List Value} {E : q_E} {g : q_G} {Q : Option Value → q_E → q_G → Prop} : q_X 12 17 L (.int y :: .int x :: S) E g Q = (if x = y then q_X 12 20 L S E g Q else q_X 12 35 L S E g Q) := x_ine (show q_P 12 17 = some (17, .if_icmp .ne 18, 3, [], 0) by decide +kernel) (by decide)
theorem x12_20 {l1 l2 : Value} {x : Nat} {S : List Value} {E : q_E} {g : q_G} {Q : Option Value → q_E → q_G → Prop} : q_X 12 20 [(.ref x), l1, l2] S E g Q = q_X 12 21 [(.ref x), l1, l2] ((.ref x) :: S) E g Q := q_X_stp (show q_P 12 20 = some (20, .aload_n 0, 1, [], 0) by decide +kernel) rfl rfl
theorem x12_21 {a : Nat} {L S : List Value} {E : q_E} {g : q_G} {Q : Option Value → q_E → q_G → Prop} : q_X 12 21 L (.ref a :: S) E g Q = ((q_kd E a).1 = 7 ∧ ¬ q_rf E a 1 = 0 ∧ q_X 12 24 L (.ref (q_rf E a 1) :: S) E g Q) := x_getR (show q_P 12 21 = some (21, .getfield 15, 3, [3, 1, 1, 149], 0) by decide +kernel) rfl
theorem x12_24 {l0 l2 : Value} {x : Int32} {S : List Value} {E : q_E} {g : q_G} {Q : Option Value → q_E → q_G → Prop} : q_X 12 24 [l0, (.int x), l2] S E g Q = q_X 12 25 [l0, (.int x), l2] ((.int x) :: S) E g Q := q_X_stp (show q_P 12 24 = some (24, .iload_n 1, 1, [], 0) by decide +kernel) rfl rfl
theorem x12_25 {a : Nat} {i : Int32} {L S : List Value} {E : q_E} {g : q_G} {Q : Option Value → q_E → q_G → Prop} : q_X 12 25 L (.int i :: .ref a :: S) E g Q = ((((q_kd E a).1 = 1 ∨ (q_kd E a).1 = 2) ∧ vp_in i (q_kd E a).2) ∧ q_X 12 26 L (.int (g a i.toNatClampNeg) :: S) E g Q) := x_iald (show q_P 12 25 = some (25, .iaload, 1, [], 0) by decide +kernel)
theorem x12_26 {L S : List Value} {E : q_E} {g : q_G} {Q : Option Value → q_E → q_G → Prop} : q_X 12 26 L S E g Q = q_X 12 28 L (.int (nI 12) :: S) E g Q := x_bipush (show q_P 12 26 = some (26, .bipush 12, 2, [], 0) by decide +kernel) (by decide)
theorem x12_28 {x y : Int32} {L S : List Value} {E : q_E} {g : q_G} {Q : Option Value → q_E → q_G → Prop} : q_X 12 28 L (.int y :: .int x :: S) E g Q = (if y ≤ x then q_X 12 35 L S E g Q else q_X 12 31 L S E g Q) := x_ige (show q_P 12 28 = some (28, .if_icmp .ge 7, 3, [], 0) by decide +kernel) (by decide)
theorem x12_31 {L S : List Value} {E : q_E} {g : q_G} {Q : Option Value → q_E → q_G → Prop} : q_X 12 31 L S E g Q = q_X 12 32 L (.int (nI 1) :: S) E g Q := x_iconst (show q_P 12 31 = some (31, .iconst 1, 1, [], 0) by decide +kernel) (by decide)
theorem x12_32 {L S : List Value} {E : q_E} {g : q_G} {Q : Option Value → q_E → q_G → Prop} : q_X 12 32 L S E g Q = q_X 12 36 L S E g Q := x_goto (show q_P 12 32 = some (32, .goto 4, 3, [], 0) by decide +kernel) (by decide)
theorem x12_35 {L S : List Value} {E : q_E} {g : q_G} {Q : Option Value → q_E → q_G → Prop} : q_X 12 35 L S E g Q = q_X 12 36 L (.int (nI 0) :: S) E g Q := x_iconst (show q_P 12 35 = some (35, .iconst 0, 1, [], 0) by decide +kernel) (by decide)
theorem x12_36 {v : Int32} {L : List Value} {E : q_E} {g : q_G} {Q : Option Value → q_E → q_G → Prop} : q_X 12 36 L [.int v] E g Q = (narrow .boolean (.int v) = .int v ∧ Q (some (.int v)) E g) := x_reti (show q_P 12 36 = some (36, .ireturn, 1, [], 0) by decide +kernel) rfl
-- X3_lowestWithCardsOf
theorem x13_0 {L S : List Value} {E : q_E} {g : q_G} {Q : Option Value → q_E → q_G → Prop} : q_X 13 0 L S E g Q = q_X 13 1 L (.int (nI 0) :: S) E g Q := x_iconst (show q_P 13 0 = some (0, .iconst 0, 1, [], 0) by decide +kernel) (by decide)
theorem x13_1 {l0 l1 l2 : Value} {x : Int32} {S : List Value} {E : q_E} {g : q_G} {Q : Option Value → q_E → q_G → Prop} : q_X 13 1 [l0, l1, l2] ((.int x) :: S) E g Q = q_X 13 2 [l0, l1, (.int x)] S E g Q := q_X_stp (show q_P 13 1 = some (1, .istore_n 2, 1, [], 0) by decide +kernel) rfl rfl
theorem x13_2 {l0 l1 : Value} {x : Int32} {S : List Value} {E : q_E} {g : q_G} {Q : Option Value → q_E → q_G → Prop} : q_X 13 2 [l0, l1, (.int x)] S E g Q = q_X 13 3 [l0, l1, (.int x)] ((.int x) :: S) E g Q := q_X_stp (show q_P 13 2 = some (2, .iload_n 2, 1, [], 0) by decide +kernel) rfl rfl
theorem x13_3 {L S : List Value} {E : q_E} {g : q_G} {Q : Option Value → q_E → q_G → Prop} : q_X 13 3 L S E g Q = q_X 13 5 L (.int (nI 10) :: S) E g Q := x_bipush (show q_P 13 3 = some (3, .bipush 10, 2, [], 0) by decide +kernel) (by decide)
theorem x13_5 {x y : Int32} {L S : List Value} {E : q_E} {g : q_G} {Q : Option Value → q_E → q_G → Prop} : q_X 13 5 L (.int y :: .int x :: S) E g Q = (if y ≤ x then q_X 13 35 L S E g Q else q_X 13 8 L S E g Q) := x_ige (show q_P 13 5 = some (5, .if_icmp .ge 30, 3, [], 0) by decide +kernel) (by decide)
theorem x13_8 {l1 l2 : Value} {x : Nat} {S : List Value} {E : q_E} {g : q_G} {Q : Option Value → q_E → q_G → Prop} : q_X 13 8 [(.ref x), l1, l2] S E g Q = q_X 13 9 [(.ref x), l1, l2] ((.ref x) :: S) E g Q := q_X_stp (show q_P 13 8 = some (8, .aload_n 0, 1, [], 0) by decide +kernel) rfl rfl
theorem x13_9 {a : Nat} {L S : List Value} {E : q_E} {g : q_G} {Q : Option Value → q_E → q_G → Prop} : q_X 13 9 L (.ref a :: S) E g Q = ((q_kd E a).1 = 7 ∧ ¬ q_rf E a 0 = 0 ∧ q_X 13 12 L (.ref (q_rf E a 0) :: S) E g Q) := x_getR (show q_P 13 9 = some (9, .getfield 9, 3, [3, 0, 1, 146], 0) by decide +kernel) rfl
theorem x13_12 {l0 l1 : Value} {x : Int32} {S : List Value} {E : q_E} {g : q_G} {Q : Option Value → q_E → q_G → Prop} : q_X 13 12 [l0, l1, (.int x)] S E g Q = q_X 13 13 [l0, l1, (.int x)] ((.int x) :: S) E g Q := q_X_stp (show q_P 13 12 = some (12, .iload_n 2, 1, [], 0) by decide +kernel) rfl rfl
theorem x13_13 {a : Nat} {i : Int32} {L S : List Value} {E : q_E} {g : q_G} {Q : Option Value → q_E → q_G → Prop} : q_X 13 13 L (.int i :: .ref a :: S) E g Q = ((((q_kd E a).1 = 1 ∨ (q_kd E a).1 = 2) ∧ vp_in i (q_kd E a).2) ∧ q_X 13 14 L (.int (g a i.toNatClampNeg) :: S) E g Q) := x_iald (show q_P 13 13 = some (13, .iaload, 1, [], 0) by decide +kernel)
theorem x13_14 {l0 l2 : Value} {x : Int32} {S : List Value} {E : q_E} {g : q_G} {Q : Option Value → q_E → q_G → Prop} : q_X 13 14 [l0, (.int x), l2] S E g Q = q_X 13 15 [l0, (.int x), l2] ((.int x) :: S) E g Q := q_X_stp (show q_P 13 14 = some (14, .iload_n 1, 1, [], 0) by decide +kernel) rfl rfl
theorem x13_15 {x y : Int32} {L S : List Value} {E : q_E} {g : q_G} {Q : Option Value → q_E → q_G → Prop} : q_X 13 15 L (.int y :: .int x :: S) E g Q = (if x = y then q_X 13 18 L S E g Q else q_X 13 29 L S E g Q) := x_ine (show q_P 13 15 = some (15, .if_icmp .ne 14, 3, [], 0) by decide +kernel) (by decide)
theorem x13_18 {l1 l2 : Value} {x : Nat} {S : List Value} {E : q_E} {g : q_G} {Q : Option Value → q_E → q_G → Prop} : q_X 13 18 [(.ref x), l1, l2] S E g Q = q_X 13 19 [(.ref x), l1, l2] ((.ref x) :: S) E g Q := q_X_stp (show q_P 13 18 = some (18, .aload_n 0, 1, [], 0) by decide +kernel) rfl rfl
theorem x13_19 {a : Nat} {L S : List Value} {E : q_E} {g : q_G} {Q : Option Value → q_E → q_G → Prop} : q_X 13 19 L (.ref a :: S) E g Q = ((q_kd E a).1 = 7 ∧ ¬ q_rf E a 1 = 0 ∧ q_X 13 22 L (.ref (q_rf E a 1) :: S) E g Q) := x_getR (show q_P 13 19 = some (19, .getfield 15, 3, [3, 1, 1, 149], 0) by decide +kernel) rfl
theorem x13_22 {l0 l1 : Value} {x : Int32} {S : List Value} {E : q_E} {g : q_G} {Q : Option Value → q_E → q_G → Prop} : q_X 13 22 [l0, l1, (.int x)] S E g Q = q_X 13 23 [l0, l1, (.int x)] ((.int x) :: S) E g Q := q_X_stp (show q_P 13 22 = some (22, .iload_n 2, 1, [], 0) by decide +kernel) rfl rfl
theorem x13_23 {a : Nat} {i : Int32} {L S : List Value} {E : q_E} {g : q_G} {Q : Option Value → q_E → q_G → Prop} : q_X 13 23 L (.int i :: .ref a :: S) E g Q = ((((q_kd E a).1 = 1 ∨ (q_kd E a).1 = 2) ∧ vp_in i (q_kd E a).2) ∧ q_X 13 24 L (.int (g a i.toNatClampNeg) :: S) E g Q) := x_iald (show q_P 13 23 = some (23, .iaload, 1, [], 0) by decide +kernel)
theorem x13_24 {x : Int32} {L S : List Value} {E : q_E} {g : q_G} {Q : Option Value → q_E → q_G → Prop} : q_X 13 24 L (.int x :: S) E g Q = (if x ≤ nI 0 then q_X 13 29 L S E g Q else q_X 13 27 L S E g Q) := x_zle (show q_P 13 24 = some (24, .ifCond .le 5, 3, [], 0) by decide +kernel) (by decide)
theorem x13_27 {l0 l1 : Value} {x : Int32} {S : List Value} {E : q_E} {g : q_G} {Q : Option Value → q_E → q_G → Prop} : q_X 13 27 [l0, l1, (.int x)] S E g Q = q_X 13 28 [l0, l1, (.int x)] ((.int x) :: S) E g Q := q_X_stp (show q_P 13 27 = some (27, .iload_n 2, 1, [], 0) by decide +kernel) rfl rfl
theorem x13_28 {v : Int32} {L : List Value} {E : q_E} {g : q_G} {Q : Option Value → q_E → q_G → Prop} : q_X 13 28 L [.int v] E g Q = Q (some (.int v)) E g := x_retI (show q_P 13 28 = some (28, .ireturn, 1, [], 0) by decide +kernel) rfl
theorem x13_29 {l0 l1 : Value} {x : Int32} {S : List Value} {E : q_E} {g : q_G} {Q : Option Value → q_E → q_G → Prop} : q_X 13 29 [l0, l1, (.int x)] S E g Q = q_X 13 32 [l0, l1, (.int (x + (nI 1)))] S E g Q := q_X_stp (show q_P 13 29 = some (29, .iinc 2 1, 3, [], 0) by decide +kernel) rfl rfl
theorem x13_32 {L S : List Value} {E : q_E} {g : q_G} {Q : Option Value → q_E → q_G → Prop} : q_X 13 32 L S E g Q = q_X 13 2 L S E g Q := x_goto (show q_P 13 32 = some (32, .goto (-30), 3, [], 0) by decide +kernel) (by decide)
theorem x13_35 {L S : List Value} {E : q_E} {g : q_G} {Q : Option Value → q_E → q_G → Prop} : q_X 13 35 L S E g Q = q_X 13 36 L (.int (-1) :: S) E g Q := x_iconst (show q_P 13 35 = some (35, .iconst (-1), 1, [], 0) by decide +kernel) (by decide)
theorem x13_36 {v : Int32} {L : List Value} {E : q_E} {g : q_G} {Q : Option Value → q_E → q_G → Prop} : q_X 13 36 L [.int v] E g Q = Q (some (.int v)) E g := x_retI (show q_P 13 36 = some (36, .ireturn, 1, [], 0) by decide +kernel) rfl
-- X3_takeCardsOf
theorem x14_0 {L S : List Value} {E : q_E} {g : q_G} {Q : Option Value → q_E → q_G → Prop} : q_X 14 0 L S E g Q = q_X 14 1 L (.int (nI 0) :: S) E g Q := x_iconst (show q_P 14 0 = some (0, .iconst 0, 1, [], 0) by decide +kernel) (by decide)
theorem x14_1 {l0 l1 l2 : Value} {x : Int32} {S : List Value} {E : q_E} {g : q_G} {Q : Option Value → q_E → q_G → Prop} : q_X 14 1 [l0, l1, l2] ((.int x) :: S) E g Q = q_X 14 2 [l0, l1, (.int x)] S E g Q := q_X_stp (show q_P 14 1 = some (1, .istore_n 2, 1, [], 0) by decide +kernel) rfl rfl
theorem x14_2 {l0 l1 : Value} {x : Int32} {S : List Value} {E : q_E} {g : q_G} {Q : Option Value → q_E → q_G → Prop} : q_X 14 2 [l0, l1, (.int x)] S E g Q = q_X 14 3 [l0, l1, (.int x)] ((.int x) :: S) E g Q := q_X_stp (show q_P 14 2 = some (2, .iload_n 2, 1, [], 0) by decide +kernel) rfl rfl
theorem x14_3 {L S : List Value} {E : q_E} {g : q_G} {Q : Option Value → q_E → q_G → Prop} : q_X 14 3 L S E g Q = q_X 14 5 L (.int (nI 10) :: S) E g Q := x_bipush (show q_P 14 3 = some (3, .bipush 10, 2, [], 0) by decide +kernel) (by decide)
theorem x14_5 {x y : Int32} {L S : List Value} {E : q_E} {g : q_G} {Q : Option Value → q_E → q_G → Prop} : q_X 14 5 L (.int y :: .int x :: S) E g Q = (if y ≤ x then q_X 14 31 L S E g Q else q_X 14 8 L S E g Q) := x_ige (show q_P 14 5 = some (5, .if_icmp .ge 26, 3, [], 0) by decide +kernel) (by decide)
theorem x14_8 {l1 l2 : Value} {x : Nat} {S : List Value} {E : q_E} {g : q_G} {Q : Option Value → q_E → q_G → Prop} : q_X 14 8 [(.ref x), l1, l2] S E g Q = q_X 14 9 [(.ref x), l1, l2] ((.ref x) :: S) E g Q := q_X_stp (show q_P 14 8 = some (8, .aload_n 0, 1, [], 0) by decide +kernel) rfl rfl
theorem x14_9 {a : Nat} {L S : List Value} {E : q_E} {g : q_G} {Q : Option Value → q_E → q_G → Prop} : q_X 14 9 L (.ref a :: S) E g Q = ((q_kd E a).1 = 7 ∧ ¬ q_rf E a 0 = 0 ∧ q_X 14 12 L (.ref (q_rf E a 0) :: S) E g Q) := x_getR (show q_P 14 9 = some (9, .getfield 9, 3, [3, 0, 1, 146], 0) by decide +kernel) rfl
theorem x14_12 {l0 l1 : Value} {x : Int32} {S : List Value} {E : q_E} {g : q_G} {Q : Option Value → q_E → q_G → Prop} : q_X 14 12 [l0, l1, (.int x)] S E g Q = q_X 14 13 [l0, l1, (.int x)] ((.int x) :: S) E g Q := q_X_stp (show q_P 14 12 = some (12, .iload_n 2, 1, [], 0) by decide +kernel) rfl rfl
theorem x14_13 {a : Nat} {i : Int32} {L S : List Value} {E : q_E} {g : q_G} {Q : Option Value → q_E → q_G → Prop} : q_X 14 13 L (.int i :: .ref a :: S) E g Q = ((((q_kd E a).1 = 1 ∨ (q_kd E a).1 = 2) ∧ vp_in i (q_kd E a).2) ∧ q_X 14 14 L (.int (g a i.toNatClampNeg) :: S) E g Q) := x_iald (show q_P 14 13 = some (13, .iaload, 1, [], 0) by decide +kernel)
theorem x14_14 {l0 l2 : Value} {x : Int32} {S : List Value} {E : q_E} {g : q_G} {Q : Option Value → q_E → q_G → Prop} : q_X 14 14 [l0, (.int x), l2] S E g Q = q_X 14 15 [l0, (.int x), l2] ((.int x) :: S) E g Q := q_X_stp (show q_P 14 14 = some (14, .iload_n 1, 1, [], 0) by decide +kernel) rfl rfl
theorem x14_15 {x y : Int32} {L S : List Value} {E : q_E} {g : q_G} {Q : Option Value → q_E → q_G → Prop} : q_X 14 15 L (.int y :: .int x :: S) E g Q = (if x = y then q_X 14 18 L S E g Q else q_X 14 25 L S E g Q) := x_ine (show q_P 14 15 = some (15, .if_icmp .ne 10, 3, [], 0) by decide +kernel) (by decide)
theorem x14_18 {l1 l2 : Value} {x : Nat} {S : List Value} {E : q_E} {g : q_G} {Q : Option Value → q_E → q_G → Prop} : q_X 14 18 [(.ref x), l1, l2] S E g Q = q_X 14 19 [(.ref x), l1, l2] ((.ref x) :: S) E g Q := q_X_stp (show q_P 14 18 = some (18, .aload_n 0, 1, [], 0) by decide +kernel) rfl rfl
theorem x14_19 {a : Nat} {L S : List Value} {E : q_E} {g : q_G} {Q : Option Value → q_E → q_G → Prop} : q_X 14 19 L (.ref a :: S) E g Q = ((q_kd E a).1 = 7 ∧ ¬ q_rf E a 1 = 0 ∧ q_X 14 22 L (.ref (q_rf E a 1) :: S) E g Q) := x_getR (show q_P 14 19 = some (19, .getfield 15, 3, [3, 1, 1, 149], 0) by decide +kernel) rfl
theorem x14_22 {l0 l1 : Value} {x : Int32} {S : List Value} {E : q_E} {g : q_G} {Q : Option Value → q_E → q_G → Prop} : q_X 14 22 [l0, l1, (.int x)] S E g Q = q_X 14 23 [l0, l1, (.int x)] ((.int x) :: S) E g Q := q_X_stp (show q_P 14 22 = some (22, .iload_n 2, 1, [], 0) by decide +kernel) rfl rfl
theorem x14_23 {L S : List Value} {E : q_E} {g : q_G} {Q : Option Value → q_E → q_G → Prop} : q_X 14 23 L S E g Q = q_X 14 24 L (.int (nI 0) :: S) E g Q := x_iconst (show q_P 14 23 = some (23, .iconst 0, 1, [], 0) by decide +kernel) (by decide)
theorem x14_24 {a : Nat} {i x : Int32} {L S : List Value} {E : q_E} {g : q_G} {Q : Option Value → q_E → q_G → Prop} : q_X 14 24 L (.int x :: .int i :: .ref a :: S) E g Q = (((q_kd E a).1 = 2 ∧ vp_in i (q_kd E a).2) ∧ q_X 14 25 L S E (q_up g a i.toNatClampNeg x) Q) := x_iast (show q_P 14 24 = some (24, .iastore, 1, [], 0) by decide +kernel)
theorem x14_25 {l0 l1 : Value} {x : Int32} {S : List Value} {E : q_E} {g : q_G} {Q : Option Value → q_E → q_G → Prop} : q_X 14 25 [l0, l1, (.int x)] S E g Q = q_X 14 28 [l0, l1, (.int (x + (nI 1)))] S E g Q := q_X_stp (show q_P 14 25 = some (25, .iinc 2 1, 3, [], 0) by decide +kernel) rfl rfl
theorem x14_28 {L S : List Value} {E : q_E} {g : q_G} {Q : Option Value → q_E → q_G → Prop} : q_X 14 28 L S E g Q = q_X 14 2 L S E g Q := x_goto (show q_P 14 28 = some (28, .goto (-26), 3, [], 0) by decide +kernel) (by decide)
theorem x14_31 {L : List Value} {E : q_E} {g : q_G} {Q : Option Value → q_E → q_G → Prop} : q_X 14 31 L [] E g Q = Q none E g := x_retv (show q_P 14 31 = some (31, .return_, 1, [], 0) by decide +kernel)
-- X4_blame
theorem x15_0 {l1 l2 : Value} {x : Nat} {S : List Value} {E : q_E} {g : q_G} {Q : Option Value → q_E → q_G → Prop} : q_X 15 0 [(.ref x), l1, l2] S E g Q = q_X 15 1 [(.ref x), l1, l2] ((.ref x) :: S) E g Q := q_X_stp (show q_P 15 0 = some (0, .aload_n 0, 1, [], 0) by decide +kernel) rfl rfl
theorem x15_1 {l0 l2 : Value} {x : Int32} {S : List Value} {E : q_E} {g : q_G} {Q : Option Value → q_E → q_G → Prop} : q_X 15 1 [l0, (.int x), l2] S E g Q = q_X 15 2 [l0, (.int x), l2] ((.int x) :: S) E g Q := q_X_stp (show q_P 15 1 = some (1, .iload_n 1, 1, [], 0) by decide +kernel) rfl rfl
theorem x15_2 {a : Nat} {v : Int32} {L S : List Value} {E : q_E} {g : q_G} {Q : Option Value → q_E → q_G → Prop} : q_X 15 2 L (.int v :: .ref a :: S) E g Q = ((q_kd E a).1 = 8 ∧ q_X 15 5 L S E (q_up g a 1 v) Q) := x_putI (show q_P 15 2 = some (2, .putfield 15, 3, [4, 1, 0, 258, 0], 0) by decide +kernel) rfl
theorem x15_5 {l1 l2 : Value} {x : Nat} {S : List Value} {E : q_E} {g : q_G} {Q : Option Value → q_E → q_G → Prop} : q_X 15 5 [(.ref x), l1, l2] S E g Q = q_X 15 6 [(.ref x), l1, l2] ((.ref x) :: S) E g Q := q_X_stp (show q_P 15 5 = some (5, .aload_n 0, 1, [], 0) by decide +kernel) rfl rfl
theorem x15_6 {l0 l1 : Value} {x : Int32} {S : List Value} {E : q_E} {g : q_G} {Q : Option Value → q_E → q_G → Prop} : q_X 15 6 [l0, l1, (.int x)] S E g Q = q_X 15 7 [l0, l1, (.int x)] ((.int x) :: S) E g Q := q_X_stp (show q_P 15 6 = some (6, .iload_n 2, 1, [], 0) by decide +kernel) rfl rfl
theorem x15_7 {a : Nat} {v : Int32} {L S : List Value} {E : q_E} {g : q_G} {Q : Option Value → q_E → q_G → Prop} : q_X 15 7 L (.int v :: .ref a :: S) E g Q = ((q_kd E a).1 = 8 ∧ q_X 15 10 L S E (q_up g a 2 v) Q) := x_putI (show q_P 15 7 = some (7, .putfield 18, 3, [4, 2, 0, 260, 0], 0) by decide +kernel) rfl
theorem x15_10 {L : List Value} {E : q_E} {g : q_G} {Q : Option Value → q_E → q_G → Prop} : q_X 15 10 L [] E g Q = Q none E g := x_retv (show q_P 15 10 = some (10, .return_, 1, [], 0) by decide +kernel)
-- X5_aboutOrder
theorem x16_0 {l0 l2 : Value} {x : Int32} {S : List Value} {E : q_E} {g : q_G} {Q : Option Value → q_E → q_G → Prop} : q_X 16 0 [l0, (.int x), l2] S E g Q = q_X 16 1 [l0, (.int x), l2] ((.int x) :: S) E g Q := q_X_stp (show q_P 16 0 = some (0, .iload_n 1, 1, [], 0) by decide +kernel) rfl rfl
theorem x16_1 {x : Int32} {L S : List Value} {E : q_E} {g : q_G} {Q : Option Value → q_E → q_G → Prop} : q_X 16 1 L (.int x :: S) E g Q = (if x < nI 0 then q_X 16 15 L S E g Q else q_X 16 4 L S E g Q) := x_zlt (show q_P 16 1 = some (1, .ifCond .lt 14, 3, [], 0) by decide +kernel) (by decide)
theorem x16_4 {l0 l2 : Value} {x : Int32} {S : List Value} {E : q_E} {g : q_G} {Q : Option Value → q_E → q_G → Prop} : q_X 16 4 [l0, (.int x), l2] S E g Q = q_X 16 5 [l0, (.int x), l2] ((.int x) :: S) E g Q := q_X_stp (show q_P 16 4 = some (4, .iload_n 1, 1, [], 0) by decide +kernel) rfl rfl
theorem x16_5 {l1 l2 : Value} {x : Nat} {S : List Value} {E : q_E} {g : q_G} {Q : Option Value → q_E → q_G → Prop} : q_X 16 5 [(.ref x), l1, l2] S E g Q = q_X 16 6 [(.ref x), l1, l2] ((.ref x) :: S) E g Q := q_X_stp (show q_P 16 5 = some (5, .aload_n 0, 1, [], 0) by decide +kernel) rfl rfl
theorem x16_6 {a : Nat} {L S : List Value} {E : q_E} {g : q_G} {Q : Option Value → q_E → q_G → Prop} : q_X 16 6 L (.ref a :: S) E g Q = ((q_kd E a).1 = 9 ∧ ¬ q_rf E a 4 = 0 ∧ q_X 16 9 L (.ref (q_rf E a 4) :: S) E g Q) := x_getR (show q_P 16 6 = some (6, .getfield 42, 3, [5, 4, 1, 193], 0) by decide +kernel) rfl
theorem x16_9 {a : Nat} {L S : List Value} {E : q_E} {g : q_G} {Q : Option Value → q_E → q_G → Prop} : q_X 16 9 L (.ref a :: S) E g Q = ((q_kd E a).1 = 5 ∧ q_X 16 12 L (.int (g a 0) :: S) E g Q) := x_getI (show q_P 16 9 = some (9, .getfield 212, 3, [1, 0, 0, 169], 0) by decide +kernel) (by decide) rfl
theorem x16_12 {x y : Int32} {L S : List Value} {E : q_E} {g : q_G} {Q : Option Value → q_E → q_G → Prop} : q_X 16 12 L (.int y :: .int x :: S) E g Q = (if x < y then q_X 16 18 L S E g Q else q_X 16 15 L S E g Q) := x_ilt (show q_P 16 12 = some (12, .if_icmp .lt 6, 3, [], 0) by decide +kernel) (by decide)
theorem x16_15 {L S : List Value} {E : q_E} {g : q_G} {Q : Option Value → q_E → q_G → Prop} : q_X 16 15 L S E g Q = q_X 16 17 L (.int (-1000004) :: S) E g Q := x_ldc (show q_P 16 15 = some (15, .ldc 202, 2, [0, 552], -1000004) by decide +kernel) (by decide)
theorem x16_17 {v : Int32} {L : List Value} {E : q_E} {g : q_G} {Q : Option Value → q_E → q_G → Prop} : q_X 16 17 L [.int v] E g Q = Q (some (.int v)) E g := x_retI (show q_P 16 17 = some (17, .ireturn, 1, [], 0) by decide +kernel) rfl
theorem x16_18 {l0 l1 : Value} {x : Int32} {S : List Value} {E : q_E} {g : q_G} {Q : Option Value → q_E → q_G → Prop} : q_X 16 18 [l0, l1, (.int x)] S E g Q = q_X 16 19 [l0, l1, (.int x)] ((.int x) :: S) E g Q := q_X_stp (show q_P 16 18 = some (18, .iload_n 2, 1, [], 0) by decide +kernel) rfl rfl
set_option maxRecDepth 20000 in
theorem x16_19 {x : Int32} {L S : List Value} {E : q_E} {g : q_G} {Q : Option Value → q_E → q_G → Prop} : q_X 16 19 L (.int x :: S) E g Q = (if x = nI 0 then q_X 16 44 L S E g Q else if x = nI 1 then q_X 16 54 L S E g Q else q_X 16 64 L S E g Q) := by
  by_cases h0 : x = nI 0
  · subst h0; rw [ if_pos rfl]; exact q_X_stp (show q_P 16 19 = some (19, .lookupswitch 45 #[(0, 25), (1, 35)], 25, [], 0) by decide +kernel) rfl (by rfl)
  by_cases h1 : x = nI 1
  · subst h1; rw [if_neg h0, if_pos rfl]; exact q_X_stp (show q_P 16 19 = some (19, .lookupswitch 45 #[(0, 25), (1, 35)], 25, [], 0) by decide +kernel) rfl (by rfl)
  rw [if_neg h0, if_neg h1]
  refine q_X_stp (show q_P 16 19 = some (19, .lookupswitch 45 #[(0, 25), (1, 35)], 25, [], 0) by decide +kernel) rfl ?_
  have e : x = Int32.ofInt x.toInt := by simp
  show some (q_j 19 (Op.lookupswitch.offset [(0, 25), (1, 35)] 45 x.toInt), L, S, E, g) = _
  rw [Op.lookupswitch.offset_cons, if_neg (fun q => h0 (by rw [e, ← q]; decide)), Op.lookupswitch.offset_cons, if_neg (fun q => h1 (by rw [e, ← q]; decide)), Op.lookupswitch.offset_nil]
  rfl
theorem x16_44 {l1 l2 : Value} {x : Nat} {S : List Value} {E : q_E} {g : q_G} {Q : Option Value → q_E → q_G → Prop} : q_X 16 44 [(.ref x), l1, l2] S E g Q = q_X 16 45 [(.ref x), l1, l2] ((.ref x) :: S) E g Q := q_X_stp (show q_P 16 44 = some (44, .aload_n 0, 1, [], 0) by decide +kernel) rfl rfl
theorem x16_45 {a : Nat} {L S : List Value} {E : q_E} {g : q_G} {Q : Option Value → q_E → q_G → Prop} : q_X 16 45 L (.ref a :: S) E g Q = ((q_kd E a).1 = 9 ∧ ¬ q_rf E a 4 = 0 ∧ q_X 16 48 L (.ref (q_rf E a 4) :: S) E g Q) := x_getR (show q_P 16 45 = some (45, .getfield 42, 3, [5, 4, 1, 193], 0) by decide +kernel) rfl
theorem x16_48 {a : Nat} {L S : List Value} {E : q_E} {g : q_G} {Q : Option Value → q_E → q_G → Prop} : q_X 16 48 L (.ref a :: S) E g Q = ((q_kd E a).1 = 5 ∧ ¬ q_rf E a 1 = 0 ∧ q_X 16 51 L (.ref (q_rf E a 1) :: S) E g Q) := x_getR (show q_P 16 48 = some (48, .getfield 193, 3, [1, 1, 1, 171], 0) by decide +kernel) rfl
theorem x16_51 {l0 l2 : Value} {x : Int32} {S : List Value} {E : q_E} {g : q_G} {Q : Option Value → q_E → q_G → Prop} : q_X 16 51 [l0, (.int x), l2] S E g Q = q_X 16 52 [l0, (.int x), l2] ((.int x) :: S) E g Q := q_X_stp (show q_P 16 51 = some (51, .iload_n 1, 1, [], 0) by decide +kernel) rfl rfl
theorem x16_52 {a : Nat} {i : Int32} {L S : List Value} {E : q_E} {g : q_G} {Q : Option Value → q_E → q_G → Prop} : q_X 16 52 L (.int i :: .ref a :: S) E g Q = ((((q_kd E a).1 = 1 ∨ (q_kd E a).1 = 2) ∧ vp_in i (q_kd E a).2) ∧ q_X 16 53 L (.int (g a i.toNatClampNeg) :: S) E g Q) := x_iald (show q_P 16 52 = some (52, .iaload, 1, [], 0) by decide +kernel)
theorem x16_53 {v : Int32} {L : List Value} {E : q_E} {g : q_G} {Q : Option Value → q_E → q_G → Prop} : q_X 16 53 L [.int v] E g Q = Q (some (.int v)) E g := x_retI (show q_P 16 53 = some (53, .ireturn, 1, [], 0) by decide +kernel) rfl
theorem x16_54 {l1 l2 : Value} {x : Nat} {S : List Value} {E : q_E} {g : q_G} {Q : Option Value → q_E → q_G → Prop} : q_X 16 54 [(.ref x), l1, l2] S E g Q = q_X 16 55 [(.ref x), l1, l2] ((.ref x) :: S) E g Q := q_X_stp (show q_P 16 54 = some (54, .aload_n 0, 1, [], 0) by decide +kernel) rfl rfl
theorem x16_55 {a : Nat} {L S : List Value} {E : q_E} {g : q_G} {Q : Option Value → q_E → q_G → Prop} : q_X 16 55 L (.ref a :: S) E g Q = ((q_kd E a).1 = 9 ∧ ¬ q_rf E a 4 = 0 ∧ q_X 16 58 L (.ref (q_rf E a 4) :: S) E g Q) := x_getR (show q_P 16 55 = some (55, .getfield 42, 3, [5, 4, 1, 193], 0) by decide +kernel) rfl
theorem x16_58 {a : Nat} {L S : List Value} {E : q_E} {g : q_G} {Q : Option Value → q_E → q_G → Prop} : q_X 16 58 L (.ref a :: S) E g Q = ((q_kd E a).1 = 5 ∧ ¬ q_rf E a 2 = 0 ∧ q_X 16 61 L (.ref (q_rf E a 2) :: S) E g Q) := x_getR (show q_P 16 58 = some (58, .getfield 196, 3, [1, 2, 1, 173], 0) by decide +kernel) rfl
theorem x16_61 {l0 l2 : Value} {x : Int32} {S : List Value} {E : q_E} {g : q_G} {Q : Option Value → q_E → q_G → Prop} : q_X 16 61 [l0, (.int x), l2] S E g Q = q_X 16 62 [l0, (.int x), l2] ((.int x) :: S) E g Q := q_X_stp (show q_P 16 61 = some (61, .iload_n 1, 1, [], 0) by decide +kernel) rfl rfl
theorem x16_62 {a : Nat} {i : Int32} {L S : List Value} {E : q_E} {g : q_G} {Q : Option Value → q_E → q_G → Prop} : q_X 16 62 L (.int i :: .ref a :: S) E g Q = ((((q_kd E a).1 = 1 ∨ (q_kd E a).1 = 2) ∧ vp_in i (q_kd E a).2) ∧ q_X 16 63 L (.int (g a i.toNatClampNeg) :: S) E g Q) := x_iald (show q_P 16 62 = some (62, .iaload, 1, [], 0) by decide +kernel)
theorem x16_63 {v : Int32} {L : List Value} {E : q_E} {g : q_G} {Q : Option Value → q_E → q_G → Prop} : q_X 16 63 L [.int v] E g Q = Q (some (.int v)) E g := x_retI (show q_P 16 63 = some (63, .ireturn, 1, [], 0) by decide +kernel) rfl
theorem x16_64 {l1 l2 : Value} {x : Nat} {S : List Value} {E : q_E} {g : q_G} {Q : Option Value → q_E → q_G → Prop} : q_X 16 64 [(.ref x), l1, l2] S E g Q = q_X 16 65 [(.ref x), l1, l2] ((.ref x) :: S) E g Q := q_X_stp (show q_P 16 64 = some (64, .aload_n 0, 1, [], 0) by decide +kernel) rfl rfl
theorem x16_65 {a : Nat} {L S : List Value} {E : q_E} {g : q_G} {Q : Option Value → q_E → q_G → Prop} : q_X 16 65 L (.ref a :: S) E g Q = ((q_kd E a).1 = 9 ∧ ¬ q_rf E a 4 = 0 ∧ q_X 16 68 L (.ref (q_rf E a 4) :: S) E g Q) := x_getR (show q_P 16 65 = some (65, .getfield 42, 3, [5, 4, 1, 193], 0) by decide +kernel) rfl
theorem x16_68 {a : Nat} {L S : List Value} {E : q_E} {g : q_G} {Q : Option Value → q_E → q_G → Prop} : q_X 16 68 L (.ref a :: S) E g Q = ((q_kd E a).1 = 5 ∧ ¬ q_rf E a 3 = 0 ∧ q_X 16 71 L (.ref (q_rf E a 3) :: S) E g Q) := x_getR (show q_P 16 68 = some (68, .getfield 213, 3, [1, 3, 1, 175], 0) by decide +kernel) rfl
theorem x16_71 {l0 l2 : Value} {x : Int32} {S : List Value} {E : q_E} {g : q_G} {Q : Option Value → q_E → q_G → Prop} : q_X 16 71 [l0, (.int x), l2] S E g Q = q_X 16 72 [l0, (.int x), l2] ((.int x) :: S) E g Q := q_X_stp (show q_P 16 71 = some (71, .iload_n 1, 1, [], 0) by decide +kernel) rfl rfl
theorem x16_72 {a : Nat} {i : Int32} {L S : List Value} {E : q_E} {g : q_G} {Q : Option Value → q_E → q_G → Prop} : q_X 16 72 L (.int i :: .ref a :: S) E g Q = ((((q_kd E a).1 = 1 ∨ (q_kd E a).1 = 2) ∧ vp_in i (q_kd E a).2) ∧ q_X 16 73 L (.int (g a i.toNatClampNeg) :: S) E g Q) := x_iald (show q_P 16 72 = some (72, .iaload, 1, [], 0) by decide +kernel)
theorem x16_73 {l1 l2 : Value} {x : Nat} {S : List Value} {E : q_E} {g : q_G} {Q : Option Value → q_E → q_G → Prop} : q_X 16 73 [(.ref x), l1, l2] S E g Q = q_X 16 74 [(.ref x), l1, l2] ((.ref x) :: S) E g Q := q_X_stp (show q_P 16 73 = some (73, .aload_n 0, 1, [], 0) by decide +kernel) rfl rfl
theorem x16_74 {a : Nat} {L S : List Value} {E : q_E} {g : q_G} {Q : Option Value → q_E → q_G → Prop} : q_X 16 74 L (.ref a :: S) E g Q = ((q_kd E a).1 = 9 ∧ ¬ q_rf E a 0 = 0 ∧ q_X 16 77 L (.ref (q_rf E a 0) :: S) E g Q) := x_getR (show q_P 16 74 = some (74, .getfield 12, 3, [5, 0, 1, 185], 0) by decide +kernel) rfl
theorem x16_77 {a : Nat} {L S : List Value} {E : q_E} {g : q_G} {Q : Option Value → q_E → q_G → Prop} : q_X 16 77 L (.ref a :: S) E g Q = ((q_kd E a).1 = 4 ∧ q_X 16 80 L (.int (g a 0) :: S) E g Q) := x_getI (show q_P 16 77 = some (77, .getfield 121, 3, [0, 0, 0, 68], 0) by decide +kernel) (by decide) rfl
theorem x16_80 {x y : Int32} {L S : List Value} {E : q_E} {g : q_G} {Q : Option Value → q_E → q_G → Prop} : q_X 16 80 L (.int y :: .int x :: S) E g Q = q_X 16 81 L (.int (x - y) :: S) E g Q := x_isub (show q_P 16 80 = some (80, .isub, 1, [], 0) by decide +kernel)
theorem x16_81 {v : Int32} {L : List Value} {E : q_E} {g : q_G} {Q : Option Value → q_E → q_G → Prop} : q_X 16 81 L [.int v] E g Q = Q (some (.int v)) E g := x_retI (show q_P 16 81 = some (81, .ireturn, 1, [], 0) by decide +kernel) rfl
-- X6_append
theorem x17_0 {l1 : Value} {x : Nat} {S : List Value} {E : q_E} {g : q_G} {Q : Option Value → q_E → q_G → Prop} : q_X 17 0 [(.ref x), l1] S E g Q = q_X 17 1 [(.ref x), l1] ((.ref x) :: S) E g Q := q_X_stp (show q_P 17 0 = some (0, .aload_n 0, 1, [], 0) by decide +kernel) rfl rfl
theorem x17_1 {a : Nat} {L S : List Value} {E : q_E} {g : q_G} {Q : Option Value → q_E → q_G → Prop} : q_X 17 1 L (.ref a :: S) E g Q = ((q_kd E a).1 = 10 ∧ q_X 17 4 L (.int (g a 1) :: S) E g Q) := x_getI (show q_P 17 1 = some (1, .getfield 15, 3, [6, 1, 0, 229], 0) by decide +kernel) (by decide) rfl
theorem x17_4 {L S : List Value} {E : q_E} {g : q_G} {Q : Option Value → q_E → q_G → Prop} : q_X 17 4 L S E g Q = q_X 17 6 L (.int (nI 60) :: S) E g Q := x_bipush (show q_P 17 4 = some (4, .bipush 60, 2, [], 0) by decide +kernel) (by decide)
theorem x17_6 {x y : Int32} {L S : List Value} {E : q_E} {g : q_G} {Q : Option Value → q_E → q_G → Prop} : q_X 17 6 L (.int y :: .int x :: S) E g Q = (if x < y then q_X 17 11 L S E g Q else q_X 17 9 L S E g Q) := x_ilt (show q_P 17 6 = some (6, .if_icmp .lt 5, 3, [], 0) by decide +kernel) (by decide)
theorem x17_9 {L S : List Value} {E : q_E} {g : q_G} {Q : Option Value → q_E → q_G → Prop} : q_X 17 9 L S E g Q = q_X 17 10 L (.int (nI 0) :: S) E g Q := x_iconst (show q_P 17 9 = some (9, .iconst 0, 1, [], 0) by decide +kernel) (by decide)
theorem x17_10 {v : Int32} {L : List Value} {E : q_E} {g : q_G} {Q : Option Value → q_E → q_G → Prop} : q_X 17 10 L [.int v] E g Q = (narrow .boolean (.int v) = .int v ∧ Q (some (.int v)) E g) := x_reti (show q_P 17 10 = some (10, .ireturn, 1, [], 0) by decide +kernel) rfl
theorem x17_11 {l1 : Value} {x : Nat} {S : List Value} {E : q_E} {g : q_G} {Q : Option Value → q_E → q_G → Prop} : q_X 17 11 [(.ref x), l1] S E g Q = q_X 17 12 [(.ref x), l1] ((.ref x) :: S) E g Q := q_X_stp (show q_P 17 11 = some (11, .aload_n 0, 1, [], 0) by decide +kernel) rfl rfl
theorem x17_12 {a : Nat} {L S : List Value} {E : q_E} {g : q_G} {Q : Option Value → q_E → q_G → Prop} : q_X 17 12 L (.ref a :: S) E g Q = ((q_kd E a).1 = 10 ∧ ¬ q_rf E a 0 = 0 ∧ q_X 17 15 L (.ref (q_rf E a 0) :: S) E g Q) := x_getR (show q_P 17 12 = some (12, .getfield 9, 3, [6, 0, 1, 228], 0) by decide +kernel) rfl
theorem x17_15 {l1 : Value} {x : Nat} {S : List Value} {E : q_E} {g : q_G} {Q : Option Value → q_E → q_G → Prop} : q_X 17 15 [(.ref x), l1] S E g Q = q_X 17 16 [(.ref x), l1] ((.ref x) :: S) E g Q := q_X_stp (show q_P 17 15 = some (15, .aload_n 0, 1, [], 0) by decide +kernel) rfl rfl
theorem x17_16 {a : Nat} {L S : List Value} {E : q_E} {g : q_G} {Q : Option Value → q_E → q_G → Prop} : q_X 17 16 L (.ref a :: S) E g Q = ((q_kd E a).1 = 10 ∧ q_X 17 19 L (.int (g a 1) :: S) E g Q) := x_getI (show q_P 17 16 = some (16, .getfield 15, 3, [6, 1, 0, 229], 0) by decide +kernel) (by decide) rfl
theorem x17_19 {l0 : Value} {x : Int32} {S : List Value} {E : q_E} {g : q_G} {Q : Option Value → q_E → q_G → Prop} : q_X 17 19 [l0, (.int x)] S E g Q = q_X 17 20 [l0, (.int x)] ((.int x) :: S) E g Q := q_X_stp (show q_P 17 19 = some (19, .iload_n 1, 1, [], 0) by decide +kernel) rfl rfl
theorem x17_20 {a : Nat} {i x : Int32} {L S : List Value} {E : q_E} {g : q_G} {Q : Option Value → q_E → q_G → Prop} : q_X 17 20 L (.int x :: .int i :: .ref a :: S) E g Q = (((q_kd E a).1 = 3 ∧ vp_in i (q_kd E a).2) ∧ q_X 17 21 L S E (q_up g a i.toNatClampNeg (vp_nar .char x)) Q) := x_cast (show q_P 17 20 = some (20, .castore, 1, [], 0) by decide +kernel)
theorem x17_21 {l1 : Value} {x : Nat} {S : List Value} {E : q_E} {g : q_G} {Q : Option Value → q_E → q_G → Prop} : q_X 17 21 [(.ref x), l1] S E g Q = q_X 17 22 [(.ref x), l1] ((.ref x) :: S) E g Q := q_X_stp (show q_P 17 21 = some (21, .aload_n 0, 1, [], 0) by decide +kernel) rfl rfl
theorem x17_22 {x : Nat} {L S : List Value} {E : q_E} {g : q_G} {Q : Option Value → q_E → q_G → Prop} : q_X 17 22 L ((.ref x) :: S) E g Q = q_X 17 23 L ((.ref x) :: (.ref x) :: S) E g Q := q_X_stp (show q_P 17 22 = some (22, .dup, 1, [], 0) by decide +kernel) rfl rfl
theorem x17_23 {a : Nat} {L S : List Value} {E : q_E} {g : q_G} {Q : Option Value → q_E → q_G → Prop} : q_X 17 23 L (.ref a :: S) E g Q = ((q_kd E a).1 = 10 ∧ q_X 17 26 L (.int (g a 1) :: S) E g Q) := x_getI (show q_P 17 23 = some (23, .getfield 15, 3, [6, 1, 0, 229], 0) by decide +kernel) (by decide) rfl
theorem x17_26 {L S : List Value} {E : q_E} {g : q_G} {Q : Option Value → q_E → q_G → Prop} : q_X 17 26 L S E g Q = q_X 17 27 L (.int (nI 1) :: S) E g Q := x_iconst (show q_P 17 26 = some (26, .iconst 1, 1, [], 0) by decide +kernel) (by decide)
theorem x17_27 {x y : Int32} {L S : List Value} {E : q_E} {g : q_G} {Q : Option Value → q_E → q_G → Prop} : q_X 17 27 L (.int y :: .int x :: S) E g Q = q_X 17 28 L (.int (x + y) :: S) E g Q := x_iadd (show q_P 17 27 = some (27, .iadd, 1, [], 0) by decide +kernel)
theorem x17_28 {a : Nat} {v : Int32} {L S : List Value} {E : q_E} {g : q_G} {Q : Option Value → q_E → q_G → Prop} : q_X 17 28 L (.int v :: .ref a :: S) E g Q = ((q_kd E a).1 = 10 ∧ q_X 17 31 L S E (q_up g a 1 v) Q) := x_putI (show q_P 17 28 = some (28, .putfield 15, 3, [6, 1, 0, 229, 0], 0) by decide +kernel) rfl
theorem x17_31 {L S : List Value} {E : q_E} {g : q_G} {Q : Option Value → q_E → q_G → Prop} : q_X 17 31 L S E g Q = q_X 17 32 L (.int (nI 1) :: S) E g Q := x_iconst (show q_P 17 31 = some (31, .iconst 1, 1, [], 0) by decide +kernel) (by decide)
theorem x17_32 {v : Int32} {L : List Value} {E : q_E} {g : q_G} {Q : Option Value → q_E → q_G → Prop} : q_X 17 32 L [.int v] E g Q = (narrow .boolean (.int v) = .int v ∧ Q (some (.int v)) E g) := x_reti (show q_P 17 32 = some (32, .ireturn, 1, [], 0) by decide +kernel) rfl
-- X6_numbersOf
theorem x18_0 {x : Int32} {S : List Value} {E : q_E} {g : q_G} {Q : Option Value → q_E → q_G → Prop} : q_X 18 0 [(.int x)] S E g Q = q_X 18 1 [(.int x)] ((.int x) :: S) E g Q := q_X_stp (show q_P 18 0 = some (0, .iload_n 0, 1, [], 0) by decide +kernel) rfl rfl
set_option maxRecDepth 20000 in
theorem x18_1 {x : Int32} {L S : List Value} {E : q_E} {g : q_G} {Q : Option Value → q_E → q_G → Prop} : q_X 18 1 L (.int x :: S) E g Q = (if x = nI 100 then q_X 18 56 L S E g Q else if x = nI 108 then q_X 18 52 L S E g Q else if x = nI 111 then q_X 18 54 L S E g Q else if x = nI 115 then q_X 18 56 L S E g Q else if x = nI 118 then q_X 18 52 L S E g Q else q_X 18 58 L S E g Q) := by
  by_cases h0 : x = nI 100
  · subst h0; rw [ if_pos rfl]; exact q_X_stp (show q_P 18 1 = some (1, .lookupswitch 57 #[(100, 55), (108, 51), (111, 53), (115, 55), (118, 51)], 51, [], 0) by decide +kernel) rfl (by rfl)
  by_cases h1 : x = nI 108
  · subst h1; rw [if_neg h0, if_pos rfl]; exact q_X_stp (show q_P 18 1 = some (1, .lookupswitch 57 #[(100, 55), (108, 51), (111, 53), (115, 55), (118, 51)], 51, [], 0) by decide +kernel) rfl (by rfl)
  by_cases h2 : x = nI 111
  · subst h2; rw [if_neg h0, if_neg h1, if_pos rfl]; exact q_X_stp (show q_P 18 1 = some (1, .lookupswitch 57 #[(100, 55), (108, 51), (111, 53), (115, 55), (118, 51)], 51, [], 0) by decide +kernel) rfl (by rfl)
  by_cases h3 : x = nI 115
  · subst h3; rw [if_neg h0, if_neg h1, if_neg h2, if_pos rfl]; exact q_X_stp (show q_P 18 1 = some (1, .lookupswitch 57 #[(100, 55), (108, 51), (111, 53), (115, 55), (118, 51)], 51, [], 0) by decide +kernel) rfl (by rfl)
  by_cases h4 : x = nI 118
  · subst h4; rw [if_neg h0, if_neg h1, if_neg h2, if_neg h3, if_pos rfl]; exact q_X_stp (show q_P 18 1 = some (1, .lookupswitch 57 #[(100, 55), (108, 51), (111, 53), (115, 55), (118, 51)], 51, [], 0) by decide +kernel) rfl (by rfl)
  rw [if_neg h0, if_neg h1, if_neg h2, if_neg h3, if_neg h4]
  refine q_X_stp (show q_P 18 1 = some (1, .lookupswitch 57 #[(100, 55), (108, 51), (111, 53), (115, 55), (118, 51)], 51, [], 0) by decide +kernel) rfl ?_
  have e : x = Int32.ofInt x.toInt := by simp
  show some (q_j 1 (Op.lookupswitch.offset [(100, 55), (108, 51), (111, 53), (115, 55), (118, 51)] 57 x.toInt), L, S, E, g) = _
  rw [Op.lookupswitch.offset_cons, if_neg (fun q => h0 (by rw [e, ← q]; decide)), Op.lookupswitch.offset_cons, if_neg (fun q => h1 (by rw [e, ← q]; decide)), Op.lookupswitch.offset_cons, if_neg (fun q => h2 (by rw [e, ← q]; decide)), Op.lookupswitch.offset_cons, if_neg (fun q => h3 (by rw [e, ← q]; decide)), Op.lookupswitch.offset_cons, if_neg (fun q => h4 (by rw [e, ← q]; decide)), Op.lookupswitch.offset_nil]
  rfl
theorem x18_52 {L S : List Value} {E : q_E} {g : q_G} {Q : Option Value → q_E → q_G → Prop} : q_X 18 52 L S E g Q = q_X 18 53 L (.int (nI 3) :: S) E g Q := x_iconst (show q_P 18 52 = some (52, .iconst 3, 1, [], 0) by decide +kernel) (by decide)
theorem x18_53 {v : Int32} {L : List Value} {E : q_E} {g : q_G} {Q : Option Value → q_E → q_G → Prop} : q_X 18 53 L [.int v] E g Q = Q (some (.int v)) E g := x_retI (show q_P 18 53 = some (53, .ireturn, 1, [], 0) by decide +kernel) rfl
theorem x18_54 {L S : List Value} {E : q_E} {g : q_G} {Q : Option Value → q_E → q_G → Prop} : q_X 18 54 L S E g Q = q_X 18 55 L (.int (nI 2) :: S) E g Q := x_iconst (show q_P 18 54 = some (54, .iconst 2, 1, [], 0) by decide +kernel) (by decide)
theorem x18_55 {v : Int32} {L : List Value} {E : q_E} {g : q_G} {Q : Option Value → q_E → q_G → Prop} : q_X 18 55 L [.int v] E g Q = Q (some (.int v)) E g := x_retI (show q_P 18 55 = some (55, .ireturn, 1, [], 0) by decide +kernel) rfl
theorem x18_56 {L S : List Value} {E : q_E} {g : q_G} {Q : Option Value → q_E → q_G → Prop} : q_X 18 56 L S E g Q = q_X 18 57 L (.int (nI 1) :: S) E g Q := x_iconst (show q_P 18 56 = some (56, .iconst 1, 1, [], 0) by decide +kernel) (by decide)
theorem x18_57 {v : Int32} {L : List Value} {E : q_E} {g : q_G} {Q : Option Value → q_E → q_G → Prop} : q_X 18 57 L [.int v] E g Q = Q (some (.int v)) E g := x_retI (show q_P 18 57 = some (57, .ireturn, 1, [], 0) by decide +kernel) rfl
theorem x18_58 {L S : List Value} {E : q_E} {g : q_G} {Q : Option Value → q_E → q_G → Prop} : q_X 18 58 L S E g Q = q_X 18 59 L (.int (nI 0) :: S) E g Q := x_iconst (show q_P 18 58 = some (58, .iconst 0, 1, [], 0) by decide +kernel) (by decide)
theorem x18_59 {v : Int32} {L : List Value} {E : q_E} {g : q_G} {Q : Option Value → q_E → q_G → Prop} : q_X 18 59 L [.int v] E g Q = Q (some (.int v)) E g := x_retI (show q_P 18 59 = some (59, .ireturn, 1, [], 0) by decide +kernel) rfl
-- X6_signAt
theorem x19_0 {l0 : Value} {x : Int32} {S : List Value} {E : q_E} {g : q_G} {Q : Option Value → q_E → q_G → Prop} : q_X 19 0 [l0, (.int x)] S E g Q = q_X 19 1 [l0, (.int x)] ((.int x) :: S) E g Q := q_X_stp (show q_P 19 0 = some (0, .iload_n 1, 1, [], 0) by decide +kernel) rfl rfl
theorem x19_1 {x : Int32} {L S : List Value} {E : q_E} {g : q_G} {Q : Option Value → q_E → q_G → Prop} : q_X 19 1 L (.int x :: S) E g Q = (if x < nI 0 then q_X 19 21 L S E g Q else q_X 19 4 L S E g Q) := x_zlt (show q_P 19 1 = some (1, .ifCond .lt 20, 3, [], 0) by decide +kernel) (by decide)
theorem x19_4 {l0 : Value} {x : Int32} {S : List Value} {E : q_E} {g : q_G} {Q : Option Value → q_E → q_G → Prop} : q_X 19 4 [l0, (.int x)] S E g Q = q_X 19 5 [l0, (.int x)] ((.int x) :: S) E g Q := q_X_stp (show q_P 19 4 = some (4, .iload_n 1, 1, [], 0) by decide +kernel) rfl rfl
theorem x19_5 {l1 : Value} {x : Nat} {S : List Value} {E : q_E} {g : q_G} {Q : Option Value → q_E → q_G → Prop} : q_X 19 5 [(.ref x), l1] S E g Q = q_X 19 6 [(.ref x), l1] ((.ref x) :: S) E g Q := q_X_stp (show q_P 19 5 = some (5, .aload_n 0, 1, [], 0) by decide +kernel) rfl rfl
theorem x19_6 {a : Nat} {L S : List Value} {E : q_E} {g : q_G} {Q : Option Value → q_E → q_G → Prop} : q_X 19 6 L (.ref a :: S) E g Q = ((q_kd E a).1 = 10 ∧ q_X 19 9 L (.int (g a 1) :: S) E g Q) := x_getI (show q_P 19 6 = some (6, .getfield 15, 3, [6, 1, 0, 229], 0) by decide +kernel) (by decide) rfl
theorem x19_9 {x y : Int32} {L S : List Value} {E : q_E} {g : q_G} {Q : Option Value → q_E → q_G → Prop} : q_X 19 9 L (.int y :: .int x :: S) E g Q = (if y ≤ x then q_X 19 21 L S E g Q else q_X 19 12 L S E g Q) := x_ige (show q_P 19 9 = some (9, .if_icmp .ge 12, 3, [], 0) by decide +kernel) (by decide)
theorem x19_12 {l1 : Value} {x : Nat} {S : List Value} {E : q_E} {g : q_G} {Q : Option Value → q_E → q_G → Prop} : q_X 19 12 [(.ref x), l1] S E g Q = q_X 19 13 [(.ref x), l1] ((.ref x) :: S) E g Q := q_X_stp (show q_P 19 12 = some (12, .aload_n 0, 1, [], 0) by decide +kernel) rfl rfl
theorem x19_13 {a : Nat} {L S : List Value} {E : q_E} {g : q_G} {Q : Option Value → q_E → q_G → Prop} : q_X 19 13 L (.ref a :: S) E g Q = ((q_kd E a).1 = 10 ∧ ¬ q_rf E a 0 = 0 ∧ q_X 19 16 L (.ref (q_rf E a 0) :: S) E g Q) := x_getR (show q_P 19 13 = some (13, .getfield 9, 3, [6, 0, 1, 228], 0) by decide +kernel) rfl
theorem x19_16 {l0 : Value} {x : Int32} {S : List Value} {E : q_E} {g : q_G} {Q : Option Value → q_E → q_G → Prop} : q_X 19 16 [l0, (.int x)] S E g Q = q_X 19 17 [l0, (.int x)] ((.int x) :: S) E g Q := q_X_stp (show q_P 19 16 = some (16, .iload_n 1, 1, [], 0) by decide +kernel) rfl rfl
theorem x19_17 {a : Nat} {i : Int32} {L S : List Value} {E : q_E} {g : q_G} {Q : Option Value → q_E → q_G → Prop} : q_X 19 17 L (.int i :: .ref a :: S) E g Q = (((q_kd E a).1 = 3 ∧ vp_in i (q_kd E a).2) ∧ q_X 19 18 L (.int (g a i.toNatClampNeg) :: S) E g Q) := x_cald (show q_P 19 17 = some (17, .caload, 1, [], 0) by decide +kernel)
theorem x19_18 {L S : List Value} {E : q_E} {g : q_G} {Q : Option Value → q_E → q_G → Prop} : q_X 19 18 L S E g Q = q_X 19 22 L S E g Q := x_goto (show q_P 19 18 = some (18, .goto 4, 3, [], 0) by decide +kernel) (by decide)
theorem x19_21 {L S : List Value} {E : q_E} {g : q_G} {Q : Option Value → q_E → q_G → Prop} : q_X 19 21 L S E g Q = q_X 19 22 L (.int (nI 0) :: S) E g Q := x_iconst (show q_P 19 21 = some (21, .iconst 0, 1, [], 0) by decide +kernel) (by decide)
theorem x19_22 {v : Int32} {L : List Value} {E : q_E} {g : q_G} {Q : Option Value → q_E → q_G → Prop} : q_X 19 22 L [.int v] E g Q = (narrow .char (.int v) = .int v ∧ Q (some (.int v)) E g) := x_reti (show q_P 19 22 = some (22, .ireturn, 1, [], 0) by decide +kernel) rfl
-- X7_has
theorem x20_0 {l0 : Value} {x : Int32} {S : List Value} {E : q_E} {g : q_G} {Q : Option Value → q_E → q_G → Prop} : q_X 20 0 [l0, (.int x)] S E g Q = q_X 20 1 [l0, (.int x)] ((.int x) :: S) E g Q := q_X_stp (show q_P 20 0 = some (0, .iload_n 1, 1, [], 0) by decide +kernel) rfl rfl
theorem x20_1 {x : Int32} {L S : List Value} {E : q_E} {g : q_G} {Q : Option Value → q_E → q_G → Prop} : q_X 20 1 L (.int x :: S) E g Q = (if x < nI 0 then q_X 20 16 L S E g Q else q_X 20 4 L S E g Q) := x_zlt (show q_P 20 1 = some (1, .ifCond .lt 15, 3, [], 0) by decide +kernel) (by decide)
theorem x20_4 {l0 : Value} {x : Int32} {S : List Value} {E : q_E} {g : q_G} {Q : Option Value → q_E → q_G → Prop} : q_X 20 4 [l0, (.int x)] S E g Q = q_X 20 5 [l0, (.int x)] ((.int x) :: S) E g Q := q_X_stp (show q_P 20 4 = some (4, .iload_n 1, 1, [], 0) by decide +kernel) rfl rfl
theorem x20_5 {l1 : Value} {x : Nat} {S : List Value} {E : q_E} {g : q_G} {Q : Option Value → q_E → q_G → Prop} : q_X 20 5 [(.ref x), l1] S E g Q = q_X 20 6 [(.ref x), l1] ((.ref x) :: S) E g Q := q_X_stp (show q_P 20 5 = some (5, .aload_n 0, 1, [], 0) by decide +kernel) rfl rfl
theorem x20_6 {a : Nat} {L S : List Value} {E : q_E} {g : q_G} {Q : Option Value → q_E → q_G → Prop} : q_X 20 6 L (.ref a :: S) E g Q = ((q_kd E a).1 = 11 ∧ q_X 20 9 L (.int (g a 0) :: S) E g Q) := x_getI (show q_P 20 6 = some (6, .getfield 9, 3, [7, 0, 0, 88], 0) by decide +kernel) (by decide) rfl
theorem x20_9 {x y : Int32} {L S : List Value} {E : q_E} {g : q_G} {Q : Option Value → q_E → q_G → Prop} : q_X 20 9 L (.int y :: .int x :: S) E g Q = (if y ≤ x then q_X 20 16 L S E g Q else q_X 20 12 L S E g Q) := x_ige (show q_P 20 9 = some (9, .if_icmp .ge 7, 3, [], 0) by decide +kernel) (by decide)
theorem x20_12 {L S : List Value} {E : q_E} {g : q_G} {Q : Option Value → q_E → q_G → Prop} : q_X 20 12 L S E g Q = q_X 20 13 L (.int (nI 1) :: S) E g Q := x_iconst (show q_P 20 12 = some (12, .iconst 1, 1, [], 0) by decide +kernel) (by decide)
theorem x20_13 {L S : List Value} {E : q_E} {g : q_G} {Q : Option Value → q_E → q_G → Prop} : q_X 20 13 L S E g Q = q_X 20 17 L S E g Q := x_goto (show q_P 20 13 = some (13, .goto 4, 3, [], 0) by decide +kernel) (by decide)
theorem x20_16 {L S : List Value} {E : q_E} {g : q_G} {Q : Option Value → q_E → q_G → Prop} : q_X 20 16 L S E g Q = q_X 20 17 L (.int (nI 0) :: S) E g Q := x_iconst (show q_P 20 16 = some (16, .iconst 0, 1, [], 0) by decide +kernel) (by decide)
theorem x20_17 {v : Int32} {L : List Value} {E : q_E} {g : q_G} {Q : Option Value → q_E → q_G → Prop} : q_X 20 17 L [.int v] E g Q = (narrow .boolean (.int v) = .int v ∧ Q (some (.int v)) E g) := x_reti (show q_P 20 17 = some (17, .ireturn, 1, [], 0) by decide +kernel) rfl
-- X8_areBeside
theorem x21_0 {L S : List Value} {E : q_E} {g : q_G} {Q : Option Value → q_E → q_G → Prop} : q_X 21 0 L S E g Q = q_X 21 3 L (.ref 2 :: S) E g Q := x_gets (show q_P 21 0 = some (0, .getstatic 253, 3, [0, 467], 0) by decide +kernel)
theorem x21_3 {l1 : Value} {x : Int32} {S : List Value} {E : q_E} {g : q_G} {Q : Option Value → q_E → q_G → Prop} : q_X 21 3 [(.int x), l1] S E g Q = q_X 21 4 [(.int x), l1] ((.int x) :: S) E g Q := q_X_stp (show q_P 21 3 = some (3, .iload_n 0, 1, [], 0) by decide +kernel) rfl rfl
theorem x21_4 {a : Nat} {i : Int32} {L S : List Value} {E : q_E} {g : q_G} {Q : Option Value → q_E → q_G → Prop} : q_X 21 4 L (.int i :: .ref a :: S) E g Q = ((((q_kd E a).1 = 1 ∨ (q_kd E a).1 = 2) ∧ vp_in i (q_kd E a).2) ∧ q_X 21 5 L (.int (g a i.toNatClampNeg) :: S) E g Q) := x_iald (show q_P 21 4 = some (4, .iaload, 1, [], 0) by decide +kernel)
theorem x21_5 {l0 : Value} {x : Int32} {S : List Value} {E : q_E} {g : q_G} {Q : Option Value → q_E → q_G → Prop} : q_X 21 5 [l0, (.int x)] S E g Q = q_X 21 6 [l0, (.int x)] ((.int x) :: S) E g Q := q_X_stp (show q_P 21 5 = some (5, .iload_n 1, 1, [], 0) by decide +kernel) rfl rfl
theorem x21_6 {x y : Int32} {L S : List Value} {E : q_E} {g : q_G} {Q : Option Value → q_E → q_G → Prop} : q_X 21 6 L (.int y :: .int x :: S) E g Q = q_X 21 7 L (.int (x >>> (y &&& 31)) :: S) E g Q := x_ishr (show q_P 21 6 = some (6, .ishr, 1, [], 0) by decide +kernel)
theorem x21_7 {L S : List Value} {E : q_E} {g : q_G} {Q : Option Value → q_E → q_G → Prop} : q_X 21 7 L S E g Q = q_X 21 8 L (.int (nI 1) :: S) E g Q := x_iconst (show q_P 21 7 = some (7, .iconst 1, 1, [], 0) by decide +kernel) (by decide)
theorem x21_8 {x y : Int32} {L S : List Value} {E : q_E} {g : q_G} {Q : Option Value → q_E → q_G → Prop} : q_X 21 8 L (.int y :: .int x :: S) E g Q = q_X 21 9 L (.int (x &&& y) :: S) E g Q := x_iand (show q_P 21 8 = some (8, .iand, 1, [], 0) by decide +kernel)
theorem x21_9 {L S : List Value} {E : q_E} {g : q_G} {Q : Option Value → q_E → q_G → Prop} : q_X 21 9 L S E g Q = q_X 21 10 L (.int (nI 1) :: S) E g Q := x_iconst (show q_P 21 9 = some (9, .iconst 1, 1, [], 0) by decide +kernel) (by decide)
theorem x21_10 {x y : Int32} {L S : List Value} {E : q_E} {g : q_G} {Q : Option Value → q_E → q_G → Prop} : q_X 21 10 L (.int y :: .int x :: S) E g Q = (if x = y then q_X 21 13 L S E g Q else q_X 21 17 L S E g Q) := x_ine (show q_P 21 10 = some (10, .if_icmp .ne 7, 3, [], 0) by decide +kernel) (by decide)
theorem x21_13 {L S : List Value} {E : q_E} {g : q_G} {Q : Option Value → q_E → q_G → Prop} : q_X 21 13 L S E g Q = q_X 21 14 L (.int (nI 1) :: S) E g Q := x_iconst (show q_P 21 13 = some (13, .iconst 1, 1, [], 0) by decide +kernel) (by decide)
theorem x21_14 {L S : List Value} {E : q_E} {g : q_G} {Q : Option Value → q_E → q_G → Prop} : q_X 21 14 L S E g Q = q_X 21 18 L S E g Q := x_goto (show q_P 21 14 = some (14, .goto 4, 3, [], 0) by decide +kernel) (by decide)
theorem x21_17 {L S : List Value} {E : q_E} {g : q_G} {Q : Option Value → q_E → q_G → Prop} : q_X 21 17 L S E g Q = q_X 21 18 L (.int (nI 0) :: S) E g Q := x_iconst (show q_P 21 17 = some (17, .iconst 0, 1, [], 0) by decide +kernel) (by decide)
theorem x21_18 {v : Int32} {L : List Value} {E : q_E} {g : q_G} {Q : Option Value → q_E → q_G → Prop} : q_X 21 18 L [.int v] E g Q = (narrow .boolean (.int v) = .int v ∧ Q (some (.int v)) E g) := x_reti (show q_P 21 18 = some (18, .ireturn, 1, [], 0) by decide +kernel) rfl
-- X8_bitsOf
theorem x22_0 {l1 l2 l3 : Value} {x : UInt32} {S : List Value} {E : q_E} {g : q_G} {Q : Option Value → q_E → q_G → Prop} : q_X 22 0 [(.float x), l1, l2, l3] S E g Q = q_X 22 1 [(.float x), l1, l2, l3] ((.float x) :: S) E g Q := q_X_stp (show q_P 22 0 = some (0, .fload_n 0, 1, [], 0) by decide +kernel) rfl rfl
theorem x22_1 {L S : List Value} {E : q_E} {g : q_G} {Q : Option Value → q_E → q_G → Prop} : q_X 22 1 L S E g Q = q_X 22 2 L (.float FP.fconst0 :: S) E g Q := q_X_stp (show q_P 22 1 = some (1, .fconst 0, 1, [], 0) by decide +kernel) rfl rfl
theorem x22_2 {x y : UInt32} {L S : List Value} {E : q_E} {g : q_G} {Q : Option Value → q_E → q_G → Prop} : q_X 22 2 L (.float y :: .float x :: S) E g Q = q_X 22 3 L (.int (Op.cmpValue (FP.fcmp x y) .l) :: S) E g Q := x_fcmp (show q_P 22 2 = some (2, .fcmp .l, 1, [], 0) by decide +kernel)
theorem x22_3 {x : Int32} {L S : List Value} {E : q_E} {g : q_G} {Q : Option Value → q_E → q_G → Prop} : q_X 22 3 L (.int x :: S) E g Q = (if nI 0 < x then q_X 22 8 L S E g Q else q_X 22 6 L S E g Q) := x_zgt (show q_P 22 3 = some (3, .ifCond .gt 5, 3, [], 0) by decide +kernel) (by decide)
theorem x22_6 {L S : List Value} {E : q_E} {g : q_G} {Q : Option Value → q_E → q_G → Prop} : q_X 22 6 L S E g Q = q_X 22 7 L (.int (nI 0) :: S) E g Q := x_iconst (show q_P 22 6 = some (6, .iconst 0, 1, [], 0) by decide +kernel) (by decide)
theorem x22_7 {v : Int32} {L : List Value} {E : q_E} {g : q_G} {Q : Option Value → q_E → q_G → Prop} : q_X 22 7 L [.int v] E g Q = Q (some (.int v)) E g := x_retI (show q_P 22 7 = some (7, .ireturn, 1, [], 0) by decide +kernel) rfl
theorem x22_8 {l1 l2 l3 : Value} {x : UInt32} {S : List Value} {E : q_E} {g : q_G} {Q : Option Value → q_E → q_G → Prop} : q_X 22 8 [(.float x), l1, l2, l3] S E g Q = q_X 22 9 [(.float x), l1, l2, l3] ((.float x) :: S) E g Q := q_X_stp (show q_P 22 8 = some (8, .fload_n 0, 1, [], 0) by decide +kernel) rfl rfl
theorem x22_9 {l0 l1 l2 l3 : Value} {x : UInt32} {S : List Value} {E : q_E} {g : q_G} {Q : Option Value → q_E → q_G → Prop} : q_X 22 9 [l0, l1, l2, l3] ((.float x) :: S) E g Q = q_X 22 10 [l0, (.float x), l2, l3] S E g Q := q_X_stp (show q_P 22 9 = some (9, .fstore_n 1, 1, [], 0) by decide +kernel) rfl rfl
theorem x22_10 {L S : List Value} {E : q_E} {g : q_G} {Q : Option Value → q_E → q_G → Prop} : q_X 22 10 L S E g Q = q_X 22 12 L (.int (nI 127) :: S) E g Q := x_bipush (show q_P 22 10 = some (10, .bipush 127, 2, [], 0) by decide +kernel) (by decide)
theorem x22_12 {l0 l1 l2 l3 : Value} {x : Int32} {S : List Value} {E : q_E} {g : q_G} {Q : Option Value → q_E → q_G → Prop} : q_X 22 12 [l0, l1, l2, l3] ((.int x) :: S) E g Q = q_X 22 13 [l0, l1, (.int x), l3] S E g Q := q_X_stp (show q_P 22 12 = some (12, .istore_n 2, 1, [], 0) by decide +kernel) rfl rfl
theorem x22_13 {L S : List Value} {E : q_E} {g : q_G} {Q : Option Value → q_E → q_G → Prop} : q_X 22 13 L S E g Q = q_X 22 14 L (.int (nI 0) :: S) E g Q := x_iconst (show q_P 22 13 = some (13, .iconst 0, 1, [], 0) by decide +kernel) (by decide)
theorem x22_14 {l0 l1 l2 l3 : Value} {x : Int32} {S : List Value} {E : q_E} {g : q_G} {Q : Option Value → q_E → q_G → Prop} : q_X 22 14 [l0, l1, l2, l3] ((.int x) :: S) E g Q = q_X 22 15 [l0, l1, l2, (.int x)] S E g Q := q_X_stp (show q_P 22 14 = some (14, .istore_n 3, 1, [], 0) by decide +kernel) rfl rfl
theorem x22_15 {l0 l1 l2 : Value} {x : Int32} {S : List Value} {E : q_E} {g : q_G} {Q : Option Value → q_E → q_G → Prop} : q_X 22 15 [l0, l1, l2, (.int x)] S E g Q = q_X 22 16 [l0, l1, l2, (.int x)] ((.int x) :: S) E g Q := q_X_stp (show q_P 22 15 = some (15, .iload_n 3, 1, [], 0) by decide +kernel) rfl rfl
theorem x22_16 {L S : List Value} {E : q_E} {g : q_G} {Q : Option Value → q_E → q_G → Prop} : q_X 22 16 L S E g Q = q_X 22 19 L (.int (nI 200) :: S) E g Q := x_sipush (show q_P 22 16 = some (16, .sipush 200, 3, [], 0) by decide +kernel) (by decide)
theorem x22_19 {x y : Int32} {L S : List Value} {E : q_E} {g : q_G} {Q : Option Value → q_E → q_G → Prop} : q_X 22 19 L (.int y :: .int x :: S) E g Q = (if y ≤ x then q_X 22 41 L S E g Q else q_X 22 22 L S E g Q) := x_ige (show q_P 22 19 = some (19, .if_icmp .ge 22, 3, [], 0) by decide +kernel) (by decide)
theorem x22_22 {l0 l2 l3 : Value} {x : UInt32} {S : List Value} {E : q_E} {g : q_G} {Q : Option Value → q_E → q_G → Prop} : q_X 22 22 [l0, (.float x), l2, l3] S E g Q = q_X 22 23 [l0, (.float x), l2, l3] ((.float x) :: S) E g Q := q_X_stp (show q_P 22 22 = some (22, .fload_n 1, 1, [], 0) by decide +kernel) rfl rfl
theorem x22_23 {L S : List Value} {E : q_E} {g : q_G} {Q : Option Value → q_E → q_G → Prop} : q_X 22 23 L S E g Q = q_X 22 24 L (.float FP.fconst2 :: S) E g Q := q_X_stp (show q_P 22 23 = some (23, .fconst 2, 1, [], 0) by decide +kernel) rfl rfl
theorem x22_24 {x y : UInt32} {L S : List Value} {E : q_E} {g : q_G} {Q : Option Value → q_E → q_G → Prop} : q_X 22 24 L (.float y :: .float x :: S) E g Q = q_X 22 25 L (.int (Op.cmpValue (FP.fcmp x y) .l) :: S) E g Q := x_fcmp (show q_P 22 24 = some (24, .fcmp .l, 1, [], 0) by decide +kernel)
theorem x22_25 {x : Int32} {L S : List Value} {E : q_E} {g : q_G} {Q : Option Value → q_E → q_G → Prop} : q_X 22 25 L (.int x :: S) E g Q = (if x < nI 0 then q_X 22 41 L S E g Q else q_X 22 28 L S E g Q) := x_zlt (show q_P 22 25 = some (25, .ifCond .lt 16, 3, [], 0) by decide +kernel) (by decide)
theorem x22_28 {l0 l2 l3 : Value} {x : UInt32} {S : List Value} {E : q_E} {g : q_G} {Q : Option Value → q_E → q_G → Prop} : q_X 22 28 [l0, (.float x), l2, l3] S E g Q = q_X 22 29 [l0, (.float x), l2, l3] ((.float x) :: S) E g Q := q_X_stp (show q_P 22 28 = some (28, .fload_n 1, 1, [], 0) by decide +kernel) rfl rfl
theorem x22_29 {L S : List Value} {E : q_E} {g : q_G} {Q : Option Value → q_E → q_G → Prop} : q_X 22 29 L S E g Q = q_X 22 30 L (.float FP.fconst2 :: S) E g Q := q_X_stp (show q_P 22 29 = some (29, .fconst 2, 1, [], 0) by decide +kernel) rfl rfl
theorem x22_30 {x y : UInt32} {L S : List Value} {E : q_E} {g : q_G} {Q : Option Value → q_E → q_G → Prop} : q_X 22 30 L (.float y :: .float x :: S) E g Q = (FP.fdiv x y &&& 0x7fffffff ≤ 0x7f800000 ∧ q_X 22 31 L (.float (FP.fdiv x y) :: S) E g Q) := x_fdiv (show q_P 22 30 = some (30, .fdiv, 1, [], 0) by decide +kernel)
theorem x22_31 {l0 l1 l2 l3 : Value} {x : UInt32} {S : List Value} {E : q_E} {g : q_G} {Q : Option Value → q_E → q_G → Prop} : q_X 22 31 [l0, l1, l2, l3] ((.float x) :: S) E g Q = q_X 22 32 [l0, (.float x), l2, l3] S E g Q := q_X_stp (show q_P 22 31 = some (31, .fstore_n 1, 1, [], 0) by decide +kernel) rfl rfl
theorem x22_32 {l0 l1 l3 : Value} {x : Int32} {S : List Value} {E : q_E} {g : q_G} {Q : Option Value → q_E → q_G → Prop} : q_X 22 32 [l0, l1, (.int x), l3] S E g Q = q_X 22 35 [l0, l1, (.int (x + (nI 1))), l3] S E g Q := q_X_stp (show q_P 22 32 = some (32, .iinc 2 1, 3, [], 0) by decide +kernel) rfl rfl
theorem x22_35 {l0 l1 l2 : Value} {x : Int32} {S : List Value} {E : q_E} {g : q_G} {Q : Option Value → q_E → q_G → Prop} : q_X 22 35 [l0, l1, l2, (.int x)] S E g Q = q_X 22 38 [l0, l1, l2, (.int (x + (nI 1)))] S E g Q := q_X_stp (show q_P 22 35 = some (35, .iinc 3 1, 3, [], 0) by decide +kernel) rfl rfl
theorem x22_38 {L S : List Value} {E : q_E} {g : q_G} {Q : Option Value → q_E → q_G → Prop} : q_X 22 38 L S E g Q = q_X 22 15 L S E g Q := x_goto (show q_P 22 38 = some (38, .goto (-23), 3, [], 0) by decide +kernel) (by decide)
theorem x22_41 {L S : List Value} {E : q_E} {g : q_G} {Q : Option Value → q_E → q_G → Prop} : q_X 22 41 L S E g Q = q_X 22 42 L (.int (nI 0) :: S) E g Q := x_iconst (show q_P 22 41 = some (41, .iconst 0, 1, [], 0) by decide +kernel) (by decide)
theorem x22_42 {l0 l1 l2 l3 : Value} {x : Int32} {S : List Value} {E : q_E} {g : q_G} {Q : Option Value → q_E → q_G → Prop} : q_X 22 42 [l0, l1, l2, l3] ((.int x) :: S) E g Q = q_X 22 43 [l0, l1, l2, (.int x)] S E g Q := q_X_stp (show q_P 22 42 = some (42, .istore_n 3, 1, [], 0) by decide +kernel) rfl rfl
theorem x22_43 {l0 l1 l2 : Value} {x : Int32} {S : List Value} {E : q_E} {g : q_G} {Q : Option Value → q_E → q_G → Prop} : q_X 22 43 [l0, l1, l2, (.int x)] S E g Q = q_X 22 44 [l0, l1, l2, (.int x)] ((.int x) :: S) E g Q := q_X_stp (show q_P 22 43 = some (43, .iload_n 3, 1, [], 0) by decide +kernel) rfl rfl
theorem x22_44 {L S : List Value} {E : q_E} {g : q_G} {Q : Option Value → q_E → q_G → Prop} : q_X 22 44 L S E g Q = q_X 22 47 L (.int (nI 200) :: S) E g Q := x_sipush (show q_P 22 44 = some (44, .sipush 200, 3, [], 0) by decide +kernel) (by decide)
theorem x22_47 {x y : Int32} {L S : List Value} {E : q_E} {g : q_G} {Q : Option Value → q_E → q_G → Prop} : q_X 22 47 L (.int y :: .int x :: S) E g Q = (if y ≤ x then q_X 22 69 L S E g Q else q_X 22 50 L S E g Q) := x_ige (show q_P 22 47 = some (47, .if_icmp .ge 22, 3, [], 0) by decide +kernel) (by decide)
theorem x22_50 {l0 l2 l3 : Value} {x : UInt32} {S : List Value} {E : q_E} {g : q_G} {Q : Option Value → q_E → q_G → Prop} : q_X 22 50 [l0, (.float x), l2, l3] S E g Q = q_X 22 51 [l0, (.float x), l2, l3] ((.float x) :: S) E g Q := q_X_stp (show q_P 22 50 = some (50, .fload_n 1, 1, [], 0) by decide +kernel) rfl rfl
theorem x22_51 {L S : List Value} {E : q_E} {g : q_G} {Q : Option Value → q_E → q_G → Prop} : q_X 22 51 L S E g Q = q_X 22 52 L (.float FP.fconst1 :: S) E g Q := q_X_stp (show q_P 22 51 = some (51, .fconst 1, 1, [], 0) by decide +kernel) rfl rfl
theorem x22_52 {x y : UInt32} {L S : List Value} {E : q_E} {g : q_G} {Q : Option Value → q_E → q_G → Prop} : q_X 22 52 L (.float y :: .float x :: S) E g Q = q_X 22 53 L (.int (Op.cmpValue (FP.fcmp x y) .g) :: S) E g Q := x_fcmp (show q_P 22 52 = some (52, .fcmp .g, 1, [], 0) by decide +kernel)
theorem x22_53 {x : Int32} {L S : List Value} {E : q_E} {g : q_G} {Q : Option Value → q_E → q_G → Prop} : q_X 22 53 L (.int x :: S) E g Q = (if nI 0 ≤ x then q_X 22 69 L S E g Q else q_X 22 56 L S E g Q) := x_zge (show q_P 22 53 = some (53, .ifCond .ge 16, 3, [], 0) by decide +kernel) (by decide)
theorem x22_56 {l0 l2 l3 : Value} {x : UInt32} {S : List Value} {E : q_E} {g : q_G} {Q : Option Value → q_E → q_G → Prop} : q_X 22 56 [l0, (.float x), l2, l3] S E g Q = q_X 22 57 [l0, (.float x), l2, l3] ((.float x) :: S) E g Q := q_X_stp (show q_P 22 56 = some (56, .fload_n 1, 1, [], 0) by decide +kernel) rfl rfl
theorem x22_57 {L S : List Value} {E : q_E} {g : q_G} {Q : Option Value → q_E → q_G → Prop} : q_X 22 57 L S E g Q = q_X 22 58 L (.float FP.fconst2 :: S) E g Q := q_X_stp (show q_P 22 57 = some (57, .fconst 2, 1, [], 0) by decide +kernel) rfl rfl
theorem x22_58 {x y : UInt32} {L S : List Value} {E : q_E} {g : q_G} {Q : Option Value → q_E → q_G → Prop} : q_X 22 58 L (.float y :: .float x :: S) E g Q = (FP.fmul x y &&& 0x7fffffff ≤ 0x7f800000 ∧ q_X 22 59 L (.float (FP.fmul x y) :: S) E g Q) := x_fmul (show q_P 22 58 = some (58, .fmul, 1, [], 0) by decide +kernel)
theorem x22_59 {l0 l1 l2 l3 : Value} {x : UInt32} {S : List Value} {E : q_E} {g : q_G} {Q : Option Value → q_E → q_G → Prop} : q_X 22 59 [l0, l1, l2, l3] ((.float x) :: S) E g Q = q_X 22 60 [l0, (.float x), l2, l3] S E g Q := q_X_stp (show q_P 22 59 = some (59, .fstore_n 1, 1, [], 0) by decide +kernel) rfl rfl
theorem x22_60 {l0 l1 l3 : Value} {x : Int32} {S : List Value} {E : q_E} {g : q_G} {Q : Option Value → q_E → q_G → Prop} : q_X 22 60 [l0, l1, (.int x), l3] S E g Q = q_X 22 63 [l0, l1, (.int (x + (-1))), l3] S E g Q := q_X_stp (show q_P 22 60 = some (60, .iinc 2 (-1), 3, [], 0) by decide +kernel) rfl rfl
theorem x22_63 {l0 l1 l2 : Value} {x : Int32} {S : List Value} {E : q_E} {g : q_G} {Q : Option Value → q_E → q_G → Prop} : q_X 22 63 [l0, l1, l2, (.int x)] S E g Q = q_X 22 66 [l0, l1, l2, (.int (x + (nI 1)))] S E g Q := q_X_stp (show q_P 22 63 = some (63, .iinc 3 1, 3, [], 0) by decide +kernel) rfl rfl
theorem x22_66 {L S : List Value} {E : q_E} {g : q_G} {Q : Option Value → q_E → q_G → Prop} : q_X 22 66 L S E g Q = q_X 22 43 L S E g Q := x_goto (show q_P 22 66 = some (66, .goto (-23), 3, [], 0) by decide +kernel) (by decide)
theorem x22_69 {l0 l2 l3 : Value} {x : UInt32} {S : List Value} {E : q_E} {g : q_G} {Q : Option Value → q_E → q_G → Prop} : q_X 22 69 [l0, (.float x), l2, l3] S E g Q = q_X 22 70 [l0, (.float x), l2, l3] ((.float x) :: S) E g Q := q_X_stp (show q_P 22 69 = some (69, .fload_n 1, 1, [], 0) by decide +kernel) rfl rfl
theorem x22_70 {L S : List Value} {E : q_E} {g : q_G} {Q : Option Value → q_E → q_G → Prop} : q_X 22 70 L S E g Q = q_X 22 71 L (.float FP.fconst1 :: S) E g Q := q_X_stp (show q_P 22 70 = some (70, .fconst 1, 1, [], 0) by decide +kernel) rfl rfl
theorem x22_71 {x y : UInt32} {L S : List Value} {E : q_E} {g : q_G} {Q : Option Value → q_E → q_G → Prop} : q_X 22 71 L (.float y :: .float x :: S) E g Q = (FP.fsub x y &&& 0x7fffffff ≤ 0x7f800000 ∧ q_X 22 72 L (.float (FP.fsub x y) :: S) E g Q) := x_fsub (show q_P 22 71 = some (71, .fsub, 1, [], 0) by decide +kernel)
theorem x22_72 {L S : List Value} {E : q_E} {g : q_G} {Q : Option Value → q_E → q_G → Prop} : q_X 22 72 L S E g Q = q_X 22 75 L (.float 1258291200 :: S) E g Q := x_ldcw (show q_P 22 72 = some (72, .ldc_w 262, 3, [1, 640], 1258291200) by decide +kernel) (by decide)
theorem x22_75 {x y : UInt32} {L S : List Value} {E : q_E} {g : q_G} {Q : Option Value → q_E → q_G → Prop} : q_X 22 75 L (.float y :: .float x :: S) E g Q = (FP.fmul x y &&& 0x7fffffff ≤ 0x7f800000 ∧ q_X 22 76 L (.float (FP.fmul x y) :: S) E g Q) := x_fmul (show q_P 22 75 = some (75, .fmul, 1, [], 0) by decide +kernel)
theorem x22_76 {x : UInt32} {L S : List Value} {E : q_E} {g : q_G} {Q : Option Value → q_E → q_G → Prop} : q_X 22 76 L (.float x :: S) E g Q = q_X 22 77 L (.int (FP.f2i x) :: S) E g Q := x_f2i (show q_P 22 76 = some (76, .f2i, 1, [], 0) by decide +kernel)
theorem x22_77 {l0 l1 l2 l3 : Value} {x : Int32} {S : List Value} {E : q_E} {g : q_G} {Q : Option Value → q_E → q_G → Prop} : q_X 22 77 [l0, l1, l2, l3] ((.int x) :: S) E g Q = q_X 22 78 [l0, l1, l2, (.int x)] S E g Q := q_X_stp (show q_P 22 77 = some (77, .istore_n 3, 1, [], 0) by decide +kernel) rfl rfl
theorem x22_78 {l0 l1 l3 : Value} {x : Int32} {S : List Value} {E : q_E} {g : q_G} {Q : Option Value → q_E → q_G → Prop} : q_X 22 78 [l0, l1, (.int x), l3] S E g Q = q_X 22 79 [l0, l1, (.int x), l3] ((.int x) :: S) E g Q := q_X_stp (show q_P 22 78 = some (78, .iload_n 2, 1, [], 0) by decide +kernel) rfl rfl
theorem x22_79 {L S : List Value} {E : q_E} {g : q_G} {Q : Option Value → q_E → q_G → Prop} : q_X 22 79 L S E g Q = q_X 22 81 L (.int (nI 23) :: S) E g Q := x_bipush (show q_P 22 79 = some (79, .bipush 23, 2, [], 0) by decide +kernel) (by decide)
theorem x22_81 {x y : Int32} {L S : List Value} {E : q_E} {g : q_G} {Q : Option Value → q_E → q_G → Prop} : q_X 22 81 L (.int y :: .int x :: S) E g Q = q_X 22 82 L (.int (x <<< (y &&& 31)) :: S) E g Q := x_ishl (show q_P 22 81 = some (81, .ishl, 1, [], 0) by decide +kernel)
theorem x22_82 {l0 l1 l2 : Value} {x : Int32} {S : List Value} {E : q_E} {g : q_G} {Q : Option Value → q_E → q_G → Prop} : q_X 22 82 [l0, l1, l2, (.int x)] S E g Q = q_X 22 83 [l0, l1, l2, (.int x)] ((.int x) :: S) E g Q := q_X_stp (show q_P 22 82 = some (82, .iload_n 3, 1, [], 0) by decide +kernel) rfl rfl
theorem x22_83 {x y : Int32} {L S : List Value} {E : q_E} {g : q_G} {Q : Option Value → q_E → q_G → Prop} : q_X 22 83 L (.int y :: .int x :: S) E g Q = q_X 22 84 L (.int (x + y) :: S) E g Q := x_iadd (show q_P 22 83 = some (83, .iadd, 1, [], 0) by decide +kernel)
theorem x22_84 {v : Int32} {L : List Value} {E : q_E} {g : q_G} {Q : Option Value → q_E → q_G → Prop} : q_X 22 84 L [.int v] E g Q = Q (some (.int v)) E g := x_retI (show q_P 22 84 = some (84, .ireturn, 1, [], 0) by decide +kernel) rfl
-- X8_clearText
theorem x23_0 {l1 : Value} {x : Nat} {S : List Value} {E : q_E} {g : q_G} {Q : Option Value → q_E → q_G → Prop} : q_X 23 0 [(.ref x), l1] S E g Q = q_X 23 1 [(.ref x), l1] ((.ref x) :: S) E g Q := q_X_stp (show q_P 23 0 = some (0, .aload_n 0, 1, [], 0) by decide +kernel) rfl rfl
theorem x23_1 {a : Nat} {L S : List Value} {E : q_E} {g : q_G} {Q : Option Value → q_E → q_G → Prop} : q_X 23 1 L (.ref a :: S) E g Q = ((q_kd E a).1 = 12 ∧ ¬ q_rf E a 7 = 0 ∧ q_X 23 4 L (.ref (q_rf E a 7) :: S) E g Q) := x_getR (show q_P 23 1 = some (1, .getfield 38, 3, [8, 7, 1, 280], 0) by decide +kernel) rfl
theorem x23_4 {a : Nat} {L S : List Value} {E : q_E} {g : q_G} {Q : Option Value → q_E → q_G → Prop} : q_X 23 4 L (.ref a :: S) E g Q = ((q_kd E a).1 = 10 ∧ q_X 23 7 L (.int (g a 1) :: S) E g Q) := x_getI (show q_P 23 4 = some (4, .getfield 212, 3, [6, 1, 0, 231], 0) by decide +kernel) (by decide) rfl
theorem x23_7 {l0 l1 : Value} {x : Int32} {S : List Value} {E : q_E} {g : q_G} {Q : Option Value → q_E → q_G → Prop} : q_X 23 7 [l0, l1] ((.int x) :: S) E g Q = q_X 23 8 [l0, (.int x)] S E g Q := q_X_stp (show q_P 23 7 = some (7, .istore_n 1, 1, [], 0) by decide +kernel) rfl rfl
theorem x23_8 {l1 : Value} {x : Nat} {S : List Value} {E : q_E} {g : q_G} {Q : Option Value → q_E → q_G → Prop} : q_X 23 8 [(.ref x), l1] S E g Q = q_X 23 9 [(.ref x), l1] ((.ref x) :: S) E g Q := q_X_stp (show q_P 23 8 = some (8, .aload_n 0, 1, [], 0) by decide +kernel) rfl rfl
theorem x23_9 {a : Nat} {L S : List Value} {E : q_E} {g : q_G} {Q : Option Value → q_E → q_G → Prop} : q_X 23 9 L (.ref a :: S) E g Q = ((q_kd E a).1 = 12 ∧ ¬ q_rf E a 7 = 0 ∧ q_X 23 12 L (.ref (q_rf E a 7) :: S) E g Q) := x_getR (show q_P 23 9 = some (9, .getfield 38, 3, [8, 7, 1, 280], 0) by decide +kernel) rfl
theorem x23_12 {L S : List Value} {E : q_E} {g : q_G} {Q : Option Value → q_E → q_G → Prop} : q_X 23 12 L S E g Q = q_X 23 13 L (.int (nI 0) :: S) E g Q := x_iconst (show q_P 23 12 = some (12, .iconst 0, 1, [], 0) by decide +kernel) (by decide)
theorem x23_13 {a : Nat} {v : Int32} {L S : List Value} {E : q_E} {g : q_G} {Q : Option Value → q_E → q_G → Prop} : q_X 23 13 L (.int v :: .ref a :: S) E g Q = ((q_kd E a).1 = 10 ∧ q_X 23 16 L S E (q_up g a 1 v) Q) := x_putI (show q_P 23 13 = some (13, .putfield 212, 3, [6, 1, 0, 231, 0], 0) by decide +kernel) rfl
theorem x23_16 {l0 : Value} {x : Int32} {S : List Value} {E : q_E} {g : q_G} {Q : Option Value → q_E → q_G → Prop} : q_X 23 16 [l0, (.int x)] S E g Q = q_X 23 17 [l0, (.int x)] ((.int x) :: S) E g Q := q_X_stp (show q_P 23 16 = some (16, .iload_n 1, 1, [], 0) by decide +kernel) rfl rfl
theorem x23_17 {v : Int32} {L : List Value} {E : q_E} {g : q_G} {Q : Option Value → q_E → q_G → Prop} : q_X 23 17 L [.int v] E g Q = Q (some (.int v)) E g := x_retI (show q_P 23 17 = some (17, .ireturn, 1, [], 0) by decide +kernel) rfl
-- X8_isWithin
theorem x24_0 {l1 l2 : Value} {x : Int32} {S : List Value} {E : q_E} {g : q_G} {Q : Option Value → q_E → q_G → Prop} : q_X 24 0 [(.int x), l1, l2] S E g Q = q_X 24 1 [(.int x), l1, l2] ((.int x) :: S) E g Q := q_X_stp (show q_P 24 0 = some (0, .iload_n 0, 1, [], 0) by decide +kernel) rfl rfl
theorem x24_1 {l0 l2 : Value} {x : Int32} {S : List Value} {E : q_E} {g : q_G} {Q : Option Value → q_E → q_G → Prop} : q_X 24 1 [l0, (.int x), l2] S E g Q = q_X 24 2 [l0, (.int x), l2] ((.int x) :: S) E g Q := q_X_stp (show q_P 24 1 = some (1, .iload_n 1, 1, [], 0) by decide +kernel) rfl rfl
theorem x24_2 {x y : Int32} {L S : List Value} {E : q_E} {g : q_G} {Q : Option Value → q_E → q_G → Prop} : q_X 24 2 L (.int y :: .int x :: S) E g Q = (if x < y then q_X 24 14 L S E g Q else q_X 24 5 L S E g Q) := x_ilt (show q_P 24 2 = some (2, .if_icmp .lt 12, 3, [], 0) by decide +kernel) (by decide)
theorem x24_5 {l1 l2 : Value} {x : Int32} {S : List Value} {E : q_E} {g : q_G} {Q : Option Value → q_E → q_G → Prop} : q_X 24 5 [(.int x), l1, l2] S E g Q = q_X 24 6 [(.int x), l1, l2] ((.int x) :: S) E g Q := q_X_stp (show q_P 24 5 = some (5, .iload_n 0, 1, [], 0) by decide +kernel) rfl rfl
theorem x24_6 {l0 l1 : Value} {x : Int32} {S : List Value} {E : q_E} {g : q_G} {Q : Option Value → q_E → q_G → Prop} : q_X 24 6 [l0, l1, (.int x)] S E g Q = q_X 24 7 [l0, l1, (.int x)] ((.int x) :: S) E g Q := q_X_stp (show q_P 24 6 = some (6, .iload_n 2, 1, [], 0) by decide +kernel) rfl rfl
theorem x24_7 {x y : Int32} {L S : List Value} {E : q_E} {g : q_G} {Q : Option Value → q_E → q_G → Prop} : q_X 24 7 L (.int y :: .int x :: S) E g Q = (if y < x then q_X 24 14 L S E g Q else q_X 24 10 L S E g Q) := x_igt (show q_P 24 7 = some (7, .if_icmp .gt 7, 3, [], 0) by decide +kernel) (by decide)
theorem x24_10 {L S : List Value} {E : q_E} {g : q_G} {Q : Option Value → q_E → q_G → Prop} : q_X 24 10 L S E g Q = q_X 24 11 L (.int (nI 1) :: S) E g Q := x_iconst (show q_P 24 10 = some (10, .iconst 1, 1, [], 0) by decide +kernel) (by decide)
theorem x24_11 {L S : List Value} {E : q_E} {g : q_G} {Q : Option Value → q_E → q_G → Prop} : q_X 24 11 L S E g Q = q_X 24 15 L S E g Q := x_goto (show q_P 24 11 = some (11, .goto 4, 3, [], 0) by decide +kernel) (by decide)
theorem x24_14 {L S : List Value} {E : q_E} {g : q_G} {Q : Option Value → q_E → q_G → Prop} : q_X 24 14 L S E g Q = q_X 24 15 L (.int (nI 0) :: S) E g Q := x_iconst (show q_P 24 14 = some (14, .iconst 0, 1, [], 0) by decide +kernel) (by decide)
theorem x24_15 {v : Int32} {L : List Value} {E : q_E} {g : q_G} {Q : Option Value → q_E → q_G → Prop} : q_X 24 15 L [.int v] E g Q = (narrow .boolean (.int v) = .int v ∧ Q (some (.int v)) E g) := x_reti (show q_P 24 15 = some (15, .ireturn, 1, [], 0) by decide +kernel) rfl
-- X8_sumOf
theorem x25_0 {L S : List Value} {E : q_E} {g : q_G} {Q : Option Value → q_E → q_G → Prop} : q_X 25 0 L S E g Q = q_X 25 1 L (.int (nI 0) :: S) E g Q := x_iconst (show q_P 25 0 = some (0, .iconst 0, 1, [], 0) by decide +kernel) (by decide)
theorem x25_1 {l0 l1 l2 l3 l4 l5 : Value} {x : Int32} {S : List Value} {E : q_E} {g : q_G} {Q : Option Value → q_E → q_G → Prop} : q_X 25 1 [l0, l1, l2, l3, l4, l5] ((.int x) :: S) E g Q = q_X 25 2 [l0, (.int x), l2, l3, l4, l5] S E g Q := q_X_stp (show q_P 25 1 = some (1, .istore_n 1, 1, [], 0) by decide +kernel) rfl rfl
theorem x25_2 {l1 l2 l3 l4 l5 : Value} {x : Nat} {S : List Value} {E : q_E} {g : q_G} {Q : Option Value → q_E → q_G → Prop} : q_X 25 2 [(.ref x), l1, l2, l3, l4, l5] S E g Q = q_X 25 3 [(.ref x), l1, l2, l3, l4, l5] ((.ref x) :: S) E g Q := q_X_stp (show q_P 25 2 = some (2, .aload_n 0, 1, [], 0) by decide +kernel) rfl rfl
theorem x25_3 {l0 l1 l2 l3 l4 l5 : Value} {x : Nat} {S : List Value} {E : q_E} {g : q_G} {Q : Option Value → q_E → q_G → Prop} : q_X 25 3 [l0, l1, l2, l3, l4, l5] ((.ref x) :: S) E g Q = q_X 25 4 [l0, l1, (.ref x), l3, l4, l5] S E g Q := q_X_stp (show q_P 25 3 = some (3, .astore_n 2, 1, [], 0) by decide +kernel) rfl rfl
theorem x25_4 {l0 l1 l3 l4 l5 : Value} {x : Nat} {S : List Value} {E : q_E} {g : q_G} {Q : Option Value → q_E → q_G → Prop} : q_X 25 4 [l0, l1, (.ref x), l3, l4, l5] S E g Q = q_X 25 5 [l0, l1, (.ref x), l3, l4, l5] ((.ref x) :: S) E g Q := q_X_stp (show q_P 25 4 = some (4, .aload_n 2, 1, [], 0) by decide +kernel) rfl rfl
theorem x25_5 {a : Nat} {L S : List Value} {E : q_E} {g : q_G} {Q : Option Value → q_E → q_G → Prop} : q_X 25 5 L (.ref a :: S) E g Q = (((q_kd E a).1 = 1 ∨ (q_kd E a).1 = 2 ∨ (q_kd E a).1 = 3) ∧ q_X 25 6 L (.int (nI (q_kd E a).2) :: S) E g Q) := x_alen (show q_P 25 5 = some (5, .arraylength, 1, [], 0) by decide +kernel)
theorem x25_6 {l0 l1 l2 l3 l4 l5 : Value} {x : Int32} {S : List Value} {E : q_E} {g : q_G} {Q : Option Value → q_E → q_G → Prop} : q_X 25 6 [l0, l1, l2, l3, l4, l5] ((.int x) :: S) E g Q = q_X 25 7 [l0, l1, l2, (.int x), l4, l5] S E g Q := q_X_stp (show q_P 25 6 = some (6, .istore_n 3, 1, [], 0) by decide +kernel) rfl rfl
theorem x25_7 {L S : List Value} {E : q_E} {g : q_G} {Q : Option Value → q_E → q_G → Prop} : q_X 25 7 L S E g Q = q_X 25 8 L (.int (nI 0) :: S) E g Q := x_iconst (show q_P 25 7 = some (7, .iconst 0, 1, [], 0) by decide +kernel) (by decide)
theorem x25_8 {l0 l1 l2 l3 l4 l5 : Value} {x : Int32} {S : List Value} {E : q_E} {g : q_G} {Q : Option Value → q_E → q_G → Prop} : q_X 25 8 [l0, l1, l2, l3, l4, l5] ((.int x) :: S) E g Q = q_X 25 10 [l0, l1, l2, l3, (.int x), l5] S E g Q := q_X_stp (show q_P 25 8 = some (8, .istore 4, 2, [], 0) by decide +kernel) rfl rfl
theorem x25_10 {l0 l1 l2 l3 l5 : Value} {x : Int32} {S : List Value} {E : q_E} {g : q_G} {Q : Option Value → q_E → q_G → Prop} : q_X 25 10 [l0, l1, l2, l3, (.int x), l5] S E g Q = q_X 25 12 [l0, l1, l2, l3, (.int x), l5] ((.int x) :: S) E g Q := q_X_stp (show q_P 25 10 = some (10, .iload 4, 2, [], 0) by decide +kernel) rfl rfl
theorem x25_12 {l0 l1 l2 l4 l5 : Value} {x : Int32} {S : List Value} {E : q_E} {g : q_G} {Q : Option Value → q_E → q_G → Prop} : q_X 25 12 [l0, l1, l2, (.int x), l4, l5] S E g Q = q_X 25 13 [l0, l1, l2, (.int x), l4, l5] ((.int x) :: S) E g Q := q_X_stp (show q_P 25 12 = some (12, .iload_n 3, 1, [], 0) by decide +kernel) rfl rfl
theorem x25_13 {x y : Int32} {L S : List Value} {E : q_E} {g : q_G} {Q : Option Value → q_E → q_G → Prop} : q_X 25 13 L (.int y :: .int x :: S) E g Q = (if y ≤ x then q_X 25 33 L S E g Q else q_X 25 16 L S E g Q) := x_ige (show q_P 25 13 = some (13, .if_icmp .ge 20, 3, [], 0) by decide +kernel) (by decide)
theorem x25_16 {l0 l1 l3 l4 l5 : Value} {x : Nat} {S : List Value} {E : q_E} {g : q_G} {Q : Option Value → q_E → q_G → Prop} : q_X 25 16 [l0, l1, (.ref x), l3, l4, l5] S E g Q = q_X 25 17 [l0, l1, (.ref x), l3, l4, l5] ((.ref x) :: S) E g Q := q_X_stp (show q_P 25 16 = some (16, .aload_n 2, 1, [], 0) by decide +kernel) rfl rfl
theorem x25_17 {l0 l1 l2 l3 l5 : Value} {x : Int32} {S : List Value} {E : q_E} {g : q_G} {Q : Option Value → q_E → q_G → Prop} : q_X 25 17 [l0, l1, l2, l3, (.int x), l5] S E g Q = q_X 25 19 [l0, l1, l2, l3, (.int x), l5] ((.int x) :: S) E g Q := q_X_stp (show q_P 25 17 = some (17, .iload 4, 2, [], 0) by decide +kernel) rfl rfl
theorem x25_19 {a : Nat} {i : Int32} {L S : List Value} {E : q_E} {g : q_G} {Q : Option Value → q_E → q_G → Prop} : q_X 25 19 L (.int i :: .ref a :: S) E g Q = ((((q_kd E a).1 = 1 ∨ (q_kd E a).1 = 2) ∧ vp_in i (q_kd E a).2) ∧ q_X 25 20 L (.int (g a i.toNatClampNeg) :: S) E g Q) := x_iald (show q_P 25 19 = some (19, .iaload, 1, [], 0) by decide +kernel)
theorem x25_20 {l0 l1 l2 l3 l4 l5 : Value} {x : Int32} {S : List Value} {E : q_E} {g : q_G} {Q : Option Value → q_E → q_G → Prop} : q_X 25 20 [l0, l1, l2, l3, l4, l5] ((.int x) :: S) E g Q = q_X 25 22 [l0, l1, l2, l3, l4, (.int x)] S E g Q := q_X_stp (show q_P 25 20 = some (20, .istore 5, 2, [], 0) by decide +kernel) rfl rfl
theorem x25_22 {l0 l2 l3 l4 l5 : Value} {x : Int32} {S : List Value} {E : q_E} {g : q_G} {Q : Option Value → q_E → q_G → Prop} : q_X 25 22 [l0, (.int x), l2, l3, l4, l5] S E g Q = q_X 25 23 [l0, (.int x), l2, l3, l4, l5] ((.int x) :: S) E g Q := q_X_stp (show q_P 25 22 = some (22, .iload_n 1, 1, [], 0) by decide +kernel) rfl rfl
theorem x25_23 {l0 l1 l2 l3 l4 : Value} {x : Int32} {S : List Value} {E : q_E} {g : q_G} {Q : Option Value → q_E → q_G → Prop} : q_X 25 23 [l0, l1, l2, l3, l4, (.int x)] S E g Q = q_X 25 25 [l0, l1, l2, l3, l4, (.int x)] ((.int x) :: S) E g Q := q_X_stp (show q_P 25 23 = some (23, .iload 5, 2, [], 0) by decide +kernel) rfl rfl
theorem x25_25 {x y : Int32} {L S : List Value} {E : q_E} {g : q_G} {Q : Option Value → q_E → q_G → Prop} : q_X 25 25 L (.int y :: .int x :: S) E g Q = q_X 25 26 L (.int (x + y) :: S) E g Q := x_iadd (show q_P 25 25 = some (25, .iadd, 1, [], 0) by decide +kernel)
theorem x25_26 {l0 l1 l2 l3 l4 l5 : Value} {x : Int32} {S : List Value} {E : q_E} {g : q_G} {Q : Option Value → q_E → q_G → Prop} : q_X 25 26 [l0, l1, l2, l3, l4, l5] ((.int x) :: S) E g Q = q_X 25 27 [l0, (.int x), l2, l3, l4, l5] S E g Q := q_X_stp (show q_P 25 26 = some (26, .istore_n 1, 1, [], 0) by decide +kernel) rfl rfl
theorem x25_27 {l0 l1 l2 l3 l5 : Value} {x : Int32} {S : List Value} {E : q_E} {g : q_G} {Q : Option Value → q_E → q_G → Prop} : q_X 25 27 [l0, l1, l2, l3, (.int x), l5] S E g Q = q_X 25 30 [l0, l1, l2, l3, (.int (x + (nI 1))), l5] S E g Q := q_X_stp (show q_P 25 27 = some (27, .iinc 4 1, 3, [], 0) by decide +kernel) rfl rfl
theorem x25_30 {L S : List Value} {E : q_E} {g : q_G} {Q : Option Value → q_E → q_G → Prop} : q_X 25 30 L S E g Q = q_X 25 10 L S E g Q := x_goto (show q_P 25 30 = some (30, .goto (-20), 3, [], 0) by decide +kernel) (by decide)
theorem x25_33 {l0 l2 l3 l4 l5 : Value} {x : Int32} {S : List Value} {E : q_E} {g : q_G} {Q : Option Value → q_E → q_G → Prop} : q_X 25 33 [l0, (.int x), l2, l3, l4, l5] S E g Q = q_X 25 34 [l0, (.int x), l2, l3, l4, l5] ((.int x) :: S) E g Q := q_X_stp (show q_P 25 33 = some (33, .iload_n 1, 1, [], 0) by decide +kernel) rfl rfl
theorem x25_34 {v : Int32} {L : List Value} {E : q_E} {g : q_G} {Q : Option Value → q_E → q_G → Prop} : q_X 25 34 L [.int v] E g Q = Q (some (.int v)) E g := x_retI (show q_P 25 34 = some (34, .ireturn, 1, [], 0) by decide +kernel) rfl
-- X8_undo
theorem x26_0 {l1 : Value} {x : Nat} {S : List Value} {E : q_E} {g : q_G} {Q : Option Value → q_E → q_G → Prop} : q_X 26 0 [(.ref x), l1] S E g Q = q_X 26 1 [(.ref x), l1] ((.ref x) :: S) E g Q := q_X_stp (show q_P 26 0 = some (0, .aload_n 0, 1, [], 0) by decide +kernel) rfl rfl
theorem x26_1 {a : Nat} {L S : List Value} {E : q_E} {g : q_G} {Q : Option Value → q_E → q_G → Prop} : q_X 26 1 L (.ref a :: S) E g Q = ((q_kd E a).1 = 12 ∧ q_X 26 4 L (.int (g a 6) :: S) E g Q) := x_getI (show q_P 26 1 = some (1, .getfield 31, 3, [8, 6, 0, 279], 0) by decide +kernel) (by decide) rfl
theorem x26_4 {x : Int32} {L S : List Value} {E : q_E} {g : q_G} {Q : Option Value → q_E → q_G → Prop} : q_X 26 4 L (.int x :: S) E g Q = (if x = nI 0 then q_X 26 7 L S E g Q else q_X 26 10 L S E g Q) := x_zne (show q_P 26 4 = some (4, .ifCond .ne 6, 3, [], 0) by decide +kernel) (by decide)
theorem x26_7 {L S : List Value} {E : q_E} {g : q_G} {Q : Option Value → q_E → q_G → Prop} : q_X 26 7 L S E g Q = q_X 26 9 L (.int (-1000002) :: S) E g Q := x_ldc (show q_P 26 7 = some (7, .ldc 221, 2, [0, 657], -1000002) by decide +kernel) (by decide)
theorem x26_9 {v : Int32} {L : List Value} {E : q_E} {g : q_G} {Q : Option Value → q_E → q_G → Prop} : q_X 26 9 L [.int v] E g Q = Q (some (.int v)) E g := x_retI (show q_P 26 9 = some (9, .ireturn, 1, [], 0) by decide +kernel) rfl
theorem x26_10 {l1 : Value} {x : Nat} {S : List Value} {E : q_E} {g : q_G} {Q : Option Value → q_E → q_G → Prop} : q_X 26 10 [(.ref x), l1] S E g Q = q_X 26 11 [(.ref x), l1] ((.ref x) :: S) E g Q := q_X_stp (show q_P 26 10 = some (10, .aload_n 0, 1, [], 0) by decide +kernel) rfl rfl
theorem x26_11 {a : Nat} {L S : List Value} {E : q_E} {g : q_G} {Q : Option Value → q_E → q_G → Prop} : q_X 26 11 L (.ref a :: S) E g Q = ((q_kd E a).1 = 12 ∧ ¬ q_rf E a 0 = 0 ∧ q_X 26 14 L (.ref (q_rf E a 0) :: S) E g Q) := x_getR (show q_P 26 11 = some (11, .getfield 10, 3, [8, 0, 1, 273], 0) by decide +kernel) rfl
theorem x26_14 {l0 l1 : Value} {x : Nat} {S : List Value} {E : q_E} {g : q_G} {Q : Option Value → q_E → q_G → Prop} : q_X 26 14 [l0, l1] ((.ref x) :: S) E g Q = q_X 26 15 [l0, (.ref x)] S E g Q := q_X_stp (show q_P 26 14 = some (14, .astore_n 1, 1, [], 0) by decide +kernel) rfl rfl
theorem x26_15 {l1 : Value} {x : Nat} {S : List Value} {E : q_E} {g : q_G} {Q : Option Value → q_E → q_G → Prop} : q_X 26 15 [(.ref x), l1] S E g Q = q_X 26 16 [(.ref x), l1] ((.ref x) :: S) E g Q := q_X_stp (show q_P 26 15 = some (15, .aload_n 0, 1, [], 0) by decide +kernel) rfl rfl
theorem x26_16 {l1 : Value} {x : Nat} {S : List Value} {E : q_E} {g : q_G} {Q : Option Value → q_E → q_G → Prop} : q_X 26 16 [(.ref x), l1] S E g Q = q_X 26 17 [(.ref x), l1] ((.ref x) :: S) E g Q := q_X_stp (show q_P 26 16 = some (16, .aload_n 0, 1, [], 0) by decide +kernel) rfl rfl
theorem x26_17 {a : Nat} {L S : List Value} {E : q_E} {g : q_G} {Q : Option Value → q_E → q_G → Prop} : q_X 26 17 L (.ref a :: S) E g Q = ((q_kd E a).1 = 12 ∧ ¬ q_rf E a 2 = 0 ∧ q_X 26 20 L (.ref (q_rf E a 2) :: S) E g Q) := x_getR (show q_P 26 17 = some (17, .getfield 19, 3, [8, 2, 1, 275], 0) by decide +kernel) rfl
theorem x26_20 {a v : Nat} {L S : List Value} {E : q_E} {g : q_G} {Q : Option Value → q_E → q_G → Prop} : q_X 26 20 L (.ref v :: .ref a :: S) E g Q = (((q_kd E a).1 = 12 ∧ v ≠ 0) ∧ q_X 26 23 L S (q_setR E a 0 v) g Q) := x_putR (show q_P 26 20 = some (20, .putfield 10, 3, [8, 0, 1, 273, 0], 0) by decide +kernel) rfl
theorem x26_23 {l1 : Value} {x : Nat} {S : List Value} {E : q_E} {g : q_G} {Q : Option Value → q_E → q_G → Prop} : q_X 26 23 [(.ref x), l1] S E g Q = q_X 26 24 [(.ref x), l1] ((.ref x) :: S) E g Q := q_X_stp (show q_P 26 23 = some (23, .aload_n 0, 1, [], 0) by decide +kernel) rfl rfl
theorem x26_24 {l1 : Value} {x : Nat} {S : List Value} {E : q_E} {g : q_G} {Q : Option Value → q_E → q_G → Prop} : q_X 26 24 [(.ref x), l1] S E g Q = q_X 26 25 [(.ref x), l1] ((.ref x) :: S) E g Q := q_X_stp (show q_P 26 24 = some (24, .aload_n 0, 1, [], 0) by decide +kernel) rfl rfl
theorem x26_25 {a : Nat} {L S : List Value} {E : q_E} {g : q_G} {Q : Option Value → q_E → q_G → Prop} : q_X 26 25 L (.ref a :: S) E g Q = ((q_kd E a).1 = 12 ∧ ¬ q_rf E a 3 = 0 ∧ q_X 26 28 L (.ref (q_rf E a 3) :: S) E g Q) := x_getR (show q_P 26 25 = some (25, .getfield 22, 3, [8, 3, 1, 276], 0) by decide +kernel) rfl
theorem x26_28 {a v : Nat} {L S : List Value} {E : q_E} {g : q_G} {Q : Option Value → q_E → q_G → Prop} : q_X 26 28 L (.ref v :: .ref a :: S) E g Q = (((q_kd E a).1 = 12 ∧ v ≠ 0) ∧ q_X 26 31 L S (q_setR E a 2 v) g Q) := x_putR (show q_P 26 28 = some (28, .putfield 19, 3, [8, 2, 1, 275, 0], 0) by decide +kernel) rfl
theorem x26_31 {l1 : Value} {x : Nat} {S : List Value} {E : q_E} {g : q_G} {Q : Option Value → q_E → q_G → Prop} : q_X 26 31 [(.ref x), l1] S E g Q = q_X 26 32 [(.ref x), l1] ((.ref x) :: S) E g Q := q_X_stp (show q_P 26 31 = some (31, .aload_n 0, 1, [], 0) by decide +kernel) rfl rfl
theorem x26_32 {l1 : Value} {x : Nat} {S : List Value} {E : q_E} {g : q_G} {Q : Option Value → q_E → q_G → Prop} : q_X 26 32 [(.ref x), l1] S E g Q = q_X 26 33 [(.ref x), l1] ((.ref x) :: S) E g Q := q_X_stp (show q_P 26 32 = some (32, .aload_n 0, 1, [], 0) by decide +kernel) rfl rfl
theorem x26_33 {a : Nat} {L S : List Value} {E : q_E} {g : q_G} {Q : Option Value → q_E → q_G → Prop} : q_X 26 33 L (.ref a :: S) E g Q = ((q_kd E a).1 = 12 ∧ ¬ q_rf E a 4 = 0 ∧ q_X 26 36 L (.ref (q_rf E a 4) :: S) E g Q) := x_getR (show q_P 26 33 = some (33, .getfield 25, 3, [8, 4, 1, 277], 0) by decide +kernel) rfl
theorem x26_36 {a v : Nat} {L S : List Value} {E : q_E} {g : q_G} {Q : Option Value → q_E → q_G → Prop} : q_X 26 36 L (.ref v :: .ref a :: S) E g Q = (((q_kd E a).1 = 12 ∧ v ≠ 0) ∧ q_X 26 39 L S (q_setR E a 3 v) g Q) := x_putR (show q_P 26 36 = some (36, .putfield 22, 3, [8, 3, 1, 276, 0], 0) by decide +kernel) rfl
theorem x26_39 {l1 : Value} {x : Nat} {S : List Value} {E : q_E} {g : q_G} {Q : Option Value → q_E → q_G → Prop} : q_X 26 39 [(.ref x), l1] S E g Q = q_X 26 40 [(.ref x), l1] ((.ref x) :: S) E g Q := q_X_stp (show q_P 26 39 = some (39, .aload_n 0, 1, [], 0) by decide +kernel) rfl rfl
theorem x26_40 {l1 : Value} {x : Nat} {S : List Value} {E : q_E} {g : q_G} {Q : Option Value → q_E → q_G → Prop} : q_X 26 40 [(.ref x), l1] S E g Q = q_X 26 41 [(.ref x), l1] ((.ref x) :: S) E g Q := q_X_stp (show q_P 26 40 = some (40, .aload_n 0, 1, [], 0) by decide +kernel) rfl rfl
theorem x26_41 {a : Nat} {L S : List Value} {E : q_E} {g : q_G} {Q : Option Value → q_E → q_G → Prop} : q_X 26 41 L (.ref a :: S) E g Q = ((q_kd E a).1 = 12 ∧ ¬ q_rf E a 5 = 0 ∧ q_X 26 44 L (.ref (q_rf E a 5) :: S) E g Q) := x_getR (show q_P 26 41 = some (41, .getfield 28, 3, [8, 5, 1, 278], 0) by decide +kernel) rfl
theorem x26_44 {a v : Nat} {L S : List Value} {E : q_E} {g : q_G} {Q : Option Value → q_E → q_G → Prop} : q_X 26 44 L (.ref v :: .ref a :: S) E g Q = (((q_kd E a).1 = 12 ∧ v ≠ 0) ∧ q_X 26 47 L S (q_setR E a 4 v) g Q) := x_putR (show q_P 26 44 = some (44, .putfield 25, 3, [8, 4, 1, 277, 0], 0) by decide +kernel) rfl
theorem x26_47 {l1 : Value} {x : Nat} {S : List Value} {E : q_E} {g : q_G} {Q : Option Value → q_E → q_G → Prop} : q_X 26 47 [(.ref x), l1] S E g Q = q_X 26 48 [(.ref x), l1] ((.ref x) :: S) E g Q := q_X_stp (show q_P 26 47 = some (47, .aload_n 0, 1, [], 0) by decide +kernel) rfl rfl
theorem x26_48 {l0 : Value} {x : Nat} {S : List Value} {E : q_E} {g : q_G} {Q : Option Value → q_E → q_G → Prop} : q_X 26 48 [l0, (.ref x)] S E g Q = q_X 26 49 [l0, (.ref x)] ((.ref x) :: S) E g Q := q_X_stp (show q_P 26 48 = some (48, .aload_n 1, 1, [], 0) by decide +kernel) rfl rfl
theorem x26_49 {a v : Nat} {L S : List Value} {E : q_E} {g : q_G} {Q : Option Value → q_E → q_G → Prop} : q_X 26 49 L (.ref v :: .ref a :: S) E g Q = (((q_kd E a).1 = 12 ∧ v ≠ 0) ∧ q_X 26 52 L S (q_setR E a 5 v) g Q) := x_putR (show q_P 26 49 = some (49, .putfield 28, 3, [8, 5, 1, 278, 0], 0) by decide +kernel) rfl
theorem x26_52 {l1 : Value} {x : Nat} {S : List Value} {E : q_E} {g : q_G} {Q : Option Value → q_E → q_G → Prop} : q_X 26 52 [(.ref x), l1] S E g Q = q_X 26 53 [(.ref x), l1] ((.ref x) :: S) E g Q := q_X_stp (show q_P 26 52 = some (52, .aload_n 0, 1, [], 0) by decide +kernel) rfl rfl
theorem x26_53 {x : Nat} {L S : List Value} {E : q_E} {g : q_G} {Q : Option Value → q_E → q_G → Prop} : q_X 26 53 L ((.ref x) :: S) E g Q = q_X 26 54 L ((.ref x) :: (.ref x) :: S) E g Q := q_X_stp (show q_P 26 53 = some (53, .dup, 1, [], 0) by decide +kernel) rfl rfl
theorem x26_54 {a : Nat} {L S : List Value} {E : q_E} {g : q_G} {Q : Option Value → q_E → q_G → Prop} : q_X 26 54 L (.ref a :: S) E g Q = ((q_kd E a).1 = 12 ∧ q_X 26 57 L (.int (g a 6) :: S) E g Q) := x_getI (show q_P 26 54 = some (54, .getfield 31, 3, [8, 6, 0, 279], 0) by decide +kernel) (by decide) rfl
theorem x26_57 {L S : List Value} {E : q_E} {g : q_G} {Q : Option Value → q_E → q_G → Prop} : q_X 26 57 L S E g Q = q_X 26 58 L (.int (nI 1) :: S) E g Q := x_iconst (show q_P 26 57 = some (57, .iconst 1, 1, [], 0) by decide +kernel) (by decide)
theorem x26_58 {x y : Int32} {L S : List Value} {E : q_E} {g : q_G} {Q : Option Value → q_E → q_G → Prop} : q_X 26 58 L (.int y :: .int x :: S) E g Q = q_X 26 59 L (.int (x - y) :: S) E g Q := x_isub (show q_P 26 58 = some (58, .isub, 1, [], 0) by decide +kernel)
theorem x26_59 {a : Nat} {v : Int32} {L S : List Value} {E : q_E} {g : q_G} {Q : Option Value → q_E → q_G → Prop} : q_X 26 59 L (.int v :: .ref a :: S) E g Q = ((q_kd E a).1 = 12 ∧ q_X 26 62 L S E (q_up g a 6 v) Q) := x_putI (show q_P 26 59 = some (59, .putfield 31, 3, [8, 6, 0, 279, 0], 0) by decide +kernel) rfl
theorem x26_62 {l1 : Value} {x : Nat} {S : List Value} {E : q_E} {g : q_G} {Q : Option Value → q_E → q_G → Prop} : q_X 26 62 [(.ref x), l1] S E g Q = q_X 26 63 [(.ref x), l1] ((.ref x) :: S) E g Q := q_X_stp (show q_P 26 62 = some (62, .aload_n 0, 1, [], 0) by decide +kernel) rfl rfl
theorem x26_63 {a : Nat} {L S : List Value} {E : q_E} {g : q_G} {Q : Option Value → q_E → q_G → Prop} : q_X 26 63 L (.ref a :: S) E g Q = ((q_kd E a).1 = 12 ∧ q_X 26 66 L (.int (g a 6) :: S) E g Q) := x_getI (show q_P 26 63 = some (63, .getfield 31, 3, [8, 6, 0, 279], 0) by decide +kernel) (by decide) rfl
theorem x26_66 {v : Int32} {L : List Value} {E : q_E} {g : q_G} {Q : Option Value → q_E → q_G → Prop} : q_X 26 66 L [.int v] E g Q = Q (some (.int v)) E g := x_retI (show q_P 26 66 = some (66, .ireturn, 1, [], 0) by decide +kernel) rfl
-- X9_adds
theorem x27_0 {l1 l2 l3 : Value} {x : Nat} {S : List Value} {E : q_E} {g : q_G} {Q : Option Value → q_E → q_G → Prop} : q_X 27 0 [(.ref x), l1, l2, l3] S E g Q = q_X 27 1 [(.ref x), l1, l2, l3] ((.ref x) :: S) E g Q := q_X_stp (show q_P 27 0 = some (0, .aload_n 0, 1, [], 0) by decide +kernel) rfl rfl
theorem x27_1 {a : Nat} {L S : List Value} {E : q_E} {g : q_G} {Q : Option Value → q_E → q_G → Prop} : q_X 27 1 L (.ref a :: S) E g Q = ((q_kd E a).1 = 13 ∧ ¬ q_rf E a 0 = 0 ∧ q_X 27 4 L (.ref (q_rf E a 0) :: S) E g Q) := x_getR (show q_P 27 1 = some (1, .getfield 7, 3, [9, 0, 1, 718], 0) by decide +kernel) rfl
theorem x27_4 {L S : List Value} {E : q_E} {g : q_G} {Q : Option Value → q_E → q_G → Prop} : q_X 27 4 L S E g Q = q_X 27 6 L (.int (nI 11) :: S) E g Q := x_bipush (show q_P 27 4 = some (4, .bipush 11, 2, [], 0) by decide +kernel) (by decide)
theorem x27_6 {L S : List Value} {E : q_E} {g : q_G} {Q : Option Value → q_E → q_G → Prop} : q_X 27 6 L S E g Q = q_X 27 8 L (.int (nI 8) :: S) E g Q := x_bipush (show q_P 27 6 = some (6, .bipush 8, 2, [], 0) by decide +kernel) (by decide)
theorem x27_8 {l0 l2 l3 : Value} {x : Int32} {S : List Value} {E : q_E} {g : q_G} {Q : Option Value → q_E → q_G → Prop} : q_X 27 8 [l0, (.int x), l2, l3] S E g Q = q_X 27 9 [l0, (.int x), l2, l3] ((.int x) :: S) E g Q := q_X_stp (show q_P 27 8 = some (8, .iload_n 1, 1, [], 0) by decide +kernel) rfl rfl
theorem x27_9 {x y : Int32} {L S : List Value} {E : q_E} {g : q_G} {Q : Option Value → q_E → q_G → Prop} : q_X 27 9 L (.int y :: .int x :: S) E g Q = q_X 27 10 L (.int (x * y) :: S) E g Q := x_imul (show q_P 27 9 = some (9, .imul, 1, [], 0) by decide +kernel)
theorem x27_10 {x y : Int32} {L S : List Value} {E : q_E} {g : q_G} {Q : Option Value → q_E → q_G → Prop} : q_X 27 10 L (.int y :: .int x :: S) E g Q = q_X 27 11 L (.int (x + y) :: S) E g Q := x_iadd (show q_P 27 10 = some (10, .iadd, 1, [], 0) by decide +kernel)
theorem x27_11 {l0 l1 l3 : Value} {x : Int32} {S : List Value} {E : q_E} {g : q_G} {Q : Option Value → q_E → q_G → Prop} : q_X 27 11 [l0, l1, (.int x), l3] S E g Q = q_X 27 12 [l0, l1, (.int x), l3] ((.int x) :: S) E g Q := q_X_stp (show q_P 27 11 = some (11, .iload_n 2, 1, [], 0) by decide +kernel) rfl rfl
theorem x27_12 {x y : Int32} {L S : List Value} {E : q_E} {g : q_G} {Q : Option Value → q_E → q_G → Prop} : q_X 27 12 L (.int y :: .int x :: S) E g Q = q_X 27 13 L (.int (x + y) :: S) E g Q := x_iadd (show q_P 27 12 = some (12, .iadd, 1, [], 0) by decide +kernel)
theorem x27_13 {x : Int32} {y : Nat} {L S : List Value} {E : q_E} {g : q_G} {Q : Option Value → q_E → q_G → Prop} : q_X 27 13 L ((.int x) :: (.ref y) :: S) E g Q = q_X 27 14 L ((.int x) :: (.ref y) :: (.int x) :: (.ref y) :: S) E g Q := q_X_stp (show q_P 27 13 = some (13, .dup2, 1, [], 0) by decide +kernel) rfl rfl
theorem x27_14 {a : Nat} {i : Int32} {L S : List Value} {E : q_E} {g : q_G} {Q : Option Value → q_E → q_G → Prop} : q_X 27 14 L (.int i :: .ref a :: S) E g Q = ((((q_kd E a).1 = 1 ∨ (q_kd E a).1 = 2) ∧ vp_in i (q_kd E a).2) ∧ q_X 27 15 L (.int (g a i.toNatClampNeg) :: S) E g Q) := x_iald (show q_P 27 14 = some (14, .iaload, 1, [], 0) by decide +kernel)
theorem x27_15 {l0 l1 l2 : Value} {x : Int32} {S : List Value} {E : q_E} {g : q_G} {Q : Option Value → q_E → q_G → Prop} : q_X 27 15 [l0, l1, l2, (.int x)] S E g Q = q_X 27 16 [l0, l1, l2, (.int x)] ((.int x) :: S) E g Q := q_X_stp (show q_P 27 15 = some (15, .iload_n 3, 1, [], 0) by decide +kernel) rfl rfl
theorem x27_16 {x y : Int32} {L S : List Value} {E : q_E} {g : q_G} {Q : Option Value → q_E → q_G → Prop} : q_X 27 16 L (.int y :: .int x :: S) E g Q = q_X 27 17 L (.int (x + y) :: S) E g Q := x_iadd (show q_P 27 16 = some (16, .iadd, 1, [], 0) by decide +kernel)
theorem x27_17 {a : Nat} {i x : Int32} {L S : List Value} {E : q_E} {g : q_G} {Q : Option Value → q_E → q_G → Prop} : q_X 27 17 L (.int x :: .int i :: .ref a :: S) E g Q = (((q_kd E a).1 = 2 ∧ vp_in i (q_kd E a).2) ∧ q_X 27 18 L S E (q_up g a i.toNatClampNeg x) Q) := x_iast (show q_P 27 17 = some (17, .iastore, 1, [], 0) by decide +kernel)
theorem x27_18 {L : List Value} {E : q_E} {g : q_G} {Q : Option Value → q_E → q_G → Prop} : q_X 27 18 L [] E g Q = Q none E g := x_retv (show q_P 27 18 = some (18, .return_, 1, [], 0) by decide +kernel)
-- X9_cards
theorem x28_0 {l1 : Value} {x : Nat} {S : List Value} {E : q_E} {g : q_G} {Q : Option Value → q_E → q_G → Prop} : q_X 28 0 [(.ref x), l1] S E g Q = q_X 28 1 [(.ref x), l1] ((.ref x) :: S) E g Q := q_X_stp (show q_P 28 0 = some (0, .aload_n 0, 1, [], 0) by decide +kernel) rfl rfl
theorem x28_1 {a : Nat} {L S : List Value} {E : q_E} {g : q_G} {Q : Option Value → q_E → q_G → Prop} : q_X 28 1 L (.ref a :: S) E g Q = ((q_kd E a).1 = 13 ∧ ¬ q_rf E a 0 = 0 ∧ q_X 28 4 L (.ref (q_rf E a 0) :: S) E g Q) := x_getR (show q_P 28 1 = some (1, .getfield 7, 3, [9, 0, 1, 718], 0) by decide +kernel) rfl
theorem x28_4 {L S : List Value} {E : q_E} {g : q_G} {Q : Option Value → q_E → q_G → Prop} : q_X 28 4 L S E g Q = q_X 28 6 L (.int (nI 107) :: S) E g Q := x_bipush (show q_P 28 4 = some (4, .bipush 107, 2, [], 0) by decide +kernel) (by decide)
theorem x28_6 {L S : List Value} {E : q_E} {g : q_G} {Q : Option Value → q_E → q_G → Prop} : q_X 28 6 L S E g Q = q_X 28 7 L (.int (nI 3) :: S) E g Q := x_iconst (show q_P 28 6 = some (6, .iconst 3, 1, [], 0) by decide +kernel) (by decide)
theorem x28_7 {l0 : Value} {x : Int32} {S : List Value} {E : q_E} {g : q_G} {Q : Option Value → q_E → q_G → Prop} : q_X 28 7 [l0, (.int x)] S E g Q = q_X 28 8 [l0, (.int x)] ((.int x) :: S) E g Q := q_X_stp (show q_P 28 7 = some (7, .iload_n 1, 1, [], 0) by decide +kernel) rfl rfl
theorem x28_8 {x y : Int32} {L S : List Value} {E : q_E} {g : q_G} {Q : Option Value → q_E → q_G → Prop} : q_X 28 8 L (.int y :: .int x :: S) E g Q = q_X 28 9 L (.int (x * y) :: S) E g Q := x_imul (show q_P 28 8 = some (8, .imul, 1, [], 0) by decide +kernel)
theorem x28_9 {x y : Int32} {L S : List Value} {E : q_E} {g : q_G} {Q : Option Value → q_E → q_G → Prop} : q_X 28 9 L (.int y :: .int x :: S) E g Q = q_X 28 10 L (.int (x + y) :: S) E g Q := x_iadd (show q_P 28 9 = some (9, .iadd, 1, [], 0) by decide +kernel)
theorem x28_10 {L S : List Value} {E : q_E} {g : q_G} {Q : Option Value → q_E → q_G → Prop} : q_X 28 10 L S E g Q = q_X 28 11 L (.int (nI 1) :: S) E g Q := x_iconst (show q_P 28 10 = some (10, .iconst 1, 1, [], 0) by decide +kernel) (by decide)
theorem x28_11 {x y : Int32} {L S : List Value} {E : q_E} {g : q_G} {Q : Option Value → q_E → q_G → Prop} : q_X 28 11 L (.int y :: .int x :: S) E g Q = q_X 28 12 L (.int (x + y) :: S) E g Q := x_iadd (show q_P 28 11 = some (11, .iadd, 1, [], 0) by decide +kernel)
theorem x28_12 {a : Nat} {i : Int32} {L S : List Value} {E : q_E} {g : q_G} {Q : Option Value → q_E → q_G → Prop} : q_X 28 12 L (.int i :: .ref a :: S) E g Q = ((((q_kd E a).1 = 1 ∨ (q_kd E a).1 = 2) ∧ vp_in i (q_kd E a).2) ∧ q_X 28 13 L (.int (g a i.toNatClampNeg) :: S) E g Q) := x_iald (show q_P 28 12 = some (12, .iaload, 1, [], 0) by decide +kernel)
theorem x28_13 {v : Int32} {L : List Value} {E : q_E} {g : q_G} {Q : Option Value → q_E → q_G → Prop} : q_X 28 13 L [.int v] E g Q = Q (some (.int v)) E g := x_retI (show q_P 28 13 = some (13, .ireturn, 1, [], 0) by decide +kernel) rfl
-- X9_clearText
theorem x29_0 {l1 : Value} {x : Nat} {S : List Value} {E : q_E} {g : q_G} {Q : Option Value → q_E → q_G → Prop} : q_X 29 0 [(.ref x), l1] S E g Q = q_X 29 1 [(.ref x), l1] ((.ref x) :: S) E g Q := q_X_stp (show q_P 29 0 = some (0, .aload_n 0, 1, [], 0) by decide +kernel) rfl rfl
theorem x29_1 {a : Nat} {L S : List Value} {E : q_E} {g : q_G} {Q : Option Value → q_E → q_G → Prop} : q_X 29 1 L (.ref a :: S) E g Q = ((q_kd E a).1 = 13 ∧ q_X 29 4 L (.int (g a 3) :: S) E g Q) := x_getI (show q_P 29 1 = some (1, .getfield 119, 3, [9, 3, 0, 721], 0) by decide +kernel) (by decide) rfl
theorem x29_4 {l0 l1 : Value} {x : Int32} {S : List Value} {E : q_E} {g : q_G} {Q : Option Value → q_E → q_G → Prop} : q_X 29 4 [l0, l1] ((.int x) :: S) E g Q = q_X 29 5 [l0, (.int x)] S E g Q := q_X_stp (show q_P 29 4 = some (4, .istore_n 1, 1, [], 0) by decide +kernel) rfl rfl
theorem x29_5 {l1 : Value} {x : Nat} {S : List Value} {E : q_E} {g : q_G} {Q : Option Value → q_E → q_G → Prop} : q_X 29 5 [(.ref x), l1] S E g Q = q_X 29 6 [(.ref x), l1] ((.ref x) :: S) E g Q := q_X_stp (show q_P 29 5 = some (5, .aload_n 0, 1, [], 0) by decide +kernel) rfl rfl
theorem x29_6 {L S : List Value} {E : q_E} {g : q_G} {Q : Option Value → q_E → q_G → Prop} : q_X 29 6 L S E g Q = q_X 29 7 L (.int (nI 0) :: S) E g Q := x_iconst (show q_P 29 6 = some (6, .iconst 0, 1, [], 0) by decide +kernel) (by decide)
theorem x29_7 {a : Nat} {v : Int32} {L S : List Value} {E : q_E} {g : q_G} {Q : Option Value → q_E → q_G → Prop} : q_X 29 7 L (.int v :: .ref a :: S) E g Q = ((q_kd E a).1 = 13 ∧ q_X 29 10 L S E (q_up g a 3 v) Q) := x_putI (show q_P 29 7 = some (7, .putfield 119, 3, [9, 3, 0, 721, 0], 0) by decide +kernel) rfl
theorem x29_10 {l0 : Value} {x : Int32} {S : List Value} {E : q_E} {g : q_G} {Q : Option Value → q_E → q_G → Prop} : q_X 29 10 [l0, (.int x)] S E g Q = q_X 29 11 [l0, (.int x)] ((.int x) :: S) E g Q := q_X_stp (show q_P 29 10 = some (10, .iload_n 1, 1, [], 0) by decide +kernel) rfl rfl
theorem x29_11 {v : Int32} {L : List Value} {E : q_E} {g : q_G} {Q : Option Value → q_E → q_G → Prop} : q_X 29 11 L [.int v] E g Q = Q (some (.int v)) E g := x_retI (show q_P 29 11 = some (11, .ireturn, 1, [], 0) by decide +kernel) rfl
-- X9_copies
theorem x30_0 {L S : List Value} {E : q_E} {g : q_G} {Q : Option Value → q_E → q_G → Prop} : q_X 30 0 L S E g Q = q_X 30 1 L (.int (nI 0) :: S) E g Q := x_iconst (show q_P 30 0 = some (0, .iconst 0, 1, [], 0) by decide +kernel) (by decide)
theorem x30_1 {l0 l1 l2 l3 : Value} {x : Int32} {S : List Value} {E : q_E} {g : q_G} {Q : Option Value → q_E → q_G → Prop} : q_X 30 1 [l0, l1, l2, l3] ((.int x) :: S) E g Q = q_X 30 2 [l0, l1, l2, (.int x)] S E g Q := q_X_stp (show q_P 30 1 = some (1, .istore_n 3, 1, [], 0) by decide +kernel) rfl rfl
theorem x30_2 {l0 l1 l2 : Value} {x : Int32} {S : List Value} {E : q_E} {g : q_G} {Q : Option Value → q_E → q_G → Prop} : q_X 30 2 [l0, l1, l2, (.int x)] S E g Q = q_X 30 3 [l0, l1, l2, (.int x)] ((.int x) :: S) E g Q := q_X_stp (show q_P 30 2 = some (2, .iload_n 3, 1, [], 0) by decide +kernel) rfl rfl
theorem x30_3 {L S : List Value} {E : q_E} {g : q_G} {Q : Option Value → q_E → q_G → Prop} : q_X 30 3 L S E g Q = q_X 30 6 L (.int (nI 312) :: S) E g Q := x_sipush (show q_P 30 3 = some (3, .sipush 312, 3, [], 0) by decide +kernel) (by decide)
theorem x30_6 {x y : Int32} {L S : List Value} {E : q_E} {g : q_G} {Q : Option Value → q_E → q_G → Prop} : q_X 30 6 L (.int y :: .int x :: S) E g Q = (if y ≤ x then q_X 30 39 L S E g Q else q_X 30 9 L S E g Q) := x_ige (show q_P 30 6 = some (6, .if_icmp .ge 33, 3, [], 0) by decide +kernel) (by decide)
theorem x30_9 {l1 l2 l3 : Value} {x : Nat} {S : List Value} {E : q_E} {g : q_G} {Q : Option Value → q_E → q_G → Prop} : q_X 30 9 [(.ref x), l1, l2, l3] S E g Q = q_X 30 10 [(.ref x), l1, l2, l3] ((.ref x) :: S) E g Q := q_X_stp (show q_P 30 9 = some (9, .aload_n 0, 1, [], 0) by decide +kernel) rfl rfl
theorem x30_10 {a : Nat} {L S : List Value} {E : q_E} {g : q_G} {Q : Option Value → q_E → q_G → Prop} : q_X 30 10 L (.ref a :: S) E g Q = ((q_kd E a).1 = 13 ∧ ¬ q_rf E a 0 = 0 ∧ q_X 30 13 L (.ref (q_rf E a 0) :: S) E g Q) := x_getR (show q_P 30 10 = some (10, .getfield 7, 3, [9, 0, 1, 718], 0) by decide +kernel) rfl
theorem x30_13 {L S : List Value} {E : q_E} {g : q_G} {Q : Option Value → q_E → q_G → Prop} : q_X 30 13 L S E g Q = q_X 30 16 L (.int (nI 312) :: S) E g Q := x_sipush (show q_P 30 13 = some (13, .sipush 312, 3, [], 0) by decide +kernel) (by decide)
theorem x30_16 {l0 l1 l3 : Value} {x : Int32} {S : List Value} {E : q_E} {g : q_G} {Q : Option Value → q_E → q_G → Prop} : q_X 30 16 [l0, l1, (.int x), l3] S E g Q = q_X 30 17 [l0, l1, (.int x), l3] ((.int x) :: S) E g Q := q_X_stp (show q_P 30 16 = some (16, .iload_n 2, 1, [], 0) by decide +kernel) rfl rfl
theorem x30_17 {x y : Int32} {L S : List Value} {E : q_E} {g : q_G} {Q : Option Value → q_E → q_G → Prop} : q_X 30 17 L (.int y :: .int x :: S) E g Q = q_X 30 18 L (.int (x * y) :: S) E g Q := x_imul (show q_P 30 17 = some (17, .imul, 1, [], 0) by decide +kernel)
theorem x30_18 {l0 l1 l2 : Value} {x : Int32} {S : List Value} {E : q_E} {g : q_G} {Q : Option Value → q_E → q_G → Prop} : q_X 30 18 [l0, l1, l2, (.int x)] S E g Q = q_X 30 19 [l0, l1, l2, (.int x)] ((.int x) :: S) E g Q := q_X_stp (show q_P 30 18 = some (18, .iload_n 3, 1, [], 0) by decide +kernel) rfl rfl
theorem x30_19 {x y : Int32} {L S : List Value} {E : q_E} {g : q_G} {Q : Option Value → q_E → q_G → Prop} : q_X 30 19 L (.int y :: .int x :: S) E g Q = q_X 30 20 L (.int (x + y) :: S) E g Q := x_iadd (show q_P 30 19 = some (19, .iadd, 1, [], 0) by decide +kernel)
theorem x30_20 {l1 l2 l3 : Value} {x : Nat} {S : List Value} {E : q_E} {g : q_G} {Q : Option Value → q_E → q_G → Prop} : q_X 30 20 [(.ref x), l1, l2, l3] S E g Q = q_X 30 21 [(.ref x), l1, l2, l3] ((.ref x) :: S) E g Q := q_X_stp (show q_P 30 20 = some (20, .aload_n 0, 1, [], 0) by decide +kernel) rfl rfl
theorem x30_21 {a : Nat} {L S : List Value} {E : q_E} {g : q_G} {Q : Option Value → q_E → q_G → Prop} : q_X 30 21 L (.ref a :: S) E g Q = ((q_kd E a).1 = 13 ∧ ¬ q_rf E a 0 = 0 ∧ q_X 30 24 L (.ref (q_rf E a 0) :: S) E g Q) := x_getR (show q_P 30 21 = some (21, .getfield 7, 3, [9, 0, 1, 718], 0) by decide +kernel) rfl
theorem x30_24 {L S : List Value} {E : q_E} {g : q_G} {Q : Option Value → q_E → q_G → Prop} : q_X 30 24 L S E g Q = q_X 30 27 L (.int (nI 312) :: S) E g Q := x_sipush (show q_P 30 24 = some (24, .sipush 312, 3, [], 0) by decide +kernel) (by decide)
theorem x30_27 {l0 l2 l3 : Value} {x : Int32} {S : List Value} {E : q_E} {g : q_G} {Q : Option Value → q_E → q_G → Prop} : q_X 30 27 [l0, (.int x), l2, l3] S E g Q = q_X 30 28 [l0, (.int x), l2, l3] ((.int x) :: S) E g Q := q_X_stp (show q_P 30 27 = some (27, .iload_n 1, 1, [], 0) by decide +kernel) rfl rfl
theorem x30_28 {x y : Int32} {L S : List Value} {E : q_E} {g : q_G} {Q : Option Value → q_E → q_G → Prop} : q_X 30 28 L (.int y :: .int x :: S) E g Q = q_X 30 29 L (.int (x * y) :: S) E g Q := x_imul (show q_P 30 28 = some (28, .imul, 1, [], 0) by decide +kernel)
theorem x30_29 {l0 l1 l2 : Value} {x : Int32} {S : List Value} {E : q_E} {g : q_G} {Q : Option Value → q_E → q_G → Prop} : q_X 30 29 [l0, l1, l2, (.int x)] S E g Q = q_X 30 30 [l0, l1, l2, (.int x)] ((.int x) :: S) E g Q := q_X_stp (show q_P 30 29 = some (29, .iload_n 3, 1, [], 0) by decide +kernel) rfl rfl
theorem x30_30 {x y : Int32} {L S : List Value} {E : q_E} {g : q_G} {Q : Option Value → q_E → q_G → Prop} : q_X 30 30 L (.int y :: .int x :: S) E g Q = q_X 30 31 L (.int (x + y) :: S) E g Q := x_iadd (show q_P 30 30 = some (30, .iadd, 1, [], 0) by decide +kernel)
theorem x30_31 {a : Nat} {i : Int32} {L S : List Value} {E : q_E} {g : q_G} {Q : Option Value → q_E → q_G → Prop} : q_X 30 31 L (.int i :: .ref a :: S) E g Q = ((((q_kd E a).1 = 1 ∨ (q_kd E a).1 = 2) ∧ vp_in i (q_kd E a).2) ∧ q_X 30 32 L (.int (g a i.toNatClampNeg) :: S) E g Q) := x_iald (show q_P 30 31 = some (31, .iaload, 1, [], 0) by decide +kernel)
theorem x30_32 {a : Nat} {i x : Int32} {L S : List Value} {E : q_E} {g : q_G} {Q : Option Value → q_E → q_G → Prop} : q_X 30 32 L (.int x :: .int i :: .ref a :: S) E g Q = (((q_kd E a).1 = 2 ∧ vp_in i (q_kd E a).2) ∧ q_X 30 33 L S E (q_up g a i.toNatClampNeg x) Q) := x_iast (show q_P 30 32 = some (32, .iastore, 1, [], 0) by decide +kernel)
theorem x30_33 {l0 l1 l2 : Value} {x : Int32} {S : List Value} {E : q_E} {g : q_G} {Q : Option Value → q_E → q_G → Prop} : q_X 30 33 [l0, l1, l2, (.int x)] S E g Q = q_X 30 36 [l0, l1, l2, (.int (x + (nI 1)))] S E g Q := q_X_stp (show q_P 30 33 = some (33, .iinc 3 1, 3, [], 0) by decide +kernel) rfl rfl
theorem x30_36 {L S : List Value} {E : q_E} {g : q_G} {Q : Option Value → q_E → q_G → Prop} : q_X 30 36 L S E g Q = q_X 30 2 L S E g Q := x_goto (show q_P 30 36 = some (36, .goto (-34), 3, [], 0) by decide +kernel) (by decide)
theorem x30_39 {L : List Value} {E : q_E} {g : q_G} {Q : Option Value → q_E → q_G → Prop} : q_X 30 39 L [] E g Q = Q none E g := x_retv (show q_P 30 39 = some (39, .return_, 1, [], 0) by decide +kernel)
-- X9_held
theorem x31_0 {l1 : Value} {x : Nat} {S : List Value} {E : q_E} {g : q_G} {Q : Option Value → q_E → q_G → Prop} : q_X 31 0 [(.ref x), l1] S E g Q = q_X 31 1 [(.ref x), l1] ((.ref x) :: S) E g Q := q_X_stp (show q_P 31 0 = some (0, .aload_n 0, 1, [], 0) by decide +kernel) rfl rfl
theorem x31_1 {a : Nat} {L S : List Value} {E : q_E} {g : q_G} {Q : Option Value → q_E → q_G → Prop} : q_X 31 1 L (.ref a :: S) E g Q = ((q_kd E a).1 = 13 ∧ ¬ q_rf E a 0 = 0 ∧ q_X 31 4 L (.ref (q_rf E a 0) :: S) E g Q) := x_getR (show q_P 31 1 = some (1, .getfield 7, 3, [9, 0, 1, 718], 0) by decide +kernel) rfl
theorem x31_4 {L S : List Value} {E : q_E} {g : q_G} {Q : Option Value → q_E → q_G → Prop} : q_X 31 4 L S E g Q = q_X 31 6 L (.int (nI 107) :: S) E g Q := x_bipush (show q_P 31 4 = some (4, .bipush 107, 2, [], 0) by decide +kernel) (by decide)
theorem x31_6 {L S : List Value} {E : q_E} {g : q_G} {Q : Option Value → q_E → q_G → Prop} : q_X 31 6 L S E g Q = q_X 31 7 L (.int (nI 3) :: S) E g Q := x_iconst (show q_P 31 6 = some (6, .iconst 3, 1, [], 0) by decide +kernel) (by decide)
theorem x31_7 {l0 : Value} {x : Int32} {S : List Value} {E : q_E} {g : q_G} {Q : Option Value → q_E → q_G → Prop} : q_X 31 7 [l0, (.int x)] S E g Q = q_X 31 8 [l0, (.int x)] ((.int x) :: S) E g Q := q_X_stp (show q_P 31 7 = some (7, .iload_n 1, 1, [], 0) by decide +kernel) rfl rfl
theorem x31_8 {x y : Int32} {L S : List Value} {E : q_E} {g : q_G} {Q : Option Value → q_E → q_G → Prop} : q_X 31 8 L (.int y :: .int x :: S) E g Q = q_X 31 9 L (.int (x * y) :: S) E g Q := x_imul (show q_P 31 8 = some (8, .imul, 1, [], 0) by decide +kernel)
theorem x31_9 {x y : Int32} {L S : List Value} {E : q_E} {g : q_G} {Q : Option Value → q_E → q_G → Prop} : q_X 31 9 L (.int y :: .int x :: S) E g Q = q_X 31 10 L (.int (x + y) :: S) E g Q := x_iadd (show q_P 31 9 = some (9, .iadd, 1, [], 0) by decide +kernel)
theorem x31_10 {a : Nat} {i : Int32} {L S : List Value} {E : q_E} {g : q_G} {Q : Option Value → q_E → q_G → Prop} : q_X 31 10 L (.int i :: .ref a :: S) E g Q = ((((q_kd E a).1 = 1 ∨ (q_kd E a).1 = 2) ∧ vp_in i (q_kd E a).2) ∧ q_X 31 11 L (.int (g a i.toNatClampNeg) :: S) E g Q) := x_iald (show q_P 31 10 = some (10, .iaload, 1, [], 0) by decide +kernel)
theorem x31_11 {v : Int32} {L : List Value} {E : q_E} {g : q_G} {Q : Option Value → q_E → q_G → Prop} : q_X 31 11 L [.int v] E g Q = Q (some (.int v)) E g := x_retI (show q_P 31 11 = some (11, .ireturn, 1, [], 0) by decide +kernel) rfl
-- X9_in
theorem x32_0 {l1 l2 : Value} {x : Int32} {S : List Value} {E : q_E} {g : q_G} {Q : Option Value → q_E → q_G → Prop} : q_X 32 0 [(.int x), l1, l2] S E g Q = q_X 32 1 [(.int x), l1, l2] ((.int x) :: S) E g Q := q_X_stp (show q_P 32 0 = some (0, .iload_n 0, 1, [], 0) by decide +kernel) rfl rfl
theorem x32_1 {l0 l2 : Value} {x : Int32} {S : List Value} {E : q_E} {g : q_G} {Q : Option Value → q_E → q_G → Prop} : q_X 32 1 [l0, (.int x), l2] S E g Q = q_X 32 2 [l0, (.int x), l2] ((.int x) :: S) E g Q := q_X_stp (show q_P 32 1 = some (1, .iload_n 1, 1, [], 0) by decide +kernel) rfl rfl
theorem x32_2 {x y : Int32} {L S : List Value} {E : q_E} {g : q_G} {Q : Option Value → q_E → q_G → Prop} : q_X 32 2 L (.int y :: .int x :: S) E g Q = (if x < y then q_X 32 14 L S E g Q else q_X 32 5 L S E g Q) := x_ilt (show q_P 32 2 = some (2, .if_icmp .lt 12, 3, [], 0) by decide +kernel) (by decide)
theorem x32_5 {l1 l2 : Value} {x : Int32} {S : List Value} {E : q_E} {g : q_G} {Q : Option Value → q_E → q_G → Prop} : q_X 32 5 [(.int x), l1, l2] S E g Q = q_X 32 6 [(.int x), l1, l2] ((.int x) :: S) E g Q := q_X_stp (show q_P 32 5 = some (5, .iload_n 0, 1, [], 0) by decide +kernel) rfl rfl
theorem x32_6 {l0 l1 : Value} {x : Int32} {S : List Value} {E : q_E} {g : q_G} {Q : Option Value → q_E → q_G → Prop} : q_X 32 6 [l0, l1, (.int x)] S E g Q = q_X 32 7 [l0, l1, (.int x)] ((.int x) :: S) E g Q := q_X_stp (show q_P 32 6 = some (6, .iload_n 2, 1, [], 0) by decide +kernel) rfl rfl
theorem x32_7 {x y : Int32} {L S : List Value} {E : q_E} {g : q_G} {Q : Option Value → q_E → q_G → Prop} : q_X 32 7 L (.int y :: .int x :: S) E g Q = (if y < x then q_X 32 14 L S E g Q else q_X 32 10 L S E g Q) := x_igt (show q_P 32 7 = some (7, .if_icmp .gt 7, 3, [], 0) by decide +kernel) (by decide)
theorem x32_10 {L S : List Value} {E : q_E} {g : q_G} {Q : Option Value → q_E → q_G → Prop} : q_X 32 10 L S E g Q = q_X 32 11 L (.int (nI 1) :: S) E g Q := x_iconst (show q_P 32 10 = some (10, .iconst 1, 1, [], 0) by decide +kernel) (by decide)
theorem x32_11 {L S : List Value} {E : q_E} {g : q_G} {Q : Option Value → q_E → q_G → Prop} : q_X 32 11 L S E g Q = q_X 32 15 L S E g Q := x_goto (show q_P 32 11 = some (11, .goto 4, 3, [], 0) by decide +kernel) (by decide)
theorem x32_14 {L S : List Value} {E : q_E} {g : q_G} {Q : Option Value → q_E → q_G → Prop} : q_X 32 14 L S E g Q = q_X 32 15 L (.int (nI 0) :: S) E g Q := x_iconst (show q_P 32 14 = some (14, .iconst 0, 1, [], 0) by decide +kernel) (by decide)
theorem x32_15 {v : Int32} {L : List Value} {E : q_E} {g : q_G} {Q : Option Value → q_E → q_G → Prop} : q_X 32 15 L [.int v] E g Q = (narrow .boolean (.int v) = .int v ∧ Q (some (.int v)) E g) := x_reti (show q_P 32 15 = some (15, .ireturn, 1, [], 0) by decide +kernel) rfl
-- X9_isBeside
theorem x33_0 {l1 l2 : Value} {x : Int32} {S : List Value} {E : q_E} {g : q_G} {Q : Option Value → q_E → q_G → Prop} : q_X 33 0 [(.int x), l1, l2] S E g Q = q_X 33 1 [(.int x), l1, l2] ((.int x) :: S) E g Q := q_X_stp (show q_P 33 0 = some (0, .iload_n 0, 1, [], 0) by decide +kernel) rfl rfl
theorem x33_1 {l0 l2 : Value} {x : Int32} {S : List Value} {E : q_E} {g : q_G} {Q : Option Value → q_E → q_G → Prop} : q_X 33 1 [l0, (.int x), l2] S E g Q = q_X 33 2 [l0, (.int x), l2] ((.int x) :: S) E g Q := q_X_stp (show q_P 33 1 = some (1, .iload_n 1, 1, [], 0) by decide +kernel) rfl rfl
theorem x33_2 {x y : Int32} {L S : List Value} {E : q_E} {g : q_G} {Q : Option Value → q_E → q_G → Prop} : q_X 33 2 L (.int y :: .int x :: S) E g Q = (if x ≤ y then q_X 33 11 L S E g Q else q_X 33 5 L S E g Q) := x_ile (show q_P 33 2 = some (2, .if_icmp .le 9, 3, [], 0) by decide +kernel) (by decide)
theorem x33_5 {l1 l2 : Value} {x : Int32} {S : List Value} {E : q_E} {g : q_G} {Q : Option Value → q_E → q_G → Prop} : q_X 33 5 [(.int x), l1, l2] S E g Q = q_X 33 6 [(.int x), l1, l2] ((.int x) :: S) E g Q := q_X_stp (show q_P 33 5 = some (5, .iload_n 0, 1, [], 0) by decide +kernel) rfl rfl
theorem x33_6 {l0 l2 : Value} {x : Int32} {S : List Value} {E : q_E} {g : q_G} {Q : Option Value → q_E → q_G → Prop} : q_X 33 6 [l0, (.int x), l2] S E g Q = q_X 33 7 [l0, (.int x), l2] ((.int x) :: S) E g Q := q_X_stp (show q_P 33 6 = some (6, .iload_n 1, 1, [], 0) by decide +kernel) rfl rfl
theorem x33_7 {x y : Int32} {L S : List Value} {E : q_E} {g : q_G} {Q : Option Value → q_E → q_G → Prop} : q_X 33 7 L (.int y :: .int x :: S) E g Q = q_X 33 8 L (.int (x - y) :: S) E g Q := x_isub (show q_P 33 7 = some (7, .isub, 1, [], 0) by decide +kernel)
theorem x33_8 {L S : List Value} {E : q_E} {g : q_G} {Q : Option Value → q_E → q_G → Prop} : q_X 33 8 L S E g Q = q_X 33 14 L S E g Q := x_goto (show q_P 33 8 = some (8, .goto 6, 3, [], 0) by decide +kernel) (by decide)
theorem x33_11 {l0 l2 : Value} {x : Int32} {S : List Value} {E : q_E} {g : q_G} {Q : Option Value → q_E → q_G → Prop} : q_X 33 11 [l0, (.int x), l2] S E g Q = q_X 33 12 [l0, (.int x), l2] ((.int x) :: S) E g Q := q_X_stp (show q_P 33 11 = some (11, .iload_n 1, 1, [], 0) by decide +kernel) rfl rfl
theorem x33_12 {l1 l2 : Value} {x : Int32} {S : List Value} {E : q_E} {g : q_G} {Q : Option Value → q_E → q_G → Prop} : q_X 33 12 [(.int x), l1, l2] S E g Q = q_X 33 13 [(.int x), l1, l2] ((.int x) :: S) E g Q := q_X_stp (show q_P 33 12 = some (12, .iload_n 0, 1, [], 0) by decide +kernel) rfl rfl
theorem x33_13 {x y : Int32} {L S : List Value} {E : q_E} {g : q_G} {Q : Option Value → q_E → q_G → Prop} : q_X 33 13 L (.int y :: .int x :: S) E g Q = q_X 33 14 L (.int (x - y) :: S) E g Q := x_isub (show q_P 33 13 = some (13, .isub, 1, [], 0) by decide +kernel)
theorem x33_14 {l0 l1 l2 : Value} {x : Int32} {S : List Value} {E : q_E} {g : q_G} {Q : Option Value → q_E → q_G → Prop} : q_X 33 14 [l0, l1, l2] ((.int x) :: S) E g Q = q_X 33 15 [l0, l1, (.int x)] S E g Q := q_X_stp (show q_P 33 14 = some (14, .istore_n 2, 1, [], 0) by decide +kernel) rfl rfl
theorem x33_15 {l0 l1 : Value} {x : Int32} {S : List Value} {E : q_E} {g : q_G} {Q : Option Value → q_E → q_G → Prop} : q_X 33 15 [l0, l1, (.int x)] S E g Q = q_X 33 16 [l0, l1, (.int x)] ((.int x) :: S) E g Q := q_X_stp (show q_P 33 15 = some (15, .iload_n 2, 1, [], 0) by decide +kernel) rfl rfl
theorem x33_16 {L S : List Value} {E : q_E} {g : q_G} {Q : Option Value → q_E → q_G → Prop} : q_X 33 16 L S E g Q = q_X 33 17 L (.int (nI 5) :: S) E g Q := x_iconst (show q_P 33 16 = some (16, .iconst 5, 1, [], 0) by decide +kernel) (by decide)
theorem x33_17 {x y : Int32} {L S : List Value} {E : q_E} {g : q_G} {Q : Option Value → q_E → q_G → Prop} : q_X 33 17 L (.int y :: .int x :: S) E g Q = (if x = y then q_X 33 34 L S E g Q else q_X 33 20 L S E g Q) := x_ieq (show q_P 33 17 = some (17, .if_icmp .eq 17, 3, [], 0) by decide +kernel) (by decide)
theorem x33_20 {l0 l1 : Value} {x : Int32} {S : List Value} {E : q_E} {g : q_G} {Q : Option Value → q_E → q_G → Prop} : q_X 33 20 [l0, l1, (.int x)] S E g Q = q_X 33 21 [l0, l1, (.int x)] ((.int x) :: S) E g Q := q_X_stp (show q_P 33 20 = some (20, .iload_n 2, 1, [], 0) by decide +kernel) rfl rfl
theorem x33_21 {L S : List Value} {E : q_E} {g : q_G} {Q : Option Value → q_E → q_G → Prop} : q_X 33 21 L S E g Q = q_X 33 22 L (.int (nI 1) :: S) E g Q := x_iconst (show q_P 33 21 = some (21, .iconst 1, 1, [], 0) by decide +kernel) (by decide)
theorem x33_22 {x y : Int32} {L S : List Value} {E : q_E} {g : q_G} {Q : Option Value → q_E → q_G → Prop} : q_X 33 22 L (.int y :: .int x :: S) E g Q = (if x = y then q_X 33 25 L S E g Q else q_X 33 38 L S E g Q) := x_ine (show q_P 33 22 = some (22, .if_icmp .ne 16, 3, [], 0) by decide +kernel) (by decide)
theorem x33_25 {l1 l2 : Value} {x : Int32} {S : List Value} {E : q_E} {g : q_G} {Q : Option Value → q_E → q_G → Prop} : q_X 33 25 [(.int x), l1, l2] S E g Q = q_X 33 26 [(.int x), l1, l2] ((.int x) :: S) E g Q := q_X_stp (show q_P 33 25 = some (25, .iload_n 0, 1, [], 0) by decide +kernel) rfl rfl
theorem x33_26 {L S : List Value} {E : q_E} {g : q_G} {Q : Option Value → q_E → q_G → Prop} : q_X 33 26 L S E g Q = q_X 33 27 L (.int (nI 5) :: S) E g Q := x_iconst (show q_P 33 26 = some (26, .iconst 5, 1, [], 0) by decide +kernel) (by decide)
theorem x33_27 {x y : Int32} {L S : List Value} {E : q_E} {g : q_G} {Q : Option Value → q_E → q_G → Prop} : q_X 33 27 L (.int y :: .int x :: S) E g Q = (¬ y = 0 ∧ q_X 33 28 L (.int (x / y) :: S) E g Q) := x_idiv (show q_P 33 27 = some (27, .idiv, 1, [], 0) by decide +kernel)
theorem x33_28 {l0 l2 : Value} {x : Int32} {S : List Value} {E : q_E} {g : q_G} {Q : Option Value → q_E → q_G → Prop} : q_X 33 28 [l0, (.int x), l2] S E g Q = q_X 33 29 [l0, (.int x), l2] ((.int x) :: S) E g Q := q_X_stp (show q_P 33 28 = some (28, .iload_n 1, 1, [], 0) by decide +kernel) rfl rfl
theorem x33_29 {L S : List Value} {E : q_E} {g : q_G} {Q : Option Value → q_E → q_G → Prop} : q_X 33 29 L S E g Q = q_X 33 30 L (.int (nI 5) :: S) E g Q := x_iconst (show q_P 33 29 = some (29, .iconst 5, 1, [], 0) by decide +kernel) (by decide)
theorem x33_30 {x y : Int32} {L S : List Value} {E : q_E} {g : q_G} {Q : Option Value → q_E → q_G → Prop} : q_X 33 30 L (.int y :: .int x :: S) E g Q = (¬ y = 0 ∧ q_X 33 31 L (.int (x / y) :: S) E g Q) := x_idiv (show q_P 33 30 = some (30, .idiv, 1, [], 0) by decide +kernel)
theorem x33_31 {x y : Int32} {L S : List Value} {E : q_E} {g : q_G} {Q : Option Value → q_E → q_G → Prop} : q_X 33 31 L (.int y :: .int x :: S) E g Q = (if x = y then q_X 33 34 L S E g Q else q_X 33 38 L S E g Q) := x_ine (show q_P 33 31 = some (31, .if_icmp .ne 7, 3, [], 0) by decide +kernel) (by decide)
theorem x33_34 {L S : List Value} {E : q_E} {g : q_G} {Q : Option Value → q_E → q_G → Prop} : q_X 33 34 L S E g Q = q_X 33 35 L (.int (nI 1) :: S) E g Q := x_iconst (show q_P 33 34 = some (34, .iconst 1, 1, [], 0) by decide +kernel) (by decide)
theorem x33_35 {L S : List Value} {E : q_E} {g : q_G} {Q : Option Value → q_E → q_G → Prop} : q_X 33 35 L S E g Q = q_X 33 39 L S E g Q := x_goto (show q_P 33 35 = some (35, .goto 4, 3, [], 0) by decide +kernel) (by decide)
theorem x33_38 {L S : List Value} {E : q_E} {g : q_G} {Q : Option Value → q_E → q_G → Prop} : q_X 33 38 L S E g Q = q_X 33 39 L (.int (nI 0) :: S) E g Q := x_iconst (show q_P 33 38 = some (38, .iconst 0, 1, [], 0) by decide +kernel) (by decide)
theorem x33_39 {v : Int32} {L : List Value} {E : q_E} {g : q_G} {Q : Option Value → q_E → q_G → Prop} : q_X 33 39 L [.int v] E g Q = (narrow .boolean (.int v) = .int v ∧ Q (some (.int v)) E g) := x_reti (show q_P 33 39 = some (39, .ireturn, 1, [], 0) by decide +kernel) rfl
-- X9_of
theorem x34_0 {l1 l2 : Value} {x : Nat} {S : List Value} {E : q_E} {g : q_G} {Q : Option Value → q_E → q_G → Prop} : q_X 34 0 [(.ref x), l1, l2] S E g Q = q_X 34 1 [(.ref x), l1, l2] ((.ref x) :: S) E g Q := q_X_stp (show q_P 34 0 = some (0, .aload_n 0, 1, [], 0) by decide +kernel) rfl rfl
theorem x34_1 {a : Nat} {L S : List Value} {E : q_E} {g : q_G} {Q : Option Value → q_E → q_G → Prop} : q_X 34 1 L (.ref a :: S) E g Q = ((q_kd E a).1 = 13 ∧ ¬ q_rf E a 0 = 0 ∧ q_X 34 4 L (.ref (q_rf E a 0) :: S) E g Q) := x_getR (show q_P 34 1 = some (1, .getfield 7, 3, [9, 0, 1, 718], 0) by decide +kernel) rfl
theorem x34_4 {L S : List Value} {E : q_E} {g : q_G} {Q : Option Value → q_E → q_G → Prop} : q_X 34 4 L S E g Q = q_X 34 6 L (.int (nI 11) :: S) E g Q := x_bipush (show q_P 34 4 = some (4, .bipush 11, 2, [], 0) by decide +kernel) (by decide)
theorem x34_6 {L S : List Value} {E : q_E} {g : q_G} {Q : Option Value → q_E → q_G → Prop} : q_X 34 6 L S E g Q = q_X 34 8 L (.int (nI 8) :: S) E g Q := x_bipush (show q_P 34 6 = some (6, .bipush 8, 2, [], 0) by decide +kernel) (by decide)
theorem x34_8 {l0 l2 : Value} {x : Int32} {S : List Value} {E : q_E} {g : q_G} {Q : Option Value → q_E → q_G → Prop} : q_X 34 8 [l0, (.int x), l2] S E g Q = q_X 34 9 [l0, (.int x), l2] ((.int x) :: S) E g Q := q_X_stp (show q_P 34 8 = some (8, .iload_n 1, 1, [], 0) by decide +kernel) rfl rfl
theorem x34_9 {x y : Int32} {L S : List Value} {E : q_E} {g : q_G} {Q : Option Value → q_E → q_G → Prop} : q_X 34 9 L (.int y :: .int x :: S) E g Q = q_X 34 10 L (.int (x * y) :: S) E g Q := x_imul (show q_P 34 9 = some (9, .imul, 1, [], 0) by decide +kernel)
theorem x34_10 {x y : Int32} {L S : List Value} {E : q_E} {g : q_G} {Q : Option Value → q_E → q_G → Prop} : q_X 34 10 L (.int y :: .int x :: S) E g Q = q_X 34 11 L (.int (x + y) :: S) E g Q := x_iadd (show q_P 34 10 = some (10, .iadd, 1, [], 0) by decide +kernel)
theorem x34_11 {l0 l1 : Value} {x : Int32} {S : List Value} {E : q_E} {g : q_G} {Q : Option Value → q_E → q_G → Prop} : q_X 34 11 [l0, l1, (.int x)] S E g Q = q_X 34 12 [l0, l1, (.int x)] ((.int x) :: S) E g Q := q_X_stp (show q_P 34 11 = some (11, .iload_n 2, 1, [], 0) by decide +kernel) rfl rfl
theorem x34_12 {x y : Int32} {L S : List Value} {E : q_E} {g : q_G} {Q : Option Value → q_E → q_G → Prop} : q_X 34 12 L (.int y :: .int x :: S) E g Q = q_X 34 13 L (.int (x + y) :: S) E g Q := x_iadd (show q_P 34 12 = some (12, .iadd, 1, [], 0) by decide +kernel)
theorem x34_13 {a : Nat} {i : Int32} {L S : List Value} {E : q_E} {g : q_G} {Q : Option Value → q_E → q_G → Prop} : q_X 34 13 L (.int i :: .ref a :: S) E g Q = ((((q_kd E a).1 = 1 ∨ (q_kd E a).1 = 2) ∧ vp_in i (q_kd E a).2) ∧ q_X 34 14 L (.int (g a i.toNatClampNeg) :: S) E g Q) := x_iald (show q_P 34 13 = some (13, .iaload, 1, [], 0) by decide +kernel)
theorem x34_14 {v : Int32} {L : List Value} {E : q_E} {g : q_G} {Q : Option Value → q_E → q_G → Prop} : q_X 34 14 L [.int v] E g Q = Q (some (.int v)) E g := x_retI (show q_P 34 14 = some (14, .ireturn, 1, [], 0) by decide +kernel) rfl
-- X9_onWay
theorem x35_0 {L S : List Value} {E : q_E} {g : q_G} {Q : Option Value → q_E → q_G → Prop} : q_X 35 0 L S E g Q = q_X 35 1 L (.int (nI 0) :: S) E g Q := x_iconst (show q_P 35 0 = some (0, .iconst 0, 1, [], 0) by decide +kernel) (by decide)
theorem x35_1 {l0 l1 l2 l3 : Value} {x : Int32} {S : List Value} {E : q_E} {g : q_G} {Q : Option Value → q_E → q_G → Prop} : q_X 35 1 [l0, l1, l2, l3] ((.int x) :: S) E g Q = q_X 35 2 [l0, l1, (.int x), l3] S E g Q := q_X_stp (show q_P 35 1 = some (1, .istore_n 2, 1, [], 0) by decide +kernel) rfl rfl
theorem x35_2 {L S : List Value} {E : q_E} {g : q_G} {Q : Option Value → q_E → q_G → Prop} : q_X 35 2 L S E g Q = q_X 35 3 L (.int (nI 0) :: S) E g Q := x_iconst (show q_P 35 2 = some (2, .iconst 0, 1, [], 0) by decide +kernel) (by decide)
theorem x35_3 {l0 l1 l2 l3 : Value} {x : Int32} {S : List Value} {E : q_E} {g : q_G} {Q : Option Value → q_E → q_G → Prop} : q_X 35 3 [l0, l1, l2, l3] ((.int x) :: S) E g Q = q_X 35 4 [l0, l1, l2, (.int x)] S E g Q := q_X_stp (show q_P 35 3 = some (3, .istore_n 3, 1, [], 0) by decide +kernel) rfl rfl
theorem x35_4 {l0 l1 l2 : Value} {x : Int32} {S : List Value} {E : q_E} {g : q_G} {Q : Option Value → q_E → q_G → Prop} : q_X 35 4 [l0, l1, l2, (.int x)] S E g Q = q_X 35 5 [l0, l1, l2, (.int x)] ((.int x) :: S) E g Q := q_X_stp (show q_P 35 4 = some (4, .iload_n 3, 1, [], 0) by decide +kernel) rfl rfl
theorem x35_5 {l1 l2 l3 : Value} {x : Nat} {S : List Value} {E : q_E} {g : q_G} {Q : Option Value → q_E → q_G → Prop} : q_X 35 5 [(.ref x), l1, l2, l3] S E g Q = q_X 35 6 [(.ref x), l1, l2, l3] ((.ref x) :: S) E g Q := q_X_stp (show q_P 35 5 = some (5, .aload_n 0, 1, [], 0) by decide +kernel) rfl rfl
theorem x35_6 {a : Nat} {L S : List Value} {E : q_E} {g : q_G} {Q : Option Value → q_E → q_G → Prop} : q_X 35 6 L (.ref a :: S) E g Q = ((q_kd E a).1 = 13 ∧ ¬ q_rf E a 0 = 0 ∧ q_X 35 9 L (.ref (q_rf E a 0) :: S) E g Q) := x_getR (show q_P 35 6 = some (6, .getfield 7, 3, [9, 0, 1, 718], 0) by decide +kernel) rfl
theorem x35_9 {L S : List Value} {E : q_E} {g : q_G} {Q : Option Value → q_E → q_G → Prop} : q_X 35 9 L S E g Q = q_X 35 12 L (.int (nI 137) :: S) E g Q := x_sipush (show q_P 35 9 = some (9, .sipush 137, 3, [], 0) by decide +kernel) (by decide)
theorem x35_12 {a : Nat} {i : Int32} {L S : List Value} {E : q_E} {g : q_G} {Q : Option Value → q_E → q_G → Prop} : q_X 35 12 L (.int i :: .ref a :: S) E g Q = ((((q_kd E a).1 = 1 ∨ (q_kd E a).1 = 2) ∧ vp_in i (q_kd E a).2) ∧ q_X 35 13 L (.int (g a i.toNatClampNeg) :: S) E g Q) := x_iald (show q_P 35 12 = some (12, .iaload, 1, [], 0) by decide +kernel)
theorem x35_13 {x y : Int32} {L S : List Value} {E : q_E} {g : q_G} {Q : Option Value → q_E → q_G → Prop} : q_X 35 13 L (.int y :: .int x :: S) E g Q = (if y ≤ x then q_X 35 59 L S E g Q else q_X 35 16 L S E g Q) := x_ige (show q_P 35 13 = some (13, .if_icmp .ge 46, 3, [], 0) by decide +kernel) (by decide)
theorem x35_16 {l0 l1 l3 : Value} {x : Int32} {S : List Value} {E : q_E} {g : q_G} {Q : Option Value → q_E → q_G → Prop} : q_X 35 16 [l0, l1, (.int x), l3] S E g Q = q_X 35 17 [l0, l1, (.int x), l3] ((.int x) :: S) E g Q := q_X_stp (show q_P 35 16 = some (16, .iload_n 2, 1, [], 0) by decide +kernel) rfl rfl
theorem x35_17 {l1 l2 l3 : Value} {x : Nat} {S : List Value} {E : q_E} {g : q_G} {Q : Option Value → q_E → q_G → Prop} : q_X 35 17 [(.ref x), l1, l2, l3] S E g Q = q_X 35 18 [(.ref x), l1, l2, l3] ((.ref x) :: S) E g Q := q_X_stp (show q_P 35 17 = some (17, .aload_n 0, 1, [], 0) by decide +kernel) rfl rfl
theorem x35_18 {a : Nat} {L S : List Value} {E : q_E} {g : q_G} {Q : Option Value → q_E → q_G → Prop} : q_X 35 18 L (.ref a :: S) E g Q = ((q_kd E a).1 = 13 ∧ ¬ q_rf E a 0 = 0 ∧ q_X 35 21 L (.ref (q_rf E a 0) :: S) E g Q) := x_getR (show q_P 35 18 = some (18, .getfield 7, 3, [9, 0, 1, 718], 0) by decide +kernel) rfl
theorem x35_21 {L S : List Value} {E : q_E} {g : q_G} {Q : Option Value → q_E → q_G → Prop} : q_X 35 21 L S E g Q = q_X 35 24 L (.int (nI 138) :: S) E g Q := x_sipush (show q_P 35 21 = some (21, .sipush 138, 3, [], 0) by decide +kernel) (by decide)
theorem x35_24 {L S : List Value} {E : q_E} {g : q_G} {Q : Option Value → q_E → q_G → Prop} : q_X 35 24 L S E g Q = q_X 35 25 L (.int (nI 3) :: S) E g Q := x_iconst (show q_P 35 24 = some (24, .iconst 3, 1, [], 0) by decide +kernel) (by decide)
theorem x35_25 {l0 l1 l2 : Value} {x : Int32} {S : List Value} {E : q_E} {g : q_G} {Q : Option Value → q_E → q_G → Prop} : q_X 35 25 [l0, l1, l2, (.int x)] S E g Q = q_X 35 26 [l0, l1, l2, (.int x)] ((.int x) :: S) E g Q := q_X_stp (show q_P 35 25 = some (25, .iload_n 3, 1, [], 0) by decide +kernel) rfl rfl
theorem x35_26 {x y : Int32} {L S : List Value} {E : q_E} {g : q_G} {Q : Option Value → q_E → q_G → Prop} : q_X 35 26 L (.int y :: .int x :: S) E g Q = q_X 35 27 L (.int (x * y) :: S) E g Q := x_imul (show q_P 35 26 = some (26, .imul, 1, [], 0) by decide +kernel)
theorem x35_27 {x y : Int32} {L S : List Value} {E : q_E} {g : q_G} {Q : Option Value → q_E → q_G → Prop} : q_X 35 27 L (.int y :: .int x :: S) E g Q = q_X 35 28 L (.int (x + y) :: S) E g Q := x_iadd (show q_P 35 27 = some (27, .iadd, 1, [], 0) by decide +kernel)
theorem x35_28 {a : Nat} {i : Int32} {L S : List Value} {E : q_E} {g : q_G} {Q : Option Value → q_E → q_G → Prop} : q_X 35 28 L (.int i :: .ref a :: S) E g Q = ((((q_kd E a).1 = 1 ∨ (q_kd E a).1 = 2) ∧ vp_in i (q_kd E a).2) ∧ q_X 35 29 L (.int (g a i.toNatClampNeg) :: S) E g Q) := x_iald (show q_P 35 28 = some (28, .iaload, 1, [], 0) by decide +kernel)
theorem x35_29 {l0 l2 l3 : Value} {x : Int32} {S : List Value} {E : q_E} {g : q_G} {Q : Option Value → q_E → q_G → Prop} : q_X 35 29 [l0, (.int x), l2, l3] S E g Q = q_X 35 30 [l0, (.int x), l2, l3] ((.int x) :: S) E g Q := q_X_stp (show q_P 35 29 = some (29, .iload_n 1, 1, [], 0) by decide +kernel) rfl rfl
theorem x35_30 {x y : Int32} {L S : List Value} {E : q_E} {g : q_G} {Q : Option Value → q_E → q_G → Prop} : q_X 35 30 L (.int y :: .int x :: S) E g Q = (if x = y then q_X 35 33 L S E g Q else q_X 35 50 L S E g Q) := x_ine (show q_P 35 30 = some (30, .if_icmp .ne 20, 3, [], 0) by decide +kernel) (by decide)
theorem x35_33 {l1 l2 l3 : Value} {x : Nat} {S : List Value} {E : q_E} {g : q_G} {Q : Option Value → q_E → q_G → Prop} : q_X 35 33 [(.ref x), l1, l2, l3] S E g Q = q_X 35 34 [(.ref x), l1, l2, l3] ((.ref x) :: S) E g Q := q_X_stp (show q_P 35 33 = some (33, .aload_n 0, 1, [], 0) by decide +kernel) rfl rfl
theorem x35_34 {a : Nat} {L S : List Value} {E : q_E} {g : q_G} {Q : Option Value → q_E → q_G → Prop} : q_X 35 34 L (.ref a :: S) E g Q = ((q_kd E a).1 = 13 ∧ ¬ q_rf E a 0 = 0 ∧ q_X 35 37 L (.ref (q_rf E a 0) :: S) E g Q) := x_getR (show q_P 35 34 = some (34, .getfield 7, 3, [9, 0, 1, 718], 0) by decide +kernel) rfl
theorem x35_37 {L S : List Value} {E : q_E} {g : q_G} {Q : Option Value → q_E → q_G → Prop} : q_X 35 37 L S E g Q = q_X 35 40 L (.int (nI 138) :: S) E g Q := x_sipush (show q_P 35 37 = some (37, .sipush 138, 3, [], 0) by decide +kernel) (by decide)
theorem x35_40 {L S : List Value} {E : q_E} {g : q_G} {Q : Option Value → q_E → q_G → Prop} : q_X 35 40 L S E g Q = q_X 35 41 L (.int (nI 3) :: S) E g Q := x_iconst (show q_P 35 40 = some (40, .iconst 3, 1, [], 0) by decide +kernel) (by decide)
theorem x35_41 {l0 l1 l2 : Value} {x : Int32} {S : List Value} {E : q_E} {g : q_G} {Q : Option Value → q_E → q_G → Prop} : q_X 35 41 [l0, l1, l2, (.int x)] S E g Q = q_X 35 42 [l0, l1, l2, (.int x)] ((.int x) :: S) E g Q := q_X_stp (show q_P 35 41 = some (41, .iload_n 3, 1, [], 0) by decide +kernel) rfl rfl
theorem x35_42 {x y : Int32} {L S : List Value} {E : q_E} {g : q_G} {Q : Option Value → q_E → q_G → Prop} : q_X 35 42 L (.int y :: .int x :: S) E g Q = q_X 35 43 L (.int (x * y) :: S) E g Q := x_imul (show q_P 35 42 = some (42, .imul, 1, [], 0) by decide +kernel)
theorem x35_43 {x y : Int32} {L S : List Value} {E : q_E} {g : q_G} {Q : Option Value → q_E → q_G → Prop} : q_X 35 43 L (.int y :: .int x :: S) E g Q = q_X 35 44 L (.int (x + y) :: S) E g Q := x_iadd (show q_P 35 43 = some (43, .iadd, 1, [], 0) by decide +kernel)
theorem x35_44 {L S : List Value} {E : q_E} {g : q_G} {Q : Option Value → q_E → q_G → Prop} : q_X 35 44 L S E g Q = q_X 35 45 L (.int (nI 1) :: S) E g Q := x_iconst (show q_P 35 44 = some (44, .iconst 1, 1, [], 0) by decide +kernel) (by decide)
theorem x35_45 {x y : Int32} {L S : List Value} {E : q_E} {g : q_G} {Q : Option Value → q_E → q_G → Prop} : q_X 35 45 L (.int y :: .int x :: S) E g Q = q_X 35 46 L (.int (x + y) :: S) E g Q := x_iadd (show q_P 35 45 = some (45, .iadd, 1, [], 0) by decide +kernel)
theorem x35_46 {a : Nat} {i : Int32} {L S : List Value} {E : q_E} {g : q_G} {Q : Option Value → q_E → q_G → Prop} : q_X 35 46 L (.int i :: .ref a :: S) E g Q = ((((q_kd E a).1 = 1 ∨ (q_kd E a).1 = 2) ∧ vp_in i (q_kd E a).2) ∧ q_X 35 47 L (.int (g a i.toNatClampNeg) :: S) E g Q) := x_iald (show q_P 35 46 = some (46, .iaload, 1, [], 0) by decide +kernel)
theorem x35_47 {L S : List Value} {E : q_E} {g : q_G} {Q : Option Value → q_E → q_G → Prop} : q_X 35 47 L S E g Q = q_X 35 51 L S E g Q := x_goto (show q_P 35 47 = some (47, .goto 4, 3, [], 0) by decide +kernel) (by decide)
theorem x35_50 {L S : List Value} {E : q_E} {g : q_G} {Q : Option Value → q_E → q_G → Prop} : q_X 35 50 L S E g Q = q_X 35 51 L (.int (nI 0) :: S) E g Q := x_iconst (show q_P 35 50 = some (50, .iconst 0, 1, [], 0) by decide +kernel) (by decide)
theorem x35_51 {x y : Int32} {L S : List Value} {E : q_E} {g : q_G} {Q : Option Value → q_E → q_G → Prop} : q_X 35 51 L (.int y :: .int x :: S) E g Q = q_X 35 52 L (.int (x + y) :: S) E g Q := x_iadd (show q_P 35 51 = some (51, .iadd, 1, [], 0) by decide +kernel)
theorem x35_52 {l0 l1 l2 l3 : Value} {x : Int32} {S : List Value} {E : q_E} {g : q_G} {Q : Option Value → q_E → q_G → Prop} : q_X 35 52 [l0, l1, l2, l3] ((.int x) :: S) E g Q = q_X 35 53 [l0, l1, (.int x), l3] S E g Q := q_X_stp (show q_P 35 52 = some (52, .istore_n 2, 1, [], 0) by decide +kernel) rfl rfl
theorem x35_53 {l0 l1 l2 : Value} {x : Int32} {S : List Value} {E : q_E} {g : q_G} {Q : Option Value → q_E → q_G → Prop} : q_X 35 53 [l0, l1, l2, (.int x)] S E g Q = q_X 35 56 [l0, l1, l2, (.int (x + (nI 1)))] S E g Q := q_X_stp (show q_P 35 53 = some (53, .iinc 3 1, 3, [], 0) by decide +kernel) rfl rfl
theorem x35_56 {L S : List Value} {E : q_E} {g : q_G} {Q : Option Value → q_E → q_G → Prop} : q_X 35 56 L S E g Q = q_X 35 4 L S E g Q := x_goto (show q_P 35 56 = some (56, .goto (-52), 3, [], 0) by decide +kernel) (by decide)
theorem x35_59 {l0 l1 l3 : Value} {x : Int32} {S : List Value} {E : q_E} {g : q_G} {Q : Option Value → q_E → q_G → Prop} : q_X 35 59 [l0, l1, (.int x), l3] S E g Q = q_X 35 60 [l0, l1, (.int x), l3] ((.int x) :: S) E g Q := q_X_stp (show q_P 35 59 = some (59, .iload_n 2, 1, [], 0) by decide +kernel) rfl rfl
theorem x35_60 {v : Int32} {L : List Value} {E : q_E} {g : q_G} {Q : Option Value → q_E → q_G → Prop} : q_X 35 60 L [.int v] E g Q = Q (some (.int v)) E g := x_retI (show q_P 35 60 = some (60, .ireturn, 1, [], 0) by decide +kernel) rfl
-- X9_pair
theorem x36_0 {L S : List Value} {E : q_E} {g : q_G} {Q : Option Value → q_E → q_G → Prop} : q_X 36 0 L S E g Q = q_X 36 3 L (.int (nI 162) :: S) E g Q := x_sipush (show q_P 36 0 = some (0, .sipush 162, 3, [], 0) by decide +kernel) (by decide)
theorem x36_3 {l1 : Value} {x : Int32} {S : List Value} {E : q_E} {g : q_G} {Q : Option Value → q_E → q_G → Prop} : q_X 36 3 [(.int x), l1] S E g Q = q_X 36 4 [(.int x), l1] ((.int x) :: S) E g Q := q_X_stp (show q_P 36 3 = some (3, .iload_n 0, 1, [], 0) by decide +kernel) rfl rfl
theorem x36_4 {l0 : Value} {x : Int32} {S : List Value} {E : q_E} {g : q_G} {Q : Option Value → q_E → q_G → Prop} : q_X 36 4 [l0, (.int x)] S E g Q = q_X 36 5 [l0, (.int x)] ((.int x) :: S) E g Q := q_X_stp (show q_P 36 4 = some (4, .iload_n 1, 1, [], 0) by decide +kernel) rfl rfl
theorem x36_5 {x y : Int32} {L S : List Value} {E : q_E} {g : q_G} {Q : Option Value → q_E → q_G → Prop} : q_X 36 5 L (.int y :: .int x :: S) E g Q = (if y ≤ x then q_X 36 17 L S E g Q else q_X 36 8 L S E g Q) := x_ige (show q_P 36 5 = some (5, .if_icmp .ge 12, 3, [], 0) by decide +kernel) (by decide)
theorem x36_8 {L S : List Value} {E : q_E} {g : q_G} {Q : Option Value → q_E → q_G → Prop} : q_X 36 8 L S E g Q = q_X 36 10 L (.int (nI 12) :: S) E g Q := x_bipush (show q_P 36 8 = some (8, .bipush 12, 2, [], 0) by decide +kernel) (by decide)
theorem x36_10 {l1 : Value} {x : Int32} {S : List Value} {E : q_E} {g : q_G} {Q : Option Value → q_E → q_G → Prop} : q_X 36 10 [(.int x), l1] S E g Q = q_X 36 11 [(.int x), l1] ((.int x) :: S) E g Q := q_X_stp (show q_P 36 10 = some (10, .iload_n 0, 1, [], 0) by decide +kernel) rfl rfl
theorem x36_11 {x y : Int32} {L S : List Value} {E : q_E} {g : q_G} {Q : Option Value → q_E → q_G → Prop} : q_X 36 11 L (.int y :: .int x :: S) E g Q = q_X 36 12 L (.int (x * y) :: S) E g Q := x_imul (show q_P 36 11 = some (11, .imul, 1, [], 0) by decide +kernel)
theorem x36_12 {l0 : Value} {x : Int32} {S : List Value} {E : q_E} {g : q_G} {Q : Option Value → q_E → q_G → Prop} : q_X 36 12 [l0, (.int x)] S E g Q = q_X 36 13 [l0, (.int x)] ((.int x) :: S) E g Q := q_X_stp (show q_P 36 12 = some (12, .iload_n 1, 1, [], 0) by decide +kernel) rfl rfl
theorem x36_13 {x y : Int32} {L S : List Value} {E : q_E} {g : q_G} {Q : Option Value → q_E → q_G → Prop} : q_X 36 13 L (.int y :: .int x :: S) E g Q = q_X 36 14 L (.int (x + y) :: S) E g Q := x_iadd (show q_P 36 13 = some (13, .iadd, 1, [], 0) by decide +kernel)
theorem x36_14 {L S : List Value} {E : q_E} {g : q_G} {Q : Option Value → q_E → q_G → Prop} : q_X 36 14 L S E g Q = q_X 36 23 L S E g Q := x_goto (show q_P 36 14 = some (14, .goto 9, 3, [], 0) by decide +kernel) (by decide)
theorem x36_17 {L S : List Value} {E : q_E} {g : q_G} {Q : Option Value → q_E → q_G → Prop} : q_X 36 17 L S E g Q = q_X 36 19 L (.int (nI 12) :: S) E g Q := x_bipush (show q_P 36 17 = some (17, .bipush 12, 2, [], 0) by decide +kernel) (by decide)
theorem x36_19 {l0 : Value} {x : Int32} {S : List Value} {E : q_E} {g : q_G} {Q : Option Value → q_E → q_G → Prop} : q_X 36 19 [l0, (.int x)] S E g Q = q_X 36 20 [l0, (.int x)] ((.int x) :: S) E g Q := q_X_stp (show q_P 36 19 = some (19, .iload_n 1, 1, [], 0) by decide +kernel) rfl rfl
theorem x36_20 {x y : Int32} {L S : List Value} {E : q_E} {g : q_G} {Q : Option Value → q_E → q_G → Prop} : q_X 36 20 L (.int y :: .int x :: S) E g Q = q_X 36 21 L (.int (x * y) :: S) E g Q := x_imul (show q_P 36 20 = some (20, .imul, 1, [], 0) by decide +kernel)
theorem x36_21 {l1 : Value} {x : Int32} {S : List Value} {E : q_E} {g : q_G} {Q : Option Value → q_E → q_G → Prop} : q_X 36 21 [(.int x), l1] S E g Q = q_X 36 22 [(.int x), l1] ((.int x) :: S) E g Q := q_X_stp (show q_P 36 21 = some (21, .iload_n 0, 1, [], 0) by decide +kernel) rfl rfl
theorem x36_22 {x y : Int32} {L S : List Value} {E : q_E} {g : q_G} {Q : Option Value → q_E → q_G → Prop} : q_X 36 22 L (.int y :: .int x :: S) E g Q = q_X 36 23 L (.int (x + y) :: S) E g Q := x_iadd (show q_P 36 22 = some (22, .iadd, 1, [], 0) by decide +kernel)
theorem x36_23 {x y : Int32} {L S : List Value} {E : q_E} {g : q_G} {Q : Option Value → q_E → q_G → Prop} : q_X 36 23 L (.int y :: .int x :: S) E g Q = q_X 36 24 L (.int (x + y) :: S) E g Q := x_iadd (show q_P 36 23 = some (23, .iadd, 1, [], 0) by decide +kernel)
theorem x36_24 {v : Int32} {L : List Value} {E : q_E} {g : q_G} {Q : Option Value → q_E → q_G → Prop} : q_X 36 24 L [.int v] E g Q = Q (some (.int v)) E g := x_retI (show q_P 36 24 = some (24, .ireturn, 1, [], 0) by decide +kernel) rfl
-- X9_pairs
theorem x37_0 {L S : List Value} {E : q_E} {g : q_G} {Q : Option Value → q_E → q_G → Prop} : q_X 37 0 L S E g Q = q_X 37 1 L (.int (nI 0) :: S) E g Q := x_iconst (show q_P 37 0 = some (0, .iconst 0, 1, [], 0) by decide +kernel) (by decide)
theorem x37_1 {l0 l1 l2 : Value} {x : Int32} {S : List Value} {E : q_E} {g : q_G} {Q : Option Value → q_E → q_G → Prop} : q_X 37 1 [l0, l1, l2] ((.int x) :: S) E g Q = q_X 37 2 [l0, (.int x), l2] S E g Q := q_X_stp (show q_P 37 1 = some (1, .istore_n 1, 1, [], 0) by decide +kernel) rfl rfl
theorem x37_2 {L S : List Value} {E : q_E} {g : q_G} {Q : Option Value → q_E → q_G → Prop} : q_X 37 2 L S E g Q = q_X 37 3 L (.int (nI 0) :: S) E g Q := x_iconst (show q_P 37 2 = some (2, .iconst 0, 1, [], 0) by decide +kernel) (by decide)
theorem x37_3 {l0 l1 l2 : Value} {x : Int32} {S : List Value} {E : q_E} {g : q_G} {Q : Option Value → q_E → q_G → Prop} : q_X 37 3 [l0, l1, l2] ((.int x) :: S) E g Q = q_X 37 4 [l0, l1, (.int x)] S E g Q := q_X_stp (show q_P 37 3 = some (3, .istore_n 2, 1, [], 0) by decide +kernel) rfl rfl
theorem x37_4 {l0 l1 : Value} {x : Int32} {S : List Value} {E : q_E} {g : q_G} {Q : Option Value → q_E → q_G → Prop} : q_X 37 4 [l0, l1, (.int x)] S E g Q = q_X 37 5 [l0, l1, (.int x)] ((.int x) :: S) E g Q := q_X_stp (show q_P 37 4 = some (4, .iload_n 2, 1, [], 0) by decide +kernel) rfl rfl
theorem x37_5 {L S : List Value} {E : q_E} {g : q_G} {Q : Option Value → q_E → q_G → Prop} : q_X 37 5 L S E g Q = q_X 37 8 L (.int (nI 144) :: S) E g Q := x_sipush (show q_P 37 5 = some (5, .sipush 144, 3, [], 0) by decide +kernel) (by decide)
theorem x37_8 {x y : Int32} {L S : List Value} {E : q_E} {g : q_G} {Q : Option Value → q_E → q_G → Prop} : q_X 37 8 L (.int y :: .int x :: S) E g Q = (if y ≤ x then q_X 37 38 L S E g Q else q_X 37 11 L S E g Q) := x_ige (show q_P 37 8 = some (8, .if_icmp .ge 30, 3, [], 0) by decide +kernel) (by decide)
theorem x37_11 {l0 l2 : Value} {x : Int32} {S : List Value} {E : q_E} {g : q_G} {Q : Option Value → q_E → q_G → Prop} : q_X 37 11 [l0, (.int x), l2] S E g Q = q_X 37 12 [l0, (.int x), l2] ((.int x) :: S) E g Q := q_X_stp (show q_P 37 11 = some (11, .iload_n 1, 1, [], 0) by decide +kernel) rfl rfl
theorem x37_12 {l1 l2 : Value} {x : Nat} {S : List Value} {E : q_E} {g : q_G} {Q : Option Value → q_E → q_G → Prop} : q_X 37 12 [(.ref x), l1, l2] S E g Q = q_X 37 13 [(.ref x), l1, l2] ((.ref x) :: S) E g Q := q_X_stp (show q_P 37 12 = some (12, .aload_n 0, 1, [], 0) by decide +kernel) rfl rfl
theorem x37_13 {a : Nat} {L S : List Value} {E : q_E} {g : q_G} {Q : Option Value → q_E → q_G → Prop} : q_X 37 13 L (.ref a :: S) E g Q = ((q_kd E a).1 = 13 ∧ ¬ q_rf E a 0 = 0 ∧ q_X 37 16 L (.ref (q_rf E a 0) :: S) E g Q) := x_getR (show q_P 37 13 = some (13, .getfield 7, 3, [9, 0, 1, 718], 0) by decide +kernel) rfl
theorem x37_16 {L S : List Value} {E : q_E} {g : q_G} {Q : Option Value → q_E → q_G → Prop} : q_X 37 16 L S E g Q = q_X 37 19 L (.int (nI 162) :: S) E g Q := x_sipush (show q_P 37 16 = some (16, .sipush 162, 3, [], 0) by decide +kernel) (by decide)
theorem x37_19 {l0 l1 : Value} {x : Int32} {S : List Value} {E : q_E} {g : q_G} {Q : Option Value → q_E → q_G → Prop} : q_X 37 19 [l0, l1, (.int x)] S E g Q = q_X 37 20 [l0, l1, (.int x)] ((.int x) :: S) E g Q := q_X_stp (show q_P 37 19 = some (19, .iload_n 2, 1, [], 0) by decide +kernel) rfl rfl
theorem x37_20 {x y : Int32} {L S : List Value} {E : q_E} {g : q_G} {Q : Option Value → q_E → q_G → Prop} : q_X 37 20 L (.int y :: .int x :: S) E g Q = q_X 37 21 L (.int (x + y) :: S) E g Q := x_iadd (show q_P 37 20 = some (20, .iadd, 1, [], 0) by decide +kernel)
theorem x37_21 {a : Nat} {i : Int32} {L S : List Value} {E : q_E} {g : q_G} {Q : Option Value → q_E → q_G → Prop} : q_X 37 21 L (.int i :: .ref a :: S) E g Q = ((((q_kd E a).1 = 1 ∨ (q_kd E a).1 = 2) ∧ vp_in i (q_kd E a).2) ∧ q_X 37 22 L (.int (g a i.toNatClampNeg) :: S) E g Q) := x_iald (show q_P 37 21 = some (21, .iaload, 1, [], 0) by decide +kernel)
theorem x37_22 {x : Int32} {L S : List Value} {E : q_E} {g : q_G} {Q : Option Value → q_E → q_G → Prop} : q_X 37 22 L (.int x :: S) E g Q = (if x ≤ nI 0 then q_X 37 29 L S E g Q else q_X 37 25 L S E g Q) := x_zle (show q_P 37 22 = some (22, .ifCond .le 7, 3, [], 0) by decide +kernel) (by decide)
theorem x37_25 {L S : List Value} {E : q_E} {g : q_G} {Q : Option Value → q_E → q_G → Prop} : q_X 37 25 L S E g Q = q_X 37 26 L (.int (nI 1) :: S) E g Q := x_iconst (show q_P 37 25 = some (25, .iconst 1, 1, [], 0) by decide +kernel) (by decide)
theorem x37_26 {L S : List Value} {E : q_E} {g : q_G} {Q : Option Value → q_E → q_G → Prop} : q_X 37 26 L S E g Q = q_X 37 30 L S E g Q := x_goto (show q_P 37 26 = some (26, .goto 4, 3, [], 0) by decide +kernel) (by decide)
theorem x37_29 {L S : List Value} {E : q_E} {g : q_G} {Q : Option Value → q_E → q_G → Prop} : q_X 37 29 L S E g Q = q_X 37 30 L (.int (nI 0) :: S) E g Q := x_iconst (show q_P 37 29 = some (29, .iconst 0, 1, [], 0) by decide +kernel) (by decide)
theorem x37_30 {x y : Int32} {L S : List Value} {E : q_E} {g : q_G} {Q : Option Value → q_E → q_G → Prop} : q_X 37 30 L (.int y :: .int x :: S) E g Q = q_X 37 31 L (.int (x + y) :: S) E g Q := x_iadd (show q_P 37 30 = some (30, .iadd, 1, [], 0) by decide +kernel)
theorem x37_31 {l0 l1 l2 : Value} {x : Int32} {S : List Value} {E : q_E} {g : q_G} {Q : Option Value → q_E → q_G → Prop} : q_X 37 31 [l0, l1, l2] ((.int x) :: S) E g Q = q_X 37 32 [l0, (.int x), l2] S E g Q := q_X_stp (show q_P 37 31 = some (31, .istore_n 1, 1, [], 0) by decide +kernel) rfl rfl
theorem x37_32 {l0 l1 : Value} {x : Int32} {S : List Value} {E : q_E} {g : q_G} {Q : Option Value → q_E → q_G → Prop} : q_X 37 32 [l0, l1, (.int x)] S E g Q = q_X 37 35 [l0, l1, (.int (x + (nI 1)))] S E g Q := q_X_stp (show q_P 37 32 = some (32, .iinc 2 1, 3, [], 0) by decide +kernel) rfl rfl
theorem x37_35 {L S : List Value} {E : q_E} {g : q_G} {Q : Option Value → q_E → q_G → Prop} : q_X 37 35 L S E g Q = q_X 37 4 L S E g Q := x_goto (show q_P 37 35 = some (35, .goto (-31), 3, [], 0) by decide +kernel) (by decide)
theorem x37_38 {l0 l2 : Value} {x : Int32} {S : List Value} {E : q_E} {g : q_G} {Q : Option Value → q_E → q_G → Prop} : q_X 37 38 [l0, (.int x), l2] S E g Q = q_X 37 39 [l0, (.int x), l2] ((.int x) :: S) E g Q := q_X_stp (show q_P 37 38 = some (38, .iload_n 1, 1, [], 0) by decide +kernel) rfl rfl
theorem x37_39 {v : Int32} {L : List Value} {E : q_E} {g : q_G} {Q : Option Value → q_E → q_G → Prop} : q_X 37 39 L [.int v] E g Q = Q (some (.int v)) E g := x_retI (show q_P 37 39 = some (39, .ireturn, 1, [], 0) by decide +kernel) rfl
-- X9_sign
theorem x38_0 {x : Nat} {S : List Value} {E : q_E} {g : q_G} {Q : Option Value → q_E → q_G → Prop} : q_X 38 0 [(.ref x)] S E g Q = q_X 38 1 [(.ref x)] ((.ref x) :: S) E g Q := q_X_stp (show q_P 38 0 = some (0, .aload_n 0, 1, [], 0) by decide +kernel) rfl rfl
theorem x38_1 {a : Nat} {L S : List Value} {E : q_E} {g : q_G} {Q : Option Value → q_E → q_G → Prop} : q_X 38 1 L (.ref a :: S) E g Q = ((q_kd E a).1 = 13 ∧ q_X 38 4 L (.int (g a 6) :: S) E g Q) := x_getI (show q_P 38 1 = some (1, .getfield 122, 3, [9, 6, 0, 724], 0) by decide +kernel) (by decide) rfl
theorem x38_4 {x : Nat} {S : List Value} {E : q_E} {g : q_G} {Q : Option Value → q_E → q_G → Prop} : q_X 38 4 [(.ref x)] S E g Q = q_X 38 5 [(.ref x)] ((.ref x) :: S) E g Q := q_X_stp (show q_P 38 4 = some (4, .aload_n 0, 1, [], 0) by decide +kernel) rfl rfl
theorem x38_5 {a : Nat} {L S : List Value} {E : q_E} {g : q_G} {Q : Option Value → q_E → q_G → Prop} : q_X 38 5 L (.ref a :: S) E g Q = ((q_kd E a).1 = 13 ∧ q_X 38 8 L (.int (g a 3) :: S) E g Q) := x_getI (show q_P 38 5 = some (5, .getfield 119, 3, [9, 3, 0, 721], 0) by decide +kernel) (by decide) rfl
theorem x38_8 {x y : Int32} {L S : List Value} {E : q_E} {g : q_G} {Q : Option Value → q_E → q_G → Prop} : q_X 38 8 L (.int y :: .int x :: S) E g Q = (if y ≤ x then q_X 38 23 L S E g Q else q_X 38 11 L S E g Q) := x_ige (show q_P 38 8 = some (8, .if_icmp .ge 15, 3, [], 0) by decide +kernel) (by decide)
theorem x38_11 {x : Nat} {S : List Value} {E : q_E} {g : q_G} {Q : Option Value → q_E → q_G → Prop} : q_X 38 11 [(.ref x)] S E g Q = q_X 38 12 [(.ref x)] ((.ref x) :: S) E g Q := q_X_stp (show q_P 38 11 = some (11, .aload_n 0, 1, [], 0) by decide +kernel) rfl rfl
theorem x38_12 {a : Nat} {L S : List Value} {E : q_E} {g : q_G} {Q : Option Value → q_E → q_G → Prop} : q_X 38 12 L (.ref a :: S) E g Q = ((q_kd E a).1 = 13 ∧ ¬ q_rf E a 2 = 0 ∧ q_X 38 15 L (.ref (q_rf E a 2) :: S) E g Q) := x_getR (show q_P 38 12 = some (12, .getfield 13, 3, [9, 2, 1, 720], 0) by decide +kernel) rfl
theorem x38_15 {x : Nat} {S : List Value} {E : q_E} {g : q_G} {Q : Option Value → q_E → q_G → Prop} : q_X 38 15 [(.ref x)] S E g Q = q_X 38 16 [(.ref x)] ((.ref x) :: S) E g Q := q_X_stp (show q_P 38 15 = some (15, .aload_n 0, 1, [], 0) by decide +kernel) rfl rfl
theorem x38_16 {a : Nat} {L S : List Value} {E : q_E} {g : q_G} {Q : Option Value → q_E → q_G → Prop} : q_X 38 16 L (.ref a :: S) E g Q = ((q_kd E a).1 = 13 ∧ q_X 38 19 L (.int (g a 6) :: S) E g Q) := x_getI (show q_P 38 16 = some (16, .getfield 122, 3, [9, 6, 0, 724], 0) by decide +kernel) (by decide) rfl
theorem x38_19 {a : Nat} {i : Int32} {L S : List Value} {E : q_E} {g : q_G} {Q : Option Value → q_E → q_G → Prop} : q_X 38 19 L (.int i :: .ref a :: S) E g Q = (((q_kd E a).1 = 3 ∧ vp_in i (q_kd E a).2) ∧ q_X 38 20 L (.int (g a i.toNatClampNeg) :: S) E g Q) := x_cald (show q_P 38 19 = some (19, .caload, 1, [], 0) by decide +kernel)
theorem x38_20 {L S : List Value} {E : q_E} {g : q_G} {Q : Option Value → q_E → q_G → Prop} : q_X 38 20 L S E g Q = q_X 38 24 L S E g Q := x_goto (show q_P 38 20 = some (20, .goto 4, 3, [], 0) by decide +kernel) (by decide)
theorem x38_23 {L S : List Value} {E : q_E} {g : q_G} {Q : Option Value → q_E → q_G → Prop} : q_X 38 23 L S E g Q = q_X 38 24 L (.int (nI 0) :: S) E g Q := x_iconst (show q_P 38 23 = some (23, .iconst 0, 1, [], 0) by decide +kernel) (by decide)
theorem x38_24 {v : Int32} {L : List Value} {E : q_E} {g : q_G} {Q : Option Value → q_E → q_G → Prop} : q_X 38 24 L [.int v] E g Q = Q (some (.int v)) E g := x_retI (show q_P 38 24 = some (24, .ireturn, 1, [], 0) by decide +kernel) rfl
-- Jxf58ca_floatToIntBits_5c35a
theorem x39_0 {x : UInt32} {S : List Value} {E : q_E} {g : q_G} {Q : Option Value → q_E → q_G → Prop} : q_X 39 0 [(.float x)] S E g Q = q_X 39 1 [(.float x)] ((.float x) :: S) E g Q := q_X_stp (show q_P 39 0 = some (0, .fload_n 0, 1, [], 0) by decide +kernel) rfl rfl
theorem x39_1 {v0 : UInt32} {L : List Value} {E : q_E} {g : q_G} {Q : Option Value → q_E → q_G → Prop} : q_X 39 1 L [.float v0] E g Q = q_X 3 0 [.float v0] [] E g (fun v E' g' => q_X 39 4 L (v.toList ++ []) E' g' Q) := q_X_cl (show q_P 39 1 = some (1, .invokestatic 59, 3, [3, 1, 2, 915, 916, 0, 46], 0) by decide +kernel) rfl (as := [.float v0]) (rest := []) (by simp [q_cal, q_cnt, q_rok, Value.category]) rfl
theorem x39_4 {x : Int32} {L S : List Value} {E : q_E} {g : q_G} {Q : Option Value → q_E → q_G → Prop} : q_X 39 4 L (.int x :: S) E g Q = (if x = nI 0 then q_X 39 7 L S E g Q else q_X 39 12 L S E g Q) := x_zne (show q_P 39 4 = some (4, .ifCond .ne 8, 3, [], 0) by decide +kernel) (by decide)
theorem x39_7 {x : UInt32} {S : List Value} {E : q_E} {g : q_G} {Q : Option Value → q_E → q_G → Prop} : q_X 39 7 [(.float x)] S E g Q = q_X 39 8 [(.float x)] ((.float x) :: S) E g Q := q_X_stp (show q_P 39 7 = some (7, .fload_n 0, 1, [], 0) by decide +kernel) rfl rfl
theorem x39_8 {b : UInt32} {L : List Value} {E : q_E} {g : q_G} {Q : Option Value → q_E → q_G → Prop} : q_X 39 8 L [.float b] E g Q = q_X 39 11 L [.int b.toInt32] E g Q := x_f2b (show q_P 39 8 = some (8, .invokestatic 74, 3, [0, 1, 8, 918, 920, 919, 46], 0) by decide +kernel)
theorem x39_11 {v : Int32} {L : List Value} {E : q_E} {g : q_G} {Q : Option Value → q_E → q_G → Prop} : q_X 39 11 L [.int v] E g Q = Q (some (.int v)) E g := x_retI (show q_P 39 11 = some (11, .ireturn, 1, [], 0) by decide +kernel) rfl
theorem x39_12 {L S : List Value} {E : q_E} {g : q_G} {Q : Option Value → q_E → q_G → Prop} : q_X 39 12 L S E g Q = q_X 39 14 L (.int (nI 2143289344) :: S) E g Q := x_ldc (show q_P 39 12 = some (12, .ldc 77, 2, [0, 921], 2143289344) by decide +kernel) (by decide)
theorem x39_14 {v : Int32} {L : List Value} {E : q_E} {g : q_G} {Q : Option Value → q_E → q_G → Prop} : q_X 39 14 L [.int v] E g Q = Q (some (.int v)) E g := x_retI (show q_P 39 14 = some (14, .ireturn, 1, [], 0) by decide +kernel) rfl
-- X0_init
theorem x40_0 {l1 : Value} {x : Nat} {S : List Value} {E : q_E} {g : q_G} {Q : Option Value → q_E → q_G → Prop} : q_X 40 0 [(.ref x), l1] S E g Q = q_X 40 1 [(.ref x), l1] ((.ref x) :: S) E g Q := q_X_stp (show q_P 40 0 = some (0, .aload_n 0, 1, [], 0) by decide +kernel) rfl rfl
theorem x40_1 {a : Nat} {L : List Value} {E : q_E} {g : q_G} {Q : Option Value → q_E → q_G → Prop} : q_X 40 1 L [.ref a] E g Q = q_X 40 4 L [] E g Q := x_oini (show q_P 40 1 = some (1, .invokespecial 3, 3, [0, 0, 6, 66, 53, 54], 0) by decide +kernel)
theorem x40_4 {l1 : Value} {x : Nat} {S : List Value} {E : q_E} {g : q_G} {Q : Option Value → q_E → q_G → Prop} : q_X 40 4 [(.ref x), l1] S E g Q = q_X 40 5 [(.ref x), l1] ((.ref x) :: S) E g Q := q_X_stp (show q_P 40 4 = some (4, .aload_n 0, 1, [], 0) by decide +kernel) rfl rfl
theorem x40_5 {L S : List Value} {E : q_E} {g : q_G} {Q : Option Value → q_E → q_G → Prop} : q_X 40 5 L S E g Q = q_X 40 6 L (.int (nI 0) :: S) E g Q := x_iconst (show q_P 40 5 = some (5, .iconst 0, 1, [], 0) by decide +kernel) (by decide)
theorem x40_6 {a : Nat} {v : Int32} {L S : List Value} {E : q_E} {g : q_G} {Q : Option Value → q_E → q_G → Prop} : q_X 40 6 L (.int v :: .ref a :: S) E g Q = ((q_kd E a).1 = 4 ∧ q_X 40 9 L S E (q_up g a 0 v) Q) := x_putI (show q_P 40 6 = some (6, .putfield 9, 3, [0, 0, 0, 67, 0], 0) by decide +kernel) rfl
theorem x40_9 {l1 : Value} {x : Nat} {S : List Value} {E : q_E} {g : q_G} {Q : Option Value → q_E → q_G → Prop} : q_X 40 9 [(.ref x), l1] S E g Q = q_X 40 10 [(.ref x), l1] ((.ref x) :: S) E g Q := q_X_stp (show q_P 40 9 = some (9, .aload_n 0, 1, [], 0) by decide +kernel) rfl rfl
theorem x40_10 {L S : List Value} {E : q_E} {g : q_G} {Q : Option Value → q_E → q_G → Prop} : q_X 40 10 L S E g Q = q_X 40 11 L (.int (nI 5) :: S) E g Q := x_iconst (show q_P 40 10 = some (10, .iconst 5, 1, [], 0) by decide +kernel) (by decide)
theorem x40_11 {n : Nat} {L S : List Value} {E : q_E} {g : q_G} {Q : Option Value → q_E → q_G → Prop} (hn : n ≤ 100000) : q_X 40 11 L (.int (nI n) :: S) E g Q = q_X 40 13 L (.ref E.1 :: S) (q_new E 2 n) (q_upA g E.1 (fun _ => nI 0)) Q := x_newI (show q_P 40 11 = some (11, .newarray .int, 2, [81], 0) by decide +kernel) hn
theorem x40_13 {a v : Nat} {L S : List Value} {E : q_E} {g : q_G} {Q : Option Value → q_E → q_G → Prop} : q_X 40 13 L (.ref v :: .ref a :: S) E g Q = (((q_kd E a).1 = 4 ∧ v ≠ 0) ∧ q_X 40 16 L S (q_setR E a 1 v) g Q) := x_putR (show q_P 40 13 = some (13, .putfield 15, 3, [0, 1, 1, 70, 1], 0) by decide +kernel) rfl
theorem x40_16 {l1 : Value} {x : Nat} {S : List Value} {E : q_E} {g : q_G} {Q : Option Value → q_E → q_G → Prop} : q_X 40 16 [(.ref x), l1] S E g Q = q_X 40 17 [(.ref x), l1] ((.ref x) :: S) E g Q := q_X_stp (show q_P 40 16 = some (16, .aload_n 0, 1, [], 0) by decide +kernel) rfl rfl
theorem x40_17 {L S : List Value} {E : q_E} {g : q_G} {Q : Option Value → q_E → q_G → Prop} : q_X 40 17 L S E g Q = q_X 40 18 L (.int (nI 5) :: S) E g Q := x_iconst (show q_P 40 17 = some (17, .iconst 5, 1, [], 0) by decide +kernel) (by decide)
theorem x40_18 {n : Nat} {L S : List Value} {E : q_E} {g : q_G} {Q : Option Value → q_E → q_G → Prop} (hn : n ≤ 100000) : q_X 40 18 L (.int (nI n) :: S) E g Q = q_X 40 20 L (.ref E.1 :: S) (q_new E 2 n) (q_upA g E.1 (fun _ => nI 0)) Q := x_newI (show q_P 40 18 = some (18, .newarray .int, 2, [81], 0) by decide +kernel) hn
theorem x40_20 {a v : Nat} {L S : List Value} {E : q_E} {g : q_G} {Q : Option Value → q_E → q_G → Prop} : q_X 40 20 L (.ref v :: .ref a :: S) E g Q = (((q_kd E a).1 = 4 ∧ v ≠ 0) ∧ q_X 40 23 L S (q_setR E a 2 v) g Q) := x_putR (show q_P 40 20 = some (20, .putfield 19, 3, [0, 2, 1, 72, 1], 0) by decide +kernel) rfl
theorem x40_23 {L S : List Value} {E : q_E} {g : q_G} {Q : Option Value → q_E → q_G → Prop} : q_X 40 23 L S E g Q = q_X 40 24 L (.int (nI 0) :: S) E g Q := x_iconst (show q_P 40 23 = some (23, .iconst 0, 1, [], 0) by decide +kernel) (by decide)
theorem x40_24 {l0 l1 : Value} {x : Int32} {S : List Value} {E : q_E} {g : q_G} {Q : Option Value → q_E → q_G → Prop} : q_X 40 24 [l0, l1] ((.int x) :: S) E g Q = q_X 40 25 [l0, (.int x)] S E g Q := q_X_stp (show q_P 40 24 = some (24, .istore_n 1, 1, [], 0) by decide +kernel) rfl rfl
theorem x40_25 {l0 : Value} {x : Int32} {S : List Value} {E : q_E} {g : q_G} {Q : Option Value → q_E → q_G → Prop} : q_X 40 25 [l0, (.int x)] S E g Q = q_X 40 26 [l0, (.int x)] ((.int x) :: S) E g Q := q_X_stp (show q_P 40 25 = some (25, .iload_n 1, 1, [], 0) by decide +kernel) rfl rfl
theorem x40_26 {L S : List Value} {E : q_E} {g : q_G} {Q : Option Value → q_E → q_G → Prop} : q_X 40 26 L S E g Q = q_X 40 27 L (.int (nI 5) :: S) E g Q := x_iconst (show q_P 40 26 = some (26, .iconst 5, 1, [], 0) by decide +kernel) (by decide)
theorem x40_27 {x y : Int32} {L S : List Value} {E : q_E} {g : q_G} {Q : Option Value → q_E → q_G → Prop} : q_X 40 27 L (.int y :: .int x :: S) E g Q = (if y ≤ x then q_X 40 45 L S E g Q else q_X 40 30 L S E g Q) := x_ige (show q_P 40 27 = some (27, .if_icmp .ge 18, 3, [], 0) by decide +kernel) (by decide)
theorem x40_30 {l1 : Value} {x : Nat} {S : List Value} {E : q_E} {g : q_G} {Q : Option Value → q_E → q_G → Prop} : q_X 40 30 [(.ref x), l1] S E g Q = q_X 40 31 [(.ref x), l1] ((.ref x) :: S) E g Q := q_X_stp (show q_P 40 30 = some (30, .aload_n 0, 1, [], 0) by decide +kernel) rfl rfl
theorem x40_31 {a : Nat} {L S : List Value} {E : q_E} {g : q_G} {Q : Option Value → q_E → q_G → Prop} : q_X 40 31 L (.ref a :: S) E g Q = ((q_kd E a).1 = 4 ∧ ¬ q_rf E a 2 = 0 ∧ q_X 40 34 L (.ref (q_rf E a 2) :: S) E g Q) := x_getR (show q_P 40 31 = some (31, .getfield 19, 3, [0, 2, 1, 72], 0) by decide +kernel) rfl
theorem x40_34 {l0 : Value} {x : Int32} {S : List Value} {E : q_E} {g : q_G} {Q : Option Value → q_E → q_G → Prop} : q_X 40 34 [l0, (.int x)] S E g Q = q_X 40 35 [l0, (.int x)] ((.int x) :: S) E g Q := q_X_stp (show q_P 40 34 = some (34, .iload_n 1, 1, [], 0) by decide +kernel) rfl rfl
theorem x40_35 {L S : List Value} {E : q_E} {g : q_G} {Q : Option Value → q_E → q_G → Prop} : q_X 40 35 L S E g Q = q_X 40 38 L (.int (nI 359) :: S) E g Q := x_sipush (show q_P 40 35 = some (35, .sipush 359, 3, [], 0) by decide +kernel) (by decide)
theorem x40_38 {a : Nat} {i x : Int32} {L S : List Value} {E : q_E} {g : q_G} {Q : Option Value → q_E → q_G → Prop} : q_X 40 38 L (.int x :: .int i :: .ref a :: S) E g Q = (((q_kd E a).1 = 2 ∧ vp_in i (q_kd E a).2) ∧ q_X 40 39 L S E (q_up g a i.toNatClampNeg x) Q) := x_iast (show q_P 40 38 = some (38, .iastore, 1, [], 0) by decide +kernel)
theorem x40_39 {l0 : Value} {x : Int32} {S : List Value} {E : q_E} {g : q_G} {Q : Option Value → q_E → q_G → Prop} : q_X 40 39 [l0, (.int x)] S E g Q = q_X 40 42 [l0, (.int (x + (nI 1)))] S E g Q := q_X_stp (show q_P 40 39 = some (39, .iinc 1 1, 3, [], 0) by decide +kernel) rfl rfl
theorem x40_42 {L S : List Value} {E : q_E} {g : q_G} {Q : Option Value → q_E → q_G → Prop} : q_X 40 42 L S E g Q = q_X 40 25 L S E g Q := x_goto (show q_P 40 42 = some (42, .goto (-17), 3, [], 0) by decide +kernel) (by decide)
theorem x40_45 {L : List Value} {E : q_E} {g : q_G} {Q : Option Value → q_E → q_G → Prop} : q_X 40 45 L [] E g Q = Q none E g := x_retv (show q_P 40 45 = some (45, .return_, 1, [], 0) by decide +kernel)
-- X0_isInSeason
theorem x41_0 {l1 l2 l3 l4 : Value} {x : Nat} {S : List Value} {E : q_E} {g : q_G} {Q : Option Value → q_E → q_G → Prop} : q_X 41 0 [(.ref x), l1, l2, l3, l4] S E g Q = q_X 41 1 [(.ref x), l1, l2, l3, l4] ((.ref x) :: S) E g Q := q_X_stp (show q_P 41 0 = some (0, .aload_n 0, 1, [], 0) by decide +kernel) rfl rfl
theorem x41_1 {v0 : Nat} {L : List Value} {E : q_E} {g : q_G} {Q : Option Value → q_E → q_G → Prop} : q_X 41 1 L [.ref v0] E g Q = ((q_kd E v0).1 = 4 ∧ q_X 4 0 [.ref v0] [] E g (fun v E' g' => q_X 41 4 L (v.toList ++ []) E' g' Q)) := q_X_cv (show q_P 41 1 = some (1, .invokevirtual 26, 3, [4, 0, 0, 379, 380, 381, 36, 0], 0) by decide +kernel) rfl (as := [.ref v0]) (rest := []) (c := (q_kd E v0).1 = 4) (by by_cases h : (q_kd E v0).1 = 4 <;> simp [q_cal, q_cnt, q_rok, Value.category, h]) rfl
theorem x41_4 {l1 l2 l3 l4 : Value} {x : Nat} {S : List Value} {E : q_E} {g : q_G} {Q : Option Value → q_E → q_G → Prop} : q_X 41 4 [(.ref x), l1, l2, l3, l4] S E g Q = q_X 41 5 [(.ref x), l1, l2, l3, l4] ((.ref x) :: S) E g Q := q_X_stp (show q_P 41 4 = some (4, .aload_n 0, 1, [], 0) by decide +kernel) rfl rfl
theorem x41_5 {a : Nat} {L S : List Value} {E : q_E} {g : q_G} {Q : Option Value → q_E → q_G → Prop} : q_X 41 5 L (.ref a :: S) E g Q = ((q_kd E a).1 = 4 ∧ ¬ q_rf E a 1 = 0 ∧ q_X 41 8 L (.ref (q_rf E a 1) :: S) E g Q) := x_getR (show q_P 41 5 = some (5, .getfield 15, 3, [0, 1, 1, 70], 0) by decide +kernel) rfl
theorem x41_8 {l0 l2 l3 l4 : Value} {x : Int32} {S : List Value} {E : q_E} {g : q_G} {Q : Option Value → q_E → q_G → Prop} : q_X 41 8 [l0, (.int x), l2, l3, l4] S E g Q = q_X 41 9 [l0, (.int x), l2, l3, l4] ((.int x) :: S) E g Q := q_X_stp (show q_P 41 8 = some (8, .iload_n 1, 1, [], 0) by decide +kernel) rfl rfl
theorem x41_9 {a : Nat} {i : Int32} {L S : List Value} {E : q_E} {g : q_G} {Q : Option Value → q_E → q_G → Prop} : q_X 41 9 L (.int i :: .ref a :: S) E g Q = ((((q_kd E a).1 = 1 ∨ (q_kd E a).1 = 2) ∧ vp_in i (q_kd E a).2) ∧ q_X 41 10 L (.int (g a i.toNatClampNeg) :: S) E g Q) := x_iald (show q_P 41 9 = some (9, .iaload, 1, [], 0) by decide +kernel)
theorem x41_10 {x y : Int32} {L S : List Value} {E : q_E} {g : q_G} {Q : Option Value → q_E → q_G → Prop} : q_X 41 10 L (.int y :: .int x :: S) E g Q = (if x < y then q_X 41 17 L S E g Q else q_X 41 13 L S E g Q) := x_ilt (show q_P 41 10 = some (10, .if_icmp .lt 7, 3, [], 0) by decide +kernel) (by decide)
theorem x41_13 {L S : List Value} {E : q_E} {g : q_G} {Q : Option Value → q_E → q_G → Prop} : q_X 41 13 L S E g Q = q_X 41 14 L (.int (nI 1) :: S) E g Q := x_iconst (show q_P 41 13 = some (13, .iconst 1, 1, [], 0) by decide +kernel) (by decide)
theorem x41_14 {L S : List Value} {E : q_E} {g : q_G} {Q : Option Value → q_E → q_G → Prop} : q_X 41 14 L S E g Q = q_X 41 18 L S E g Q := x_goto (show q_P 41 14 = some (14, .goto 4, 3, [], 0) by decide +kernel) (by decide)
theorem x41_17 {L S : List Value} {E : q_E} {g : q_G} {Q : Option Value → q_E → q_G → Prop} : q_X 41 17 L S E g Q = q_X 41 18 L (.int (nI 0) :: S) E g Q := x_iconst (show q_P 41 17 = some (17, .iconst 0, 1, [], 0) by decide +kernel) (by decide)
theorem x41_18 {l0 l1 l2 l3 l4 : Value} {x : Int32} {S : List Value} {E : q_E} {g : q_G} {Q : Option Value → q_E → q_G → Prop} : q_X 41 18 [l0, l1, l2, l3, l4] ((.int x) :: S) E g Q = q_X 41 19 [l0, l1, (.int x), l3, l4] S E g Q := q_X_stp (show q_P 41 18 = some (18, .istore_n 2, 1, [], 0) by decide +kernel) rfl rfl
theorem x41_19 {l1 l2 l3 l4 : Value} {x : Nat} {S : List Value} {E : q_E} {g : q_G} {Q : Option Value → q_E → q_G → Prop} : q_X 41 19 [(.ref x), l1, l2, l3, l4] S E g Q = q_X 41 20 [(.ref x), l1, l2, l3, l4] ((.ref x) :: S) E g Q := q_X_stp (show q_P 41 19 = some (19, .aload_n 0, 1, [], 0) by decide +kernel) rfl rfl
theorem x41_20 {v0 : Nat} {L : List Value} {E : q_E} {g : q_G} {Q : Option Value → q_E → q_G → Prop} : q_X 41 20 L [.ref v0] E g Q = ((q_kd E v0).1 = 4 ∧ q_X 4 0 [.ref v0] [] E g (fun v E' g' => q_X 41 23 L (v.toList ++ []) E' g' Q)) := q_X_cv (show q_P 41 20 = some (20, .invokevirtual 26, 3, [4, 0, 0, 379, 380, 381, 36, 0], 0) by decide +kernel) rfl (as := [.ref v0]) (rest := []) (c := (q_kd E v0).1 = 4) (by by_cases h : (q_kd E v0).1 = 4 <;> simp [q_cal, q_cnt, q_rok, Value.category, h]) rfl
theorem x41_23 {l1 l2 l3 l4 : Value} {x : Nat} {S : List Value} {E : q_E} {g : q_G} {Q : Option Value → q_E → q_G → Prop} : q_X 41 23 [(.ref x), l1, l2, l3, l4] S E g Q = q_X 41 24 [(.ref x), l1, l2, l3, l4] ((.ref x) :: S) E g Q := q_X_stp (show q_P 41 23 = some (23, .aload_n 0, 1, [], 0) by decide +kernel) rfl rfl
theorem x41_24 {a : Nat} {L S : List Value} {E : q_E} {g : q_G} {Q : Option Value → q_E → q_G → Prop} : q_X 41 24 L (.ref a :: S) E g Q = ((q_kd E a).1 = 4 ∧ ¬ q_rf E a 2 = 0 ∧ q_X 41 27 L (.ref (q_rf E a 2) :: S) E g Q) := x_getR (show q_P 41 24 = some (24, .getfield 19, 3, [0, 2, 1, 72], 0) by decide +kernel) rfl
theorem x41_27 {l0 l2 l3 l4 : Value} {x : Int32} {S : List Value} {E : q_E} {g : q_G} {Q : Option Value → q_E → q_G → Prop} : q_X 41 27 [l0, (.int x), l2, l3, l4] S E g Q = q_X 41 28 [l0, (.int x), l2, l3, l4] ((.int x) :: S) E g Q := q_X_stp (show q_P 41 27 = some (27, .iload_n 1, 1, [], 0) by decide +kernel) rfl rfl
theorem x41_28 {a : Nat} {i : Int32} {L S : List Value} {E : q_E} {g : q_G} {Q : Option Value → q_E → q_G → Prop} : q_X 41 28 L (.int i :: .ref a :: S) E g Q = ((((q_kd E a).1 = 1 ∨ (q_kd E a).1 = 2) ∧ vp_in i (q_kd E a).2) ∧ q_X 41 29 L (.int (g a i.toNatClampNeg) :: S) E g Q) := x_iald (show q_P 41 28 = some (28, .iaload, 1, [], 0) by decide +kernel)
theorem x41_29 {x y : Int32} {L S : List Value} {E : q_E} {g : q_G} {Q : Option Value → q_E → q_G → Prop} : q_X 41 29 L (.int y :: .int x :: S) E g Q = (if y < x then q_X 41 36 L S E g Q else q_X 41 32 L S E g Q) := x_igt (show q_P 41 29 = some (29, .if_icmp .gt 7, 3, [], 0) by decide +kernel) (by decide)
theorem x41_32 {L S : List Value} {E : q_E} {g : q_G} {Q : Option Value → q_E → q_G → Prop} : q_X 41 32 L S E g Q = q_X 41 33 L (.int (nI 1) :: S) E g Q := x_iconst (show q_P 41 32 = some (32, .iconst 1, 1, [], 0) by decide +kernel) (by decide)
theorem x41_33 {L S : List Value} {E : q_E} {g : q_G} {Q : Option Value → q_E → q_G → Prop} : q_X 41 33 L S E g Q = q_X 41 37 L S E g Q := x_goto (show q_P 41 33 = some (33, .goto 4, 3, [], 0) by decide +kernel) (by decide)
theorem x41_36 {L S : List Value} {E : q_E} {g : q_G} {Q : Option Value → q_E → q_G → Prop} : q_X 41 36 L S E g Q = q_X 41 37 L (.int (nI 0) :: S) E g Q := x_iconst (show q_P 41 36 = some (36, .iconst 0, 1, [], 0) by decide +kernel) (by decide)
theorem x41_37 {l0 l1 l2 l3 l4 : Value} {x : Int32} {S : List Value} {E : q_E} {g : q_G} {Q : Option Value → q_E → q_G → Prop} : q_X 41 37 [l0, l1, l2, l3, l4] ((.int x) :: S) E g Q = q_X 41 38 [l0, l1, l2, (.int x), l4] S E g Q := q_X_stp (show q_P 41 37 = some (37, .istore_n 3, 1, [], 0) by decide +kernel) rfl rfl
theorem x41_38 {l1 l2 l3 l4 : Value} {x : Nat} {S : List Value} {E : q_E} {g : q_G} {Q : Option Value → q_E → q_G → Prop} : q_X 41 38 [(.ref x), l1, l2, l3, l4] S E g Q = q_X 41 39 [(.ref x), l1, l2, l3, l4] ((.ref x) :: S) E g Q := q_X_stp (show q_P 41 38 = some (38, .aload_n 0, 1, [], 0) by decide +kernel) rfl rfl
theorem x41_39 {a : Nat} {L S : List Value} {E : q_E} {g : q_G} {Q : Option Value → q_E → q_G → Prop} : q_X 41 39 L (.ref a :: S) E g Q = ((q_kd E a).1 = 4 ∧ ¬ q_rf E a 1 = 0 ∧ q_X 41 42 L (.ref (q_rf E a 1) :: S) E g Q) := x_getR (show q_P 41 39 = some (39, .getfield 15, 3, [0, 1, 1, 70], 0) by decide +kernel) rfl
theorem x41_42 {l0 l2 l3 l4 : Value} {x : Int32} {S : List Value} {E : q_E} {g : q_G} {Q : Option Value → q_E → q_G → Prop} : q_X 41 42 [l0, (.int x), l2, l3, l4] S E g Q = q_X 41 43 [l0, (.int x), l2, l3, l4] ((.int x) :: S) E g Q := q_X_stp (show q_P 41 42 = some (42, .iload_n 1, 1, [], 0) by decide +kernel) rfl rfl
theorem x41_43 {a : Nat} {i : Int32} {L S : List Value} {E : q_E} {g : q_G} {Q : Option Value → q_E → q_G → Prop} : q_X 41 43 L (.int i :: .ref a :: S) E g Q = ((((q_kd E a).1 = 1 ∨ (q_kd E a).1 = 2) ∧ vp_in i (q_kd E a).2) ∧ q_X 41 44 L (.int (g a i.toNatClampNeg) :: S) E g Q) := x_iald (show q_P 41 43 = some (43, .iaload, 1, [], 0) by decide +kernel)
theorem x41_44 {l1 l2 l3 l4 : Value} {x : Nat} {S : List Value} {E : q_E} {g : q_G} {Q : Option Value → q_E → q_G → Prop} : q_X 41 44 [(.ref x), l1, l2, l3, l4] S E g Q = q_X 41 45 [(.ref x), l1, l2, l3, l4] ((.ref x) :: S) E g Q := q_X_stp (show q_P 41 44 = some (44, .aload_n 0, 1, [], 0) by decide +kernel) rfl rfl
theorem x41_45 {a : Nat} {L S : List Value} {E : q_E} {g : q_G} {Q : Option Value → q_E → q_G → Prop} : q_X 41 45 L (.ref a :: S) E g Q = ((q_kd E a).1 = 4 ∧ ¬ q_rf E a 2 = 0 ∧ q_X 41 48 L (.ref (q_rf E a 2) :: S) E g Q) := x_getR (show q_P 41 45 = some (45, .getfield 19, 3, [0, 2, 1, 72], 0) by decide +kernel) rfl
theorem x41_48 {l0 l2 l3 l4 : Value} {x : Int32} {S : List Value} {E : q_E} {g : q_G} {Q : Option Value → q_E → q_G → Prop} : q_X 41 48 [l0, (.int x), l2, l3, l4] S E g Q = q_X 41 49 [l0, (.int x), l2, l3, l4] ((.int x) :: S) E g Q := q_X_stp (show q_P 41 48 = some (48, .iload_n 1, 1, [], 0) by decide +kernel) rfl rfl
theorem x41_49 {a : Nat} {i : Int32} {L S : List Value} {E : q_E} {g : q_G} {Q : Option Value → q_E → q_G → Prop} : q_X 41 49 L (.int i :: .ref a :: S) E g Q = ((((q_kd E a).1 = 1 ∨ (q_kd E a).1 = 2) ∧ vp_in i (q_kd E a).2) ∧ q_X 41 50 L (.int (g a i.toNatClampNeg) :: S) E g Q) := x_iald (show q_P 41 49 = some (49, .iaload, 1, [], 0) by decide +kernel)
theorem x41_50 {x y : Int32} {L S : List Value} {E : q_E} {g : q_G} {Q : Option Value → q_E → q_G → Prop} : q_X 41 50 L (.int y :: .int x :: S) E g Q = (if y < x then q_X 41 57 L S E g Q else q_X 41 53 L S E g Q) := x_igt (show q_P 41 50 = some (50, .if_icmp .gt 7, 3, [], 0) by decide +kernel) (by decide)
theorem x41_53 {L S : List Value} {E : q_E} {g : q_G} {Q : Option Value → q_E → q_G → Prop} : q_X 41 53 L S E g Q = q_X 41 54 L (.int (nI 1) :: S) E g Q := x_iconst (show q_P 41 53 = some (53, .iconst 1, 1, [], 0) by decide +kernel) (by decide)
theorem x41_54 {L S : List Value} {E : q_E} {g : q_G} {Q : Option Value → q_E → q_G → Prop} : q_X 41 54 L S E g Q = q_X 41 58 L S E g Q := x_goto (show q_P 41 54 = some (54, .goto 4, 3, [], 0) by decide +kernel) (by decide)
theorem x41_57 {L S : List Value} {E : q_E} {g : q_G} {Q : Option Value → q_E → q_G → Prop} : q_X 41 57 L S E g Q = q_X 41 58 L (.int (nI 0) :: S) E g Q := x_iconst (show q_P 41 57 = some (57, .iconst 0, 1, [], 0) by decide +kernel) (by decide)
theorem x41_58 {l0 l1 l2 l3 l4 : Value} {x : Int32} {S : List Value} {E : q_E} {g : q_G} {Q : Option Value → q_E → q_G → Prop} : q_X 41 58 [l0, l1, l2, l3, l4] ((.int x) :: S) E g Q = q_X 41 60 [l0, l1, l2, l3, (.int x)] S E g Q := q_X_stp (show q_P 41 58 = some (58, .istore 4, 2, [], 0) by decide +kernel) rfl rfl
theorem x41_60 {l0 l1 l2 l3 : Value} {x : Int32} {S : List Value} {E : q_E} {g : q_G} {Q : Option Value → q_E → q_G → Prop} : q_X 41 60 [l0, l1, l2, l3, (.int x)] S E g Q = q_X 41 62 [l0, l1, l2, l3, (.int x)] ((.int x) :: S) E g Q := q_X_stp (show q_P 41 60 = some (60, .iload 4, 2, [], 0) by decide +kernel) rfl rfl
theorem x41_62 {x : Int32} {L S : List Value} {E : q_E} {g : q_G} {Q : Option Value → q_E → q_G → Prop} : q_X 41 62 L (.int x :: S) E g Q = (if x = nI 0 then q_X 41 81 L S E g Q else q_X 41 65 L S E g Q) := x_zeq (show q_P 41 62 = some (62, .ifCond .eq 19, 3, [], 0) by decide +kernel) (by decide)
theorem x41_65 {l0 l1 l3 l4 : Value} {x : Int32} {S : List Value} {E : q_E} {g : q_G} {Q : Option Value → q_E → q_G → Prop} : q_X 41 65 [l0, l1, (.int x), l3, l4] S E g Q = q_X 41 66 [l0, l1, (.int x), l3, l4] ((.int x) :: S) E g Q := q_X_stp (show q_P 41 65 = some (65, .iload_n 2, 1, [], 0) by decide +kernel) rfl rfl
theorem x41_66 {x : Int32} {L S : List Value} {E : q_E} {g : q_G} {Q : Option Value → q_E → q_G → Prop} : q_X 41 66 L (.int x :: S) E g Q = (if x = nI 0 then q_X 41 77 L S E g Q else q_X 41 69 L S E g Q) := x_zeq (show q_P 41 66 = some (66, .ifCond .eq 11, 3, [], 0) by decide +kernel) (by decide)
theorem x41_69 {l0 l1 l2 l4 : Value} {x : Int32} {S : List Value} {E : q_E} {g : q_G} {Q : Option Value → q_E → q_G → Prop} : q_X 41 69 [l0, l1, l2, (.int x), l4] S E g Q = q_X 41 70 [l0, l1, l2, (.int x), l4] ((.int x) :: S) E g Q := q_X_stp (show q_P 41 69 = some (69, .iload_n 3, 1, [], 0) by decide +kernel) rfl rfl
theorem x41_70 {x : Int32} {L S : List Value} {E : q_E} {g : q_G} {Q : Option Value → q_E → q_G → Prop} : q_X 41 70 L (.int x :: S) E g Q = (if x = nI 0 then q_X 41 77 L S E g Q else q_X 41 73 L S E g Q) := x_zeq (show q_P 41 70 = some (70, .ifCond .eq 7, 3, [], 0) by decide +kernel) (by decide)
theorem x41_73 {L S : List Value} {E : q_E} {g : q_G} {Q : Option Value → q_E → q_G → Prop} : q_X 41 73 L S E g Q = q_X 41 74 L (.int (nI 1) :: S) E g Q := x_iconst (show q_P 41 73 = some (73, .iconst 1, 1, [], 0) by decide +kernel) (by decide)
theorem x41_74 {L S : List Value} {E : q_E} {g : q_G} {Q : Option Value → q_E → q_G → Prop} : q_X 41 74 L S E g Q = q_X 41 94 L S E g Q := x_goto (show q_P 41 74 = some (74, .goto 20, 3, [], 0) by decide +kernel) (by decide)
theorem x41_77 {L S : List Value} {E : q_E} {g : q_G} {Q : Option Value → q_E → q_G → Prop} : q_X 41 77 L S E g Q = q_X 41 78 L (.int (nI 0) :: S) E g Q := x_iconst (show q_P 41 77 = some (77, .iconst 0, 1, [], 0) by decide +kernel) (by decide)
theorem x41_78 {L S : List Value} {E : q_E} {g : q_G} {Q : Option Value → q_E → q_G → Prop} : q_X 41 78 L S E g Q = q_X 41 94 L S E g Q := x_goto (show q_P 41 78 = some (78, .goto 16, 3, [], 0) by decide +kernel) (by decide)
theorem x41_81 {l0 l1 l3 l4 : Value} {x : Int32} {S : List Value} {E : q_E} {g : q_G} {Q : Option Value → q_E → q_G → Prop} : q_X 41 81 [l0, l1, (.int x), l3, l4] S E g Q = q_X 41 82 [l0, l1, (.int x), l3, l4] ((.int x) :: S) E g Q := q_X_stp (show q_P 41 81 = some (81, .iload_n 2, 1, [], 0) by decide +kernel) rfl rfl
theorem x41_82 {x : Int32} {L S : List Value} {E : q_E} {g : q_G} {Q : Option Value → q_E → q_G → Prop} : q_X 41 82 L (.int x :: S) E g Q = (if x = nI 0 then q_X 41 85 L S E g Q else q_X 41 89 L S E g Q) := x_zne (show q_P 41 82 = some (82, .ifCond .ne 7, 3, [], 0) by decide +kernel) (by decide)
theorem x41_85 {l0 l1 l2 l4 : Value} {x : Int32} {S : List Value} {E : q_E} {g : q_G} {Q : Option Value → q_E → q_G → Prop} : q_X 41 85 [l0, l1, l2, (.int x), l4] S E g Q = q_X 41 86 [l0, l1, l2, (.int x), l4] ((.int x) :: S) E g Q := q_X_stp (show q_P 41 85 = some (85, .iload_n 3, 1, [], 0) by decide +kernel) rfl rfl
theorem x41_86 {x : Int32} {L S : List Value} {E : q_E} {g : q_G} {Q : Option Value → q_E → q_G → Prop} : q_X 41 86 L (.int x :: S) E g Q = (if x = nI 0 then q_X 41 93 L S E g Q else q_X 41 89 L S E g Q) := x_zeq (show q_P 41 86 = some (86, .ifCond .eq 7, 3, [], 0) by decide +kernel) (by decide)
theorem x41_89 {L S : List Value} {E : q_E} {g : q_G} {Q : Option Value → q_E → q_G → Prop} : q_X 41 89 L S E g Q = q_X 41 90 L (.int (nI 1) :: S) E g Q := x_iconst (show q_P 41 89 = some (89, .iconst 1, 1, [], 0) by decide +kernel) (by decide)
theorem x41_90 {L S : List Value} {E : q_E} {g : q_G} {Q : Option Value → q_E → q_G → Prop} : q_X 41 90 L S E g Q = q_X 41 94 L S E g Q := x_goto (show q_P 41 90 = some (90, .goto 4, 3, [], 0) by decide +kernel) (by decide)
theorem x41_93 {L S : List Value} {E : q_E} {g : q_G} {Q : Option Value → q_E → q_G → Prop} : q_X 41 93 L S E g Q = q_X 41 94 L (.int (nI 0) :: S) E g Q := x_iconst (show q_P 41 93 = some (93, .iconst 0, 1, [], 0) by decide +kernel) (by decide)
theorem x41_94 {v : Int32} {L : List Value} {E : q_E} {g : q_G} {Q : Option Value → q_E → q_G → Prop} : q_X 41 94 L [.int v] E g Q = (narrow .boolean (.int v) = .int v ∧ Q (some (.int v)) E g) := x_reti (show q_P 41 94 = some (94, .ireturn, 1, [], 0) by decide +kernel) rfl
-- X1_add
theorem x42_0 {l1 l2 l3 l4 : Value} {x : Nat} {S : List Value} {E : q_E} {g : q_G} {Q : Option Value → q_E → q_G → Prop} : q_X 42 0 [(.ref x), l1, l2, l3, l4] S E g Q = q_X 42 1 [(.ref x), l1, l2, l3, l4] ((.ref x) :: S) E g Q := q_X_stp (show q_P 42 0 = some (0, .aload_n 0, 1, [], 0) by decide +kernel) rfl rfl
theorem x42_1 {v0 : Nat} {L : List Value} {E : q_E} {g : q_G} {Q : Option Value → q_E → q_G → Prop} : q_X 42 1 L [.ref v0] E g Q = ((q_kd E v0).1 = 5 ∧ q_X 7 0 [.ref v0] [] E g (fun v E' g' => q_X 42 4 L (v.toList ++ []) E' g' Q)) := q_X_cv (show q_P 42 1 = some (1, .invokevirtual 29, 3, [7, 0, 0, 411, 396, 397, 40, 1], 0) by decide +kernel) rfl (as := [.ref v0]) (rest := []) (c := (q_kd E v0).1 = 5) (by by_cases h : (q_kd E v0).1 = 5 <;> simp [q_cal, q_cnt, q_rok, Value.category, h]) rfl
theorem x42_4 {x : Int32} {L S : List Value} {E : q_E} {g : q_G} {Q : Option Value → q_E → q_G → Prop} : q_X 42 4 L (.int x :: S) E g Q = (if x = nI 0 then q_X 42 8 L S E g Q else q_X 42 7 L S E g Q) := x_zeq (show q_P 42 4 = some (4, .ifCond .eq 4, 3, [], 0) by decide +kernel) (by decide)
theorem x42_7 {L : List Value} {E : q_E} {g : q_G} {Q : Option Value → q_E → q_G → Prop} : q_X 42 7 L [] E g Q = Q none E g := x_retv (show q_P 42 7 = some (7, .return_, 1, [], 0) by decide +kernel)
theorem x42_8 {l1 l2 l3 l4 : Value} {x : Nat} {S : List Value} {E : q_E} {g : q_G} {Q : Option Value → q_E → q_G → Prop} : q_X 42 8 [(.ref x), l1, l2, l3, l4] S E g Q = q_X 42 9 [(.ref x), l1, l2, l3, l4] ((.ref x) :: S) E g Q := q_X_stp (show q_P 42 8 = some (8, .aload_n 0, 1, [], 0) by decide +kernel) rfl rfl
theorem x42_9 {a : Nat} {L S : List Value} {E : q_E} {g : q_G} {Q : Option Value → q_E → q_G → Prop} : q_X 42 9 L (.ref a :: S) E g Q = ((q_kd E a).1 = 5 ∧ q_X 42 12 L (.int (g a 0) :: S) E g Q) := x_getI (show q_P 42 9 = some (9, .getfield 9, 3, [1, 0, 0, 167], 0) by decide +kernel) (by decide) rfl
theorem x42_12 {l0 l1 l2 l3 l4 : Value} {x : Int32} {S : List Value} {E : q_E} {g : q_G} {Q : Option Value → q_E → q_G → Prop} : q_X 42 12 [l0, l1, l2, l3, l4] ((.int x) :: S) E g Q = q_X 42 14 [l0, l1, l2, l3, (.int x)] S E g Q := q_X_stp (show q_P 42 12 = some (12, .istore 4, 2, [], 0) by decide +kernel) rfl rfl
theorem x42_14 {l0 l1 l2 l3 : Value} {x : Int32} {S : List Value} {E : q_E} {g : q_G} {Q : Option Value → q_E → q_G → Prop} : q_X 42 14 [l0, l1, l2, l3, (.int x)] S E g Q = q_X 42 16 [l0, l1, l2, l3, (.int x)] ((.int x) :: S) E g Q := q_X_stp (show q_P 42 14 = some (14, .iload 4, 2, [], 0) by decide +kernel) rfl rfl
theorem x42_16 {x : Int32} {L S : List Value} {E : q_E} {g : q_G} {Q : Option Value → q_E → q_G → Prop} : q_X 42 16 L (.int x :: S) E g Q = (if x ≤ nI 0 then q_X 42 48 L S E g Q else q_X 42 19 L S E g Q) := x_zle (show q_P 42 16 = some (16, .ifCond .le 32, 3, [], 0) by decide +kernel) (by decide)
theorem x42_19 {l1 l2 l3 l4 : Value} {x : Nat} {S : List Value} {E : q_E} {g : q_G} {Q : Option Value → q_E → q_G → Prop} : q_X 42 19 [(.ref x), l1, l2, l3, l4] S E g Q = q_X 42 20 [(.ref x), l1, l2, l3, l4] ((.ref x) :: S) E g Q := q_X_stp (show q_P 42 19 = some (19, .aload_n 0, 1, [], 0) by decide +kernel) rfl rfl
theorem x42_20 {a : Nat} {L S : List Value} {E : q_E} {g : q_G} {Q : Option Value → q_E → q_G → Prop} : q_X 42 20 L (.ref a :: S) E g Q = ((q_kd E a).1 = 5 ∧ ¬ q_rf E a 3 = 0 ∧ q_X 42 23 L (.ref (q_rf E a 3) :: S) E g Q) := x_getR (show q_P 42 20 = some (20, .getfield 22, 3, [1, 3, 1, 174], 0) by decide +kernel) rfl
theorem x42_23 {l0 l1 l2 l3 : Value} {x : Int32} {S : List Value} {E : q_E} {g : q_G} {Q : Option Value → q_E → q_G → Prop} : q_X 42 23 [l0, l1, l2, l3, (.int x)] S E g Q = q_X 42 25 [l0, l1, l2, l3, (.int x)] ((.int x) :: S) E g Q := q_X_stp (show q_P 42 23 = some (23, .iload 4, 2, [], 0) by decide +kernel) rfl rfl
theorem x42_25 {L S : List Value} {E : q_E} {g : q_G} {Q : Option Value → q_E → q_G → Prop} : q_X 42 25 L S E g Q = q_X 42 26 L (.int (nI 1) :: S) E g Q := x_iconst (show q_P 42 25 = some (25, .iconst 1, 1, [], 0) by decide +kernel) (by decide)
theorem x42_26 {x y : Int32} {L S : List Value} {E : q_E} {g : q_G} {Q : Option Value → q_E → q_G → Prop} : q_X 42 26 L (.int y :: .int x :: S) E g Q = q_X 42 27 L (.int (x - y) :: S) E g Q := x_isub (show q_P 42 26 = some (26, .isub, 1, [], 0) by decide +kernel)
theorem x42_27 {a : Nat} {i : Int32} {L S : List Value} {E : q_E} {g : q_G} {Q : Option Value → q_E → q_G → Prop} : q_X 42 27 L (.int i :: .ref a :: S) E g Q = ((((q_kd E a).1 = 1 ∨ (q_kd E a).1 = 2) ∧ vp_in i (q_kd E a).2) ∧ q_X 42 28 L (.int (g a i.toNatClampNeg) :: S) E g Q) := x_iald (show q_P 42 27 = some (27, .iaload, 1, [], 0) by decide +kernel)
theorem x42_28 {l0 l1 l2 l4 : Value} {x : Int32} {S : List Value} {E : q_E} {g : q_G} {Q : Option Value → q_E → q_G → Prop} : q_X 42 28 [l0, l1, l2, (.int x), l4] S E g Q = q_X 42 29 [l0, l1, l2, (.int x), l4] ((.int x) :: S) E g Q := q_X_stp (show q_P 42 28 = some (28, .iload_n 3, 1, [], 0) by decide +kernel) rfl rfl
theorem x42_29 {x y : Int32} {L S : List Value} {E : q_E} {g : q_G} {Q : Option Value → q_E → q_G → Prop} : q_X 42 29 L (.int y :: .int x :: S) E g Q = (if x ≤ y then q_X 42 48 L S E g Q else q_X 42 32 L S E g Q) := x_ile (show q_P 42 29 = some (29, .if_icmp .le 19, 3, [], 0) by decide +kernel) (by decide)
theorem x42_32 {l1 l2 l3 l4 : Value} {x : Nat} {S : List Value} {E : q_E} {g : q_G} {Q : Option Value → q_E → q_G → Prop} : q_X 42 32 [(.ref x), l1, l2, l3, l4] S E g Q = q_X 42 33 [(.ref x), l1, l2, l3, l4] ((.ref x) :: S) E g Q := q_X_stp (show q_P 42 32 = some (32, .aload_n 0, 1, [], 0) by decide +kernel) rfl rfl
theorem x42_33 {l0 l1 l2 l3 : Value} {x : Int32} {S : List Value} {E : q_E} {g : q_G} {Q : Option Value → q_E → q_G → Prop} : q_X 42 33 [l0, l1, l2, l3, (.int x)] S E g Q = q_X 42 35 [l0, l1, l2, l3, (.int x)] ((.int x) :: S) E g Q := q_X_stp (show q_P 42 33 = some (33, .iload 4, 2, [], 0) by decide +kernel) rfl rfl
theorem x42_35 {L S : List Value} {E : q_E} {g : q_G} {Q : Option Value → q_E → q_G → Prop} : q_X 42 35 L S E g Q = q_X 42 36 L (.int (nI 1) :: S) E g Q := x_iconst (show q_P 42 35 = some (35, .iconst 1, 1, [], 0) by decide +kernel) (by decide)
theorem x42_36 {x y : Int32} {L S : List Value} {E : q_E} {g : q_G} {Q : Option Value → q_E → q_G → Prop} : q_X 42 36 L (.int y :: .int x :: S) E g Q = q_X 42 37 L (.int (x - y) :: S) E g Q := x_isub (show q_P 42 36 = some (36, .isub, 1, [], 0) by decide +kernel)
theorem x42_37 {l0 l1 l2 l3 : Value} {x : Int32} {S : List Value} {E : q_E} {g : q_G} {Q : Option Value → q_E → q_G → Prop} : q_X 42 37 [l0, l1, l2, l3, (.int x)] S E g Q = q_X 42 39 [l0, l1, l2, l3, (.int x)] ((.int x) :: S) E g Q := q_X_stp (show q_P 42 37 = some (37, .iload 4, 2, [], 0) by decide +kernel) rfl rfl
theorem x42_39 {v0 : Int32} {v1 : Int32} {v2 : Nat} {L : List Value} {E : q_E} {g : q_G} {Q : Option Value → q_E → q_G → Prop} : q_X 42 39 L [.int v0, .int v1, .ref v2] E g Q = ((q_kd E v2).1 = 5 ∧ q_X 8 0 [.ref v2, .int v1, .int v0] [] E g (fun v E' g' => q_X 42 42 L (v.toList ++ []) E' g' Q)) := q_X_cv (show q_P 42 39 = some (39, .invokevirtual 33, 3, [8, 2, 0, 412, 414, 3, 40, 1], 0) by decide +kernel) rfl (as := [.ref v2, .int v1, .int v0]) (rest := []) (c := (q_kd E v2).1 = 5) (by by_cases h : (q_kd E v2).1 = 5 <;> simp [q_cal, q_cnt, q_rok, Value.category, h]) rfl
theorem x42_42 {l0 l1 l2 l3 : Value} {x : Int32} {S : List Value} {E : q_E} {g : q_G} {Q : Option Value → q_E → q_G → Prop} : q_X 42 42 [l0, l1, l2, l3, (.int x)] S E g Q = q_X 42 45 [l0, l1, l2, l3, (.int (x + (-1)))] S E g Q := q_X_stp (show q_P 42 42 = some (42, .iinc 4 (-1), 3, [], 0) by decide +kernel) rfl rfl
theorem x42_45 {L S : List Value} {E : q_E} {g : q_G} {Q : Option Value → q_E → q_G → Prop} : q_X 42 45 L S E g Q = q_X 42 14 L S E g Q := x_goto (show q_P 42 45 = some (45, .goto (-31), 3, [], 0) by decide +kernel) (by decide)
theorem x42_48 {l1 l2 l3 l4 : Value} {x : Nat} {S : List Value} {E : q_E} {g : q_G} {Q : Option Value → q_E → q_G → Prop} : q_X 42 48 [(.ref x), l1, l2, l3, l4] S E g Q = q_X 42 49 [(.ref x), l1, l2, l3, l4] ((.ref x) :: S) E g Q := q_X_stp (show q_P 42 48 = some (48, .aload_n 0, 1, [], 0) by decide +kernel) rfl rfl
theorem x42_49 {a : Nat} {L S : List Value} {E : q_E} {g : q_G} {Q : Option Value → q_E → q_G → Prop} : q_X 42 49 L (.ref a :: S) E g Q = ((q_kd E a).1 = 5 ∧ ¬ q_rf E a 1 = 0 ∧ q_X 42 52 L (.ref (q_rf E a 1) :: S) E g Q) := x_getR (show q_P 42 49 = some (49, .getfield 15, 3, [1, 1, 1, 170], 0) by decide +kernel) rfl
theorem x42_52 {l0 l1 l2 l3 : Value} {x : Int32} {S : List Value} {E : q_E} {g : q_G} {Q : Option Value → q_E → q_G → Prop} : q_X 42 52 [l0, l1, l2, l3, (.int x)] S E g Q = q_X 42 54 [l0, l1, l2, l3, (.int x)] ((.int x) :: S) E g Q := q_X_stp (show q_P 42 52 = some (52, .iload 4, 2, [], 0) by decide +kernel) rfl rfl
theorem x42_54 {l0 l2 l3 l4 : Value} {x : Int32} {S : List Value} {E : q_E} {g : q_G} {Q : Option Value → q_E → q_G → Prop} : q_X 42 54 [l0, (.int x), l2, l3, l4] S E g Q = q_X 42 55 [l0, (.int x), l2, l3, l4] ((.int x) :: S) E g Q := q_X_stp (show q_P 42 54 = some (54, .iload_n 1, 1, [], 0) by decide +kernel) rfl rfl
theorem x42_55 {a : Nat} {i x : Int32} {L S : List Value} {E : q_E} {g : q_G} {Q : Option Value → q_E → q_G → Prop} : q_X 42 55 L (.int x :: .int i :: .ref a :: S) E g Q = (((q_kd E a).1 = 2 ∧ vp_in i (q_kd E a).2) ∧ q_X 42 56 L S E (q_up g a i.toNatClampNeg x) Q) := x_iast (show q_P 42 55 = some (55, .iastore, 1, [], 0) by decide +kernel)
theorem x42_56 {l1 l2 l3 l4 : Value} {x : Nat} {S : List Value} {E : q_E} {g : q_G} {Q : Option Value → q_E → q_G → Prop} : q_X 42 56 [(.ref x), l1, l2, l3, l4] S E g Q = q_X 42 57 [(.ref x), l1, l2, l3, l4] ((.ref x) :: S) E g Q := q_X_stp (show q_P 42 56 = some (56, .aload_n 0, 1, [], 0) by decide +kernel) rfl rfl
theorem x42_57 {a : Nat} {L S : List Value} {E : q_E} {g : q_G} {Q : Option Value → q_E → q_G → Prop} : q_X 42 57 L (.ref a :: S) E g Q = ((q_kd E a).1 = 5 ∧ ¬ q_rf E a 2 = 0 ∧ q_X 42 60 L (.ref (q_rf E a 2) :: S) E g Q) := x_getR (show q_P 42 57 = some (57, .getfield 19, 3, [1, 2, 1, 172], 0) by decide +kernel) rfl
theorem x42_60 {l0 l1 l2 l3 : Value} {x : Int32} {S : List Value} {E : q_E} {g : q_G} {Q : Option Value → q_E → q_G → Prop} : q_X 42 60 [l0, l1, l2, l3, (.int x)] S E g Q = q_X 42 62 [l0, l1, l2, l3, (.int x)] ((.int x) :: S) E g Q := q_X_stp (show q_P 42 60 = some (60, .iload 4, 2, [], 0) by decide +kernel) rfl rfl
theorem x42_62 {l0 l1 l3 l4 : Value} {x : Int32} {S : List Value} {E : q_E} {g : q_G} {Q : Option Value → q_E → q_G → Prop} : q_X 42 62 [l0, l1, (.int x), l3, l4] S E g Q = q_X 42 63 [l0, l1, (.int x), l3, l4] ((.int x) :: S) E g Q := q_X_stp (show q_P 42 62 = some (62, .iload_n 2, 1, [], 0) by decide +kernel) rfl rfl
theorem x42_63 {a : Nat} {i x : Int32} {L S : List Value} {E : q_E} {g : q_G} {Q : Option Value → q_E → q_G → Prop} : q_X 42 63 L (.int x :: .int i :: .ref a :: S) E g Q = (((q_kd E a).1 = 2 ∧ vp_in i (q_kd E a).2) ∧ q_X 42 64 L S E (q_up g a i.toNatClampNeg x) Q) := x_iast (show q_P 42 63 = some (63, .iastore, 1, [], 0) by decide +kernel)
theorem x42_64 {l1 l2 l3 l4 : Value} {x : Nat} {S : List Value} {E : q_E} {g : q_G} {Q : Option Value → q_E → q_G → Prop} : q_X 42 64 [(.ref x), l1, l2, l3, l4] S E g Q = q_X 42 65 [(.ref x), l1, l2, l3, l4] ((.ref x) :: S) E g Q := q_X_stp (show q_P 42 64 = some (64, .aload_n 0, 1, [], 0) by decide +kernel) rfl rfl
theorem x42_65 {a : Nat} {L S : List Value} {E : q_E} {g : q_G} {Q : Option Value → q_E → q_G → Prop} : q_X 42 65 L (.ref a :: S) E g Q = ((q_kd E a).1 = 5 ∧ ¬ q_rf E a 3 = 0 ∧ q_X 42 68 L (.ref (q_rf E a 3) :: S) E g Q) := x_getR (show q_P 42 65 = some (65, .getfield 22, 3, [1, 3, 1, 174], 0) by decide +kernel) rfl
theorem x42_68 {l0 l1 l2 l3 : Value} {x : Int32} {S : List Value} {E : q_E} {g : q_G} {Q : Option Value → q_E → q_G → Prop} : q_X 42 68 [l0, l1, l2, l3, (.int x)] S E g Q = q_X 42 70 [l0, l1, l2, l3, (.int x)] ((.int x) :: S) E g Q := q_X_stp (show q_P 42 68 = some (68, .iload 4, 2, [], 0) by decide +kernel) rfl rfl
theorem x42_70 {l0 l1 l2 l4 : Value} {x : Int32} {S : List Value} {E : q_E} {g : q_G} {Q : Option Value → q_E → q_G → Prop} : q_X 42 70 [l0, l1, l2, (.int x), l4] S E g Q = q_X 42 71 [l0, l1, l2, (.int x), l4] ((.int x) :: S) E g Q := q_X_stp (show q_P 42 70 = some (70, .iload_n 3, 1, [], 0) by decide +kernel) rfl rfl
theorem x42_71 {a : Nat} {i x : Int32} {L S : List Value} {E : q_E} {g : q_G} {Q : Option Value → q_E → q_G → Prop} : q_X 42 71 L (.int x :: .int i :: .ref a :: S) E g Q = (((q_kd E a).1 = 2 ∧ vp_in i (q_kd E a).2) ∧ q_X 42 72 L S E (q_up g a i.toNatClampNeg x) Q) := x_iast (show q_P 42 71 = some (71, .iastore, 1, [], 0) by decide +kernel)
theorem x42_72 {l1 l2 l3 l4 : Value} {x : Nat} {S : List Value} {E : q_E} {g : q_G} {Q : Option Value → q_E → q_G → Prop} : q_X 42 72 [(.ref x), l1, l2, l3, l4] S E g Q = q_X 42 73 [(.ref x), l1, l2, l3, l4] ((.ref x) :: S) E g Q := q_X_stp (show q_P 42 72 = some (72, .aload_n 0, 1, [], 0) by decide +kernel) rfl rfl
theorem x42_73 {x : Nat} {L S : List Value} {E : q_E} {g : q_G} {Q : Option Value → q_E → q_G → Prop} : q_X 42 73 L ((.ref x) :: S) E g Q = q_X 42 74 L ((.ref x) :: (.ref x) :: S) E g Q := q_X_stp (show q_P 42 73 = some (73, .dup, 1, [], 0) by decide +kernel) rfl rfl
theorem x42_74 {a : Nat} {L S : List Value} {E : q_E} {g : q_G} {Q : Option Value → q_E → q_G → Prop} : q_X 42 74 L (.ref a :: S) E g Q = ((q_kd E a).1 = 5 ∧ q_X 42 77 L (.int (g a 0) :: S) E g Q) := x_getI (show q_P 42 74 = some (74, .getfield 9, 3, [1, 0, 0, 167], 0) by decide +kernel) (by decide) rfl
theorem x42_77 {L S : List Value} {E : q_E} {g : q_G} {Q : Option Value → q_E → q_G → Prop} : q_X 42 77 L S E g Q = q_X 42 78 L (.int (nI 1) :: S) E g Q := x_iconst (show q_P 42 77 = some (77, .iconst 1, 1, [], 0) by decide +kernel) (by decide)
theorem x42_78 {x y : Int32} {L S : List Value} {E : q_E} {g : q_G} {Q : Option Value → q_E → q_G → Prop} : q_X 42 78 L (.int y :: .int x :: S) E g Q = q_X 42 79 L (.int (x + y) :: S) E g Q := x_iadd (show q_P 42 78 = some (78, .iadd, 1, [], 0) by decide +kernel)
theorem x42_79 {a : Nat} {v : Int32} {L S : List Value} {E : q_E} {g : q_G} {Q : Option Value → q_E → q_G → Prop} : q_X 42 79 L (.int v :: .ref a :: S) E g Q = ((q_kd E a).1 = 5 ∧ q_X 42 82 L S E (q_up g a 0 v) Q) := x_putI (show q_P 42 79 = some (79, .putfield 9, 3, [1, 0, 0, 167, 0], 0) by decide +kernel) rfl
theorem x42_82 {L : List Value} {E : q_E} {g : q_G} {Q : Option Value → q_E → q_G → Prop} : q_X 42 82 L [] E g Q = Q none E g := x_retv (show q_P 42 82 = some (82, .return_, 1, [], 0) by decide +kernel)
-- X1_init
theorem x43_0 {x : Nat} {S : List Value} {E : q_E} {g : q_G} {Q : Option Value → q_E → q_G → Prop} : q_X 43 0 [(.ref x)] S E g Q = q_X 43 1 [(.ref x)] ((.ref x) :: S) E g Q := q_X_stp (show q_P 43 0 = some (0, .aload_n 0, 1, [], 0) by decide +kernel) rfl rfl
theorem x43_1 {a : Nat} {L : List Value} {E : q_E} {g : q_G} {Q : Option Value → q_E → q_G → Prop} : q_X 43 1 L [.ref a] E g Q = q_X 43 4 L [] E g Q := x_oini (show q_P 43 1 = some (1, .invokespecial 3, 3, [0, 0, 6, 166, 53, 54], 0) by decide +kernel)
theorem x43_4 {x : Nat} {S : List Value} {E : q_E} {g : q_G} {Q : Option Value → q_E → q_G → Prop} : q_X 43 4 [(.ref x)] S E g Q = q_X 43 5 [(.ref x)] ((.ref x) :: S) E g Q := q_X_stp (show q_P 43 4 = some (4, .aload_n 0, 1, [], 0) by decide +kernel) rfl rfl
theorem x43_5 {L S : List Value} {E : q_E} {g : q_G} {Q : Option Value → q_E → q_G → Prop} : q_X 43 5 L S E g Q = q_X 43 6 L (.int (nI 0) :: S) E g Q := x_iconst (show q_P 43 5 = some (5, .iconst 0, 1, [], 0) by decide +kernel) (by decide)
theorem x43_6 {a : Nat} {v : Int32} {L S : List Value} {E : q_E} {g : q_G} {Q : Option Value → q_E → q_G → Prop} : q_X 43 6 L (.int v :: .ref a :: S) E g Q = ((q_kd E a).1 = 5 ∧ q_X 43 9 L S E (q_up g a 0 v) Q) := x_putI (show q_P 43 6 = some (6, .putfield 9, 3, [1, 0, 0, 167, 0], 0) by decide +kernel) rfl
theorem x43_9 {x : Nat} {S : List Value} {E : q_E} {g : q_G} {Q : Option Value → q_E → q_G → Prop} : q_X 43 9 [(.ref x)] S E g Q = q_X 43 10 [(.ref x)] ((.ref x) :: S) E g Q := q_X_stp (show q_P 43 9 = some (9, .aload_n 0, 1, [], 0) by decide +kernel) rfl rfl
theorem x43_10 {L S : List Value} {E : q_E} {g : q_G} {Q : Option Value → q_E → q_G → Prop} : q_X 43 10 L S E g Q = q_X 43 12 L (.int (nI 8) :: S) E g Q := x_bipush (show q_P 43 10 = some (10, .bipush 8, 2, [], 0) by decide +kernel) (by decide)
theorem x43_12 {n : Nat} {L S : List Value} {E : q_E} {g : q_G} {Q : Option Value → q_E → q_G → Prop} (hn : n ≤ 100000) : q_X 43 12 L (.int (nI n) :: S) E g Q = q_X 43 14 L (.ref E.1 :: S) (q_new E 2 n) (q_upA g E.1 (fun _ => nI 0)) Q := x_newI (show q_P 43 12 = some (12, .newarray .int, 2, [81], 0) by decide +kernel) hn
theorem x43_14 {a v : Nat} {L S : List Value} {E : q_E} {g : q_G} {Q : Option Value → q_E → q_G → Prop} : q_X 43 14 L (.ref v :: .ref a :: S) E g Q = (((q_kd E a).1 = 5 ∧ v ≠ 0) ∧ q_X 43 17 L S (q_setR E a 1 v) g Q) := x_putR (show q_P 43 14 = some (14, .putfield 15, 3, [1, 1, 1, 170, 1], 0) by decide +kernel) rfl
theorem x43_17 {x : Nat} {S : List Value} {E : q_E} {g : q_G} {Q : Option Value → q_E → q_G → Prop} : q_X 43 17 [(.ref x)] S E g Q = q_X 43 18 [(.ref x)] ((.ref x) :: S) E g Q := q_X_stp (show q_P 43 17 = some (17, .aload_n 0, 1, [], 0) by decide +kernel) rfl rfl
theorem x43_18 {L S : List Value} {E : q_E} {g : q_G} {Q : Option Value → q_E → q_G → Prop} : q_X 43 18 L S E g Q = q_X 43 20 L (.int (nI 8) :: S) E g Q := x_bipush (show q_P 43 18 = some (18, .bipush 8, 2, [], 0) by decide +kernel) (by decide)
theorem x43_20 {n : Nat} {L S : List Value} {E : q_E} {g : q_G} {Q : Option Value → q_E → q_G → Prop} (hn : n ≤ 100000) : q_X 43 20 L (.int (nI n) :: S) E g Q = q_X 43 22 L (.ref E.1 :: S) (q_new E 2 n) (q_upA g E.1 (fun _ => nI 0)) Q := x_newI (show q_P 43 20 = some (20, .newarray .int, 2, [81], 0) by decide +kernel) hn
theorem x43_22 {a v : Nat} {L S : List Value} {E : q_E} {g : q_G} {Q : Option Value → q_E → q_G → Prop} : q_X 43 22 L (.ref v :: .ref a :: S) E g Q = (((q_kd E a).1 = 5 ∧ v ≠ 0) ∧ q_X 43 25 L S (q_setR E a 2 v) g Q) := x_putR (show q_P 43 22 = some (22, .putfield 19, 3, [1, 2, 1, 172, 1], 0) by decide +kernel) rfl
theorem x43_25 {x : Nat} {S : List Value} {E : q_E} {g : q_G} {Q : Option Value → q_E → q_G → Prop} : q_X 43 25 [(.ref x)] S E g Q = q_X 43 26 [(.ref x)] ((.ref x) :: S) E g Q := q_X_stp (show q_P 43 25 = some (25, .aload_n 0, 1, [], 0) by decide +kernel) rfl rfl
theorem x43_26 {L S : List Value} {E : q_E} {g : q_G} {Q : Option Value → q_E → q_G → Prop} : q_X 43 26 L S E g Q = q_X 43 28 L (.int (nI 8) :: S) E g Q := x_bipush (show q_P 43 26 = some (26, .bipush 8, 2, [], 0) by decide +kernel) (by decide)
theorem x43_28 {n : Nat} {L S : List Value} {E : q_E} {g : q_G} {Q : Option Value → q_E → q_G → Prop} (hn : n ≤ 100000) : q_X 43 28 L (.int (nI n) :: S) E g Q = q_X 43 30 L (.ref E.1 :: S) (q_new E 2 n) (q_upA g E.1 (fun _ => nI 0)) Q := x_newI (show q_P 43 28 = some (28, .newarray .int, 2, [81], 0) by decide +kernel) hn
theorem x43_30 {a v : Nat} {L S : List Value} {E : q_E} {g : q_G} {Q : Option Value → q_E → q_G → Prop} : q_X 43 30 L (.ref v :: .ref a :: S) E g Q = (((q_kd E a).1 = 5 ∧ v ≠ 0) ∧ q_X 43 33 L S (q_setR E a 3 v) g Q) := x_putR (show q_P 43 30 = some (30, .putfield 22, 3, [1, 3, 1, 174, 1], 0) by decide +kernel) rfl
theorem x43_33 {L : List Value} {E : q_E} {g : q_G} {Q : Option Value → q_E → q_G → Prop} : q_X 43 33 L [] E g Q = Q none E g := x_retv (show q_P 43 33 = some (33, .return_, 1, [], 0) by decide +kernel)
-- X1_removeFirst
theorem x44_0 {L S : List Value} {E : q_E} {g : q_G} {Q : Option Value → q_E → q_G → Prop} : q_X 44 0 L S E g Q = q_X 44 1 L (.int (nI 1) :: S) E g Q := x_iconst (show q_P 44 0 = some (0, .iconst 1, 1, [], 0) by decide +kernel) (by decide)
theorem x44_1 {l0 l1 : Value} {x : Int32} {S : List Value} {E : q_E} {g : q_G} {Q : Option Value → q_E → q_G → Prop} : q_X 44 1 [l0, l1] ((.int x) :: S) E g Q = q_X 44 2 [l0, (.int x)] S E g Q := q_X_stp (show q_P 44 1 = some (1, .istore_n 1, 1, [], 0) by decide +kernel) rfl rfl
theorem x44_2 {l0 : Value} {x : Int32} {S : List Value} {E : q_E} {g : q_G} {Q : Option Value → q_E → q_G → Prop} : q_X 44 2 [l0, (.int x)] S E g Q = q_X 44 3 [l0, (.int x)] ((.int x) :: S) E g Q := q_X_stp (show q_P 44 2 = some (2, .iload_n 1, 1, [], 0) by decide +kernel) rfl rfl
theorem x44_3 {l1 : Value} {x : Nat} {S : List Value} {E : q_E} {g : q_G} {Q : Option Value → q_E → q_G → Prop} : q_X 44 3 [(.ref x), l1] S E g Q = q_X 44 4 [(.ref x), l1] ((.ref x) :: S) E g Q := q_X_stp (show q_P 44 3 = some (3, .aload_n 0, 1, [], 0) by decide +kernel) rfl rfl
theorem x44_4 {a : Nat} {L S : List Value} {E : q_E} {g : q_G} {Q : Option Value → q_E → q_G → Prop} : q_X 44 4 L (.ref a :: S) E g Q = ((q_kd E a).1 = 5 ∧ q_X 44 7 L (.int (g a 0) :: S) E g Q) := x_getI (show q_P 44 4 = some (4, .getfield 9, 3, [1, 0, 0, 167], 0) by decide +kernel) (by decide) rfl
theorem x44_7 {x y : Int32} {L S : List Value} {E : q_E} {g : q_G} {Q : Option Value → q_E → q_G → Prop} : q_X 44 7 L (.int y :: .int x :: S) E g Q = (if y ≤ x then q_X 44 24 L S E g Q else q_X 44 10 L S E g Q) := x_ige (show q_P 44 7 = some (7, .if_icmp .ge 17, 3, [], 0) by decide +kernel) (by decide)
theorem x44_10 {l1 : Value} {x : Nat} {S : List Value} {E : q_E} {g : q_G} {Q : Option Value → q_E → q_G → Prop} : q_X 44 10 [(.ref x), l1] S E g Q = q_X 44 11 [(.ref x), l1] ((.ref x) :: S) E g Q := q_X_stp (show q_P 44 10 = some (10, .aload_n 0, 1, [], 0) by decide +kernel) rfl rfl
theorem x44_11 {l0 : Value} {x : Int32} {S : List Value} {E : q_E} {g : q_G} {Q : Option Value → q_E → q_G → Prop} : q_X 44 11 [l0, (.int x)] S E g Q = q_X 44 12 [l0, (.int x)] ((.int x) :: S) E g Q := q_X_stp (show q_P 44 11 = some (11, .iload_n 1, 1, [], 0) by decide +kernel) rfl rfl
theorem x44_12 {l0 : Value} {x : Int32} {S : List Value} {E : q_E} {g : q_G} {Q : Option Value → q_E → q_G → Prop} : q_X 44 12 [l0, (.int x)] S E g Q = q_X 44 13 [l0, (.int x)] ((.int x) :: S) E g Q := q_X_stp (show q_P 44 12 = some (12, .iload_n 1, 1, [], 0) by decide +kernel) rfl rfl
theorem x44_13 {L S : List Value} {E : q_E} {g : q_G} {Q : Option Value → q_E → q_G → Prop} : q_X 44 13 L S E g Q = q_X 44 14 L (.int (nI 1) :: S) E g Q := x_iconst (show q_P 44 13 = some (13, .iconst 1, 1, [], 0) by decide +kernel) (by decide)
theorem x44_14 {x y : Int32} {L S : List Value} {E : q_E} {g : q_G} {Q : Option Value → q_E → q_G → Prop} : q_X 44 14 L (.int y :: .int x :: S) E g Q = q_X 44 15 L (.int (x - y) :: S) E g Q := x_isub (show q_P 44 14 = some (14, .isub, 1, [], 0) by decide +kernel)
theorem x44_15 {v0 : Int32} {v1 : Int32} {v2 : Nat} {L : List Value} {E : q_E} {g : q_G} {Q : Option Value → q_E → q_G → Prop} : q_X 44 15 L [.int v0, .int v1, .ref v2] E g Q = ((q_kd E v2).1 = 5 ∧ q_X 8 0 [.ref v2, .int v1, .int v0] [] E g (fun v E' g' => q_X 44 18 L (v.toList ++ []) E' g' Q)) := q_X_cv (show q_P 44 15 = some (15, .invokevirtual 33, 3, [8, 2, 0, 412, 414, 3, 40, 1], 0) by decide +kernel) rfl (as := [.ref v2, .int v1, .int v0]) (rest := []) (c := (q_kd E v2).1 = 5) (by by_cases h : (q_kd E v2).1 = 5 <;> simp [q_cal, q_cnt, q_rok, Value.category, h]) rfl
theorem x44_18 {l0 : Value} {x : Int32} {S : List Value} {E : q_E} {g : q_G} {Q : Option Value → q_E → q_G → Prop} : q_X 44 18 [l0, (.int x)] S E g Q = q_X 44 21 [l0, (.int (x + (nI 1)))] S E g Q := q_X_stp (show q_P 44 18 = some (18, .iinc 1 1, 3, [], 0) by decide +kernel) rfl rfl
theorem x44_21 {L S : List Value} {E : q_E} {g : q_G} {Q : Option Value → q_E → q_G → Prop} : q_X 44 21 L S E g Q = q_X 44 2 L S E g Q := x_goto (show q_P 44 21 = some (21, .goto (-19), 3, [], 0) by decide +kernel) (by decide)
theorem x44_24 {l1 : Value} {x : Nat} {S : List Value} {E : q_E} {g : q_G} {Q : Option Value → q_E → q_G → Prop} : q_X 44 24 [(.ref x), l1] S E g Q = q_X 44 25 [(.ref x), l1] ((.ref x) :: S) E g Q := q_X_stp (show q_P 44 24 = some (24, .aload_n 0, 1, [], 0) by decide +kernel) rfl rfl
theorem x44_25 {L S : List Value} {E : q_E} {g : q_G} {Q : Option Value → q_E → q_G → Prop} : q_X 44 25 L S E g Q = q_X 44 26 L (.int (nI 0) :: S) E g Q := x_iconst (show q_P 44 25 = some (25, .iconst 0, 1, [], 0) by decide +kernel) (by decide)
theorem x44_26 {l1 : Value} {x : Nat} {S : List Value} {E : q_E} {g : q_G} {Q : Option Value → q_E → q_G → Prop} : q_X 44 26 [(.ref x), l1] S E g Q = q_X 44 27 [(.ref x), l1] ((.ref x) :: S) E g Q := q_X_stp (show q_P 44 26 = some (26, .aload_n 0, 1, [], 0) by decide +kernel) rfl rfl
theorem x44_27 {a : Nat} {L S : List Value} {E : q_E} {g : q_G} {Q : Option Value → q_E → q_G → Prop} : q_X 44 27 L (.ref a :: S) E g Q = ((q_kd E a).1 = 5 ∧ q_X 44 30 L (.int (g a 0) :: S) E g Q) := x_getI (show q_P 44 27 = some (27, .getfield 9, 3, [1, 0, 0, 167], 0) by decide +kernel) (by decide) rfl
theorem x44_30 {L S : List Value} {E : q_E} {g : q_G} {Q : Option Value → q_E → q_G → Prop} : q_X 44 30 L S E g Q = q_X 44 31 L (.int (nI 1) :: S) E g Q := x_iconst (show q_P 44 30 = some (30, .iconst 1, 1, [], 0) by decide +kernel) (by decide)
theorem x44_31 {x y : Int32} {L S : List Value} {E : q_E} {g : q_G} {Q : Option Value → q_E → q_G → Prop} : q_X 44 31 L (.int y :: .int x :: S) E g Q = q_X 44 32 L (.int (x - y) :: S) E g Q := x_isub (show q_P 44 31 = some (31, .isub, 1, [], 0) by decide +kernel)
theorem x44_32 {v0 : Int32} {v1 : Int32} {v2 : Nat} {L : List Value} {E : q_E} {g : q_G} {Q : Option Value → q_E → q_G → Prop} : q_X 44 32 L [.int v0, .int v1, .ref v2] E g Q = q_X 1 0 [.int v1, .int v0] [] E g (fun v E' g' => q_X 44 35 L (v.toList ++ [.ref v2]) E' g' Q) := q_X_cl (show q_P 44 32 = some (32, .invokestatic 37, 3, [1, 2, 2, 522, 523, 0, 44], 0) by decide +kernel) rfl (as := [.int v1, .int v0]) (rest := [.ref v2]) (by simp [q_cal, q_cnt, q_rok, Value.category]) rfl
theorem x44_35 {a : Nat} {v : Int32} {L S : List Value} {E : q_E} {g : q_G} {Q : Option Value → q_E → q_G → Prop} : q_X 44 35 L (.int v :: .ref a :: S) E g Q = ((q_kd E a).1 = 5 ∧ q_X 44 38 L S E (q_up g a 0 v) Q) := x_putI (show q_P 44 35 = some (35, .putfield 9, 3, [1, 0, 0, 167, 0], 0) by decide +kernel) rfl
theorem x44_38 {L : List Value} {E : q_E} {g : q_G} {Q : Option Value → q_E → q_G → Prop} : q_X 44 38 L [] E g Q = Q none E g := x_retv (show q_P 44 38 = some (38, .return_, 1, [], 0) by decide +kernel)
-- X2_init
theorem x45_0 {x : Nat} {S : List Value} {E : q_E} {g : q_G} {Q : Option Value → q_E → q_G → Prop} : q_X 45 0 [(.ref x)] S E g Q = q_X 45 1 [(.ref x)] ((.ref x) :: S) E g Q := q_X_stp (show q_P 45 0 = some (0, .aload_n 0, 1, [], 0) by decide +kernel) rfl rfl
theorem x45_1 {a : Nat} {L : List Value} {E : q_E} {g : q_G} {Q : Option Value → q_E → q_G → Prop} : q_X 45 1 L [.ref a] E g Q = q_X 45 4 L [] E g Q := x_oini (show q_P 45 1 = some (1, .invokespecial 3, 3, [0, 0, 6, 135, 53, 54], 0) by decide +kernel)
theorem x45_4 {x : Nat} {S : List Value} {E : q_E} {g : q_G} {Q : Option Value → q_E → q_G → Prop} : q_X 45 4 [(.ref x)] S E g Q = q_X 45 5 [(.ref x)] ((.ref x) :: S) E g Q := q_X_stp (show q_P 45 4 = some (4, .aload_n 0, 1, [], 0) by decide +kernel) rfl rfl
theorem x45_5 {L S : List Value} {E : q_E} {g : q_G} {Q : Option Value → q_E → q_G → Prop} : q_X 45 5 L S E g Q = q_X 45 8 L (.int (nI 144) :: S) E g Q := x_sipush (show q_P 45 5 = some (5, .sipush 144, 3, [], 0) by decide +kernel) (by decide)
theorem x45_8 {n : Nat} {L S : List Value} {E : q_E} {g : q_G} {Q : Option Value → q_E → q_G → Prop} (hn : n ≤ 100000) : q_X 45 8 L (.int (nI n) :: S) E g Q = q_X 45 10 L (.ref E.1 :: S) (q_new E 2 n) (q_upA g E.1 (fun _ => nI 0)) Q := x_newI (show q_P 45 8 = some (8, .newarray .int, 2, [81], 0) by decide +kernel) hn
theorem x45_10 {a v : Nat} {L S : List Value} {E : q_E} {g : q_G} {Q : Option Value → q_E → q_G → Prop} : q_X 45 10 L (.ref v :: .ref a :: S) E g Q = (((q_kd E a).1 = 6 ∧ v ≠ 0) ∧ q_X 45 13 L S (q_setR E a 0 v) g Q) := x_putR (show q_P 45 10 = some (10, .putfield 9, 3, [2, 0, 1, 136, 1], 0) by decide +kernel) rfl
theorem x45_13 {L : List Value} {E : q_E} {g : q_G} {Q : Option Value → q_E → q_G → Prop} : q_X 45 13 L [] E g Q = Q none E g := x_retv (show q_P 45 13 = some (13, .return_, 1, [], 0) by decide +kernel)
-- X2_mostWith
theorem x46_0 {L S : List Value} {E : q_E} {g : q_G} {Q : Option Value → q_E → q_G → Prop} : q_X 46 0 L S E g Q = q_X 46 1 L (.int (-1) :: S) E g Q := x_iconst (show q_P 46 0 = some (0, .iconst (-1), 1, [], 0) by decide +kernel) (by decide)
theorem x46_1 {l0 l1 l2 l3 l4 : Value} {x : Int32} {S : List Value} {E : q_E} {g : q_G} {Q : Option Value → q_E → q_G → Prop} : q_X 46 1 [l0, l1, l2, l3, l4] ((.int x) :: S) E g Q = q_X 46 2 [l0, l1, (.int x), l3, l4] S E g Q := q_X_stp (show q_P 46 1 = some (1, .istore_n 2, 1, [], 0) by decide +kernel) rfl rfl
theorem x46_2 {L S : List Value} {E : q_E} {g : q_G} {Q : Option Value → q_E → q_G → Prop} : q_X 46 2 L S E g Q = q_X 46 3 L (.int (nI 0) :: S) E g Q := x_iconst (show q_P 46 2 = some (2, .iconst 0, 1, [], 0) by decide +kernel) (by decide)
theorem x46_3 {l0 l1 l2 l3 l4 : Value} {x : Int32} {S : List Value} {E : q_E} {g : q_G} {Q : Option Value → q_E → q_G → Prop} : q_X 46 3 [l0, l1, l2, l3, l4] ((.int x) :: S) E g Q = q_X 46 4 [l0, l1, l2, (.int x), l4] S E g Q := q_X_stp (show q_P 46 3 = some (3, .istore_n 3, 1, [], 0) by decide +kernel) rfl rfl
theorem x46_4 {L S : List Value} {E : q_E} {g : q_G} {Q : Option Value → q_E → q_G → Prop} : q_X 46 4 L S E g Q = q_X 46 5 L (.int (nI 0) :: S) E g Q := x_iconst (show q_P 46 4 = some (4, .iconst 0, 1, [], 0) by decide +kernel) (by decide)
theorem x46_5 {l0 l1 l2 l3 l4 : Value} {x : Int32} {S : List Value} {E : q_E} {g : q_G} {Q : Option Value → q_E → q_G → Prop} : q_X 46 5 [l0, l1, l2, l3, l4] ((.int x) :: S) E g Q = q_X 46 7 [l0, l1, l2, l3, (.int x)] S E g Q := q_X_stp (show q_P 46 5 = some (5, .istore 4, 2, [], 0) by decide +kernel) rfl rfl
theorem x46_7 {l0 l1 l2 l3 : Value} {x : Int32} {S : List Value} {E : q_E} {g : q_G} {Q : Option Value → q_E → q_G → Prop} : q_X 46 7 [l0, l1, l2, l3, (.int x)] S E g Q = q_X 46 9 [l0, l1, l2, l3, (.int x)] ((.int x) :: S) E g Q := q_X_stp (show q_P 46 7 = some (7, .iload 4, 2, [], 0) by decide +kernel) rfl rfl
theorem x46_9 {L S : List Value} {E : q_E} {g : q_G} {Q : Option Value → q_E → q_G → Prop} : q_X 46 9 L S E g Q = q_X 46 11 L (.int (nI 12) :: S) E g Q := x_bipush (show q_P 46 9 = some (9, .bipush 12, 2, [], 0) by decide +kernel) (by decide)
theorem x46_11 {x y : Int32} {L S : List Value} {E : q_E} {g : q_G} {Q : Option Value → q_E → q_G → Prop} : q_X 46 11 L (.int y :: .int x :: S) E g Q = (if y ≤ x then q_X 46 48 L S E g Q else q_X 46 14 L S E g Q) := x_ige (show q_P 46 11 = some (11, .if_icmp .ge 37, 3, [], 0) by decide +kernel) (by decide)
theorem x46_14 {l0 l1 l2 l3 : Value} {x : Int32} {S : List Value} {E : q_E} {g : q_G} {Q : Option Value → q_E → q_G → Prop} : q_X 46 14 [l0, l1, l2, l3, (.int x)] S E g Q = q_X 46 16 [l0, l1, l2, l3, (.int x)] ((.int x) :: S) E g Q := q_X_stp (show q_P 46 14 = some (14, .iload 4, 2, [], 0) by decide +kernel) rfl rfl
theorem x46_16 {l0 l2 l3 l4 : Value} {x : Int32} {S : List Value} {E : q_E} {g : q_G} {Q : Option Value → q_E → q_G → Prop} : q_X 46 16 [l0, (.int x), l2, l3, l4] S E g Q = q_X 46 17 [l0, (.int x), l2, l3, l4] ((.int x) :: S) E g Q := q_X_stp (show q_P 46 16 = some (16, .iload_n 1, 1, [], 0) by decide +kernel) rfl rfl
theorem x46_17 {x y : Int32} {L S : List Value} {E : q_E} {g : q_G} {Q : Option Value → q_E → q_G → Prop} : q_X 46 17 L (.int y :: .int x :: S) E g Q = (if x = y then q_X 46 42 L S E g Q else q_X 46 20 L S E g Q) := x_ieq (show q_P 46 17 = some (17, .if_icmp .eq 25, 3, [], 0) by decide +kernel) (by decide)
theorem x46_20 {l1 l2 l3 l4 : Value} {x : Nat} {S : List Value} {E : q_E} {g : q_G} {Q : Option Value → q_E → q_G → Prop} : q_X 46 20 [(.ref x), l1, l2, l3, l4] S E g Q = q_X 46 21 [(.ref x), l1, l2, l3, l4] ((.ref x) :: S) E g Q := q_X_stp (show q_P 46 20 = some (20, .aload_n 0, 1, [], 0) by decide +kernel) rfl rfl
theorem x46_21 {l0 l2 l3 l4 : Value} {x : Int32} {S : List Value} {E : q_E} {g : q_G} {Q : Option Value → q_E → q_G → Prop} : q_X 46 21 [l0, (.int x), l2, l3, l4] S E g Q = q_X 46 22 [l0, (.int x), l2, l3, l4] ((.int x) :: S) E g Q := q_X_stp (show q_P 46 21 = some (21, .iload_n 1, 1, [], 0) by decide +kernel) rfl rfl
theorem x46_22 {l0 l1 l2 l3 : Value} {x : Int32} {S : List Value} {E : q_E} {g : q_G} {Q : Option Value → q_E → q_G → Prop} : q_X 46 22 [l0, l1, l2, l3, (.int x)] S E g Q = q_X 46 24 [l0, l1, l2, l3, (.int x)] ((.int x) :: S) E g Q := q_X_stp (show q_P 46 22 = some (22, .iload 4, 2, [], 0) by decide +kernel) rfl rfl
theorem x46_24 {v0 : Int32} {v1 : Int32} {v2 : Nat} {L : List Value} {E : q_E} {g : q_G} {Q : Option Value → q_E → q_G → Prop} : q_X 46 24 L [.int v0, .int v1, .ref v2] E g Q = ((q_kd E v2).1 = 6 ∧ q_X 10 0 [.ref v2, .int v1, .int v0] [] E g (fun v E' g' => q_X 46 27 L (v.toList ++ []) E' g' Q)) := q_X_cv (show q_P 46 24 = some (24, .invokevirtual 19, 3, [10, 2, 0, 627, 593, 594, 38, 2], 0) by decide +kernel) rfl (as := [.ref v2, .int v1, .int v0]) (rest := []) (c := (q_kd E v2).1 = 6) (by by_cases h : (q_kd E v2).1 = 6 <;> simp [q_cal, q_cnt, q_rok, Value.category, h]) rfl
theorem x46_27 {l0 l1 l2 l4 : Value} {x : Int32} {S : List Value} {E : q_E} {g : q_G} {Q : Option Value → q_E → q_G → Prop} : q_X 46 27 [l0, l1, l2, (.int x), l4] S E g Q = q_X 46 28 [l0, l1, l2, (.int x), l4] ((.int x) :: S) E g Q := q_X_stp (show q_P 46 27 = some (27, .iload_n 3, 1, [], 0) by decide +kernel) rfl rfl
theorem x46_28 {x y : Int32} {L S : List Value} {E : q_E} {g : q_G} {Q : Option Value → q_E → q_G → Prop} : q_X 46 28 L (.int y :: .int x :: S) E g Q = (if x ≤ y then q_X 46 42 L S E g Q else q_X 46 31 L S E g Q) := x_ile (show q_P 46 28 = some (28, .if_icmp .le 14, 3, [], 0) by decide +kernel) (by decide)
theorem x46_31 {l0 l1 l2 l3 : Value} {x : Int32} {S : List Value} {E : q_E} {g : q_G} {Q : Option Value → q_E → q_G → Prop} : q_X 46 31 [l0, l1, l2, l3, (.int x)] S E g Q = q_X 46 33 [l0, l1, l2, l3, (.int x)] ((.int x) :: S) E g Q := q_X_stp (show q_P 46 31 = some (31, .iload 4, 2, [], 0) by decide +kernel) rfl rfl
theorem x46_33 {l0 l1 l2 l3 l4 : Value} {x : Int32} {S : List Value} {E : q_E} {g : q_G} {Q : Option Value → q_E → q_G → Prop} : q_X 46 33 [l0, l1, l2, l3, l4] ((.int x) :: S) E g Q = q_X 46 34 [l0, l1, (.int x), l3, l4] S E g Q := q_X_stp (show q_P 46 33 = some (33, .istore_n 2, 1, [], 0) by decide +kernel) rfl rfl
theorem x46_34 {l1 l2 l3 l4 : Value} {x : Nat} {S : List Value} {E : q_E} {g : q_G} {Q : Option Value → q_E → q_G → Prop} : q_X 46 34 [(.ref x), l1, l2, l3, l4] S E g Q = q_X 46 35 [(.ref x), l1, l2, l3, l4] ((.ref x) :: S) E g Q := q_X_stp (show q_P 46 34 = some (34, .aload_n 0, 1, [], 0) by decide +kernel) rfl rfl
theorem x46_35 {l0 l2 l3 l4 : Value} {x : Int32} {S : List Value} {E : q_E} {g : q_G} {Q : Option Value → q_E → q_G → Prop} : q_X 46 35 [l0, (.int x), l2, l3, l4] S E g Q = q_X 46 36 [l0, (.int x), l2, l3, l4] ((.int x) :: S) E g Q := q_X_stp (show q_P 46 35 = some (35, .iload_n 1, 1, [], 0) by decide +kernel) rfl rfl
theorem x46_36 {l0 l1 l2 l3 : Value} {x : Int32} {S : List Value} {E : q_E} {g : q_G} {Q : Option Value → q_E → q_G → Prop} : q_X 46 36 [l0, l1, l2, l3, (.int x)] S E g Q = q_X 46 38 [l0, l1, l2, l3, (.int x)] ((.int x) :: S) E g Q := q_X_stp (show q_P 46 36 = some (36, .iload 4, 2, [], 0) by decide +kernel) rfl rfl
theorem x46_38 {v0 : Int32} {v1 : Int32} {v2 : Nat} {L : List Value} {E : q_E} {g : q_G} {Q : Option Value → q_E → q_G → Prop} : q_X 46 38 L [.int v0, .int v1, .ref v2] E g Q = ((q_kd E v2).1 = 6 ∧ q_X 10 0 [.ref v2, .int v1, .int v0] [] E g (fun v E' g' => q_X 46 41 L (v.toList ++ []) E' g' Q)) := q_X_cv (show q_P 46 38 = some (38, .invokevirtual 19, 3, [10, 2, 0, 627, 593, 594, 38, 2], 0) by decide +kernel) rfl (as := [.ref v2, .int v1, .int v0]) (rest := []) (c := (q_kd E v2).1 = 6) (by by_cases h : (q_kd E v2).1 = 6 <;> simp [q_cal, q_cnt, q_rok, Value.category, h]) rfl
theorem x46_41 {l0 l1 l2 l3 l4 : Value} {x : Int32} {S : List Value} {E : q_E} {g : q_G} {Q : Option Value → q_E → q_G → Prop} : q_X 46 41 [l0, l1, l2, l3, l4] ((.int x) :: S) E g Q = q_X 46 42 [l0, l1, l2, (.int x), l4] S E g Q := q_X_stp (show q_P 46 41 = some (41, .istore_n 3, 1, [], 0) by decide +kernel) rfl rfl
theorem x46_42 {l0 l1 l2 l3 : Value} {x : Int32} {S : List Value} {E : q_E} {g : q_G} {Q : Option Value → q_E → q_G → Prop} : q_X 46 42 [l0, l1, l2, l3, (.int x)] S E g Q = q_X 46 45 [l0, l1, l2, l3, (.int (x + (nI 1)))] S E g Q := q_X_stp (show q_P 46 42 = some (42, .iinc 4 1, 3, [], 0) by decide +kernel) rfl rfl
theorem x46_45 {L S : List Value} {E : q_E} {g : q_G} {Q : Option Value → q_E → q_G → Prop} : q_X 46 45 L S E g Q = q_X 46 7 L S E g Q := x_goto (show q_P 46 45 = some (45, .goto (-38), 3, [], 0) by decide +kernel) (by decide)
theorem x46_48 {l0 l1 l3 l4 : Value} {x : Int32} {S : List Value} {E : q_E} {g : q_G} {Q : Option Value → q_E → q_G → Prop} : q_X 46 48 [l0, l1, (.int x), l3, l4] S E g Q = q_X 46 49 [l0, l1, (.int x), l3, l4] ((.int x) :: S) E g Q := q_X_stp (show q_P 46 48 = some (48, .iload_n 2, 1, [], 0) by decide +kernel) rfl rfl
theorem x46_49 {v : Int32} {L : List Value} {E : q_E} {g : q_G} {Q : Option Value → q_E → q_G → Prop} : q_X 46 49 L [.int v] E g Q = Q (some (.int v)) E g := x_retI (show q_P 46 49 = some (49, .ireturn, 1, [], 0) by decide +kernel) rfl
-- X2_unlike
theorem x47_0 {L S : List Value} {E : q_E} {g : q_G} {Q : Option Value → q_E → q_G → Prop} : q_X 47 0 L S E g Q = q_X 47 1 L (.int (nI 0) :: S) E g Q := x_iconst (show q_P 47 0 = some (0, .iconst 0, 1, [], 0) by decide +kernel) (by decide)
theorem x47_1 {l0 l1 l2 l3 : Value} {x : Int32} {S : List Value} {E : q_E} {g : q_G} {Q : Option Value → q_E → q_G → Prop} : q_X 47 1 [l0, l1, l2, l3] ((.int x) :: S) E g Q = q_X 47 2 [l0, (.int x), l2, l3] S E g Q := q_X_stp (show q_P 47 1 = some (1, .istore_n 1, 1, [], 0) by decide +kernel) rfl rfl
theorem x47_2 {L S : List Value} {E : q_E} {g : q_G} {Q : Option Value → q_E → q_G → Prop} : q_X 47 2 L S E g Q = q_X 47 3 L (.int (nI 0) :: S) E g Q := x_iconst (show q_P 47 2 = some (2, .iconst 0, 1, [], 0) by decide +kernel) (by decide)
theorem x47_3 {l0 l1 l2 l3 : Value} {x : Int32} {S : List Value} {E : q_E} {g : q_G} {Q : Option Value → q_E → q_G → Prop} : q_X 47 3 [l0, l1, l2, l3] ((.int x) :: S) E g Q = q_X 47 4 [l0, l1, (.int x), l3] S E g Q := q_X_stp (show q_P 47 3 = some (3, .istore_n 2, 1, [], 0) by decide +kernel) rfl rfl
theorem x47_4 {l0 l1 l3 : Value} {x : Int32} {S : List Value} {E : q_E} {g : q_G} {Q : Option Value → q_E → q_G → Prop} : q_X 47 4 [l0, l1, (.int x), l3] S E g Q = q_X 47 5 [l0, l1, (.int x), l3] ((.int x) :: S) E g Q := q_X_stp (show q_P 47 4 = some (4, .iload_n 2, 1, [], 0) by decide +kernel) rfl rfl
theorem x47_5 {L S : List Value} {E : q_E} {g : q_G} {Q : Option Value → q_E → q_G → Prop} : q_X 47 5 L S E g Q = q_X 47 7 L (.int (nI 12) :: S) E g Q := x_bipush (show q_P 47 5 = some (5, .bipush 12, 2, [], 0) by decide +kernel) (by decide)
theorem x47_7 {x y : Int32} {L S : List Value} {E : q_E} {g : q_G} {Q : Option Value → q_E → q_G → Prop} : q_X 47 7 L (.int y :: .int x :: S) E g Q = (if y ≤ x then q_X 47 42 L S E g Q else q_X 47 10 L S E g Q) := x_ige (show q_P 47 7 = some (7, .if_icmp .ge 35, 3, [], 0) by decide +kernel) (by decide)
theorem x47_10 {l0 l1 l3 : Value} {x : Int32} {S : List Value} {E : q_E} {g : q_G} {Q : Option Value → q_E → q_G → Prop} : q_X 47 10 [l0, l1, (.int x), l3] S E g Q = q_X 47 11 [l0, l1, (.int x), l3] ((.int x) :: S) E g Q := q_X_stp (show q_P 47 10 = some (10, .iload_n 2, 1, [], 0) by decide +kernel) rfl rfl
theorem x47_11 {l0 l1 l2 l3 : Value} {x : Int32} {S : List Value} {E : q_E} {g : q_G} {Q : Option Value → q_E → q_G → Prop} : q_X 47 11 [l0, l1, l2, l3] ((.int x) :: S) E g Q = q_X 47 12 [l0, l1, l2, (.int x)] S E g Q := q_X_stp (show q_P 47 11 = some (11, .istore_n 3, 1, [], 0) by decide +kernel) rfl rfl
theorem x47_12 {l0 l1 l2 : Value} {x : Int32} {S : List Value} {E : q_E} {g : q_G} {Q : Option Value → q_E → q_G → Prop} : q_X 47 12 [l0, l1, l2, (.int x)] S E g Q = q_X 47 13 [l0, l1, l2, (.int x)] ((.int x) :: S) E g Q := q_X_stp (show q_P 47 12 = some (12, .iload_n 3, 1, [], 0) by decide +kernel) rfl rfl
theorem x47_13 {L S : List Value} {E : q_E} {g : q_G} {Q : Option Value → q_E → q_G → Prop} : q_X 47 13 L S E g Q = q_X 47 15 L (.int (nI 12) :: S) E g Q := x_bipush (show q_P 47 13 = some (13, .bipush 12, 2, [], 0) by decide +kernel) (by decide)
theorem x47_15 {x y : Int32} {L S : List Value} {E : q_E} {g : q_G} {Q : Option Value → q_E → q_G → Prop} : q_X 47 15 L (.int y :: .int x :: S) E g Q = (if y ≤ x then q_X 47 36 L S E g Q else q_X 47 18 L S E g Q) := x_ige (show q_P 47 15 = some (15, .if_icmp .ge 21, 3, [], 0) by decide +kernel) (by decide)
theorem x47_18 {l1 l2 l3 : Value} {x : Nat} {S : List Value} {E : q_E} {g : q_G} {Q : Option Value → q_E → q_G → Prop} : q_X 47 18 [(.ref x), l1, l2, l3] S E g Q = q_X 47 19 [(.ref x), l1, l2, l3] ((.ref x) :: S) E g Q := q_X_stp (show q_P 47 18 = some (18, .aload_n 0, 1, [], 0) by decide +kernel) rfl rfl
theorem x47_19 {l0 l1 l3 : Value} {x : Int32} {S : List Value} {E : q_E} {g : q_G} {Q : Option Value → q_E → q_G → Prop} : q_X 47 19 [l0, l1, (.int x), l3] S E g Q = q_X 47 20 [l0, l1, (.int x), l3] ((.int x) :: S) E g Q := q_X_stp (show q_P 47 19 = some (19, .iload_n 2, 1, [], 0) by decide +kernel) rfl rfl
theorem x47_20 {l0 l1 l2 : Value} {x : Int32} {S : List Value} {E : q_E} {g : q_G} {Q : Option Value → q_E → q_G → Prop} : q_X 47 20 [l0, l1, l2, (.int x)] S E g Q = q_X 47 21 [l0, l1, l2, (.int x)] ((.int x) :: S) E g Q := q_X_stp (show q_P 47 20 = some (20, .iload_n 3, 1, [], 0) by decide +kernel) rfl rfl
theorem x47_21 {v0 : Int32} {v1 : Int32} {v2 : Nat} {L : List Value} {E : q_E} {g : q_G} {Q : Option Value → q_E → q_G → Prop} : q_X 47 21 L [.int v0, .int v1, .ref v2] E g Q = ((q_kd E v2).1 = 6 ∧ q_X 10 0 [.ref v2, .int v1, .int v0] [] E g (fun v E' g' => q_X 47 24 L (v.toList ++ []) E' g' Q)) := q_X_cv (show q_P 47 21 = some (21, .invokevirtual 19, 3, [10, 2, 0, 627, 593, 594, 38, 2], 0) by decide +kernel) rfl (as := [.ref v2, .int v1, .int v0]) (rest := []) (c := (q_kd E v2).1 = 6) (by by_cases h : (q_kd E v2).1 = 6 <;> simp [q_cal, q_cnt, q_rok, Value.category, h]) rfl
theorem x47_24 {x : Int32} {L S : List Value} {E : q_E} {g : q_G} {Q : Option Value → q_E → q_G → Prop} : q_X 47 24 L (.int x :: S) E g Q = (if x ≤ nI 0 then q_X 47 30 L S E g Q else q_X 47 27 L S E g Q) := x_zle (show q_P 47 24 = some (24, .ifCond .le 6, 3, [], 0) by decide +kernel) (by decide)
theorem x47_27 {l0 l2 l3 : Value} {x : Int32} {S : List Value} {E : q_E} {g : q_G} {Q : Option Value → q_E → q_G → Prop} : q_X 47 27 [l0, (.int x), l2, l3] S E g Q = q_X 47 30 [l0, (.int (x + (nI 1))), l2, l3] S E g Q := q_X_stp (show q_P 47 27 = some (27, .iinc 1 1, 3, [], 0) by decide +kernel) rfl rfl
theorem x47_30 {l0 l1 l2 : Value} {x : Int32} {S : List Value} {E : q_E} {g : q_G} {Q : Option Value → q_E → q_G → Prop} : q_X 47 30 [l0, l1, l2, (.int x)] S E g Q = q_X 47 33 [l0, l1, l2, (.int (x + (nI 1)))] S E g Q := q_X_stp (show q_P 47 30 = some (30, .iinc 3 1, 3, [], 0) by decide +kernel) rfl rfl
theorem x47_33 {L S : List Value} {E : q_E} {g : q_G} {Q : Option Value → q_E → q_G → Prop} : q_X 47 33 L S E g Q = q_X 47 12 L S E g Q := x_goto (show q_P 47 33 = some (33, .goto (-21), 3, [], 0) by decide +kernel) (by decide)
theorem x47_36 {l0 l1 l3 : Value} {x : Int32} {S : List Value} {E : q_E} {g : q_G} {Q : Option Value → q_E → q_G → Prop} : q_X 47 36 [l0, l1, (.int x), l3] S E g Q = q_X 47 39 [l0, l1, (.int (x + (nI 1))), l3] S E g Q := q_X_stp (show q_P 47 36 = some (36, .iinc 2 1, 3, [], 0) by decide +kernel) rfl rfl
theorem x47_39 {L S : List Value} {E : q_E} {g : q_G} {Q : Option Value → q_E → q_G → Prop} : q_X 47 39 L S E g Q = q_X 47 4 L S E g Q := x_goto (show q_P 47 39 = some (39, .goto (-35), 3, [], 0) by decide +kernel) (by decide)
theorem x47_42 {l0 l2 l3 : Value} {x : Int32} {S : List Value} {E : q_E} {g : q_G} {Q : Option Value → q_E → q_G → Prop} : q_X 47 42 [l0, (.int x), l2, l3] S E g Q = q_X 47 43 [l0, (.int x), l2, l3] ((.int x) :: S) E g Q := q_X_stp (show q_P 47 42 = some (42, .iload_n 1, 1, [], 0) by decide +kernel) rfl rfl
theorem x47_43 {v : Int32} {L : List Value} {E : q_E} {g : q_G} {Q : Option Value → q_E → q_G → Prop} : q_X 47 43 L [.int v] E g Q = Q (some (.int v)) E g := x_retI (show q_P 47 43 = some (43, .ireturn, 1, [], 0) by decide +kernel) rfl
end
