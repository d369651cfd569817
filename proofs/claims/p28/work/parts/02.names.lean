def RX0 : String := "CardRacks$Calendar"
def TX0 : u_T := fun k => match k with
  | 0 => ("CardRacks$Calendar", "day", "I", false)
  | 1 => ("CardRacks$Calendar", "first", "[I", true)
  | _ => ("CardRacks$Calendar", "last", "[I", true)
def tyX0 : Nat → FieldType := fun k => match k with
  | 0 => .int
  | 1 => .array .int
  | _ => .array .int
theorem nmX0 : ∀ a, a < 3 → ∀ b, b < 3 → a ≠ b → (TX0 a).2.1 ≠ (TX0 b).2.1 := by decide +kernel
theorem tyX0_ok : ∀ k, k < 3 → parseFieldDescriptor (TX0 k).2.2.1 = some (tyX0 k) := by decide +kernel
def RX1 : String := "CardRacks$Deliveries"
def TX1 : u_T := fun k => match k with
  | 0 => ("CardRacks$Deliveries", "size", "I", false)
  | 1 => ("CardRacks$Deliveries", "ordered", "[I", true)
  | 2 => ("CardRacks$Deliveries", "amount", "[I", true)
  | _ => ("CardRacks$Deliveries", "due", "[I", true)
def tyX1 : Nat → FieldType := fun k => match k with
  | 0 => .int
  | 1 => .array .int
  | 2 => .array .int
  | _ => .array .int
theorem nmX1 : ∀ a, a < 4 → ∀ b, b < 4 → a ≠ b → (TX1 a).2.1 ≠ (TX1 b).2.1 := by decide +kernel
theorem tyX1_ok : ∀ k, k < 4 → parseFieldDescriptor (TX1 k).2.2.1 = some (tyX1 k) := by decide +kernel
def RX2 : String := "CardRacks$Pairs"
def TX2 : u_T := fun k => match k with
  | _ => ("CardRacks$Pairs", "often", "[I", true)
def tyX2 : Nat → FieldType := fun k => match k with
  | _ => .array .int
theorem nmX2 : ∀ a, a < 1 → ∀ b, b < 1 → a ≠ b → (TX2 a).2.1 ≠ (TX2 b).2.1 := by decide +kernel
theorem tyX2_ok : ∀ k, k < 1 → parseFieldDescriptor (TX2 k).2.2.1 = some (tyX2 k) := by decide +kernel
def RX3 : String := "CardRacks$Rack"
def TX3 : u_T := fun k => match k with
  | 0 => ("CardRacks$Rack", "held", "[I", true)
  | 1 => ("CardRacks$Rack", "cards", "[I", true)
  | _ => ("CardRacks$Rack", "sold", "[I", true)
def tyX3 : Nat → FieldType := fun k => match k with
  | 0 => .array .int
  | 1 => .array .int
  | _ => .array .int
theorem nmX3 : ∀ a, a < 3 → ∀ b, b < 3 → a ≠ b → (TX3 a).2.1 ≠ (TX3 b).2.1 := by decide +kernel
theorem tyX3_ok : ∀ k, k < 3 → parseFieldDescriptor (TX3 k).2.2.1 = some (tyX3 k) := by decide +kernel
def RX4 : String := "CardRacks$Rehearsal"
def TX4 : u_T := fun k => match k with
  | 0 => ("CardRacks$Rehearsal", "position", "I", false)
  | 1 => ("CardRacks$Rehearsal", "reason", "I", false)
  | 2 => ("CardRacks$Rehearsal", "cause", "I", false)
  | _ => ("CardRacks$Rehearsal", "done", "I", false)
def tyX4 : Nat → FieldType := fun k => match k with
  | 0 => .int
  | 1 => .int
  | 2 => .int
  | _ => .int
theorem nmX4 : ∀ a, a < 4 → ∀ b, b < 4 → a ≠ b → (TX4 a).2.1 ≠ (TX4 b).2.1 := by decide +kernel
theorem tyX4_ok : ∀ k, k < 4 → parseFieldDescriptor (TX4 k).2.2.1 = some (tyX4 k) := by decide +kernel
def RX5 : String := "CardRacks$State"
def TX5 : u_T := fun k => match k with
  | 0 => ("CardRacks$State", "calendar", "LCardRacks$Calendar;", true)
  | 1 => ("CardRacks$State", "verses", "LCardRacks$Verses;", true)
  | 2 => ("CardRacks$State", "pairs", "LCardRacks$Pairs;", true)
  | 3 => ("CardRacks$State", "rack", "LCardRacks$Rack;", true)
  | 4 => ("CardRacks$State", "deliveries", "LCardRacks$Deliveries;", true)
  | 5 => ("CardRacks$State", "delay", "I", false)
  | 6 => ("CardRacks$State", "percent", "I", false)
  | 7 => ("CardRacks$State", "returned", "I", false)
  | _ => ("CardRacks$State", "account", "I", false)
def tyX5 : Nat → FieldType := fun k => match k with
  | 0 => .object "CardRacks$Calendar"
  | 1 => .object "CardRacks$Verses"
  | 2 => .object "CardRacks$Pairs"
  | 3 => .object "CardRacks$Rack"
  | 4 => .object "CardRacks$Deliveries"
  | 5 => .int
  | 6 => .int
  | 7 => .int
  | _ => .int
theorem nmX5 : ∀ a, a < 9 → ∀ b, b < 9 → a ≠ b → (TX5 a).2.1 ≠ (TX5 b).2.1 := by decide +kernel
theorem tyX5_ok : ∀ k, k < 9 → parseFieldDescriptor (TX5 k).2.2.1 = some (tyX5 k) := by decide +kernel
def RX6 : String := "CardRacks$Text"
def TX6 : u_T := fun k => match k with
  | 0 => ("CardRacks$Text", "signs", "[C", true)
  | 1 => ("CardRacks$Text", "length", "I", false)
  | 2 => ("CardRacks$Text", "numbers", "[I", true)
  | 3 => ("CardRacks$Text", "kind", "C", false)
  | _ => ("CardRacks$Text", "end", "I", false)
def tyX6 : Nat → FieldType := fun k => match k with
  | 0 => .array .char
  | 1 => .int
  | 2 => .array .int
  | 3 => .char
  | _ => .int
theorem nmX6 : ∀ a, a < 5 → ∀ b, b < 5 → a ≠ b → (TX6 a).2.1 ≠ (TX6 b).2.1 := by decide +kernel
theorem tyX6_ok : ∀ k, k < 5 → parseFieldDescriptor (TX6 k).2.2.1 = some (tyX6 k) := by decide +kernel
def RX7 : String := "CardRacks$Verses"
def TX7 : u_T := fun k => match k with
  | 0 => ("CardRacks$Verses", "size", "I", false)
  | 1 => ("CardRacks$Verses", "occasion", "[I", true)
  | 2 => ("CardRacks$Verses", "price", "[I", true)
  | 3 => ("CardRacks$Verses", "cost", "[I", true)
  | 4 => ("CardRacks$Verses", "stock", "[I", true)
  | 5 => ("CardRacks$Verses", "sold", "[I", true)
  | 6 => ("CardRacks$Verses", "instead", "[I", true)
  | 7 => ("CardRacks$Verses", "lost", "[I", true)
  | _ => ("CardRacks$Verses", "wanted", "[I", true)
def tyX7 : Nat → FieldType := fun k => match k with
  | 0 => .int
  | 1 => .array .int
  | 2 => .array .int
  | 3 => .array .int
  | 4 => .array .int
  | 5 => .array .int
  | 6 => .array .int
  | 7 => .array .int
  | _ => .array .int
theorem nmX7 : ∀ a, a < 9 → ∀ b, b < 9 → a ≠ b → (TX7 a).2.1 ≠ (TX7 b).2.1 := by decide +kernel
theorem tyX7_ok : ∀ k, k < 9 → parseFieldDescriptor (TX7 k).2.2.1 = some (tyX7 k) := by decide +kernel
def RX8 : String := "CardRacks"
def TX8 : u_T := fun k => match k with
  | 0 => ("CardRacks", "now", "LCardRacks$State;", false)
  | 1 => ("CardRacks", "trial", "LCardRacks$State;", false)
  | 2 => ("CardRacks", "latest", "LCardRacks$State;", false)
  | 3 => ("CardRacks", "second", "LCardRacks$State;", false)
  | 4 => ("CardRacks", "third", "LCardRacks$State;", false)
  | 5 => ("CardRacks", "oldest", "LCardRacks$State;", false)
  | 6 => ("CardRacks", "states", "I", false)
  | 7 => ("CardRacks", "text", "LCardRacks$Text;", true)
  | _ => ("CardRacks", "rehearsal", "LCardRacks$Rehearsal;", true)
def tyX8 : Nat → FieldType := fun k => match k with
  | 0 => .object "CardRacks$State"
  | 1 => .object "CardRacks$State"
  | 2 => .object "CardRacks$State"
  | 3 => .object "CardRacks$State"
  | 4 => .object "CardRacks$State"
  | 5 => .object "CardRacks$State"
  | 6 => .int
  | 7 => .object "CardRacks$Text"
  | _ => .object "CardRacks$Rehearsal"
theorem nmX8 : ∀ a, a < 9 → ∀ b, b < 9 → a ≠ b → (TX8 a).2.1 ≠ (TX8 b).2.1 := by decide +kernel
theorem tyX8_ok : ∀ k, k < 9 → parseFieldDescriptor (TX8 k).2.2.1 = some (tyX8 k) := by decide +kernel
abbrev vwCl : List vw_C := [(RX0, TX0, 3), (RX1, TX1, 4), (RX2, TX2, 1), (RX3, TX3, 3), (RX4, TX4, 4), (RX5, TX5, 9), (RX6, TX6, 5), (RX7, TX7, 9), (RX8, TX8, 9)]
