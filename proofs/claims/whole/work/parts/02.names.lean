/-! names and tables: RX.., TX.., tyX.. as the claim's printed names have them; the rest written by wip/whole/gen_names.py -/
def RX0 : String := "RingKiln$Course"
def TX0 : u_T := fun k => match k with
  | 0 => ("RingKiln$Course", "book", "LRingKiln$RuleBook;", true)
  | _ => ("RingKiln$Course", "facts", "[I", true)
def tyX0 : Nat → FieldType := fun k => match k with
  | 0 => .object "RingKiln$RuleBook"
  | _ => .array .int
theorem nmX0 : ∀ a, a < 2 → ∀ b, b < 2 → a ≠ b → (TX0 a).2.1 ≠ (TX0 b).2.1 := by decide +kernel
theorem tyX0_ok : ∀ k, k < 2 → parseFieldDescriptor (TX0 k).2.2.1 = some (tyX0 k) := by decide +kernel
def RX1 : String := "RingKiln$Foresight"
def TX1 : u_T := fun k => match k with
  | 0 => ("RingKiln$Foresight", "works", "LRingKiln$Works;", true)
  | 1 => ("RingKiln$Foresight", "course", "LRingKiln$Course;", true)
  | 2 => ("RingKiln$Foresight", "state", "LRingKiln$State;", true)
  | 3 => ("RingKiln$Foresight", "rowSearch", "LRingKiln$RowSearch;", true)
  | 4 => ("RingKiln$Foresight", "trace", "[I", true)
  | 5 => ("RingKiln$Foresight", "oneHas", "[I", true)
  | _ => ("RingKiln$Foresight", "otherHas", "[I", true)
def tyX1 : Nat → FieldType := fun k => match k with
  | 0 => .object "RingKiln$Works"
  | 1 => .object "RingKiln$Course"
  | 2 => .object "RingKiln$State"
  | 3 => .object "RingKiln$RowSearch"
  | 4 => .array .int
  | 5 => .array .int
  | _ => .array .int
theorem nmX1 : ∀ a, a < 7 → ∀ b, b < 7 → a ≠ b → (TX1 a).2.1 ≠ (TX1 b).2.1 := by decide +kernel
theorem tyX1_ok : ∀ k, k < 7 → parseFieldDescriptor (TX1 k).2.2.1 = some (tyX1 k) := by decide +kernel
def RX2 : String := "RingKiln$Hindsight"
def TX2 : u_T := fun k => match k with
  | 0 => ("RingKiln$Hindsight", "works", "LRingKiln$Works;", true)
  | 1 => ("RingKiln$Hindsight", "course", "LRingKiln$Course;", true)
  | 2 => ("RingKiln$Hindsight", "state", "LRingKiln$State;", true)
  | 3 => ("RingKiln$Hindsight", "guess", "LRingKiln$Told;", true)
  | _ => ("RingKiln$Hindsight", "places", "[I", true)
def tyX2 : Nat → FieldType := fun k => match k with
  | 0 => .object "RingKiln$Works"
  | 1 => .object "RingKiln$Course"
  | 2 => .object "RingKiln$State"
  | 3 => .object "RingKiln$Told"
  | _ => .array .int
theorem nmX2 : ∀ a, a < 5 → ∀ b, b < 5 → a ≠ b → (TX2 a).2.1 ≠ (TX2 b).2.1 := by decide +kernel
theorem tyX2_ok : ∀ k, k < 5 → parseFieldDescriptor (TX2 k).2.2.1 = some (tyX2 k) := by decide +kernel
def RX3 : String := "RingKiln$KilnReader"
def TX3 : u_T := fun k => match k with
  | 0 => ("RingKiln$KilnReader", "tape", "LRingKiln$Tape;", true)
  | _ => ("RingKiln$KilnReader", "told", "LRingKiln$Told;", true)
def tyX3 : Nat → FieldType := fun k => match k with
  | 0 => .object "RingKiln$Tape"
  | _ => .object "RingKiln$Told"
theorem nmX3 : ∀ a, a < 2 → ∀ b, b < 2 → a ≠ b → (TX3 a).2.1 ≠ (TX3 b).2.1 := by decide +kernel
theorem tyX3_ok : ∀ k, k < 2 → parseFieldDescriptor (TX3 k).2.2.1 = some (tyX3 k) := by decide +kernel
def RX4 : String := "RingKiln$RowSearch"
def TX4 : u_T := fun k => match k with
  | 0 => ("RingKiln$RowSearch", "works", "LRingKiln$Works;", true)
  | 1 => ("RingKiln$RowSearch", "course", "LRingKiln$Course;", true)
  | 2 => ("RingKiln$RowSearch", "states", "[LRingKiln$State;", true)
  | 3 => ("RingKiln$RowSearch", "tried", "[I", true)
  | 4 => ("RingKiln$RowSearch", "best", "[I", true)
  | _ => ("RingKiln$RowSearch", "least", "I", false)
def tyX4 : Nat → FieldType := fun k => match k with
  | 0 => .object "RingKiln$Works"
  | 1 => .object "RingKiln$Course"
  | 2 => .array (.object "RingKiln$State")
  | 3 => .array .int
  | 4 => .array .int
  | _ => .int
theorem nmX4 : ∀ a, a < 6 → ∀ b, b < 6 → a ≠ b → (TX4 a).2.1 ≠ (TX4 b).2.1 := by decide +kernel
theorem tyX4_ok : ∀ k, k < 6 → parseFieldDescriptor (TX4 k).2.2.1 = some (tyX4 k) := by decide +kernel
def RX5 : String := "RingKiln$RuleBook"
def TX5 : u_T := fun k => match k with
  | 0 => ("RingKiln$RuleBook", "steps", "[[I", true)
  | 1 => ("RingKiln$RuleBook", "sizes", "[I", true)
  | 2 => ("RingKiln$RuleBook", "stack", "[J", true)
  | _ => ("RingKiln$RuleBook", "rules", "I", false)
def tyX5 : Nat → FieldType := fun k => match k with
  | 0 => .array (.array .int)
  | 1 => .array .int
  | 2 => .array .long
  | _ => .int
theorem nmX5 : ∀ a, a < 4 → ∀ b, b < 4 → a ≠ b → (TX5 a).2.1 ≠ (TX5 b).2.1 := by decide +kernel
theorem tyX5_ok : ∀ k, k < 4 → parseFieldDescriptor (TX5 k).2.2.1 = some (tyX5 k) := by decide +kernel
def RX6 : String := "RingKiln$RuleReader"
def TX6 : u_T := fun k => match k with
  | 0 => ("RingKiln$RuleReader", "tape", "LRingKiln$Tape;", true)
  | 1 => ("RingKiln$RuleReader", "book", "LRingKiln$RuleBook;", true)
  | 2 => ("RingKiln$RuleReader", "size", "I", false)
  | _ => ("RingKiln$RuleReader", "parts", "I", false)
def tyX6 : Nat → FieldType := fun k => match k with
  | 0 => .object "RingKiln$Tape"
  | 1 => .object "RingKiln$RuleBook"
  | 2 => .int
  | _ => .int
theorem nmX6 : ∀ a, a < 4 → ∀ b, b < 4 → a ≠ b → (TX6 a).2.1 ≠ (TX6 b).2.1 := by decide +kernel
theorem tyX6_ok : ∀ k, k < 4 → parseFieldDescriptor (TX6 k).2.2.1 = some (tyX6 k) := by decide +kernel
def RX7 : String := "RingKiln$State"
def TX7 : u_T := fun k => match k with
  | _ => ("RingKiln$State", "cells", "[I", true)
def tyX7 : Nat → FieldType := fun k => match k with
  | _ => .array .int
theorem nmX7 : ∀ a, a < 1 → ∀ b, b < 1 → a ≠ b → (TX7 a).2.1 ≠ (TX7 b).2.1 := by decide +kernel
theorem tyX7_ok : ∀ k, k < 1 → parseFieldDescriptor (TX7 k).2.2.1 = some (tyX7 k) := by decide +kernel
def RX8 : String := "RingKiln$Tape"
def TX8 : u_T := fun k => match k with
  | 0 => ("RingKiln$Tape", "bytes", "[I", true)
  | 1 => ("RingKiln$Tape", "length", "I", false)
  | 2 => ("RingKiln$Tape", "behind", "I", false)
  | 3 => ("RingKiln$Tape", "kind", "I", false)
  | 4 => ("RingKiln$Tape", "place", "I", false)
  | 5 => ("RingKiln$Tape", "value", "I", false)
  | _ => ("RingKiln$Tape", "fault", "I", false)
def tyX8 : Nat → FieldType := fun k => match k with
  | 0 => .array .int
  | 1 => .int
  | 2 => .int
  | 3 => .int
  | 4 => .int
  | 5 => .int
  | _ => .int
theorem nmX8 : ∀ a, a < 7 → ∀ b, b < 7 → a ≠ b → (TX8 a).2.1 ≠ (TX8 b).2.1 := by decide +kernel
theorem tyX8_ok : ∀ k, k < 7 → parseFieldDescriptor (TX8 k).2.2.1 = some (tyX8 k) := by decide +kernel
def RX9 : String := "RingKiln$Told"
def TX9 : u_T := fun k => match k with
  | 0 => ("RingKiln$Told", "chambers", "I", false)
  | 1 => ("RingKiln$Told", "coal", "I", false)
  | 2 => ("RingKiln$Told", "clays", "I", false)
  | 3 => ("RingKiln$Told", "orders", "I", false)
  | 4 => ("RingKiln$Told", "fire", "I", false)
  | 5 => ("RingKiln$Told", "clayWet", "[I", true)
  | 6 => ("RingKiln$Told", "clayNeeds", "[I", true)
  | 7 => ("RingKiln$Told", "setWith", "[I", true)
  | 8 => ("RingKiln$Told", "orderClay", "[I", true)
  | 9 => ("RingKiln$Told", "orderMany", "[I", true)
  | _ => ("RingKiln$Told", "orderDue", "[I", true)
def tyX9 : Nat → FieldType := fun k => match k with
  | 0 => .int
  | 1 => .int
  | 2 => .int
  | 3 => .int
  | 4 => .int
  | 5 => .array .int
  | 6 => .array .int
  | 7 => .array .int
  | 8 => .array .int
  | 9 => .array .int
  | _ => .array .int
theorem nmX9 : ∀ a, a < 11 → ∀ b, b < 11 → a ≠ b → (TX9 a).2.1 ≠ (TX9 b).2.1 := by decide +kernel
theorem tyX9_ok : ∀ k, k < 11 → parseFieldDescriptor (TX9 k).2.2.1 = some (tyX9 k) := by decide +kernel
def RX10 : String := "RingKiln$Works"
def TX10 : u_T := fun k => match k with
  | 0 => ("RingKiln$Works", "told", "LRingKiln$Told;", true)
  | 1 => ("RingKiln$Works", "state", "LRingKiln$State;", true)
  | 2 => ("RingKiln$Works", "past", "[I", true)
  | 3 => ("RingKiln$Works", "pastEnd", "I", false)
  | 4 => ("RingKiln$Works", "pastCount", "I", false)
  | 5 => ("RingKiln$Works", "ruleInForce", "I", false)
  | 6 => ("RingKiln$Works", "drawn", "I", false)
  | 7 => ("RingKiln$Works", "notes", "I", false)
  | 8 => ("RingKiln$Works", "noteDay", "[I", true)
  | _ => ("RingKiln$Works", "noteFire", "[I", true)
def tyX10 : Nat → FieldType := fun k => match k with
  | 0 => .object "RingKiln$Told"
  | 1 => .object "RingKiln$State"
  | 2 => .array .int
  | 3 => .int
  | 4 => .int
  | 5 => .int
  | 6 => .int
  | 7 => .int
  | 8 => .array .int
  | _ => .array .int
theorem nmX10 : ∀ a, a < 10 → ∀ b, b < 10 → a ≠ b → (TX10 a).2.1 ≠ (TX10 b).2.1 := by decide +kernel
theorem tyX10_ok : ∀ k, k < 10 → parseFieldDescriptor (TX10 k).2.2.1 = some (tyX10 k) := by decide +kernel
def RX11 : String := "RingKiln"
def TX11 : u_T := fun k => match k with
  | 0 => ("RingKiln", "tape", "LRingKiln$Tape;", true)
  | 1 => ("RingKiln", "kilnReader", "LRingKiln$KilnReader;", true)
  | 2 => ("RingKiln", "book", "LRingKiln$RuleBook;", true)
  | 3 => ("RingKiln", "ruleReader", "LRingKiln$RuleReader;", true)
  | 4 => ("RingKiln", "course", "LRingKiln$Course;", true)
  | 5 => ("RingKiln", "now", "LRingKiln$Works;", true)
  | 6 => ("RingKiln", "images", "[LRingKiln$Works;", true)
  | 7 => ("RingKiln", "imageMade", "[Z", true)
  | 8 => ("RingKiln", "foresight", "LRingKiln$Foresight;", true)
  | _ => ("RingKiln", "hindsight", "LRingKiln$Hindsight;", true)
def tyX11 : Nat → FieldType := fun k => match k with
  | 0 => .object "RingKiln$Tape"
  | 1 => .object "RingKiln$KilnReader"
  | 2 => .object "RingKiln$RuleBook"
  | 3 => .object "RingKiln$RuleReader"
  | 4 => .object "RingKiln$Course"
  | 5 => .object "RingKiln$Works"
  | 6 => .array (.object "RingKiln$Works")
  | 7 => .array .boolean
  | 8 => .object "RingKiln$Foresight"
  | _ => .object "RingKiln$Hindsight"
theorem nmX11 : ∀ a, a < 10 → ∀ b, b < 10 → a ≠ b → (TX11 a).2.1 ≠ (TX11 b).2.1 := by decide +kernel
theorem tyX11_ok : ∀ k, k < 10 → parseFieldDescriptor (TX11 k).2.2.1 = some (tyX11 k) := by decide +kernel
def RX12 : String := "RingKilnModel"
def TX12 : u_T := fun k => match k with
  | 0 => ("RingKilnModel", "thrown", "I", false)
  | 1 => ("RingKilnModel", "scalar", "[I", true)
  | 2 => ("RingKilnModel", "clayOf", "[I", true)
  | 3 => ("RingKilnModel", "wet", "[I", true)
  | 4 => ("RingKilnModel", "burnt", "[I", true)
  | 5 => ("RingKilnModel", "warm", "[I", true)
  | 6 => ("RingKilnModel", "store", "[I", true)
  | 7 => ("RingKilnModel", "sent", "[I", true)
  | 8 => ("RingKilnModel", "clayWet", "[I", true)
  | 9 => ("RingKilnModel", "needs", "[I", true)
  | 10 => ("RingKilnModel", "orderOf", "[I", true)
  | 11 => ("RingKilnModel", "orderMany", "[I", true)
  | 12 => ("RingKilnModel", "orderDue", "[I", true)
  | 13 => ("RingKilnModel", "noteDay", "[I", true)
  | 14 => ("RingKilnModel", "noteFire", "[I", true)
  | 15 => ("RingKilnModel", "toldClay", "[I", true)
  | 16 => ("RingKilnModel", "newScalar", "[I", true)
  | 17 => ("RingKilnModel", "newClay", "[I", true)
  | 18 => ("RingKilnModel", "newWet", "[I", true)
  | 19 => ("RingKilnModel", "newNeeds", "[I", true)
  | 20 => ("RingKilnModel", "newOf", "[I", true)
  | 21 => ("RingKilnModel", "newMany", "[I", true)
  | 22 => ("RingKilnModel", "newDue", "[I", true)
  | 23 => ("RingKilnModel", "taped", "I", false)
  | 24 => ("RingKilnModel", "p", "I", false)
  | 25 => ("RingKilnModel", "fault", "I", false)
  | 26 => ("RingKilnModel", "slot", "I", false)
  | 27 => ("RingKilnModel", "rules", "I", false)
  | 28 => ("RingKilnModel", "entries", "I", false)
  | 29 => ("RingKilnModel", "deep", "I", false)
  | 30 => ("RingKilnModel", "counted", "I", false)
  | 31 => ("RingKilnModel", "opened", "I", false)
  | 32 => ("RingKilnModel", "words", "I", false)
  | 33 => ("RingKilnModel", "tape", "[B", true)
  | 34 => ("RingKilnModel", "sort", "[I", true)
  | 35 => ("RingKilnModel", "number", "[I", true)
  | 36 => ("RingKilnModel", "clauses", "[I", true)
  | 37 => ("RingKilnModel", "sumAt", "[I", true)
  | 38 => ("RingKilnModel", "testAt", "[I", true)
  | 39 => ("RingKilnModel", "endAt", "[I", true)
  | 40 => ("RingKilnModel", "open", "[I", true)
  | 41 => ("RingKilnModel", "asked", "[J", true)
  | 42 => ("RingKilnModel", "stack", "[J", true)
  | 43 => ("RingKilnModel", "feedNow", "I", false)
  | 44 => ("RingKilnModel", "fedNow", "I", false)
  | 45 => ("RingKilnModel", "wentTo", "I", false)
  | 46 => ("RingKilnModel", "past", "[I", true)
  | 47 => ("RingKilnModel", "pastOf", "[I", true)
  | 48 => ("RingKilnModel", "pastMany", "I", false)
  | 49 => ("RingKilnModel", "pastAt", "I", false)
  | 50 => ("RingKilnModel", "takesBack", "Z", false)
  | 51 => ("RingKilnModel", "firstHas", "[I", true)
  | 52 => ("RingKilnModel", "secondHas", "[I", true)
  | 53 => ("RingKilnModel", "lay", "[I", true)
  | 54 => ("RingKilnModel", "course", "[I", true)
  | 55 => ("RingKilnModel", "shows", "[I", true)
  | 56 => ("RingKilnModel", "images", "[I", true)
  | 57 => ("RingKilnModel", "isMade", "[Z", true)
  | 58 => ("RingKilnModel", "imageAt", "I", false)
  | _ => ("RingKilnModel", "goesBack", "Z", false)
def tyX12 : Nat → FieldType := fun k => match k with
  | 0 => .int
  | 1 => .array .int
  | 2 => .array .int
  | 3 => .array .int
  | 4 => .array .int
  | 5 => .array .int
  | 6 => .array .int
  | 7 => .array .int
  | 8 => .array .int
  | 9 => .array .int
  | 10 => .array .int
  | 11 => .array .int
  | 12 => .array .int
  | 13 => .array .int
  | 14 => .array .int
  | 15 => .array .int
  | 16 => .array .int
  | 17 => .array .int
  | 18 => .array .int
  | 19 => .array .int
  | 20 => .array .int
  | 21 => .array .int
  | 22 => .array .int
  | 23 => .int
  | 24 => .int
  | 25 => .int
  | 26 => .int
  | 27 => .int
  | 28 => .int
  | 29 => .int
  | 30 => .int
  | 31 => .int
  | 32 => .int
  | 33 => .array .byte
  | 34 => .array .int
  | 35 => .array .int
  | 36 => .array .int
  | 37 => .array .int
  | 38 => .array .int
  | 39 => .array .int
  | 40 => .array .int
  | 41 => .array .long
  | 42 => .array .long
  | 43 => .int
  | 44 => .int
  | 45 => .int
  | 46 => .array .int
  | 47 => .array .int
  | 48 => .int
  | 49 => .int
  | 50 => .boolean
  | 51 => .array .int
  | 52 => .array .int
  | 53 => .array .int
  | 54 => .array .int
  | 55 => .array .int
  | 56 => .array .int
  | 57 => .array .boolean
  | 58 => .int
  | _ => .boolean
theorem nmX12 : ∀ a, a < 60 → ∀ b, b < 60 → a ≠ b → (TX12 a).2.1 ≠ (TX12 b).2.1 := by decide +kernel
theorem tyX12_ok : ∀ k, k < 60 → parseFieldDescriptor (TX12 k).2.2.1 = some (tyX12 k) := by decide +kernel
abbrev vwCl : List vw_C := [(RX0, TX0, 2), (RX1, TX1, 7), (RX2, TX2, 5), (RX3, TX3, 2), (RX4, TX4, 6), (RX5, TX5, 4), (RX6, TX6, 4), (RX7, TX7, 1), (RX8, TX8, 7), (RX9, TX9, 11), (RX10, TX10, 10), (RX11, TX11, 10), (RX12, TX12, 60)]
def ax_own : List String := ["RingKiln$Course", "RingKiln$Foresight", "RingKiln$Hindsight", "RingKiln$KilnReader", "RingKiln$RowSearch", "RingKiln$RuleBook", "RingKiln$RuleReader", "RingKiln$State", "RingKiln$Tape", "RingKiln$Told", "RingKiln$Works", "RingKiln", "RingKilnModel", "RingKilnLaw", "java/lang/Integer"]
abbrev ax_MT : Type := MethodName × ByteArray × Nat × Option FieldType × Nat × Nat × List Nat × List Nat
def ax_Ml_0 : List ax_MT := [
  (⟨"RingKiln$Course", "<init>", "(LRingKiln$RuleBook;)V"⟩, prog_2_method_1_code, 2, none, 0, 2, [2, 2], [324, 123, 323]),
  (⟨"RingKiln$Course", "pass", "(LRingKiln$State;LRingKiln$Told;I)I"⟩, prog_2_method_2_code, 4, (some .int), 0, 0, [2, 2, 2, 0], [798, 123, 796, 797]),
  (⟨"RingKiln$Course", "wanted", "(LRingKiln$State;LRingKiln$Told;I)I"⟩, prog_2_method_3_code, 5, (some .int), 0, 0, [2, 2, 2, 0], [802, 123, 801, 24]),
  (⟨"RingKiln$Course", "gatherFacts", "(LRingKiln$State;LRingKiln$Told;I)V"⟩, prog_2_method_4_code, 7, none, 0, 0, [2, 2, 2, 0], [806, 123, 805, 25]),
  (⟨"RingKiln$Course", "passWith", "(LRingKiln$State;LRingKiln$Told;I)I"⟩, prog_2_method_5_code, 8, (some .int), 0, 0, [2, 2, 2, 0], [843, 123, 841, 842]),
  (⟨"RingKiln$Course", "dryOrBurn", "([II)V"⟩, prog_2_method_6_code, 3, none, 0, 1, [2, 0], [852, 123, 851]),
  (⟨"RingKiln$Course", "fireBehind", "(LRingKiln$State;LRingKiln$Told;I)I"⟩, prog_2_method_7_code, 4, (some .int), 0, 1, [2, 2, 0], [858, 123, 857]),
  (⟨"RingKiln$Foresight", "<init>", "(LRingKiln$Works;LRingKiln$Course;)V"⟩, prog_3_method_1_code, 3, none, 1, 2, [2, 2, 2], [417, 126, 416]),
  (⟨"RingKiln$Foresight", "stateAfter", "(I)LRingKiln$State;"⟩, prog_3_method_2_code, 2, (some (.object "RingKiln$State")), 1, 0, [2, 0], [924, 126, 922, 923]),
  (⟨"RingKiln$Foresight", "passDays", "(I)V"⟩, prog_3_method_3_code, 3, none, 1, 0, [2, 0], [933, 126, 932, 26]),
  (⟨"RingKiln$Foresight", "firstDay", "(II)I"⟩, prog_3_method_4_code, 6, (some .int), 1, 0, [2, 0, 0], [942, 126, 940, 941]),
  (⟨"RingKiln$Foresight", "isSo", "(III)Z"⟩, prog_3_method_5_code, 5, (some .boolean), 1, 0, [2, 0, 0, 0], [946, 126, 945, 27]),
  (⟨"RingKiln$Foresight", "bestClay", "(III)I"⟩, prog_3_method_6_code, 8, (some .int), 1, 0, [2, 0, 0, 0], [1007, 126, 1005, 1006]),
  (⟨"RingKiln$Foresight", "restsOf", "(IIII)I"⟩, prog_3_method_7_code, 9, (some .int), 1, 0, [2, 0, 0, 0, 0], [1076, 126, 1074, 1075]),
  (⟨"RingKiln$Foresight", "worthOf", "(I)I"⟩, prog_3_method_8_code, 3, (some .int), 1, 0, [2, 0], [1080, 126, 1079, 33]),
  (⟨"RingKiln$Foresight", "isRest", "(III)Z"⟩, prog_3_method_9_code, 5, (some .boolean), 1, 0, [2, 0, 0, 0], [1084, 126, 1083, 34]),
  (⟨"RingKiln$Foresight", "firstAlike", "(I)I"⟩, prog_3_method_10_code, 4, (some .int), 1, 0, [2, 0], [1092, 126, 1090, 1091]),
  (⟨"RingKiln$Foresight", "areAlike", "(II)Z"⟩, prog_3_method_11_code, 4, (some .boolean), 1, 0, [2, 0, 0], [1097, 126, 1096, 35]),
  (⟨"RingKiln$Foresight", "underRain", "(IIII)I"⟩, prog_3_method_12_code, 10, (some .int), 1, 0, [2, 0, 0, 0, 0], [1147, 126, 1145, 1146]),
  (⟨"RingKiln$Foresight", "drawnBehind", "(I)I"⟩, prog_3_method_13_code, 1, (some .int), 1, 1, [0], [1150, 126, 1149]),
  (⟨"RingKiln$Foresight", "rainOn", "(I)V"⟩, prog_3_method_14_code, 5, none, 1, 0, [2, 0], [1158, 126, 1157, 38]),
  (⟨"RingKiln$Hindsight", "<init>", "(LRingKiln$Works;LRingKiln$Course;)V"⟩, prog_4_method_1_code, 3, none, 2, 2, [2, 2, 2], [477, 128, 476]),
  (⟨"RingKiln$Hindsight", "guessClay", "(IZI)I"⟩, prog_4_method_2_code, 10, (some .int), 2, 0, [2, 0, 0, 0], [1048, 128, 1046, 1047]),
  (⟨"RingKiln$Hindsight", "fits", "(LRingKiln$Told;I)Z"⟩, prog_4_method_3_code, 5, (some .boolean), 2, 0, [2, 2, 0], [1053, 128, 1052, 32]),
  (⟨"RingKiln$Hindsight", "guessRule", "(II)I"⟩, prog_4_method_4_code, 6, (some .int), 2, 0, [2, 0, 0], [1118, 128, 1116, 1117]),
  (⟨"RingKiln$Hindsight", "bestLook", "(II)I"⟩, prog_4_method_5_code, 8, (some .int), 2, 0, [2, 0, 0], [1126, 128, 1124, 1125]),
  (⟨"RingKiln$Hindsight", "tracePlaces", "(II)V"⟩, prog_4_method_6_code, 4, none, 2, 0, [2, 0, 0], [1130, 128, 1129, 36]),
  (⟨"RingKiln$Hindsight", "mostAlike", "(II)I"⟩, prog_4_method_7_code, 7, (some .int), 2, 0, [2, 0, 0], [1134, 128, 1133, 37]),
  (⟨"RingKiln$KilnReader", "<init>", "(LRingKiln$Tape;)V"⟩, prog_5_method_1_code, 2, none, 3, 2, [2, 2], [185, 119, 184]),
  (⟨"RingKiln$KilnReader", "read", "()I"⟩, prog_5_method_2_code, 3, (some .int), 3, 0, [2], [549, 119, 547, 548]),
  (⟨"RingKiln$KilnReader", "readClause", "(I)Z"⟩, prog_5_method_3_code, 3, (some .boolean), 3, 0, [2, 0], [623, 119, 622, 3]),
  (⟨"RingKiln$KilnReader", "isTooMany", "(II)Z"⟩, prog_5_method_4_code, 4, (some .boolean), 3, 0, [2, 0, 0], [631, 119, 630, 4]),
  (⟨"RingKiln$KilnReader", "readKiln", "()Z"⟩, prog_5_method_5_code, 1, (some .boolean), 3, 0, [2], [636, 119, 635, 5]),
  (⟨"RingKiln$KilnReader", "isNumber", "(II)Z"⟩, prog_5_method_10_code, 3, (some .boolean), 3, 0, [2, 0, 0], [640, 119, 639, 6]),
  (⟨"RingKiln$KilnReader", "takeNumber", "()I"⟩, prog_5_method_11_code, 2, (some .int), 3, 0, [2], [644, 119, 643, 7]),
  (⟨"RingKiln$KilnReader", "readClay", "()Z"⟩, prog_5_method_6_code, 2, (some .boolean), 3, 0, [2], [648, 119, 647, 8]),
  (⟨"RingKiln$KilnReader", "readSet", "()Z"⟩, prog_5_method_7_code, 2, (some .boolean), 3, 0, [2], [652, 119, 651, 9]),
  (⟨"RingKiln$KilnReader", "readFire", "()Z"⟩, prog_5_method_8_code, 1, (some .boolean), 3, 0, [2], [656, 119, 655, 10]),
  (⟨"RingKiln$KilnReader", "readOrder", "()Z"⟩, prog_5_method_9_code, 2, (some .boolean), 3, 0, [2], [660, 119, 659, 11]),
  (⟨"RingKiln$RowSearch", "<init>", "(LRingKiln$Works;LRingKiln$Course;)V"⟩, prog_6_method_1_code, 4, none, 4, 2, [2, 2, 2], [425, 127, 424])]
def ax_Ml_1 : List ax_MT := [
  (⟨"RingKiln$RowSearch", "answer", "(III)I"⟩, prog_6_method_2_code, 4, (some .int), 4, 0, [2, 0, 0, 0], [980, 127, 978, 979]),
  (⟨"RingKiln$RowSearch", "tryAll", "(II)V"⟩, prog_6_method_3_code, 6, none, 4, 0, [2, 0, 0], [985, 127, 984, 28]),
  (⟨"RingKiln$RowSearch", "isAsBefore", "(LRingKiln$State;I)Z"⟩, prog_6_method_4_code, 2, (some .boolean), 4, 1, [2, 0], [988, 127, 987]),
  (⟨"RingKiln$RowSearch", "gone", "(LRingKiln$State;)I"⟩, prog_6_method_5_code, 2, (some .int), 4, 0, [2, 2], [993, 127, 992, 29]),
  (⟨"RingKiln$RowSearch", "keepIfRipe", "(LRingKiln$State;I)V"⟩, prog_6_method_6_code, 3, none, 4, 0, [2, 2, 0], [997, 127, 996, 30]),
  (⟨"RingKiln$RuleBook", "<init>", "()V"⟩, prog_7_method_1_code, 1, none, 5, 2, [2], [279, 121, 278]),
  (⟨"RingKiln$RuleBook", "wants", "(I[I)I"⟩, prog_7_method_2_code, 9, (some .int), 5, 0, [2, 0, 2], [822, 121, 820, 821]),
  (⟨"RingKiln$RuleBook", "factAt", "([II)J"⟩, prog_7_method_3_code, 2, (some .long), 5, 1, [2, 0], [826, 121, 825]),
  (⟨"RingKiln$RuleBook", "join", "(IJJ)J"⟩, prog_7_method_5_code, 5, (some .long), 5, 1, [0, 1, 1], [829, 121, 828]),
  (⟨"RingKiln$RuleBook", "asFed", "(J)I"⟩, prog_7_method_4_code, 2, (some .int), 5, 1, [1], [832, 121, 831]),
  (⟨"RingKiln$RuleReader", "<init>", "(LRingKiln$Tape;LRingKiln$RuleBook;)V"⟩, prog_8_method_1_code, 3, none, 6, 2, [2, 2, 2], [305, 122, 304]),
  (⟨"RingKiln$RuleReader", "read", "()I"⟩, prog_8_method_2_code, 4, (some .int), 6, 0, [2], [689, 122, 687, 688]),
  (⟨"RingKiln$RuleReader", "readHead", "(I)Z"⟩, prog_8_method_3_code, 2, (some .boolean), 6, 0, [2, 0], [694, 122, 693, 12]),
  (⟨"RingKiln$RuleReader", "readSum", "()Z"⟩, prog_8_method_8_code, 5, (some .boolean), 6, 0, [2], [704, 122, 703, 13]),
  (⟨"RingKiln$RuleReader", "valueStep", "()I"⟩, prog_8_method_10_code, 2, (some .int), 6, 0, [2], [708, 122, 707, 14]),
  (⟨"RingKiln$RuleReader", "countPart", "()Z"⟩, prog_8_method_9_code, 1, (some .boolean), 6, 0, [2], [712, 122, 711, 15]),
  (⟨"RingKiln$RuleReader", "emit", "(I)V"⟩, prog_8_method_14_code, 2, none, 6, 0, [2, 0], [716, 122, 715, 16]),
  (⟨"RingKiln$RuleReader", "productStep", "()I"⟩, prog_8_method_11_code, 1, (some .int), 6, 0, [2], [720, 122, 719, 17]),
  (⟨"RingKiln$RuleReader", "sumStep", "()I"⟩, prog_8_method_12_code, 1, (some .int), 6, 0, [2], [725, 122, 724, 18]),
  (⟨"RingKiln$RuleReader", "readTest", "(I)Z"⟩, prog_8_method_4_code, 5, (some .boolean), 6, 0, [2, 0], [729, 122, 728, 19]),
  (⟨"RingKiln$RuleReader", "readFact", "(I)Z"⟩, prog_8_method_5_code, 6, (some .boolean), 6, 0, [2, 0], [733, 122, 732, 20]),
  (⟨"RingKiln$RuleReader", "readBrackets", "(I)Z"⟩, prog_8_method_6_code, 2, (some .boolean), 6, 0, [2, 0], [737, 122, 736, 21]),
  (⟨"RingKiln$RuleReader", "takeComparison", "()I"⟩, prog_8_method_7_code, 2, (some .int), 6, 0, [2], [741, 122, 740, 22]),
  (⟨"RingKiln$RuleReader", "comparisonStep", "()I"⟩, prog_8_method_13_code, 2, (some .int), 6, 0, [2], [745, 122, 744, 23]),
  (⟨"RingKiln$State", "<init>", "()V"⟩, prog_9_method_1_code, 1, none, 7, 2, [2], [345, 125, 344]),
  (⟨"RingKiln$State", "begin", "(LRingKiln$Told;)V"⟩, prog_9_method_3_code, 3, none, 7, 0, [2, 2], [360, 125, 358, 359]),
  (⟨"RingKiln$State", "fill", "(LRingKiln$Told;II)V"⟩, prog_9_method_4_code, 4, none, 7, 0, [2, 2, 0, 0], [364, 125, 362, 363]),
  (⟨"RingKiln$State", "kindOf", "(LRingKiln$Told;I)I"⟩, prog_9_method_8_code, 6, (some .int), 7, 0, [2, 2, 0], [762, 125, 760, 761]),
  (⟨"RingKiln$State", "isSet", "(I)Z"⟩, prog_9_method_7_code, 2, (some .boolean), 7, 0, [2, 0], [814, 125, 812, 813]),
  (⟨"RingKiln$State", "storeOfAll", "()I"⟩, prog_9_method_12_code, 3, (some .int), 7, 0, [2], [818, 125, 816, 817]),
  (⟨"RingKiln$State", "heat", "(II)V"⟩, prog_9_method_6_code, 3, none, 7, 0, [2, 0, 0], [848, 125, 846, 847]),
  (⟨"RingKiln$State", "drawFrom", "(II)V"⟩, prog_9_method_5_code, 6, none, 7, 0, [2, 0, 0], [886, 125, 884, 885]),
  (⟨"RingKiln$State", "copyFrom", "(LRingKiln$State;)V"⟩, prog_9_method_2_code, 2, none, 7, 0, [2, 2], [928, 125, 926, 927]),
  (⟨"RingKiln$State", "goodBits", "(LRingKiln$Told;)I"⟩, prog_9_method_10_code, 4, (some .int), 7, 0, [2, 2], [971, 125, 969, 970]),
  (⟨"RingKiln$State", "warmOfAll", "()I"⟩, prog_9_method_11_code, 3, (some .int), 7, 0, [2], [1164, 125, 1162, 1163]),
  (⟨"RingKiln$State", "setBits", "()I"⟩, prog_9_method_9_code, 3, (some .int), 7, 0, [2], [1172, 125, 1170, 1171]),
  (⟨"RingKiln$Tape", "<init>", "()V"⟩, prog_10_method_1_code, 1, none, 8, 2, [2], [149, 118, 148]),
  (⟨"RingKiln$Tape", "put", "(I)V"⟩, prog_10_method_2_code, 3, none, 8, 0, [2, 0], [537, 118, 535, 536]),
  (⟨"RingKiln$Tape", "rewind", "()V"⟩, prog_10_method_3_code, 1, none, 8, 0, [2], [554, 118, 552, 553]),
  (⟨"RingKiln$Tape", "advance", "()V"⟩, prog_10_method_4_code, 2, none, 8, 0, [2], [558, 118, 556, 557])]
def ax_Ml_2 : List ax_MT := [
  (⟨"RingKiln$Tape", "scanNumber", "()V"⟩, prog_10_method_5_code, 2, none, 8, 0, [2], [562, 118, 561, 0]),
  (⟨"RingKiln$Tape", "scanWord", "()V"⟩, prog_10_method_6_code, 5, none, 8, 0, [2], [566, 118, 565, 1]),
  (⟨"RingKiln$Tape", "scanSign", "(I)V"⟩, prog_10_method_7_code, 3, none, 8, 0, [2, 0], [619, 118, 618, 2]),
  (⟨"RingKiln$Tape", "fail", "(I)Z"⟩, prog_10_method_11_code, 2, (some .boolean), 8, 0, [2, 0], [627, 118, 625, 626]),
  (⟨"RingKiln$Tape", "goesOn", "()Z"⟩, prog_10_method_10_code, 1, (some .boolean), 8, 0, [2], [664, 118, 662, 663]),
  (⟨"RingKiln$Tape", "isSign", "(I)Z"⟩, prog_10_method_9_code, 2, (some .boolean), 8, 0, [2, 0], [668, 118, 666, 667]),
  (⟨"RingKiln$Tape", "isWord", "(I)Z"⟩, prog_10_method_8_code, 2, (some .boolean), 8, 0, [2, 0], [698, 118, 696, 697]),
  (⟨"RingKiln$Told", "<init>", "()V"⟩, prog_11_method_1_code, 1, none, 9, 2, [2], [191, 120, 190]),
  (⟨"RingKiln$Told", "clear", "()V"⟩, prog_11_method_2_code, 2, none, 9, 0, [2], [196, 120, 194, 195]),
  (⟨"RingKiln$Told", "copyFrom", "(LRingKiln$Told;)V"⟩, prog_11_method_3_code, 2, none, 9, 0, [2, 2], [677, 120, 675, 676]),
  (⟨"RingKiln$Told", "nextTo", "(I)I"⟩, prog_11_method_4_code, 2, (some .int), 9, 0, [2, 0], [810, 120, 808, 809]),
  (⟨"RingKiln$Works", "<init>", "()V"⟩, prog_12_method_1_code, 1, none, 10, 2, [2], [337, 124, 336]),
  (⟨"RingKiln$Works", "startAs", "(LRingKiln$Told;)V"⟩, prog_12_method_2_code, 2, none, 10, 0, [2, 2], [673, 124, 671, 672]),
  (⟨"RingKiln$Works", "hasChamber", "(I)Z"⟩, prog_12_method_7_code, 2, (some .boolean), 10, 0, [2, 0], [758, 124, 756, 757]),
  (⟨"RingKiln$Works", "hasClay", "(I)Z"⟩, prog_12_method_11_code, 2, (some .boolean), 10, 0, [2, 0], [770, 124, 768, 769]),
  (⟨"RingKiln$Works", "hasOrder", "(I)Z"⟩, prog_12_method_12_code, 2, (some .boolean), 10, 0, [2, 0], [778, 124, 776, 777]),
  (⟨"RingKiln$Works", "isBuilt", "()Z"⟩, prog_12_method_6_code, 1, (some .boolean), 10, 0, [2], [786, 124, 784, 785]),
  (⟨"RingKiln$Works", "remember", "()V"⟩, prog_12_method_4_code, 1, none, 10, 0, [2], [790, 124, 788, 789]),
  (⟨"RingKiln$Works", "hasEmptyChamber", "(I)Z"⟩, prog_12_method_9_code, 2, (some .boolean), 10, 0, [2, 0], [867, 124, 865, 866]),
  (⟨"RingKiln$Works", "isCool", "(I)Z"⟩, prog_12_method_10_code, 2, (some .boolean), 10, 0, [2, 0], [873, 124, 871, 872]),
  (⟨"RingKiln$Works", "hasSetChamber", "(I)Z"⟩, prog_12_method_8_code, 2, (some .boolean), 10, 0, [2, 0], [882, 124, 880, 881]),
  (⟨"RingKiln$Works", "canSend", "(I)Z"⟩, prog_12_method_14_code, 3, (some .boolean), 10, 0, [2, 0], [904, 124, 902, 903]),
  (⟨"RingKiln$Works", "isSent", "(I)Z"⟩, prog_12_method_13_code, 2, (some .boolean), 10, 0, [2, 0], [908, 124, 906, 907]),
  (⟨"RingKiln$Works", "forgetLast", "()V"⟩, prog_12_method_5_code, 1, none, 10, 0, [2], [916, 124, 914, 915]),
  (⟨"RingKiln$Works", "bestOrders", "()I"⟩, prog_12_method_16_code, 5, (some .int), 10, 0, [2], [1023, 124, 1021, 1022]),
  (⟨"RingKiln$Works", "manyOf", "(I)I"⟩, prog_12_method_17_code, 4, (some .int), 10, 0, [2, 0], [1027, 124, 1025, 1026]),
  (⟨"RingKiln$Works", "canSendAll", "(I)Z"⟩, prog_12_method_18_code, 6, (some .boolean), 10, 0, [2, 0], [1031, 124, 1030, 31]),
  (⟨"RingKiln$Works", "lateBits", "()I"⟩, prog_12_method_15_code, 4, (some .int), 10, 0, [2], [1040, 124, 1038, 1039]),
  (⟨"RingKiln$Works", "lastNotedDay", "()I"⟩, prog_12_method_20_code, 3, (some .int), 10, 0, [2], [1058, 124, 1056, 1057]),
  (⟨"RingKiln$Works", "notesAllow", "(II)Z"⟩, prog_12_method_21_code, 4, (some .boolean), 10, 0, [2, 0, 0], [1064, 124, 1062, 1063]),
  (⟨"RingKiln$Works", "shareOf", "(II)I"⟩, prog_12_method_19_code, 10, (some .int), 10, 0, [2, 0, 0], [1105, 124, 1103, 1104]),
  (⟨"RingKiln$Works", "copyFrom", "(LRingKiln$Works;)V"⟩, prog_12_method_3_code, 2, none, 10, 0, [2, 2], [1182, 124, 1180, 1181]),
  (⟨"RingKiln", "<init>", "()V"⟩, prog_1_method_1_code, 2, none, 11, 2, [2], [141, 117, 140]),
  (⟨"RingKiln", "feed", "(IIIII)I"⟩, prog_1_method_2_code, 6, (some .int), 11, 0, [2, 0, 0, 0, 0, 0], [533, 117, 531, 532]),
  (⟨"RingKiln", "end", "(I)I"⟩, prog_1_method_3_code, 2, (some .int), 11, 0, [2, 0], [541, 117, 539, 540]),
  (⟨"RingKiln", "kiln", "()I"⟩, prog_1_method_4_code, 2, (some .int), 11, 0, [2], [545, 117, 543, 544]),
  (⟨"RingKiln", "rule", "()I"⟩, prog_1_method_5_code, 2, (some .int), 11, 0, [2], [685, 117, 683, 684]),
  (⟨"RingKiln", "force", "(I)I"⟩, prog_1_method_6_code, 3, (some .int), 11, 0, [2, 0], [750, 117, 748, 749]),
  (⟨"RingKiln", "chamber", "(II)I"⟩, prog_1_method_7_code, 4, (some .int), 11, 0, [2, 0, 0], [754, 117, 752, 753]),
  (⟨"RingKiln", "clay", "(II)I"⟩, prog_1_method_8_code, 3, (some .int), 11, 0, [2, 0, 0], [766, 117, 764, 765])]
def ax_Ml_3 : List ax_MT := [
  (⟨"RingKiln", "order", "(II)I"⟩, prog_1_method_9_code, 3, (some .int), 11, 0, [2, 0, 0], [774, 117, 772, 773]),
  (⟨"RingKiln", "day", "()I"⟩, prog_1_method_10_code, 1, (some .int), 11, 0, [2], [782, 117, 780, 781]),
  (⟨"RingKiln", "set", "(II)I"⟩, prog_1_method_11_code, 3, (some .int), 11, 0, [2, 0, 0], [863, 117, 861, 862]),
  (⟨"RingKiln", "draw", "(I)I"⟩, prog_1_method_12_code, 3, (some .int), 11, 0, [2, 0], [878, 117, 876, 877]),
  (⟨"RingKiln", "light", "(I)I"⟩, prog_1_method_13_code, 3, (some .int), 11, 0, [2, 0], [890, 117, 888, 889]),
  (⟨"RingKiln", "buy", "(I)I"⟩, prog_1_method_14_code, 3, (some .int), 11, 0, [2, 0], [895, 117, 893, 894]),
  (⟨"RingKiln", "send", "(I)I"⟩, prog_1_method_15_code, 4, (some .int), 11, 0, [2, 0], [900, 117, 898, 899]),
  (⟨"RingKiln", "undo", "()I"⟩, prog_1_method_16_code, 1, (some .int), 11, 0, [2], [912, 117, 910, 911]),
  (⟨"RingKiln", "ahead", "(III)I"⟩, prog_1_method_17_code, 5, (some .int), 11, 0, [2, 0, 0, 0], [920, 117, 918, 919]),
  (⟨"RingKiln", "out", "()I"⟩, prog_1_method_18_code, 1, (some .int), 11, 0, [2], [938, 117, 936, 937]),
  (⟨"RingKiln", "comes", "(I)I"⟩, prog_1_method_19_code, 2, (some .int), 11, 0, [2, 0], [951, 117, 949, 950]),
  (⟨"RingKiln", "ripe", "(I)I"⟩, prog_1_method_20_code, 2, (some .int), 11, 0, [2, 0], [955, 117, 953, 954]),
  (⟨"RingKiln", "spoilt", "(I)I"⟩, prog_1_method_21_code, 2, (some .int), 11, 0, [2, 0], [959, 117, 957, 958]),
  (⟨"RingKiln", "cold", "(I)I"⟩, prog_1_method_22_code, 2, (some .int), 11, 0, [2, 0], [963, 117, 961, 962]),
  (⟨"RingKiln", "goods", "(I)I"⟩, prog_1_method_23_code, 2, (some .int), 11, 0, [2, 0], [967, 117, 965, 966]),
  (⟨"RingKiln", "row", "(III)I"⟩, prog_1_method_24_code, 4, (some .int), 11, 0, [2, 0, 0, 0], [976, 117, 974, 975]),
  (⟨"RingKiln", "plan", "(III)I"⟩, prog_1_method_25_code, 4, (some .int), 11, 0, [2, 0, 0, 0], [1003, 117, 1001, 1002]),
  (⟨"RingKiln", "meet", "(I)I"⟩, prog_1_method_26_code, 3, (some .int), 11, 0, [2, 0], [1019, 117, 1017, 1018]),
  (⟨"RingKiln", "late", "()I"⟩, prog_1_method_27_code, 1, (some .int), 11, 0, [2], [1036, 117, 1034, 1035]),
  (⟨"RingKiln", "need", "(II)I"⟩, prog_1_method_28_code, 3, (some .int), 11, 0, [2, 0, 0], [1044, 117, 1042, 1043]),
  (⟨"RingKiln", "damp", "(II)I"⟩, prog_1_method_29_code, 3, (some .int), 11, 0, [2, 0, 0], [1068, 117, 1066, 1067]),
  (⟨"RingKiln", "rests", "(IIII)I"⟩, prog_1_method_30_code, 5, (some .int), 11, 0, [2, 0, 0, 0, 0], [1072, 117, 1070, 1071]),
  (⟨"RingKiln", "alike", "(I)I"⟩, prog_1_method_31_code, 2, (some .int), 11, 0, [2, 0], [1088, 117, 1086, 1087]),
  (⟨"RingKiln", "pence", "(II)I"⟩, prog_1_method_32_code, 3, (some .int), 11, 0, [2, 0, 0], [1101, 117, 1099, 1100]),
  (⟨"RingKiln", "note", "(II)I"⟩, prog_1_method_33_code, 3, (some .int), 11, 0, [2, 0, 0], [1110, 117, 1108, 1109]),
  (⟨"RingKiln", "ruled", "(I)I"⟩, prog_1_method_34_code, 2, (some .int), 11, 0, [2, 0], [1114, 117, 1112, 1113]),
  (⟨"RingKiln", "look", "(I)I"⟩, prog_1_method_35_code, 2, (some .int), 11, 0, [2, 0], [1122, 117, 1120, 1121]),
  (⟨"RingKiln", "seed", "(I)I"⟩, prog_1_method_36_code, 3, (some .int), 11, 0, [2, 0], [1139, 117, 1137, 1138]),
  (⟨"RingKiln", "rains", "(IIII)I"⟩, prog_1_method_37_code, 5, (some .int), 11, 0, [2, 0, 0, 0, 0], [1143, 117, 1141, 1142]),
  (⟨"RingKiln", "count", "(I)I"⟩, prog_1_method_38_code, 3, (some .int), 11, 0, [2, 0], [1168, 117, 1166, 1167]),
  (⟨"RingKiln", "image", "(I)I"⟩, prog_1_method_39_code, 2, (some .int), 11, 0, [2, 0], [1178, 117, 1176, 1177]),
  (⟨"RingKiln", "back", "(I)I"⟩, prog_1_method_40_code, 2, (some .int), 11, 0, [2, 0], [1187, 117, 1185, 1186]),
  (⟨"RingKilnModel", "<init>", "()V"⟩, prog_14_method_1_code, 1, none, 12, 2, [2], [1192, 129, 1191]),
  (⟨"RingKilnModel", "feed", "(IIIII)I"⟩, prog_14_method_12_code, 6, (some .int), 12, 0, [2, 0, 0, 0, 0, 0], [1377, 129, 1375, 1376]),
  (⟨"RingKilnModel", "put", "(I)V"⟩, prog_14_method_13_code, 3, none, 12, 0, [2, 0], [1381, 129, 1380, 39]),
  (⟨"RingKilnModel", "end", "(I)I"⟩, prog_14_method_14_code, 2, (some .int), 12, 0, [2, 0], [1385, 129, 1383, 1384]),
  (⟨"RingKilnModel", "kiln", "()I"⟩, prog_14_method_47_code, 2, (some .int), 12, 0, [2], [1389, 129, 1387, 1388]),
  (⟨"RingKilnModel", "readsAll", "()V"⟩, prog_14_method_45_code, 3, none, 12, 0, [2], [1393, 129, 1392, 40]),
  (⟨"RingKilnModel", "starts", "()V"⟩, prog_14_method_44_code, 1, none, 12, 0, [2], [1397, 129, 1396, 41]),
  (⟨"RingKilnModel", "kilnClause", "(I)V"⟩, prog_14_method_41_code, 4, none, 12, 0, [2, 0], [1401, 129, 1400, 42])]
def ax_Ml_4 : List ax_MT := [
  (⟨"RingKilnModel", "blanks", "()V"⟩, prog_14_method_18_code, 1, none, 12, 0, [2], [1405, 129, 1404, 43]),
  (⟨"RingKilnModel", "sign", "()I"⟩, prog_14_method_17_code, 1, (some .int), 12, 0, [2], [1409, 129, 1408, 44]),
  (⟨"RingKilnModel", "kilnWord", "(I)Ljava/lang/String;"⟩, prog_14_method_35_code, 1, (some (.object "java/lang/String")), 12, 1, [0], [1412, 129, 1411]),
  (⟨"RingKilnModel", "stood", "(Ljava/lang/String;)Z"⟩, prog_14_method_20_code, 5, (some .boolean), 12, 0, [2, 2], [1421, 129, 1420, 45]),
  (⟨"RingKilnModel", "fails", "(II)V"⟩, prog_14_method_16_code, 3, none, 12, 0, [2, 0, 0], [1427, 129, 1426, 46]),
  (⟨"RingKilnModel", "isOver", "(II)Z"⟩, prog_14_method_40_code, 3, (some .boolean), 12, 0, [2, 0, 0], [1431, 129, 1430, 47]),
  (⟨"RingKilnModel", "kilnPart", "(I)V"⟩, prog_14_method_39_code, 3, none, 12, 0, [2, 0], [1435, 129, 1434, 48]),
  (⟨"RingKilnModel", "amount", "(II)I"⟩, prog_14_method_34_code, 5, (some .int), 12, 0, [2, 0, 0], [1439, 129, 1438, 49]),
  (⟨"RingKilnModel", "digits", "(I)I"⟩, prog_14_method_24_code, 4, (some .int), 12, 0, [2, 0], [1444, 129, 1443, 50]),
  (⟨"RingKilnModel", "isDigit", "()Z"⟩, prog_14_method_19_code, 1, (some .boolean), 12, 0, [2], [1448, 129, 1447, 51]),
  (⟨"RingKilnModel", "in", "(JJJ)Z"⟩, prog_14_method_3_code, 6, (some .boolean), 12, 1, [1, 1, 1], [1453, 129, 1452]),
  (⟨"RingKilnModel", "setPart", "()V"⟩, prog_14_method_36_code, 4, none, 12, 0, [2], [1457, 129, 1456, 52]),
  (⟨"RingKilnModel", "firePart", "()V"⟩, prog_14_method_37_code, 3, none, 12, 0, [2], [1461, 129, 1460, 53]),
  (⟨"RingKilnModel", "orderPart", "()V"⟩, prog_14_method_38_code, 2, none, 12, 0, [2], [1465, 129, 1464, 54]),
  (⟨"RingKilnModel", "goesOn", "()Z"⟩, prog_14_method_43_code, 2, (some .boolean), 12, 0, [2], [1469, 129, 1468, 55]),
  (⟨"RingKilnModel", "copies", "([I[I)V"⟩, prog_14_method_42_code, 3, none, 12, 1, [2, 2], [1472, 129, 1471]),
  (⟨"RingKilnModel", "begins", "()V"⟩, prog_14_method_46_code, 2, none, 12, 0, [2], [1476, 129, 1475, 56]),
  (⟨"RingKilnModel", "rule", "()I"⟩, prog_14_method_49_code, 3, (some .int), 12, 0, [2], [1480, 129, 1478, 1479]),
  (⟨"RingKilnModel", "ruleClause", "(I)V"⟩, prog_14_method_48_code, 4, none, 12, 0, [2, 0], [1484, 129, 1483, 57]),
  (⟨"RingKilnModel", "sum", "()V"⟩, prog_14_method_27_code, 2, none, 12, 0, [2], [1489, 129, 1488, 58]),
  (⟨"RingKilnModel", "term", "()V"⟩, prog_14_method_26_code, 2, none, 12, 0, [2], [1493, 129, 1492, 59]),
  (⟨"RingKilnModel", "value", "()V"⟩, prog_14_method_25_code, 3, none, 12, 0, [2], [1497, 129, 1496, 60]),
  (⟨"RingKilnModel", "isCounted", "(I)V"⟩, prog_14_method_23_code, 2, none, 12, 0, [2, 0], [1501, 129, 1500, 61]),
  (⟨"RingKilnModel", "entry", "(II)V"⟩, prog_14_method_22_code, 3, none, 12, 0, [2, 0, 0], [1505, 129, 1504, 62]),
  (⟨"RingKilnModel", "wordOf", "(I)Ljava/lang/String;"⟩, prog_14_method_15_code, 1, (some (.object "java/lang/String")), 12, 1, [0], [1508, 129, 1507]),
  (⟨"RingKilnModel", "takes", "(Ljava/lang/String;)Z"⟩, prog_14_method_21_code, 3, (some .boolean), 12, 0, [2, 2], [1525, 129, 1524, 63]),
  (⟨"RingKilnModel", "test", "()V"⟩, prog_14_method_33_code, 5, none, 12, 0, [2], [1529, 129, 1528, 64]),
  (⟨"RingKilnModel", "fact", "()Z"⟩, prog_14_method_32_code, 1, (some .boolean), 12, 0, [2], [1533, 129, 1532, 65]),
  (⟨"RingKilnModel", "opens", "(I)V"⟩, prog_14_method_30_code, 2, none, 12, 0, [2, 0], [1538, 129, 1537, 66]),
  (⟨"RingKilnModel", "compared", "()V"⟩, prog_14_method_28_code, 3, none, 12, 0, [2], [1542, 129, 1541, 67]),
  (⟨"RingKilnModel", "answers", "(I)V"⟩, prog_14_method_31_code, 2, none, 12, 0, [2, 0], [1546, 129, 1545, 68]),
  (⟨"RingKilnModel", "top", "()I"⟩, prog_14_method_29_code, 1, (some .int), 12, 0, [2], [1550, 129, 1549, 69]),
  (⟨"RingKilnModel", "force", "(I)I"⟩, prog_14_method_50_code, 3, (some .int), 12, 0, [2, 0], [1556, 129, 1554, 1555]),
  (⟨"RingKilnModel", "chamber", "(II)I"⟩, prog_14_method_56_code, 3, (some .int), 12, 0, [2, 0, 0], [1561, 129, 1559, 1560]),
  (⟨"RingKilnModel", "isChamber", "(I)Z"⟩, prog_14_method_7_code, 2, (some .boolean), 12, 0, [2, 0], [1565, 129, 1564, 70]),
  (⟨"RingKilnModel", "stateOf", "(I)I"⟩, prog_14_method_55_code, 3, (some .int), 12, 0, [2, 0], [1569, 129, 1568, 71]),
  (⟨"RingKilnModel", "clay", "(II)I"⟩, prog_14_method_57_code, 3, (some .int), 12, 0, [2, 0, 0], [1573, 129, 1571, 1572]),
  (⟨"RingKilnModel", "isClay", "(I)Z"⟩, prog_14_method_8_code, 2, (some .boolean), 12, 0, [2, 0], [1577, 129, 1576, 72]),
  (⟨"RingKilnModel", "order", "(II)I"⟩, prog_14_method_58_code, 3, (some .int), 12, 0, [2, 0, 0], [1582, 129, 1580, 1581]),
  (⟨"RingKilnModel", "isOrder", "(I)Z"⟩, prog_14_method_9_code, 2, (some .boolean), 12, 0, [2, 0], [1586, 129, 1585, 73])]
def ax_Ml_5 : List ax_MT := [
  (⟨"RingKilnModel", "undo", "()I"⟩, prog_14_method_73_code, 1, (some .int), 12, 0, [2], [1590, 129, 1588, 1589]),
  (⟨"RingKilnModel", "movesAll", "(IZ)V"⟩, prog_14_method_71_code, 4, none, 12, 0, [2, 0, 0], [1594, 129, 1593, 74]),
  (⟨"RingKilnModel", "moves", "(I)I"⟩, prog_14_method_69_code, 3, (some .int), 12, 0, [2, 0], [1598, 129, 1597, 75]),
  (⟨"RingKilnModel", "movesRow", "([I)V"⟩, prog_14_method_70_code, 3, none, 12, 0, [2, 2], [1602, 129, 1601, 76]),
  (⟨"RingKilnModel", "day", "()I"⟩, prog_14_method_74_code, 1, (some .int), 12, 0, [2], [1606, 129, 1604, 1605]),
  (⟨"RingKilnModel", "isKiln", "()Z"⟩, prog_14_method_6_code, 1, (some .boolean), 12, 0, [2], [1610, 129, 1609, 77]),
  (⟨"RingKilnModel", "keepsAct", "()V"⟩, prog_14_method_72_code, 2, none, 12, 0, [2], [1614, 129, 1613, 78]),
  (⟨"RingKilnModel", "goes", "()I"⟩, prog_14_method_67_code, 2, (some .int), 12, 0, [2], [1618, 129, 1617, 79]),
  (⟨"RingKilnModel", "feeds", "()V"⟩, prog_14_method_64_code, 5, none, 12, 0, [2], [1622, 129, 1621, 80]),
  (⟨"RingKilnModel", "told", "(I)J"⟩, prog_14_method_62_code, 3, (some .long), 12, 0, [2, 0], [1627, 129, 1626, 81]),
  (⟨"RingKilnModel", "after", "(I)I"⟩, prog_14_method_61_code, 2, (some .int), 12, 0, [2, 0], [1631, 129, 1630, 82]),
  (⟨"RingKilnModel", "allStore", "()I"⟩, prog_14_method_59_code, 3, (some .int), 12, 0, [2], [1635, 129, 1634, 83]),
  (⟨"RingKilnModel", "wanted", "()J"⟩, prog_14_method_51_code, 3, (some .long), 12, 0, [2], [1639, 129, 1638, 84]),
  (⟨"RingKilnModel", "answer", "(III)J"⟩, prog_14_method_54_code, 8, (some .long), 12, 0, [2, 0, 0, 0], [1643, 129, 1642, 85]),
  (⟨"RingKilnModel", "both", "(IJJ)J"⟩, prog_14_method_53_code, 5, (some .long), 12, 1, [0, 1, 1], [1646, 129, 1645]),
  (⟨"RingKilnModel", "truth", "(Z)J"⟩, prog_14_method_52_code, 1, (some .long), 12, 1, [0], [1649, 129, 1648]),
  (⟨"RingKilnModel", "warms", "(II)V"⟩, prog_14_method_63_code, 3, none, 12, 0, [2, 0, 0], [1654, 129, 1653, 86]),
  (⟨"RingKilnModel", "dries", "(I)V"⟩, prog_14_method_65_code, 3, none, 12, 0, [2, 0], [1658, 129, 1657, 87]),
  (⟨"RingKilnModel", "leads", "()V"⟩, prog_14_method_66_code, 2, none, 12, 0, [2], [1662, 129, 1661, 88]),
  (⟨"RingKilnModel", "set", "(II)I"⟩, prog_14_method_76_code, 3, (some .int), 12, 0, [2, 0, 0], [1666, 129, 1664, 1665]),
  (⟨"RingKilnModel", "isFree", "(I)Z"⟩, prog_14_method_11_code, 2, (some .boolean), 12, 0, [2, 0], [1670, 129, 1669, 89]),
  (⟨"RingKilnModel", "lays", "(II)V"⟩, prog_14_method_75_code, 3, none, 12, 0, [2, 0, 0], [1674, 129, 1673, 90]),
  (⟨"RingKilnModel", "draw", "(I)I"⟩, prog_14_method_77_code, 4, (some .int), 12, 0, [2, 0], [1678, 129, 1676, 1677]),
  (⟨"RingKilnModel", "isFull", "(I)Z"⟩, prog_14_method_10_code, 2, (some .boolean), 12, 0, [2, 0], [1682, 129, 1681, 91]),
  (⟨"RingKilnModel", "light", "(I)I"⟩, prog_14_method_78_code, 2, (some .int), 12, 0, [2, 0], [1686, 129, 1684, 1685]),
  (⟨"RingKilnModel", "buy", "(I)I"⟩, prog_14_method_79_code, 2, (some .int), 12, 0, [2, 0], [1690, 129, 1688, 1689]),
  (⟨"RingKilnModel", "send", "(I)I"⟩, prog_14_method_80_code, 2, (some .int), 12, 0, [2, 0], [1695, 129, 1693, 1694]),
  (⟨"RingKilnModel", "ahead", "(III)I"⟩, prog_14_method_83_code, 5, (some .int), 12, 0, [2, 0, 0, 0], [1699, 129, 1697, 1698]),
  (⟨"RingKilnModel", "keepsAll", "()V"⟩, prog_14_method_81_code, 1, none, 12, 0, [2], [1704, 129, 1703, 92]),
  (⟨"RingKilnModel", "carriesAll", "(IZ)V"⟩, prog_14_method_125_code, 3, none, 12, 0, [2, 0, 0], [1708, 129, 1707, 93]),
  (⟨"RingKilnModel", "carryRow", "([I)V"⟩, prog_14_method_124_code, 3, none, 12, 0, [2, 2], [1712, 129, 1711, 94]),
  (⟨"RingKilnModel", "goFor", "(I)V"⟩, prog_14_method_68_code, 3, none, 12, 0, [2, 0], [1716, 129, 1715, 95]),
  (⟨"RingKilnModel", "laysBack", "()V"⟩, prog_14_method_82_code, 1, none, 12, 0, [2], [1720, 129, 1719, 96]),
  (⟨"RingKilnModel", "out", "()I"⟩, prog_14_method_86_code, 1, (some .int), 12, 0, [2], [1724, 129, 1722, 1723]),
  (⟨"RingKilnModel", "firstDay", "(II)I"⟩, prog_14_method_85_code, 5, (some .int), 12, 0, [2, 0, 0], [1728, 129, 1727, 97]),
  (⟨"RingKilnModel", "isSo", "(II)Z"⟩, prog_14_method_84_code, 3, (some .boolean), 12, 0, [2, 0, 0], [1732, 129, 1731, 98]),
  (⟨"RingKilnModel", "comes", "(I)I"⟩, prog_14_method_87_code, 2, (some .int), 12, 0, [2, 0], [1736, 129, 1734, 1735]),
  (⟨"RingKilnModel", "ripe", "(I)I"⟩, prog_14_method_88_code, 2, (some .int), 12, 0, [2, 0], [1740, 129, 1738, 1739]),
  (⟨"RingKilnModel", "spoilt", "(I)I"⟩, prog_14_method_89_code, 2, (some .int), 12, 0, [2, 0], [1744, 129, 1742, 1743]),
  (⟨"RingKilnModel", "cold", "(I)I"⟩, prog_14_method_90_code, 2, (some .int), 12, 0, [2, 0], [1748, 129, 1746, 1747])]
def ax_Ml_6 : List ax_MT := [
  (⟨"RingKilnModel", "goods", "(I)I"⟩, prog_14_method_91_code, 3, (some .int), 12, 0, [2, 0], [1752, 129, 1750, 1751]),
  (⟨"RingKilnModel", "goodNow", "()I"⟩, prog_14_method_60_code, 3, (some .int), 12, 0, [2], [1756, 129, 1755, 99]),
  (⟨"RingKilnModel", "row", "(III)I"⟩, prog_14_method_94_code, 8, (some .int), 12, 0, [2, 0, 0, 0], [1760, 129, 1758, 1759]),
  (⟨"RingKilnModel", "power", "(II)I"⟩, prog_14_method_92_code, 4, (some .int), 12, 1, [0, 0], [1764, 129, 1763]),
  (⟨"RingKilnModel", "coalBy", "(III)I"⟩, prog_14_method_93_code, 7, (some .int), 12, 0, [2, 0, 0, 0], [1768, 129, 1767, 100]),
  (⟨"RingKilnModel", "plan", "(III)I"⟩, prog_14_method_95_code, 8, (some .int), 12, 0, [2, 0, 0, 0], [1772, 129, 1770, 1771]),
  (⟨"RingKilnModel", "bits", "(I)I"⟩, prog_14_method_4_code, 3, (some .int), 12, 1, [0], [1776, 129, 1775]),
  (⟨"RingKilnModel", "meet", "(I)I"⟩, prog_14_method_98_code, 4, (some .int), 12, 0, [2, 0], [1780, 129, 1778, 1779]),
  (⟨"RingKilnModel", "canBeSent", "(I)Z"⟩, prog_14_method_97_code, 3, (some .boolean), 12, 0, [2, 0], [1784, 129, 1783, 101]),
  (⟨"RingKilnModel", "has", "(II)Z"⟩, prog_14_method_5_code, 2, (some .boolean), 12, 1, [0, 0], [1787, 129, 1786]),
  (⟨"RingKilnModel", "manyOf", "(II)I"⟩, prog_14_method_96_code, 5, (some .int), 12, 0, [2, 0, 0], [1791, 129, 1790, 102]),
  (⟨"RingKilnModel", "late", "()I"⟩, prog_14_method_99_code, 4, (some .int), 12, 0, [2], [1795, 129, 1793, 1794]),
  (⟨"RingKilnModel", "rests", "(IIII)I"⟩, prog_14_method_103_code, 10, (some .int), 12, 0, [2, 0, 0, 0, 0], [1799, 129, 1797, 1798]),
  (⟨"RingKilnModel", "laysWays", "(III)V"⟩, prog_14_method_101_code, 5, none, 12, 0, [2, 0, 0, 0], [1804, 129, 1803, 103]),
  (⟨"RingKilnModel", "worthOf", "(I)I"⟩, prog_14_method_100_code, 2, (some .int), 12, 0, [2, 0], [1808, 129, 1807, 104]),
  (⟨"RingKilnModel", "isRest", "(II)Z"⟩, prog_14_method_102_code, 5, (some .boolean), 12, 0, [2, 0, 0], [1812, 129, 1811, 105]),
  (⟨"RingKilnModel", "alike", "(I)I"⟩, prog_14_method_106_code, 4, (some .int), 12, 0, [2, 0], [1816, 129, 1814, 1815]),
  (⟨"RingKilnModel", "laysDay", "(I)V"⟩, prog_14_method_104_code, 3, none, 12, 0, [2, 0], [1820, 129, 1819, 106]),
  (⟨"RingKilnModel", "isAlike", "(II)Z"⟩, prog_14_method_105_code, 4, (some .boolean), 12, 0, [2, 0, 0], [1824, 129, 1823, 107]),
  (⟨"RingKilnModel", "pence", "(II)I"⟩, prog_14_method_107_code, 10, (some .int), 12, 0, [2, 0, 0], [1828, 129, 1826, 1827]),
  (⟨"RingKilnModel", "note", "(II)I"⟩, prog_14_method_108_code, 4, (some .int), 12, 0, [2, 0, 0], [1833, 129, 1831, 1832]),
  (⟨"RingKilnModel", "ruled", "(I)I"⟩, prog_14_method_111_code, 5, (some .int), 12, 0, [2, 0], [1838, 129, 1836, 1837]),
  (⟨"RingKilnModel", "couldRule", "(I)Z"⟩, prog_14_method_110_code, 2, (some .boolean), 12, 0, [2, 0], [1842, 129, 1841, 108]),
  (⟨"RingKilnModel", "doNotesFit", "()Z"⟩, prog_14_method_109_code, 2, (some .boolean), 12, 0, [2], [1846, 129, 1845, 109]),
  (⟨"RingKilnModel", "need", "(II)I"⟩, prog_14_method_113_code, 3, (some .int), 12, 0, [2, 0, 0], [1850, 129, 1848, 1849]),
  (⟨"RingKilnModel", "couldBe", "(IIIZI)I"⟩, prog_14_method_112_code, 9, (some .int), 12, 0, [2, 0, 0, 0, 0, 0], [1854, 129, 1853, 110]),
  (⟨"RingKilnModel", "damp", "(II)I"⟩, prog_14_method_114_code, 3, (some .int), 12, 0, [2, 0, 0], [1858, 129, 1856, 1857]),
  (⟨"RingKilnModel", "look", "(I)I"⟩, prog_14_method_116_code, 5, (some .int), 12, 0, [2, 0], [1862, 129, 1860, 1861]),
  (⟨"RingKilnModel", "mostAlike", "(II)I"⟩, prog_14_method_115_code, 7, (some .int), 12, 0, [2, 0, 0], [1866, 129, 1865, 111]),
  (⟨"RingKilnModel", "seed", "(I)I"⟩, prog_14_method_117_code, 3, (some .int), 12, 0, [2, 0], [1870, 129, 1868, 1869]),
  (⟨"RingKilnModel", "rains", "(IIII)I"⟩, prog_14_method_121_code, 10, (some .int), 12, 0, [2, 0, 0, 0, 0], [1874, 129, 1872, 1873]),
  (⟨"RingKilnModel", "draws", "(I)I"⟩, prog_14_method_118_code, 2, (some .int), 12, 0, [2, 0], [1879, 129, 1878, 112]),
  (⟨"RingKilnModel", "rainsOn", "(I)V"⟩, prog_14_method_119_code, 2, none, 12, 0, [2, 0], [1887, 129, 1886, 113]),
  (⟨"RingKilnModel", "allWarm", "()I"⟩, prog_14_method_120_code, 3, (some .int), 12, 0, [2], [1891, 129, 1890, 114]),
  (⟨"RingKilnModel", "count", "(I)I"⟩, prog_14_method_123_code, 2, (some .int), 12, 0, [2, 0], [1895, 129, 1893, 1894]),
  (⟨"RingKilnModel", "allSet", "()I"⟩, prog_14_method_122_code, 3, (some .int), 12, 0, [2], [1899, 129, 1898, 115]),
  (⟨"RingKilnModel", "image", "(I)I"⟩, prog_14_method_126_code, 2, (some .int), 12, 0, [2, 0], [1903, 129, 1901, 1902]),
  (⟨"RingKilnModel", "back", "(I)I"⟩, prog_14_method_127_code, 2, (some .int), 12, 0, [2, 0], [1908, 129, 1906, 1907]),
  (⟨"java/lang/Integer", "bitCount", "(I)I"⟩, prog_15_method_49_code, 1, (some .int), 14, 1, [0], [1012, 136, 1011])]
def ax_Ml : List ax_MT := ax_Ml_0 ++ (ax_Ml_1 ++ (ax_Ml_2 ++ (ax_Ml_3 ++ (ax_Ml_4 ++ (ax_Ml_5 ++ (ax_Ml_6))))))
def ax_Fl : List (Nat × Nat × Nat × Nat × Nat) := [(0, 11, 0, 1, 327), (0, 17, 0, 0, 326), (0, 28, 7, 0, 348), (0, 47, 9, 6, 225), (0, 68, 9, 0, 199), (1, 12, 1, 2, 452), (1, 18, 1, 4, 455), (1, 22, 1, 5, 456), (1, 25, 1, 6, 457), (1, 28, 1, 0, 450), (1, 32, 1, 1, 451), (1, 41, 1, 3, 453), (1, 45, 10, 1, 371), (1, 56, 10, 0, 367), (1, 60, 10, 5, 380), (1, 70, 7, 0, 352), (1, 81, 9, 2, 209), (1, 116, 10, 6, 383), (1, 136, 9, 0, 201), (2, 12, 2, 2, 485), (2, 21, 2, 3, 486), (2, 25, 2, 4, 487), (2, 29, 2, 0, 483), (2, 33, 2, 1, 484), (2, 37, 10, 0, 366), (2, 46, 9, 6, 224), (2, 49, 9, 5, 219), (2, 52, 10, 5, 379), (2, 67, 7, 0, 349), (3, 12, 3, 1, 268), (3, 18, 3, 0, 267), (3, 38, 8, 6, 162), (3, 42, 8, 3, 155), (3, 45, 8, 5, 159), (3, 73, 9, 2, 207), (3, 76, 9, 4, 217), (3, 79, 9, 3, 212), (3, 89, 9, 0, 198), (3, 92, 9, 1, 205), (3, 95, 9, 5, 221), (3, 99, 9, 6, 226), (3, 102, 9, 7, 231), (3, 105, 9, 8, 233), (3, 108, 9, 9, 237), (3, 111, 9, 10, 242), (4, 13, 4, 2, 432), (4, 17, 4, 3, 433), (4, 21, 4, 4, 434), (4, 24, 4, 0, 430), (4, 28, 4, 1, 431), (4, 33, 4, 5, 435), (4, 37, 10, 1, 372), (4, 55, 10, 0, 368), (4, 73, 7, 0, 351), (5, 11, 5, 0, 283), (5, 16, 5, 1, 285), (5, 20, 5, 2, 287), (5, 24, 5, 3, 288), (6, 9, 6, 0, 307), (6, 15, 6, 1, 308), (6, 19, 6, 2, 309), (6, 23, 6, 3, 310), (6, 57, 5, 3, 289), (6, 60, 5, 1, 286), (6, 64, 8, 6, 163), (6, 98, 8, 3, 157), (6, 101, 8, 5, 161), (6, 104, 5, 0, 284), (7, 11, 7, 0, 347), (7, 21, 9, 7, 230), (7, 30, 9, 1, 204), (7, 34, 9, 4, 216), (7, 37, 9, 5, 220), (7, 46, 9, 6, 227), (8, 9, 8, 0, 151), (8, 15, 8, 1, 152), (8, 19, 8, 2, 154), (8, 22, 8, 6, 164), (8, 28, 8, 4, 158), (8, 31, 8, 5, 160), (8, 34, 8, 3, 156), (9, 9, 9, 5, 218), (9, 15, 9, 6, 223), (9, 18, 9, 7, 229), (9, 21, 9, 8, 232), (9, 24, 9, 9, 236), (9, 27, 9, 10, 240), (9, 33, 9, 0, 197), (9, 37, 9, 1, 203), (9, 40, 9, 2, 206), (9, 43, 9, 3, 211), (9, 46, 9, 4, 215), (10, 12, 10, 0, 365), (10, 21, 10, 1, 370), (10, 25, 10, 2, 374), (10, 29, 10, 5, 378), (10, 33, 10, 8, 387), (10, 36, 10, 9, 389), (10, 46, 10, 3, 375), (10, 49, 10, 4, 376), (10, 52, 10, 7, 385), (10, 64, 10, 6, 382), (10, 67, 7, 0, 350), (10, 76, 9, 0, 200), (10, 86, 9, 2, 210), (10, 89, 9, 3, 213), (10, 92, 9, 8, 235), (10, 98, 9, 9, 239), (10, 101, 9, 10, 243), (11, 10, 11, 0, 499), (11, 21, 11, 1, 500), (11, 28, 11, 2, 501), (11, 37, 11, 3, 502), (11, 46, 11, 4, 503), (11, 53, 11, 5, 504), (11, 57, 11, 6, 505), (11, 61, 11, 7, 506), (11, 70, 11, 8, 507), (11, 77, 11, 9, 508), (11, 81, 8, 1, 153), (11, 93, 3, 1, 269), (11, 101, 10, 0, 369), (11, 102, 9, 2, 208), (11, 107, 5, 3, 290), (11, 111, 10, 5, 381), (11, 118, 10, 1, 373), (11, 122, 7, 0, 353), (11, 135, 9, 5, 222), (11, 138, 9, 6, 228), (11, 144, 9, 8, 234), (11, 147, 9, 9, 238), (11, 150, 9, 10, 241), (11, 193, 10, 4, 377), (11, 212, 1, 3, 454), (11, 247, 10, 7, 386), (11, 250, 10, 8, 388), (11, 253, 10, 9, 390), (11, 262, 10, 6, 384), (11, 268, 9, 0, 202), (11, 271, 9, 3, 214), (12, 9, 12, 1, 1194), (12, 13, 12, 2, 1195), (12, 16, 12, 3, 1196), (12, 19, 12, 4, 1197), (12, 22, 12, 5, 1198), (12, 25, 12, 6, 1199), (12, 28, 12, 7, 1200), (12, 31, 12, 8, 1201), (12, 34, 12, 9, 1202), (12, 37, 12, 10, 1203), (12, 40, 12, 11, 1204), (12, 43, 12, 12, 1205), (12, 46, 12, 13, 1206), (12, 49, 12, 14, 1207), (12, 52, 12, 15, 1208), (12, 55, 12, 16, 1209), (12, 58, 12, 17, 1210), (12, 61, 12, 18, 1211), (12, 64, 12, 19, 1212), (12, 67, 12, 20, 1213), (12, 70, 12, 21, 1214), (12, 73, 12, 22, 1215), (12, 76, 12, 32, 1225), (12, 80, 12, 33, 1226), (12, 84, 12, 34, 1227), (12, 87, 12, 35, 1228), (12, 90, 12, 36, 1229), (12, 93, 12, 37, 1230), (12, 96, 12, 38, 1231), (12, 99, 12, 39, 1232), (12, 102, 12, 40, 1233), (12, 105, 12, 41, 1234), (12, 109, 12, 42, 1235), (12, 112, 12, 43, 1236), (12, 115, 12, 46, 1239), (12, 118, 12, 47, 1240), (12, 121, 12, 51, 1244), (12, 124, 12, 52, 1245), (12, 127, 12, 53, 1246), (12, 130, 12, 54, 1247), (12, 133, 12, 55, 1248), (12, 136, 12, 56, 1249), (12, 139, 12, 57, 1250), (12, 154, 12, 23, 1216), (12, 181, 12, 25, 1218), (12, 184, 12, 24, 1217), (12, 211, 12, 26, 1219), (12, 214, 12, 28, 1221), (12, 217, 12, 30, 1223), (12, 252, 12, 31, 1224), (12, 255, 12, 29, 1222), (12, 331, 12, 48, 1241), (12, 344, 12, 27, 1220), (12, 393, 12, 44, 1237), (12, 399, 12, 45, 1238), (12, 414, 12, 50, 1243), (12, 418, 12, 49, 1242), (12, 551, 12, 59, 1252), (12, 554, 12, 58, 1251)]
def ax_Il : List (Nat × Nat × Nat × Nat × Nat) := [(0, 21, 2, 799, 0), (0, 25, 4, 840, 0), (0, 33, 3, 803, 0), (0, 37, 46, 819, 0), (0, 41, 90, 807, 0), (0, 50, 68, 811, 0), (0, 54, 69, 815, 0), (0, 64, 70, 845, 0), (0, 72, 5, 850, 0), (0, 76, 6, 856, 0), (0, 82, 67, 859, 0), (1, 11, 64, 420, 1), (1, 38, 39, 423, 0), (1, 48, 72, 925, 0), (1, 52, 9, 930, 0), (1, 64, 1, 934, 0), (1, 73, 11, 943, 0), (1, 77, 67, 947, 0), (1, 86, 66, 1008, 0), (1, 90, 73, 1009, 0), (1, 94, 278, 1010, 0), (1, 100, 14, 1077, 0), (1, 103, 15, 1081, 0), (1, 112, 17, 1094, 0), (1, 119, 19, 1148, 0), (1, 123, 20, 1155, 0), (1, 126, 74, 1161, 0), (1, 139, 68, 1159, 0), (2, 11, 64, 480, 1), (2, 20, 87, 482, 0), (2, 42, 89, 1049, 0), (2, 56, 23, 1050, 0), (2, 60, 65, 1054, 0), (2, 63, 108, 1055, 0), (2, 70, 1, 1060, 0), (2, 76, 109, 1061, 0), (2, 80, 26, 1127, 0), (2, 84, 27, 1131, 0), (3, 11, 87, 189, 0), (3, 22, 88, 550, 0), (3, 25, 78, 551, 0), (3, 30, 30, 620, 0), (3, 34, 84, 661, 0), (3, 48, 83, 624, 0), (3, 51, 31, 628, 0), (3, 55, 79, 632, 0), (3, 58, 32, 633, 0), (3, 61, 35, 645, 0), (3, 64, 36, 649, 0), (3, 67, 37, 653, 0), (3, 70, 38, 657, 0), (3, 82, 33, 637, 0), (3, 85, 34, 641, 0), (4, 32, 64, 429, 1), (4, 43, 72, 981, 0), (4, 47, 41, 982, 0), (4, 51, 42, 986, 0), (4, 59, 4, 989, 0), (4, 65, 43, 990, 0), (4, 69, 44, 994, 0), (4, 76, 67, 998, 0), (5, 34, 47, 824, 0), (5, 38, 48, 827, 0), (5, 42, 49, 830, 0), (6, 26, 78, 690, 0), (6, 31, 52, 691, 0), (6, 35, 53, 701, 0), (6, 39, 86, 695, 0), (6, 42, 79, 700, 0), (6, 45, 59, 726, 0), (6, 50, 56, 713, 0), (6, 54, 84, 746, 0), (6, 67, 83, 699, 0), (6, 70, 60, 730, 0), (6, 73, 85, 721, 0), (6, 76, 61, 734, 0), (6, 79, 62, 738, 0), (6, 83, 63, 742, 0), (6, 86, 55, 709, 0), (6, 89, 54, 705, 0), (6, 92, 57, 717, 0), (6, 95, 58, 722, 0), (7, 26, 66, 361, 0), (7, 49, 68, 1173, 0), (7, 53, 67, 972, 0), (8, 25, 79, 555, 0), (8, 37, 80, 559, 0), (8, 40, 81, 563, 0), (8, 43, 82, 616, 0), (8, 58, 85, 665, 0), (8, 62, 83, 669, 0), (9, 30, 88, 193, 0), (10, 11, 87, 340, 0), (10, 20, 64, 343, 1), (10, 39, 65, 357, 0), (10, 43, 89, 674, 0), (10, 55, 72, 1183, 0), (10, 79, 93, 868, 0), (10, 83, 68, 869, 0), (10, 95, 102, 905, 0), (10, 104, 105, 1024, 0), (10, 108, 106, 1028, 0), (10, 111, 69, 1106, 0), (11, 9, 76, 147, 1), (11, 18, 28, 183, 0), (11, 27, 45, 277, 1), (11, 34, 50, 303, 0), (11, 43, 0, 322, 0), (11, 52, 91, 335, 0), (11, 67, 7, 415, 0), (11, 76, 21, 475, 0), (11, 85, 77, 534, 0), (11, 89, 29, 546, 0), (11, 97, 92, 670, 0), (11, 110, 51, 686, 0), (11, 114, 93, 755, 0), (11, 128, 67, 759, 0), (11, 132, 94, 767, 0), (11, 141, 95, 775, 0), (11, 153, 96, 783, 0), (11, 157, 97, 787, 0), (11, 160, 1, 795, 0), (11, 164, 98, 864, 0), (11, 167, 99, 870, 0), (11, 170, 66, 874, 0), (11, 174, 100, 879, 0), (11, 177, 71, 883, 0), (11, 181, 70, 891, 0), (11, 190, 101, 901, 0), (11, 196, 103, 913, 0), (11, 199, 8, 921, 0), (11, 203, 10, 939, 0), (11, 206, 73, 968, 0), (11, 216, 40, 977, 0), (11, 220, 12, 1004, 0), (11, 223, 104, 1020, 0), (11, 226, 105, 1032, 0), (11, 230, 107, 1037, 0), (11, 233, 22, 1045, 0), (11, 237, 13, 1073, 0), (11, 241, 16, 1089, 0), (11, 244, 110, 1102, 0), (11, 256, 24, 1115, 0), (11, 259, 25, 1123, 0), (11, 265, 18, 1144, 0), (11, 274, 75, 1169, 0), (11, 277, 69, 1174, 0), (11, 280, 111, 1179, 0), (12, 146, 170, 1451, 0), (12, 150, 194, 1562, 0), (12, 157, 154, 1378, 0), (12, 187, 161, 1406, 0), (12, 204, 160, 1402, 0), (12, 207, 163, 1418, 0), (12, 220, 164, 1424, 0), (12, 224, 169, 1445, 0), (12, 229, 168, 1441, 0), (12, 233, 182, 1498, 0), (12, 236, 183, 1502, 0), (12, 239, 184, 1506, 0), (12, 243, 181, 1494, 0), (12, 246, 180, 1490, 0), (12, 249, 179, 1486, 0), (12, 258, 191, 1547, 0), (12, 263, 188, 1535, 0), (12, 266, 189, 1539, 0), (12, 269, 187, 1530, 0), (12, 272, 190, 1543, 0), (12, 289, 167, 1436, 0), (12, 293, 171, 1454, 0), (12, 296, 172, 1458, 0), (12, 299, 173, 1462, 0), (12, 302, 162, 1410, 0), (12, 305, 165, 1428, 0), (12, 309, 166, 1432, 0), (12, 312, 158, 1394, 0), (12, 315, 159, 1398, 0), (12, 318, 174, 1466, 0), (12, 321, 175, 1470, 0), (12, 325, 157, 1390, 0), (12, 328, 176, 1473, 0), (12, 338, 185, 1522, 0), (12, 341, 186, 1526, 0), (12, 347, 178, 1481, 0), (12, 352, 213, 1640, 0), (12, 356, 215, 1647, 0), (12, 360, 214, 1644, 0), (12, 364, 195, 1566, 0), (12, 367, 197, 1574, 0), (12, 372, 199, 1583, 0), (12, 375, 210, 1628, 0), (12, 378, 211, 1632, 0), (12, 381, 212, 1636, 0), (12, 387, 209, 1624, 0), (12, 396, 216, 1651, 0), (12, 402, 208, 1619, 0), (12, 405, 217, 1655, 0), (12, 408, 218, 1659, 0), (12, 411, 207, 1615, 0), (12, 421, 202, 1595, 0), (12, 424, 203, 1599, 0), (12, 428, 201, 1591, 0), (12, 432, 205, 1607, 0), (12, 435, 206, 1611, 0), (12, 438, 220, 1667, 0), (12, 441, 221, 1671, 0), (12, 444, 223, 1679, 0), (12, 449, 229, 1705, 0), (12, 454, 228, 1701, 0), (12, 457, 231, 1713, 0), (12, 460, 232, 1717, 0), (12, 463, 235, 1729, 0), (12, 466, 234, 1725, 0), (12, 469, 241, 1753, 0), (12, 472, 243, 1762, 0), (12, 477, 244, 1765, 0), (12, 483, 246, 1774, 0), (12, 486, 249, 1785, 0), (12, 489, 250, 1788, 0), (12, 492, 248, 1781, 0), (12, 495, 254, 1805, 0), (12, 500, 253, 1801, 0), (12, 504, 255, 1809, 0), (12, 507, 257, 1817, 0), (12, 510, 258, 1821, 0), (12, 517, 263, 1843, 0), (12, 520, 262, 1839, 0), (12, 523, 265, 1851, 0), (12, 527, 268, 1863, 0), (12, 539, 271, 1876, 0), (12, 542, 272, 1884, 0), (12, 545, 273, 1888, 0), (12, 548, 275, 1896, 0), (12, 557, 230, 1709, 0), (13, 9, 112, 139, 0), (13, 12, 152, 1190, 0), (13, 13, 113, 530, 0), (13, 17, 153, 1374, 0), (13, 18, 114, 538, 0), (13, 22, 155, 1382, 0), (13, 23, 115, 542, 0), (13, 27, 156, 1386, 0), (13, 28, 116, 682, 0), (13, 31, 177, 1477, 0), (13, 32, 117, 747, 0), (13, 35, 192, 1553, 0), (13, 36, 118, 751, 0), (13, 40, 193, 1558, 0), (13, 41, 119, 763, 0), (13, 44, 196, 1570, 0), (13, 45, 120, 771, 0), (13, 48, 198, 1579, 0), (13, 49, 121, 779, 0), (13, 52, 204, 1603, 0), (13, 53, 122, 860, 0), (13, 56, 219, 1663, 0), (13, 57, 123, 875, 0), (13, 60, 222, 1675, 0), (13, 61, 124, 887, 0), (13, 64, 224, 1683, 0), (13, 65, 125, 892, 0), (13, 68, 225, 1687, 0), (13, 69, 126, 897, 0), (13, 72, 226, 1692, 0), (13, 73, 127, 909, 0), (13, 76, 200, 1587, 0), (13, 77, 128, 917, 0), (13, 81, 227, 1696, 0), (13, 82, 129, 935, 0), (13, 85, 233, 1721, 0), (13, 86, 130, 948, 0), (13, 89, 236, 1733, 0), (13, 90, 131, 952, 0), (13, 93, 237, 1737, 0), (13, 94, 132, 956, 0), (13, 97, 238, 1741, 0), (13, 98, 133, 960, 0), (13, 101, 239, 1745, 0), (13, 102, 134, 964, 0), (13, 105, 240, 1749, 0), (13, 106, 135, 973, 0), (13, 109, 242, 1757, 0), (13, 110, 136, 1000, 0), (13, 113, 245, 1769, 0), (13, 114, 137, 1016, 0), (13, 117, 247, 1777, 0), (13, 118, 138, 1033, 0), (13, 121, 251, 1792, 0), (13, 122, 139, 1041, 0), (13, 125, 264, 1847, 0), (13, 126, 140, 1065, 0), (13, 129, 266, 1855, 0), (13, 130, 141, 1069, 0), (13, 134, 252, 1796, 0), (13, 135, 142, 1085, 0), (13, 138, 256, 1813, 0), (13, 139, 143, 1098, 0), (13, 142, 259, 1825, 0), (13, 143, 144, 1107, 0), (13, 146, 260, 1830, 0), (13, 147, 145, 1111, 0), (13, 150, 261, 1835, 0), (13, 151, 146, 1119, 0), (13, 154, 267, 1859, 0), (13, 155, 147, 1136, 0), (13, 158, 269, 1867, 0), (13, 159, 148, 1140, 0), (13, 162, 270, 1871, 0), (13, 163, 149, 1165, 0), (13, 166, 274, 1892, 0), (13, 167, 150, 1175, 0), (13, 170, 276, 1900, 0), (13, 171, 151, 1184, 0), (13, 174, 277, 1905, 0)]
def ax_Xl : List (Nat × Nat × Nat × Nat) := [(0, 3, 7, 325), (0, 58, 0, 844), (0, 79, 1, 853), (1, 5, 7, 418), (1, 106, 4, 1093), (1, 143, 0, 1160), (2, 3, 7, 478), (2, 88, 1, 1135), (3, 3, 7, 186), (4, 5, 7, 426), (4, 80, 4, 999), (5, 3, 7, 280), (5, 28, 0, 823), (5, 48, 2, 834), (5, 51, 3, 837), (6, 3, 7, 306), (7, 5, 7, 346), (7, 15, 4, 929), (7, 40, 0, 849), (8, 3, 7, 150), (8, 49, 5, 568), (8, 54, 6, 578), (9, 3, 7, 192), (9, 49, 4, 678), (10, 3, 7, 338), (10, 58, 4, 791), (10, 70, 0, 792), (10, 115, 1, 1059), (11, 1, 7, 142), (11, 184, 0, 896), (12, 3, 7, 1193), (12, 195, 5, 1422), (12, 200, 6, 1423)]
def ax_Nl : List (Nat × Nat × Nat × Nat × Nat) := [(1, 1, 7, 419, 342), (1, 36, 4, 421, 422), (2, 9, 7, 479, 342), (2, 18, 9, 481, 188), (3, 9, 9, 187, 188), (4, 11, 7, 427, 342), (10, 9, 9, 339, 188), (10, 18, 7, 341, 342), (11, 7, 8, 145, 146), (11, 16, 3, 181, 182), (11, 25, 5, 275, 276), (11, 32, 6, 301, 302), (11, 41, 0, 320, 321), (11, 50, 10, 333, 334), (11, 65, 1, 413, 414), (11, 74, 2, 473, 474), (13, 7, 11, 137, 138), (13, 10, 12, 1188, 1189)]
def ax_Kc : List (Nat × Nat × Int × Nat) := [(1, 122, 65536, 1154), (12, 228, 99999, 1440), (12, 536, 65536, 1883), (14, 265, 1431655765, 1013), (14, 266, 858993459, 1014), (14, 267, 252645135, 1015)]
def ax_Kl : List (Nat × Nat × Int × Nat) := [(1, 130, 1103515245, 1151), (1, 132, 12345, 1152), (1, 134, 2147483648, 1153), (5, 46, 9, 833), (12, 191, 48, 1449), (12, 193, 57, 1450), (12, 350, -1, 1557), (12, 370, 2, 1578), (12, 385, 4, 1623), (12, 391, 9, 1650), (12, 447, 99, 1691), (12, 452, 100, 1700), (12, 475, 5, 1761), (12, 481, 40, 1773), (12, 498, 20, 1800), (12, 513, 9999, 1829), (12, 515, 60, 1834), (12, 530, 1103515245, 1880), (12, 532, 12345, 1881), (12, 534, 2147483648, 1882), (12, 537, 10, 1875), (12, 560, 3, 1904)]
def ax_Sl : List (Nat × Nat × String × Nat) := [(8, 47, "kiln clay set fire order feed if not and or chamber warm wet burnt needs next damp glow coal good waste day ", 567), (12, 161, "chamber", 1509), (12, 163, "warm", 1510), (12, 164, "wet", 1511), (12, 165, "burnt", 1512), (12, 166, "needs", 1513), (12, 167, "next", 1514), (12, 169, "damp", 1515), (12, 171, "glow", 1516), (12, 173, "coal", 1517), (12, 175, "good", 1518), (12, 177, "waste", 1519), (12, 179, "day", 1520), (12, 261, "not", 1534), (12, 275, "and", 1551), (12, 277, "or", 1552), (12, 279, "kiln", 1413), (12, 281, "clay", 1414), (12, 283, "set", 1415), (12, 285, "fire", 1416), (12, 287, "order", 1417), (12, 334, "feed", 1485), (12, 336, "if", 1521)]
def ax_Sb : List (List Nat) := [[107, 105, 108, 110, 32, 99, 108, 97, 121, 32, 115, 101, 116, 32, 102, 105, 114, 101, 32, 111, 114, 100, 101, 114, 32, 102, 101, 101, 100, 32, 105, 102, 32, 110, 111, 116, 32, 97, 110, 100, 32, 111, 114, 32, 99, 104, 97, 109, 98, 101, 114, 32, 119, 97, 114, 109, 32, 119, 101, 116, 32, 98, 117, 114, 110, 116, 32, 110, 101, 101, 100, 115, 32, 110, 101, 120, 116, 32, 100, 97, 109, 112, 32, 103, 108, 111, 119, 32, 99, 111, 97, 108, 32, 103, 111, 111, 100, 32, 119, 97, 115, 116, 101, 32, 100, 97, 121, 32], [99, 104, 97, 109, 98, 101, 114], [119, 97, 114, 109], [119, 101, 116], [98, 117, 114, 110, 116], [110, 101, 101, 100, 115], [110, 101, 120, 116], [100, 97, 109, 112], [103, 108, 111, 119], [99, 111, 97, 108], [103, 111, 111, 100], [119, 97, 115, 116, 101], [100, 97, 121], [110, 111, 116], [97, 110, 100], [111, 114], [107, 105, 108, 110], [99, 108, 97, 121], [115, 101, 116], [102, 105, 114, 101], [111, 114, 100, 101, 114], [102, 101, 101, 100], [105, 102]]
