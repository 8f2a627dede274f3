/-! classes and their fields -/
def RX0 : String := "NoneMayLeave$Council"
def TX0 : u_T := fun k => match k with
  | 0 => ("NoneMayLeave$Council", "behindFirst", "LNoneMayLeave$Island;", true)
  | 1 => ("NoneMayLeave$Council", "behindSecond", "LNoneMayLeave$Island;", true)
  | 2 => ("NoneMayLeave$Council", "cost", "I", false)
  | 3 => ("NoneMayLeave$Council", "firstMove", "I", false)
  | _ => ("NoneMayLeave$Council", "secondMove", "I", false)
def tyX0 : Nat → FieldType := fun k => match k with
  | 0 => .object "NoneMayLeave$Island"
  | 1 => .object "NoneMayLeave$Island"
  | 2 => .int
  | 3 => .int
  | _ => .int
abbrev wsX00 : List Cond := u_ws RX0 TX0 5
theorem nmX0 : ∀ a, a < 5 → ∀ b, b < 5 → a ≠ b → (TX0 a).2.1 ≠ (TX0 b).2.1 := by decide +kernel
theorem tyX0_ok : ∀ k, k < 5 → parseFieldDescriptor (TX0 k).2.2.1 = some (tyX0 k) := by decide +kernel
def RX1 : String := "NoneMayLeave$Island"
def TX1 : u_T := fun k => match k with
  | 0 => ("NoneMayLeave$Island", "kinds", "[I", true)
  | 1 => ("NoneMayLeave$Island", "as", "[I", true)
  | 2 => ("NoneMayLeave$Island", "wants", "[I", true)
  | 3 => ("NoneMayLeave$Island", "known", "[I", true)
  | 4 => ("NoneMayLeave$Island", "kinOf", "[I", true)
  | 5 => ("NoneMayLeave$Island", "places", "[I", true)
  | 6 => ("NoneMayLeave$Island", "count", "I", false)
  | 7 => ("NoneMayLeave$Island", "parts", "I", false)
  | 8 => ("NoneMayLeave$Island", "fear", "I", false)
  | 9 => ("NoneMayLeave$Island", "purse", "I", false)
  | 10 => ("NoneMayLeave$Island", "months", "I", false)
  | _ => ("NoneMayLeave$Island", "seed", "I", false)
def tyX1 : Nat → FieldType := fun k => match k with
  | 0 => .array .int
  | 1 => .array .int
  | 2 => .array .int
  | 3 => .array .int
  | 4 => .array .int
  | 5 => .array .int
  | 6 => .int
  | 7 => .int
  | 8 => .int
  | 9 => .int
  | 10 => .int
  | _ => .int
abbrev wsX10 : List Cond := u_ws RX1 TX1 12
theorem nmX1 : ∀ a, a < 12 → ∀ b, b < 12 → a ≠ b → (TX1 a).2.1 ≠ (TX1 b).2.1 := by decide +kernel
theorem tyX1_ok : ∀ k, k < 12 → parseFieldDescriptor (TX1 k).2.2.1 = some (tyX1 k) := by decide +kernel
def RX2 : String := "NoneMayLeave$Mover"
def TX2 : u_T := fun k => match k with
  | 0 => ("NoneMayLeave$Mover", "kept", "[I", true)
  | 1 => ("NoneMayLeave$Mover", "ran", "I", false)
  | 2 => ("NoneMayLeave$Mover", "number", "I", false)
  | 3 => ("NoneMayLeave$Mover", "kind", "I", false)
  | _ => ("NoneMayLeave$Mover", "a", "I", false)
def tyX2 : Nat → FieldType := fun k => match k with
  | 0 => .array .int
  | 1 => .int
  | 2 => .int
  | 3 => .int
  | _ => .int
abbrev wsX20 : List Cond := u_ws RX2 TX2 5
theorem nmX2 : ∀ a, a < 5 → ∀ b, b < 5 → a ≠ b → (TX2 a).2.1 ≠ (TX2 b).2.1 := by decide +kernel
theorem tyX2_ok : ∀ k, k < 5 → parseFieldDescriptor (TX2 k).2.2.1 = some (tyX2 k) := by decide +kernel
def RX3 : String := "NoneMayLeave$Sets"
def TX3 : u_T := fun k => match k with
  | 0 => ("NoneMayLeave$Sets", "bits", "[I", true)
  | 1 => ("NoneMayLeave$Sets", "costs", "[I", true)
  | 2 => ("NoneMayLeave$Sets", "knowing", "[I", true)
  | _ => ("NoneMayLeave$Sets", "many", "I", false)
def tyX3 : Nat → FieldType := fun k => match k with
  | 0 => .array .int
  | 1 => .array .int
  | 2 => .array .int
  | _ => .int
abbrev wsX30 : List Cond := u_ws RX3 TX3 4
theorem nmX3 : ∀ a, a < 4 → ∀ b, b < 4 → a ≠ b → (TX3 a).2.1 ≠ (TX3 b).2.1 := by decide +kernel
theorem tyX3_ok : ∀ k, k < 4 → parseFieldDescriptor (TX3 k).2.2.1 = some (tyX3 k) := by decide +kernel
def RX4 : String := "NoneMayLeave$Shelf"
def TX4 : u_T := fun k => match k with
  | 0 => ("NoneMayLeave$Shelf", "elements", "[J", true)
  | 1 => ("NoneMayLeave$Shelf", "held", "I", false)
  | 2 => ("NoneMayLeave$Shelf", "sort", "I", false)
  | 3 => ("NoneMayLeave$Shelf", "size", "I", false)
  | _ => ("NoneMayLeave$Shelf", "who", "I", false)
def tyX4 : Nat → FieldType := fun k => match k with
  | 0 => .array .long
  | 1 => .int
  | 2 => .int
  | 3 => .int
  | _ => .int
abbrev wsX40 : List Cond := u_ws RX4 TX4 5
theorem nmX4 : ∀ a, a < 5 → ∀ b, b < 5 → a ≠ b → (TX4 a).2.1 ≠ (TX4 b).2.1 := by decide +kernel
theorem tyX4_ok : ∀ k, k < 5 → parseFieldDescriptor (TX4 k).2.2.1 = some (tyX4 k) := by decide +kernel
def RX5 : String := "NoneMayLeave$TextReader"
def TX5 : u_T := fun k => match k with
  | 0 => ("NoneMayLeave$TextReader", "told", "LNoneMayLeave$Island;", true)
  | 1 => ("NoneMayLeave$TextReader", "signs", "[I", true)
  | 2 => ("NoneMayLeave$TextReader", "size", "I", false)
  | 3 => ("NoneMayLeave$TextReader", "at", "I", false)
  | 4 => ("NoneMayLeave$TextReader", "numberAt", "I", false)
  | 5 => ("NoneMayLeave$TextReader", "items", "I", false)
  | _ => ("NoneMayLeave$TextReader", "fault", "I", false)
def tyX5 : Nat → FieldType := fun k => match k with
  | 0 => .object "NoneMayLeave$Island"
  | 1 => .array .int
  | 2 => .int
  | 3 => .int
  | 4 => .int
  | 5 => .int
  | _ => .int
abbrev wsX50 : List Cond := u_ws RX5 TX5 7
theorem nmX5 : ∀ a, a < 7 → ∀ b, b < 7 → a ≠ b → (TX5 a).2.1 ≠ (TX5 b).2.1 := by decide +kernel
theorem tyX5_ok : ∀ k, k < 7 → parseFieldDescriptor (TX5 k).2.2.1 = some (tyX5 k) := by decide +kernel
def RX6 : String := "NoneMayLeave"
def TX6 : u_T := fun k => match k with
  | 0 => ("NoneMayLeave", "shelves", "[LNoneMayLeave$Shelf;", true)
  | 1 => ("NoneMayLeave", "now", "LNoneMayLeave$Island;", true)
  | 2 => ("NoneMayLeave", "imaged", "LNoneMayLeave$Island;", true)
  | 3 => ("NoneMayLeave", "trial", "LNoneMayLeave$Island;", true)
  | 4 => ("NoneMayLeave", "sets", "LNoneMayLeave$Sets;", true)
  | 5 => ("NoneMayLeave", "sitting", "LNoneMayLeave$Council;", true)
  | 6 => ("NoneMayLeave", "reader", "LNoneMayLeave$TextReader;", true)
  | 7 => ("NoneMayLeave", "mover", "LNoneMayLeave$Mover;", true)
  | 8 => ("NoneMayLeave", "refused", "[I", true)
  | 9 => ("NoneMayLeave", "hasImage", "Z", false)
  | _ => ("NoneMayLeave", "latestFault", "I", false)
def tyX6 : Nat → FieldType := fun k => match k with
  | 0 => .array (.object "NoneMayLeave$Shelf")
  | 1 => .object "NoneMayLeave$Island"
  | 2 => .object "NoneMayLeave$Island"
  | 3 => .object "NoneMayLeave$Island"
  | 4 => .object "NoneMayLeave$Sets"
  | 5 => .object "NoneMayLeave$Council"
  | 6 => .object "NoneMayLeave$TextReader"
  | 7 => .object "NoneMayLeave$Mover"
  | 8 => .array .int
  | 9 => .boolean
  | _ => .int
abbrev wsX60 : List Cond := u_ws RX6 TX6 11
theorem nmX6 : ∀ a, a < 11 → ∀ b, b < 11 → a ≠ b → (TX6 a).2.1 ≠ (TX6 b).2.1 := by decide +kernel
theorem tyX6_ok : ∀ k, k < 11 → parseFieldDescriptor (TX6 k).2.2.1 = some (tyX6 k) := by decide +kernel
def RX7 : String := "NoneMayLeaveModel"
def TX7 : u_T := fun k => match k with
  | 0 => ("NoneMayLeaveModel", "makers", "I", false)
  | 1 => ("NoneMayLeaveModel", "parts", "I", false)
  | 2 => ("NoneMayLeaveModel", "fear", "I", false)
  | 3 => ("NoneMayLeaveModel", "purse", "I", false)
  | 4 => ("NoneMayLeaveModel", "months", "I", false)
  | 5 => ("NoneMayLeaveModel", "seed", "I", false)
  | 6 => ("NoneMayLeaveModel", "fault", "I", false)
  | 7 => ("NoneMayLeaveModel", "refused", "[I", true)
  | 8 => ("NoneMayLeaveModel", "kind", "[I", true)
  | 9 => ("NoneMayLeaveModel", "part", "[I", true)
  | 10 => ("NoneMayLeaveModel", "want", "[I", true)
  | 11 => ("NoneMayLeaveModel", "known", "[I", true)
  | 12 => ("NoneMayLeaveModel", "kins", "[I", true)
  | 13 => ("NoneMayLeaveModel", "place", "[I", true)
  | 14 => ("NoneMayLeaveModel", "held", "[I", true)
  | 15 => ("NoneMayLeaveModel", "sort", "[I", true)
  | 16 => ("NoneMayLeaveModel", "size", "[I", true)
  | 17 => ("NoneMayLeaveModel", "shown", "[I", true)
  | 18 => ("NoneMayLeaveModel", "cells", "[J", true)
  | 19 => ("NoneMayLeaveModel", "carried", "[J", true)
  | 20 => ("NoneMayLeaveModel", "words", "[I", true)
  | 21 => ("NoneMayLeaveModel", "numbers", "[I", true)
  | 22 => ("NoneMayLeaveModel", "tell", "[I", true)
  | 23 => ("NoneMayLeaveModel", "base", "I", false)
  | 24 => ("NoneMayLeaveModel", "at", "I", false)
  | 25 => ("NoneMayLeaveModel", "end", "I", false)
  | 26 => ("NoneMayLeaveModel", "number", "I", false)
  | 27 => ("NoneMayLeaveModel", "wrongAt", "I", false)
  | 28 => ("NoneMayLeaveModel", "was", "[I", true)
  | 29 => ("NoneMayLeaveModel", "kept", "[I", true)
  | 30 => ("NoneMayLeaveModel", "tried", "[I", true)
  | 31 => ("NoneMayLeaveModel", "moved", "[I", true)
  | 32 => ("NoneMayLeaveModel", "best", "[I", true)
  | 33 => ("NoneMayLeaveModel", "bestCost", "I", false)
  | 34 => ("NoneMayLeaveModel", "trace", "[I", true)
  | 35 => ("NoneMayLeaveModel", "ran", "I", false)
  | _ => ("NoneMayLeaveModel", "isKept", "Z", false)
def tyX7 : Nat → FieldType := fun k => match k with
  | 0 => .int
  | 1 => .int
  | 2 => .int
  | 3 => .int
  | 4 => .int
  | 5 => .int
  | 6 => .int
  | 7 => .array .int
  | 8 => .array .int
  | 9 => .array .int
  | 10 => .array .int
  | 11 => .array .int
  | 12 => .array .int
  | 13 => .array .int
  | 14 => .array .int
  | 15 => .array .int
  | 16 => .array .int
  | 17 => .array .int
  | 18 => .array .long
  | 19 => .array .long
  | 20 => .array .int
  | 21 => .array .int
  | 22 => .array .int
  | 23 => .int
  | 24 => .int
  | 25 => .int
  | 26 => .int
  | 27 => .int
  | 28 => .array .int
  | 29 => .array .int
  | 30 => .array .int
  | 31 => .array .int
  | 32 => .array .int
  | 33 => .int
  | 34 => .array .int
  | 35 => .int
  | _ => .boolean
abbrev wsX70 : List Cond := u_ws RX7 TX7 37
theorem nmX7 : ∀ a, a < 37 → ∀ b, b < 37 → a ≠ b → (TX7 a).2.1 ≠ (TX7 b).2.1 := by decide +kernel
theorem tyX7_ok : ∀ k, k < 37 → parseFieldDescriptor (TX7 k).2.2.1 = some (tyX7 k) := by decide +kernel
abbrev vwCl : List vw_C := [(RX0, TX0, 5), (RX1, TX1, 12), (RX2, TX2, 5), (RX3, TX3, 4), (RX4, TX4, 5), (RX5, TX5, 7), (RX6, TX6, 11), (RX7, TX7, 37)]
