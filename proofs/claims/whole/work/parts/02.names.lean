def RX0 : String := "SwingCity$Now"
def TX0 : u_T := fun k => match k with
  | 0 => ("SwingCity$Now", "ropes", "LSwingCity$Rows;", true)
  | 1 => ("SwingCity$Now", "riders", "LSwingCity$Rows;", true)
  | 2 => ("SwingCity$Now", "deeds", "LSwingCity$Rows;", true)
  | _ => ("SwingCity$Now", "rides", "LSwingCity$Rows;", true)
def tyX0 : Nat → FieldType := fun k => match k with
  | 0 => .object "SwingCity$Rows"
  | 1 => .object "SwingCity$Rows"
  | 2 => .object "SwingCity$Rows"
  | _ => .object "SwingCity$Rows"
theorem nmX0 : ∀ a, a < 4 → ∀ b, b < 4 → a ≠ b → (TX0 a).2.1 ≠ (TX0 b).2.1 := by decide +kernel
theorem tyX0_ok : ∀ k, k < 4 → parseFieldDescriptor (TX0 k).2.2.1 = some (tyX0 k) := by decide +kernel
def RX1 : String := "SwingCity$Reader"
def TX1 : u_T := fun k => match k with
  | 0 => ("SwingCity$Reader", "doors", "LSwingCity$Rows;", true)
  | 1 => ("SwingCity$Reader", "ropes", "LSwingCity$Rows;", true)
  | 2 => ("SwingCity$Reader", "riders", "LSwingCity$Rows;", true)
  | 3 => ("SwingCity$Reader", "bytes", "[I", true)
  | 4 => ("SwingCity$Reader", "length", "I", false)
  | 5 => ("SwingCity$Reader", "place", "I", false)
  | 6 => ("SwingCity$Reader", "behind", "I", false)
  | 7 => ("SwingCity$Reader", "token", "I", false)
  | 8 => ("SwingCity$Reader", "value", "I", false)
  | _ => ("SwingCity$Reader", "numbers", "[I", true)
def tyX1 : Nat → FieldType := fun k => match k with
  | 0 => .object "SwingCity$Rows"
  | 1 => .object "SwingCity$Rows"
  | 2 => .object "SwingCity$Rows"
  | 3 => .array .int
  | 4 => .int
  | 5 => .int
  | 6 => .int
  | 7 => .int
  | 8 => .int
  | _ => .array .int
theorem nmX1 : ∀ a, a < 10 → ∀ b, b < 10 → a ≠ b → (TX1 a).2.1 ≠ (TX1 b).2.1 := by decide +kernel
theorem tyX1_ok : ∀ k, k < 10 → parseFieldDescriptor (TX1 k).2.2.1 = some (tyX1 k) := by decide +kernel
def RX2 : String := "SwingCity$Ride"
def TX2 : u_T := fun k => match k with
  | 0 => ("SwingCity$Ride", "taken", "I", false)
  | 1 => ("SwingCity$Ride", "end", "I", false)
  | 2 => ("SwingCity$Ride", "sill", "I", false)
  | _ => ("SwingCity$Ride", "falls", "Z", false)
def tyX2 : Nat → FieldType := fun k => match k with
  | 0 => .int
  | 1 => .int
  | 2 => .int
  | _ => .boolean
theorem nmX2 : ∀ a, a < 4 → ∀ b, b < 4 → a ≠ b → (TX2 a).2.1 ≠ (TX2 b).2.1 := by decide +kernel
theorem tyX2_ok : ∀ k, k < 4 → parseFieldDescriptor (TX2 k).2.2.1 = some (tyX2 k) := by decide +kernel
def RX3 : String := "SwingCity$Route"
def TX3 : u_T := fun k => match k with
  | 0 => ("SwingCity$Route", "told", "LSwingCity$Rows;", true)
  | 1 => ("SwingCity$Route", "ride", "LSwingCity$Ride;", true)
  | 2 => ("SwingCity$Route", "size", "I", false)
  | 3 => ("SwingCity$Route", "minute", "I", false)
  | _ => ("SwingCity$Route", "sill", "I", false)
def tyX3 : Nat → FieldType := fun k => match k with
  | 0 => .object "SwingCity$Rows"
  | 1 => .object "SwingCity$Ride"
  | 2 => .int
  | 3 => .int
  | _ => .int
theorem nmX3 : ∀ a, a < 5 → ∀ b, b < 5 → a ≠ b → (TX3 a).2.1 ≠ (TX3 b).2.1 := by decide +kernel
theorem tyX3_ok : ∀ k, k < 5 → parseFieldDescriptor (TX3 k).2.2.1 = some (tyX3 k) := by decide +kernel
def RX4 : String := "SwingCity$Rows"
def TX4 : u_T := fun k => match k with
  | 0 => ("SwingCity$Rows", "room", "I", true)
  | 1 => ("SwingCity$Rows", "width", "I", true)
  | 2 => ("SwingCity$Rows", "cells", "[I", true)
  | _ => ("SwingCity$Rows", "size", "I", false)
def tyX4 : Nat → FieldType := fun k => match k with
  | 0 => .int
  | 1 => .int
  | 2 => .array .int
  | _ => .int
theorem nmX4 : ∀ a, a < 4 → ∀ b, b < 4 → a ≠ b → (TX4 a).2.1 ≠ (TX4 b).2.1 := by decide +kernel
theorem tyX4_ok : ∀ k, k < 4 → parseFieldDescriptor (TX4 k).2.2.1 = some (tyX4 k) := by decide +kernel
def RX5 : String := "SwingCity$Streets"
def TX5 : u_T := fun k => match k with
  | 0 => ("SwingCity$Streets", "doors", "LSwingCity$Rows;", true)
  | _ => ("SwingCity$Streets", "ropes", "LSwingCity$Rows;", true)
def tyX5 : Nat → FieldType := fun k => match k with
  | 0 => .object "SwingCity$Rows"
  | _ => .object "SwingCity$Rows"
theorem nmX5 : ∀ a, a < 2 → ∀ b, b < 2 → a ≠ b → (TX5 a).2.1 ≠ (TX5 b).2.1 := by decide +kernel
theorem tyX5_ok : ∀ k, k < 2 → parseFieldDescriptor (TX5 k).2.2.1 = some (tyX5 k) := by decide +kernel
def RX6 : String := "SwingCity$Ways"
def TX6 : u_T := fun k => match k with
  | 0 => ("SwingCity$Ways", "reached", "[I", true)
  | 1 => ("SwingCity$Ways", "next", "[I", true)
  | 2 => ("SwingCity$Ways", "minute", "I", false)
  | _ => ("SwingCity$Ways", "rides", "I", false)
def tyX6 : Nat → FieldType := fun k => match k with
  | 0 => .array .int
  | 1 => .array .int
  | 2 => .int
  | _ => .int
theorem nmX6 : ∀ a, a < 4 → ∀ b, b < 4 → a ≠ b → (TX6 a).2.1 ≠ (TX6 b).2.1 := by decide +kernel
theorem tyX6_ok : ∀ k, k < 4 → parseFieldDescriptor (TX6 k).2.2.1 = some (tyX6 k) := by decide +kernel
def RX7 : String := "SwingCity"
def TX7 : u_T := fun k => match k with
  | 0 => ("SwingCity", "text", "[I", true)
  | 1 => ("SwingCity", "textLength", "I", false)
  | 2 => ("SwingCity", "doors", "LSwingCity$Rows;", true)
  | 3 => ("SwingCity", "now", "LSwingCity$Now;", true)
  | 4 => ("SwingCity", "seen", "LSwingCity$Rows;", true)
  | 5 => ("SwingCity", "images", "[LSwingCity$Now;", true)
  | 6 => ("SwingCity", "kept", "[Z", true)
  | 7 => ("SwingCity", "marks", "J", false)
  | 8 => ("SwingCity", "reader", "LSwingCity$Reader;", true)
  | 9 => ("SwingCity", "streets", "LSwingCity$Streets;", true)
  | 10 => ("SwingCity", "trial", "LSwingCity$Streets;", true)
  | 11 => ("SwingCity", "ride", "LSwingCity$Ride;", true)
  | 12 => ("SwingCity", "told", "LSwingCity$Route;", true)
  | 13 => ("SwingCity", "ways", "LSwingCity$Ways;", true)
  | _ => ("SwingCity", "drifting", "[I", true)
def tyX7 : Nat → FieldType := fun k => match k with
  | 0 => .array .int
  | 1 => .int
  | 2 => .object "SwingCity$Rows"
  | 3 => .object "SwingCity$Now"
  | 4 => .object "SwingCity$Rows"
  | 5 => .array (.object "SwingCity$Now")
  | 6 => .array .boolean
  | 7 => .long
  | 8 => .object "SwingCity$Reader"
  | 9 => .object "SwingCity$Streets"
  | 10 => .object "SwingCity$Streets"
  | 11 => .object "SwingCity$Ride"
  | 12 => .object "SwingCity$Route"
  | 13 => .object "SwingCity$Ways"
  | _ => .array .int
theorem nmX7 : ∀ a, a < 15 → ∀ b, b < 15 → a ≠ b → (TX7 a).2.1 ≠ (TX7 b).2.1 := by decide +kernel
theorem tyX7_ok : ∀ k, k < 15 → parseFieldDescriptor (TX7 k).2.2.1 = some (tyX7 k) := by decide +kernel
def RX8 : String := "SwingCityModel"
def TX8 : u_T := fun k => match k with
  | 0 => ("SwingCityModel", "thrown", "I", false)
  | 1 => ("SwingCityModel", "trace", "J", false)
  | 2 => ("SwingCityModel", "text", "[I", true)
  | 3 => ("SwingCityModel", "typed", "I", false)
  | 4 => ("SwingCityModel", "next", "I", false)
  | 5 => ("SwingCityModel", "token", "I", false)
  | 6 => ("SwingCityModel", "place", "I", false)
  | 7 => ("SwingCityModel", "value", "I", false)
  | 8 => ("SwingCityModel", "fault", "I", false)
  | 9 => ("SwingCityModel", "sills", "I", false)
  | 10 => ("SwingCityModel", "ropes", "I", false)
  | 11 => ("SwingCityModel", "riders", "I", false)
  | 12 => ("SwingCityModel", "draftSills", "I", false)
  | 13 => ("SwingCityModel", "draftRopes", "I", false)
  | 14 => ("SwingCityModel", "draftRiders", "I", false)
  | 15 => ("SwingCityModel", "turn", "[I", true)
  | 16 => ("SwingCityModel", "opening", "[I", true)
  | 17 => ("SwingCityModel", "rope", "[I", true)
  | 18 => ("SwingCityModel", "rider", "[I", true)
  | 19 => ("SwingCityModel", "s", "[I", true)
  | 20 => ("SwingCityModel", "kept", "[I", true)
  | 21 => ("SwingCityModel", "isKept", "[Z", true)
  | 22 => ("SwingCityModel", "seen", "[I", true)
  | 23 => ("SwingCityModel", "seenMany", "I", false)
  | 24 => ("SwingCityModel", "taken", "I", false)
  | 25 => ("SwingCityModel", "end", "I", false)
  | 26 => ("SwingCityModel", "where", "I", false)
  | 27 => ("SwingCityModel", "isFall", "Z", false)
  | 28 => ("SwingCityModel", "beats", "[I", true)
  | 29 => ("SwingCityModel", "fewest", "[I", true)
  | 30 => ("SwingCityModel", "routeEnd", "I", false)
  | _ => ("SwingCityModel", "routeSill", "I", false)
def tyX8 : Nat → FieldType := fun k => match k with
  | 0 => .int
  | 1 => .long
  | 2 => .array .int
  | 3 => .int
  | 4 => .int
  | 5 => .int
  | 6 => .int
  | 7 => .int
  | 8 => .int
  | 9 => .int
  | 10 => .int
  | 11 => .int
  | 12 => .int
  | 13 => .int
  | 14 => .int
  | 15 => .array .int
  | 16 => .array .int
  | 17 => .array .int
  | 18 => .array .int
  | 19 => .array .int
  | 20 => .array .int
  | 21 => .array .boolean
  | 22 => .array .int
  | 23 => .int
  | 24 => .int
  | 25 => .int
  | 26 => .int
  | 27 => .boolean
  | 28 => .array .int
  | 29 => .array .int
  | 30 => .int
  | _ => .int
theorem nmX8 : ∀ a, a < 32 → ∀ b, b < 32 → a ≠ b → (TX8 a).2.1 ≠ (TX8 b).2.1 := by decide +kernel
theorem tyX8_ok : ∀ k, k < 32 → parseFieldDescriptor (TX8 k).2.2.1 = some (tyX8 k) := by decide +kernel
abbrev vwCl : List vw_C := [(RX0, TX0, 4), (RX1, TX1, 10), (RX2, TX2, 4), (RX3, TX3, 5), (RX4, TX4, 4), (RX5, TX5, 2), (RX6, TX6, 4), (RX7, TX7, 15), (RX8, TX8, 32)]
def vwTy : List (Nat → FieldType) := [tyX0, tyX1, tyX2, tyX3, tyX4, tyX5, tyX6, tyX7, tyX8]
def cnL : List String := ["SwingCity$Now", "SwingCity$Reader", "SwingCity$Ride", "SwingCity$Route", "SwingCity$Rows", "SwingCity$Streets", "SwingCity$Ways", "SwingCity", "SwingCityModel", "java/lang/Math", "java/lang/String", "java/lang/StringLatin1", "jdk/internal/util/Preconditions", "SwingCityLaw"]
def cn (o : Nat) : String := cnL.getD o ""
