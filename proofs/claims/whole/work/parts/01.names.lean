def RX0 : String := "WordSolver$Graph"
def RX1 : String := "WordSolver$History"
def RX2 : String := "WordSolver$Kinds"
def RX3 : String := "WordSolver$Lanes"
def RX4 : String := "WordSolver$Parser"
def RX5 : String := "WordSolver$Search"
def RX6 : String := "WordSolver$State"
def RX7 : String := "WordSolver$Text"
def RX8 : String := "WordSolver$Writer"
def RX9 : String := "WordSolver"
def RX10 : String := "WordSolverModel"
def RL : String := "WordSolverLaw"
def RJ13 : String := "java/lang/Long"
def RJ9 : String := "java/lang/Math"
def TX0 : u_T := fun k => match k with
  | 0 => ("WordSolver$Graph", "cells", "[I", true)
  | 1 => ("WordSolver$Graph", "variableNodes", "[I", true)
  | 2 => ("WordSolver$Graph", "variableEnds", "[I", true)
  | 3 => ("WordSolver$Graph", "count", "I", false)
  | _ => ("WordSolver$Graph", "variableCount", "I", false)
def tyX0 : Nat → FieldType := fun k => match k with
  | 0 => .array .int
  | 1 => .array .int
  | 2 => .array .int
  | 3 => .int
  | _ => .int
theorem nmX0 : ∀ a, a < 5 → ∀ b, b < 5 → a ≠ b → (TX0 a).2.1 ≠ (TX0 b).2.1 := by decide +kernel
theorem tyX0_ok : ∀ k, k < 5 → parseFieldDescriptor (TX0 k).2.2.1 = some (tyX0 k) := by decide +kernel
def TX1 : u_T := fun k => match k with
  | 0 => ("WordSolver$History", "saved", "[LWordSolver$State;", true)
  | _ => ("WordSolver$History", "count", "I", false)
def tyX1 : Nat → FieldType := fun k => match k with
  | 0 => .array (.object "WordSolver$State")
  | _ => .int
theorem nmX1 : ∀ a, a < 2 → ∀ b, b < 2 → a ≠ b → (TX1 a).2.1 ≠ (TX1 b).2.1 := by decide +kernel
theorem tyX1_ok : ∀ k, k < 2 → parseFieldDescriptor (TX1 k).2.2.1 = some (tyX1 k) := by decide +kernel
def TX3 : u_T := fun k => match k with
  | 0 => ("WordSolver$Lanes", "graph", "LWordSolver$Graph;", true)
  | 1 => ("WordSolver$Lanes", "planes", "[J", true)
  | _ => ("WordSolver$Lanes", "rest", "[J", true)
def tyX3 : Nat → FieldType := fun k => match k with
  | 0 => .object "WordSolver$Graph"
  | 1 => .array .long
  | _ => .array .long
theorem nmX3 : ∀ a, a < 3 → ∀ b, b < 3 → a ≠ b → (TX3 a).2.1 ≠ (TX3 b).2.1 := by decide +kernel
theorem tyX3_ok : ∀ k, k < 3 → parseFieldDescriptor (TX3 k).2.2.1 = some (tyX3 k) := by decide +kernel
def TX4 : u_T := fun k => match k with
  | 0 => ("WordSolver$Parser", "text", "LWordSolver$Text;", true)
  | 1 => ("WordSolver$Parser", "position", "I", false)
  | 2 => ("WordSolver$Parser", "error", "I", false)
  | 3 => ("WordSolver$Parser", "stepKinds", "[I", true)
  | 4 => ("WordSolver$Parser", "stepNumbers", "[I", true)
  | 5 => ("WordSolver$Parser", "stepWidths", "[I", true)
  | 6 => ("WordSolver$Parser", "steps", "I", false)
  | 7 => ("WordSolver$Parser", "openKinds", "[I", true)
  | 8 => ("WordSolver$Parser", "openNodes", "[I", true)
  | 9 => ("WordSolver$Parser", "openDigits", "[I", true)
  | 10 => ("WordSolver$Parser", "openNumbers", "[I", true)
  | 11 => ("WordSolver$Parser", "open", "I", false)
  | _ => ("WordSolver$Parser", "built", "[I", true)
def tyX4 : Nat → FieldType := fun k => match k with
  | 0 => .object "WordSolver$Text"
  | 1 => .int
  | 2 => .int
  | 3 => .array .int
  | 4 => .array .int
  | 5 => .array .int
  | 6 => .int
  | 7 => .array .int
  | 8 => .array .int
  | 9 => .array .int
  | 10 => .array .int
  | 11 => .int
  | _ => .array .int
theorem nmX4 : ∀ a, a < 13 → ∀ b, b < 13 → a ≠ b → (TX4 a).2.1 ≠ (TX4 b).2.1 := by decide +kernel
theorem tyX4_ok : ∀ k, k < 13 → parseFieldDescriptor (TX4 k).2.2.1 = some (tyX4 k) := by decide +kernel
def TX5 : u_T := fun k => match k with
  | 0 => ("WordSolver$Search", "graph", "LWordSolver$Graph;", true)
  | 1 => ("WordSolver$Search", "now", "LWordSolver$State;", true)
  | 2 => ("WordSolver$Search", "lanes", "LWordSolver$Lanes;", true)
  | 3 => ("WordSolver$Search", "modelLanes", "[J", true)
  | 4 => ("WordSolver$Search", "known", "Z", false)
  | 5 => ("WordSolver$Search", "least", "I", false)
  | 6 => ("WordSolver$Search", "best", "I", false)
  | 7 => ("WordSolver$Search", "bestModel", "I", false)
  | 8 => ("WordSolver$Search", "seen", "[Z", true)
  | _ => ("WordSolver$Search", "rows", "[J", false)
def tyX5 : Nat → FieldType := fun k => match k with
  | 0 => .object "WordSolver$Graph"
  | 1 => .object "WordSolver$State"
  | 2 => .object "WordSolver$Lanes"
  | 3 => .array .long
  | 4 => .boolean
  | 5 => .int
  | 6 => .int
  | 7 => .int
  | 8 => .array .boolean
  | _ => .array .long
theorem nmX5 : ∀ a, a < 10 → ∀ b, b < 10 → a ≠ b → (TX5 a).2.1 ≠ (TX5 b).2.1 := by decide +kernel
theorem tyX5_ok : ∀ k, k < 10 → parseFieldDescriptor (TX5 k).2.2.1 = some (tyX5 k) := by decide +kernel
def TX6 : u_T := fun k => match k with
  | 0 => ("WordSolver$State", "nodeCount", "I", false)
  | 1 => ("WordSolver$State", "level", "I", false)
  | 2 => ("WordSolver$State", "constraintCount", "I", false)
  | 3 => ("WordSolver$State", "constraintNodes", "[I", true)
  | 4 => ("WordSolver$State", "constraintLevels", "[I", true)
  | 5 => ("WordSolver$State", "wishCount", "I", false)
  | 6 => ("WordSolver$State", "wishNodes", "[I", true)
  | 7 => ("WordSolver$State", "wishWeights", "[I", true)
  | _ => ("WordSolver$State", "inputs", "[I", true)
def tyX6 : Nat → FieldType := fun k => match k with
  | 0 => .int
  | 1 => .int
  | 2 => .int
  | 3 => .array .int
  | 4 => .array .int
  | 5 => .int
  | 6 => .array .int
  | 7 => .array .int
  | _ => .array .int
theorem nmX6 : ∀ a, a < 9 → ∀ b, b < 9 → a ≠ b → (TX6 a).2.1 ≠ (TX6 b).2.1 := by decide +kernel
theorem tyX6_ok : ∀ k, k < 9 → parseFieldDescriptor (TX6 k).2.2.1 = some (tyX6 k) := by decide +kernel
def TX7 : u_T := fun k => match k with
  | 0 => ("WordSolver$Text", "codes", "[I", true)
  | _ => ("WordSolver$Text", "length", "I", false)
def tyX7 : Nat → FieldType := fun k => match k with
  | 0 => .array .int
  | _ => .int
theorem nmX7 : ∀ a, a < 2 → ∀ b, b < 2 → a ≠ b → (TX7 a).2.1 ≠ (TX7 b).2.1 := by decide +kernel
theorem tyX7_ok : ∀ k, k < 2 → parseFieldDescriptor (TX7 k).2.2.1 = some (tyX7 k) := by decide +kernel
def TX8 : u_T := fun k => match k with
  | 0 => ("WordSolver$Writer", "graph", "LWordSolver$Graph;", true)
  | 1 => ("WordSolver$Writer", "text", "LWordSolver$Text;", true)
  | _ => ("WordSolver$Writer", "lengths", "[I", true)
def tyX8 : Nat → FieldType := fun k => match k with
  | 0 => .object "WordSolver$Graph"
  | 1 => .object "WordSolver$Text"
  | _ => .array .int
theorem nmX8 : ∀ a, a < 3 → ∀ b, b < 3 → a ≠ b → (TX8 a).2.1 ≠ (TX8 b).2.1 := by decide +kernel
theorem tyX8_ok : ∀ k, k < 3 → parseFieldDescriptor (TX8 k).2.2.1 = some (tyX8 k) := by decide +kernel
def TX9 : u_T := fun k => match k with
  | 0 => ("WordSolver", "graph", "LWordSolver$Graph;", true)
  | 1 => ("WordSolver", "now", "LWordSolver$State;", true)
  | 2 => ("WordSolver", "history", "LWordSolver$History;", true)
  | 3 => ("WordSolver", "lanes", "LWordSolver$Lanes;", true)
  | 4 => ("WordSolver", "search", "LWordSolver$Search;", true)
  | 5 => ("WordSolver", "text", "LWordSolver$Text;", true)
  | 6 => ("WordSolver", "parser", "LWordSolver$Parser;", true)
  | _ => ("WordSolver", "writer", "LWordSolver$Writer;", true)
def tyX9 : Nat → FieldType := fun k => match k with
  | 0 => .object "WordSolver$Graph"
  | 1 => .object "WordSolver$State"
  | 2 => .object "WordSolver$History"
  | 3 => .object "WordSolver$Lanes"
  | 4 => .object "WordSolver$Search"
  | 5 => .object "WordSolver$Text"
  | 6 => .object "WordSolver$Parser"
  | _ => .object "WordSolver$Writer"
theorem nmX9 : ∀ a, a < 8 → ∀ b, b < 8 → a ≠ b → (TX9 a).2.1 ≠ (TX9 b).2.1 := by decide +kernel
theorem tyX9_ok : ∀ k, k < 8 → parseFieldDescriptor (TX9 k).2.2.1 = some (tyX9 k) := by decide +kernel
def TX10 : u_T := fun k => match k with
  | 0 => ("WordSolverModel", "now", "[I", true)
  | 1 => ("WordSolverModel", "past", "[I", true)
  | 2 => ("WordSolverModel", "before", "[I", true)
  | 3 => ("WordSolverModel", "saved", "I", false)
  | 4 => ("WordSolverModel", "refusal", "I", false)
  | 5 => ("WordSolverModel", "text", "[I", true)
  | 6 => ("WordSolverModel", "length", "I", false)
  | 7 => ("WordSolverModel", "words", "[I", true)
  | 8 => ("WordSolverModel", "val", "[I", true)
  | 9 => ("WordSolverModel", "fulfilled", "[I", true)
  | 10 => ("WordSolverModel", "isOld", "Z", false)
  | 11 => ("WordSolverModel", "assignments", "I", false)
  | 12 => ("WordSolverModel", "met", "[I", true)
  | 13 => ("WordSolverModel", "most", "I", false)
  | 14 => ("WordSolverModel", "tokens", "[I", true)
  | 15 => ("WordSolverModel", "tokenMany", "I", false)
  | 16 => ("WordSolverModel", "open", "[I", true)
  | 17 => ("WordSolverModel", "got", "[I", true)
  | 18 => ("WordSolverModel", "deep", "I", false)
  | 19 => ("WordSolverModel", "place", "I", false)
  | 20 => ("WordSolverModel", "digit", "I", false)
  | 21 => ("WordSolverModel", "operandRow", "[I", true)
  | 22 => ("WordSolverModel", "rest", "[I", true)
  | 23 => ("WordSolverModel", "restMany", "I", false)
  | 24 => ("WordSolverModel", "written", "[I", true)
  | 25 => ("WordSolverModel", "writtenMany", "I", false)
  | _ => ("WordSolverModel", "hash", "J", false)
def tyX10 : Nat → FieldType := fun k => match k with
  | 0 => .array .int
  | 1 => .array .int
  | 2 => .array .int
  | 3 => .int
  | 4 => .int
  | 5 => .array .int
  | 6 => .int
  | 7 => .array .int
  | 8 => .array .int
  | 9 => .array .int
  | 10 => .boolean
  | 11 => .int
  | 12 => .array .int
  | 13 => .int
  | 14 => .array .int
  | 15 => .int
  | 16 => .array .int
  | 17 => .array .int
  | 18 => .int
  | 19 => .int
  | 20 => .int
  | 21 => .array .int
  | 22 => .array .int
  | 23 => .int
  | 24 => .array .int
  | 25 => .int
  | _ => .long
theorem nmX10 : ∀ a, a < 27 → ∀ b, b < 27 → a ≠ b → (TX10 a).2.1 ≠ (TX10 b).2.1 := by decide +kernel
theorem tyX10_ok : ∀ k, k < 27 → parseFieldDescriptor (TX10 k).2.2.1 = some (tyX10 k) := by decide +kernel
abbrev vwCl : List vw_C := [(RX0, TX0, 5), (RX1, TX1, 2), (RX3, TX3, 3), (RX4, TX4, 13), (RX5, TX5, 10), (RX6, TX6, 9), (RX7, TX7, 2), (RX8, TX8, 3), (RX9, TX9, 8), (RX10, TX10, 27)]
