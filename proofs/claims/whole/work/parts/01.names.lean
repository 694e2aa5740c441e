/-- words by their places in the tables -/
theorem wd_in (ws : List Cond) (ps : List Nat) (hp : decide (ws = ps.filterMap (fun i => tables_1[i]?)) = true) (h : ws.all goodWord = true) : ∀ w ∈ ws, w ∈ tables_1 ∧ goodWord w = true := by
  intro w hw
  have h1 := List.all_eq_true.mp h w hw
  rw [of_decide_eq_true hp] at hw
  obtain ⟨i, -, hi⟩ := List.mem_filterMap.mp hw
  exact ⟨List.mem_of_getElem? hi, h1⟩
def RX0 : String := "BlockStage$Bytes"
def TX0 : u_T := fun k => match k with
  | 0 => ("BlockStage$Bytes", "length", "I", false)
  | _ => ("BlockStage$Bytes", "items", "[I", true)
def tyX0 : Nat → FieldType := fun k => match k with
  | 0 => .int
  | _ => .array .int
theorem nmX0 : ∀ a, a < 2 → ∀ b, b < 2 → a ≠ b → (TX0 a).2.1 ≠ (TX0 b).2.1 := by decide +kernel
theorem tyX0_ok : ∀ k, k < 2 → parseFieldDescriptor (TX0 k).2.2.1 = some (tyX0 k) := by decide +kernel
def RX1 : String := "BlockStage$Family"
def TX1 : u_T := fun k => match k with
  | _ => ("", "", "", false)
def tyX1 : Nat → FieldType := fun k => match k with
  | _ => .int
theorem nmX1 : ∀ a, a < 0 → ∀ b, b < 0 → a ≠ b → (TX1 a).2.1 ≠ (TX1 b).2.1 := by decide +kernel
theorem tyX1_ok : ∀ k, k < 0 → parseFieldDescriptor (TX1 k).2.2.1 = some (tyX1 k) := by decide +kernel
def RX2 : String := "BlockStage$Orders"
def TX2 : u_T := fun k => match k with
  | 0 => ("BlockStage$Family", "m", "I", true)
  | 1 => ("BlockStage$Family", "n", "I", true)
  | 2 => ("BlockStage$Family", "ran", "I", false)
  | _ => ("BlockStage$Family", "trace", "[I", true)
def tyX2 : Nat → FieldType := fun k => match k with
  | 0 => .int
  | 1 => .int
  | 2 => .int
  | _ => .array .int
theorem nmX2 : ∀ a, a < 4 → ∀ b, b < 4 → a ≠ b → (TX2 a).2.1 ≠ (TX2 b).2.1 := by decide +kernel
theorem tyX2_ok : ∀ k, k < 4 → parseFieldDescriptor (TX2 k).2.2.1 = some (tyX2 k) := by decide +kernel
def RX3 : String := "BlockStage$Program"
def TX3 : u_T := fun k => match k with
  | 0 => ("BlockStage$Program", "blocks", "I", false)
  | 1 => ("BlockStage$Program", "scripts", "I", false)
  | 2 => ("BlockStage$Program", "blockParts", "[I", true)
  | 3 => ("BlockStage$Program", "inHoles", "[I", true)
  | _ => ("BlockStage$Program", "scriptParts", "[I", true)
def tyX3 : Nat → FieldType := fun k => match k with
  | 0 => .int
  | 1 => .int
  | 2 => .array .int
  | 3 => .array .int
  | _ => .array .int
theorem nmX3 : ∀ a, a < 5 → ∀ b, b < 5 → a ≠ b → (TX3 a).2.1 ≠ (TX3 b).2.1 := by decide +kernel
theorem tyX3_ok : ∀ k, k < 5 → parseFieldDescriptor (TX3 k).2.2.1 = some (tyX3 k) := by decide +kernel
def RX4 : String := "BlockStage$Rounds"
def TX4 : u_T := fun k => match k with
  | 0 => ("BlockStage$Family", "m", "I", true)
  | 1 => ("BlockStage$Family", "n", "I", true)
  | 2 => ("BlockStage$Family", "ran", "I", false)
  | _ => ("BlockStage$Family", "trace", "[I", true)
def tyX4 : Nat → FieldType := fun k => match k with
  | 0 => .int
  | 1 => .int
  | 2 => .int
  | _ => .array .int
theorem nmX4 : ∀ a, a < 4 → ∀ b, b < 4 → a ≠ b → (TX4 a).2.1 ≠ (TX4 b).2.1 := by decide +kernel
theorem tyX4_ok : ∀ k, k < 4 → parseFieldDescriptor (TX4 k).2.2.1 = some (tyX4 k) := by decide +kernel
def RX5 : String := "BlockStage$Run"
def TX5 : u_T := fun k => match k with
  | 0 => ("BlockStage$Run", "program", "LBlockStage$Program;", true)
  | 1 => ("BlockStage$Run", "stage", "LBlockStage$Stage;", true)
  | 2 => ("BlockStage$Run", "on", "Z", false)
  | 3 => ("BlockStage$Run", "ticks", "I", false)
  | 4 => ("BlockStage$Run", "sayings", "I", false)
  | 5 => ("BlockStage$Run", "kept", "[I", true)
  | 6 => ("BlockStage$Run", "states", "[I", true)
  | 7 => ("BlockStage$Run", "places", "[I", true)
  | 8 => ("BlockStage$Run", "fromAbove", "[Z", true)
  | 9 => ("BlockStage$Run", "refusals", "[I", true)
  | 10 => ("BlockStage$Run", "turns", "[I", true)
  | 11 => ("BlockStage$Run", "sent", "I", false)
  | 12 => ("BlockStage$Run", "sentAhead", "I", false)
  | _ => ("BlockStage$Run", "refusal", "I", false)
def tyX5 : Nat → FieldType := fun k => match k with
  | 0 => .object "BlockStage$Program"
  | 1 => .object "BlockStage$Stage"
  | 2 => .boolean
  | 3 => .int
  | 4 => .int
  | 5 => .array .int
  | 6 => .array .int
  | 7 => .array .int
  | 8 => .array .boolean
  | 9 => .array .int
  | 10 => .array .int
  | 11 => .int
  | 12 => .int
  | _ => .int
theorem nmX5 : ∀ a, a < 14 → ∀ b, b < 14 → a ≠ b → (TX5 a).2.1 ≠ (TX5 b).2.1 := by decide +kernel
theorem tyX5_ok : ∀ k, k < 14 → parseFieldDescriptor (TX5 k).2.2.1 = some (tyX5 k) := by decide +kernel
def RX6 : String := "BlockStage$Sharps"
def TX6 : u_T := fun k => match k with
  | 0 => ("BlockStage$Family", "m", "I", true)
  | 1 => ("BlockStage$Family", "n", "I", true)
  | 2 => ("BlockStage$Family", "ran", "I", false)
  | _ => ("BlockStage$Family", "trace", "[I", true)
def tyX6 : Nat → FieldType := fun k => match k with
  | 0 => .int
  | 1 => .int
  | 2 => .int
  | _ => .array .int
theorem nmX6 : ∀ a, a < 4 → ∀ b, b < 4 → a ≠ b → (TX6 a).2.1 ≠ (TX6 b).2.1 := by decide +kernel
theorem tyX6_ok : ∀ k, k < 4 → parseFieldDescriptor (TX6 k).2.2.1 = some (tyX6 k) := by decide +kernel
def RX7 : String := "BlockStage$Sheets"
def TX7 : u_T := fun k => match k with
  | 0 => ("BlockStage$Sheets", "sorts", "[I", true)
  | 1 => ("BlockStage$Sheets", "lengths", "[I", true)
  | _ => ("BlockStage$Sheets", "items", "[I", true)
def tyX7 : Nat → FieldType := fun k => match k with
  | 0 => .array .int
  | 1 => .array .int
  | _ => .array .int
theorem nmX7 : ∀ a, a < 3 → ∀ b, b < 3 → a ≠ b → (TX7 a).2.1 ≠ (TX7 b).2.1 := by decide +kernel
theorem tyX7_ok : ∀ k, k < 3 → parseFieldDescriptor (TX7 k).2.2.1 = some (tyX7 k) := by decide +kernel
def RX8 : String := "BlockStage$Shells"
def TX8 : u_T := fun k => match k with
  | 0 => ("BlockStage$Family", "m", "I", true)
  | 1 => ("BlockStage$Family", "n", "I", true)
  | 2 => ("BlockStage$Family", "ran", "I", false)
  | _ => ("BlockStage$Family", "trace", "[I", true)
def tyX8 : Nat → FieldType := fun k => match k with
  | 0 => .int
  | 1 => .int
  | 2 => .int
  | _ => .array .int
theorem nmX8 : ∀ a, a < 4 → ∀ b, b < 4 → a ≠ b → (TX8 a).2.1 ≠ (TX8 b).2.1 := by decide +kernel
theorem tyX8_ok : ∀ k, k < 4 → parseFieldDescriptor (TX8 k).2.2.1 = some (tyX8 k) := by decide +kernel
def RX9 : String := "BlockStage$Stage"
def TX9 : u_T := fun k => match k with
  | 0 => ("BlockStage$Stage", "width", "I", false)
  | 1 => ("BlockStage$Stage", "height", "I", false)
  | 2 => ("BlockStage$Stage", "actors", "I", false)
  | 3 => ("BlockStage$Stage", "cells", "[I", true)
  | 4 => ("BlockStage$Stage", "places", "[I", true)
  | 5 => ("BlockStage$Stage", "headings", "[I", true)
  | 6 => ("BlockStage$Stage", "values", "[I", true)
  | 7 => ("BlockStage$Stage", "bumps", "[I", true)
  | 8 => ("BlockStage$Stage", "rowLengths", "[I", true)
  | _ => ("BlockStage$Stage", "rows", "[I", true)
def tyX9 : Nat → FieldType := fun k => match k with
  | 0 => .int
  | 1 => .int
  | 2 => .int
  | 3 => .array .int
  | 4 => .array .int
  | 5 => .array .int
  | 6 => .array .int
  | 7 => .array .int
  | 8 => .array .int
  | _ => .array .int
theorem nmX9 : ∀ a, a < 10 → ∀ b, b < 10 → a ≠ b → (TX9 a).2.1 ≠ (TX9 b).2.1 := by decide +kernel
theorem tyX9_ok : ∀ k, k < 10 → parseFieldDescriptor (TX9 k).2.2.1 = some (tyX9 k) := by decide +kernel
def RX10 : String := "BlockStage$Wish"
def TX10 : u_T := fun k => match k with
  | 0 => ("BlockStage$Wish", "parts", "I", false)
  | 1 => ("BlockStage$Wish", "partsWhen", "[I", true)
  | 2 => ("BlockStage$Wish", "fields", "[I", true)
  | 3 => ("BlockStage$Wish", "actors", "[I", true)
  | 4 => ("BlockStage$Wish", "signs", "[I", true)
  | 5 => ("BlockStage$Wish", "numbers", "[I", true)
  | _ => ("BlockStage$Wish", "place", "I", false)
def tyX10 : Nat → FieldType := fun k => match k with
  | 0 => .int
  | 1 => .array .int
  | 2 => .array .int
  | 3 => .array .int
  | 4 => .array .int
  | 5 => .array .int
  | _ => .int
theorem nmX10 : ∀ a, a < 7 → ∀ b, b < 7 → a ≠ b → (TX10 a).2.1 ≠ (TX10 b).2.1 := by decide +kernel
theorem tyX10_ok : ∀ k, k < 7 → parseFieldDescriptor (TX10 k).2.2.1 = some (tyX10 k) := by decide +kernel
def RX11 : String := "BlockStage"
def TX11 : u_T := fun k => match k with
  | 0 => ("BlockStage", "program", "LBlockStage$Program;", true)
  | 1 => ("BlockStage", "changedOnce", "LBlockStage$Program;", true)
  | 2 => ("BlockStage", "beginning", "LBlockStage$Stage;", true)
  | 3 => ("BlockStage", "kept", "[LBlockStage$Stage;", true)
  | 4 => ("BlockStage", "keptCount", "I", false)
  | 5 => ("BlockStage", "live", "LBlockStage$Run;", true)
  | 6 => ("BlockStage", "trial", "LBlockStage$Run;", true)
  | 7 => ("BlockStage", "tape", "LBlockStage$Bytes;", true)
  | 8 => ("BlockStage", "written", "LBlockStage$Bytes;", true)
  | 9 => ("BlockStage", "wished", "LBlockStage$Wish;", false)
  | 10 => ("BlockStage", "draft", "LBlockStage$Wish;", false)
  | 11 => ("BlockStage", "sheets", "LBlockStage$Sheets;", true)
  | 12 => ("BlockStage", "latestAct", "LBlockStage$Family;", false)
  | 13 => ("BlockStage", "marked", "Z", false)
  | 14 => ("BlockStage", "failStage", "I", false)
  | 15 => ("BlockStage", "failTick", "I", false)
  | 16 => ("BlockStage", "hints", "[I", true)
  | _ => ("BlockStage", "hintCount", "I", false)
def tyX11 : Nat → FieldType := fun k => match k with
  | 0 => .object "BlockStage$Program"
  | 1 => .object "BlockStage$Program"
  | 2 => .object "BlockStage$Stage"
  | 3 => .array (.object "BlockStage$Stage")
  | 4 => .int
  | 5 => .object "BlockStage$Run"
  | 6 => .object "BlockStage$Run"
  | 7 => .object "BlockStage$Bytes"
  | 8 => .object "BlockStage$Bytes"
  | 9 => .object "BlockStage$Wish"
  | 10 => .object "BlockStage$Wish"
  | 11 => .object "BlockStage$Sheets"
  | 12 => .object "BlockStage$Family"
  | 13 => .boolean
  | 14 => .int
  | 15 => .int
  | 16 => .array .int
  | _ => .int
theorem nmX11 : ∀ a, a < 18 → ∀ b, b < 18 → a ≠ b → (TX11 a).2.1 ≠ (TX11 b).2.1 := by decide +kernel
theorem tyX11_ok : ∀ k, k < 18 → parseFieldDescriptor (TX11 k).2.2.1 = some (tyX11 k) := by decide +kernel
def RX12 : String := "BlockStageModel"
def TX12 : u_T := fun k => match k with
  | 0 => ("BlockStageModel", "wide", "[I", true)
  | 1 => ("BlockStageModel", "high", "[I", true)
  | 2 => ("BlockStageModel", "ground", "[I", true)
  | 3 => ("BlockStageModel", "actors", "[I", true)
  | 4 => ("BlockStageModel", "ax", "[I", true)
  | 5 => ("BlockStageModel", "ay", "[I", true)
  | 6 => ("BlockStageModel", "heading", "[I", true)
  | 7 => ("BlockStageModel", "kept", "I", false)
  | 8 => ("BlockStageModel", "blocks", "I", false)
  | 9 => ("BlockStageModel", "kind", "[I", true)
  | 10 => ("BlockStageModel", "n", "[I", true)
  | 11 => ("BlockStageModel", "hole", "[I", true)
  | 12 => ("BlockStageModel", "in", "[I", true)
  | 13 => ("BlockStageModel", "inHole", "[I", true)
  | 14 => ("BlockStageModel", "topOf", "[I", true)
  | 15 => ("BlockStageModel", "scripts", "I", false)
  | 16 => ("BlockStageModel", "scriptActor", "[I", true)
  | 17 => ("BlockStageModel", "cap", "[I", true)
  | 18 => ("BlockStageModel", "capNumber", "[I", true)
  | 19 => ("BlockStageModel", "again", "[I", true)
  | 20 => ("BlockStageModel", "top", "[I", true)
  | 21 => ("BlockStageModel", "from", "I", false)
  | 22 => ("BlockStageModel", "tick", "I", false)
  | 23 => ("BlockStageModel", "cells", "[I", true)
  | 24 => ("BlockStageModel", "x", "[I", true)
  | 25 => ("BlockStageModel", "y", "[I", true)
  | 26 => ("BlockStageModel", "facing", "[I", true)
  | 27 => ("BlockStageModel", "value", "[I", true)
  | 28 => ("BlockStageModel", "bumped", "[I", true)
  | 29 => ("BlockStageModel", "rowLong", "[I", true)
  | 30 => ("BlockStageModel", "row", "[I", true)
  | 31 => ("BlockStageModel", "state", "[I", true)
  | 32 => ("BlockStageModel", "at", "[I", true)
  | 33 => ("BlockStageModel", "refusal", "[I", true)
  | 34 => ("BlockStageModel", "turns", "[I", true)
  | 35 => ("BlockStageModel", "fromAbove", "[Z", true)
  | 36 => ("BlockStageModel", "isSent", "[Z", true)
  | 37 => ("BlockStageModel", "wasSent", "[Z", true)
  | 38 => ("BlockStageModel", "saids", "I", false)
  | 39 => ("BlockStageModel", "saidBy", "[I", true)
  | 40 => ("BlockStageModel", "saidWhat", "[I", true)
  | 41 => ("BlockStageModel", "saidAt", "[I", true)
  | 42 => ("BlockStageModel", "shown", "I", false)
  | 43 => ("BlockStageModel", "tape", "[I", true)
  | 44 => ("BlockStageModel", "taped", "I", false)
  | 45 => ("BlockStageModel", "parts", "I", false)
  | 46 => ("BlockStageModel", "when", "[I", true)
  | 47 => ("BlockStageModel", "field", "[I", true)
  | 48 => ("BlockStageModel", "fieldOf", "[I", true)
  | 49 => ("BlockStageModel", "op", "[I", true)
  | 50 => ("BlockStageModel", "bound", "[I", true)
  | 51 => ("BlockStageModel", "wasMarked", "Z", false)
  | 52 => ("BlockStageModel", "failsOn", "I", false)
  | 53 => ("BlockStageModel", "lostAt", "I", false)
  | 54 => ("BlockStageModel", "changes", "I", false)
  | 55 => ("BlockStageModel", "changeBlock", "[I", true)
  | 56 => ("BlockStageModel", "changeWhich", "[I", true)
  | 57 => ("BlockStageModel", "written", "[I", true)
  | 58 => ("BlockStageModel", "writtenMany", "I", false)
  | 59 => ("BlockStageModel", "ran", "I", false)
  | 60 => ("BlockStageModel", "trace", "[I", true)
  | 61 => ("BlockStageModel", "sort", "[I", true)
  | 62 => ("BlockStageModel", "many", "[I", true)
  | 63 => ("BlockStageModel", "items", "[I", true)
  | 64 => ("BlockStageModel", "wrong", "I", false)
  | 65 => ("BlockStageModel", "place", "I", false)
  | 66 => ("BlockStageModel", "isOff", "Z", false)
  | 67 => ("BlockStageModel", "whens", "[I", true)
  | 68 => ("BlockStageModel", "newWhen", "[I", true)
  | 69 => ("BlockStageModel", "newField", "[I", true)
  | 70 => ("BlockStageModel", "newOf", "[I", true)
  | 71 => ("BlockStageModel", "newOp", "[I", true)
  | 72 => ("BlockStageModel", "newBound", "[I", true)
  | 73 => ("BlockStageModel", "lost", "[I", true)
  | 74 => ("BlockStageModel", "once", "[Z", true)
  | 75 => ("BlockStageModel", "keptN", "[I", true)
  | 76 => ("BlockStageModel", "keptHole", "[I", true)
  | 77 => ("BlockStageModel", "keptIn", "[I", true)
  | 78 => ("BlockStageModel", "keptInHole", "[I", true)
  | 79 => ("BlockStageModel", "keptTopOf", "[I", true)
  | 80 => ("BlockStageModel", "keptTop", "[I", true)
  | _ => ("BlockStageModel", "moved", "[I", true)
def tyX12 : Nat → FieldType := fun k => match k with
  | 0 => .array .int
  | 1 => .array .int
  | 2 => .array .int
  | 3 => .array .int
  | 4 => .array .int
  | 5 => .array .int
  | 6 => .array .int
  | 7 => .int
  | 8 => .int
  | 9 => .array .int
  | 10 => .array .int
  | 11 => .array .int
  | 12 => .array .int
  | 13 => .array .int
  | 14 => .array .int
  | 15 => .int
  | 16 => .array .int
  | 17 => .array .int
  | 18 => .array .int
  | 19 => .array .int
  | 20 => .array .int
  | 21 => .int
  | 22 => .int
  | 23 => .array .int
  | 24 => .array .int
  | 25 => .array .int
  | 26 => .array .int
  | 27 => .array .int
  | 28 => .array .int
  | 29 => .array .int
  | 30 => .array .int
  | 31 => .array .int
  | 32 => .array .int
  | 33 => .array .int
  | 34 => .array .int
  | 35 => .array .boolean
  | 36 => .array .boolean
  | 37 => .array .boolean
  | 38 => .int
  | 39 => .array .int
  | 40 => .array .int
  | 41 => .array .int
  | 42 => .int
  | 43 => .array .int
  | 44 => .int
  | 45 => .int
  | 46 => .array .int
  | 47 => .array .int
  | 48 => .array .int
  | 49 => .array .int
  | 50 => .array .int
  | 51 => .boolean
  | 52 => .int
  | 53 => .int
  | 54 => .int
  | 55 => .array .int
  | 56 => .array .int
  | 57 => .array .int
  | 58 => .int
  | 59 => .int
  | 60 => .array .int
  | 61 => .array .int
  | 62 => .array .int
  | 63 => .array .int
  | 64 => .int
  | 65 => .int
  | 66 => .boolean
  | 67 => .array .int
  | 68 => .array .int
  | 69 => .array .int
  | 70 => .array .int
  | 71 => .array .int
  | 72 => .array .int
  | 73 => .array .int
  | 74 => .array .boolean
  | 75 => .array .int
  | 76 => .array .int
  | 77 => .array .int
  | 78 => .array .int
  | 79 => .array .int
  | 80 => .array .int
  | _ => .array .int
theorem nmX12 : ∀ a, a < 82 → ∀ b, b < 82 → a ≠ b → (TX12 a).2.1 ≠ (TX12 b).2.1 := by decide +kernel
theorem tyX12_ok : ∀ k, k < 82 → parseFieldDescriptor (TX12 k).2.2.1 = some (tyX12 k) := by decide +kernel
set_option maxRecDepth 100000 in
theorem inX0 : ∀ w ∈ u_ws RX0 TX0 2, w ∈ tables_1 ∧ goodWord w = true := wd_in _ [185, 187] (by decide +kernel) (by decide +kernel)
theorem inX1 : ∀ w ∈ u_ws RX1 TX1 0, w ∈ tables_1 ∧ goodWord w = true := fun _ h => absurd h List.not_mem_nil
set_option maxRecDepth 100000 in
theorem inX2 : ∀ w ∈ u_ws RX2 TX2 4, w ∈ tables_1 ∧ goodWord w = true := wd_in _ [955, 956, 957, 958] (by decide +kernel) (by decide +kernel)
set_option maxRecDepth 100000 in
theorem inX3 : ∀ w ∈ u_ws RX3 TX3 5, w ∈ tables_1 ∧ goodWord w = true := wd_in _ [43, 45, 47, 49, 51] (by decide +kernel) (by decide +kernel)
set_option maxRecDepth 100000 in
theorem inX4 : ∀ w ∈ u_ws RX4 TX4 4, w ∈ tables_1 ∧ goodWord w = true := wd_in _ [977, 978, 979, 980] (by decide +kernel) (by decide +kernel)
set_option maxRecDepth 100000 in
theorem inX5 : ∀ w ∈ u_ws RX5 TX5 14, w ∈ tables_1 ∧ goodWord w = true := wd_in _ [142, 144, 146, 148, 150, 152, 154, 156, 158, 160, 162, 164, 166, 168] (by decide +kernel) (by decide +kernel)
set_option maxRecDepth 100000 in
theorem inX6 : ∀ w ∈ u_ws RX6 TX6 4, w ∈ tables_1 ∧ goodWord w = true := wd_in _ [969, 970, 971, 972] (by decide +kernel) (by decide +kernel)
set_option maxRecDepth 100000 in
theorem inX7 : ∀ w ∈ u_ws RX7 TX7 3, w ∈ tables_1 ∧ goodWord w = true := wd_in _ [228, 230, 232] (by decide +kernel) (by decide +kernel)
set_option maxRecDepth 100000 in
theorem inX8 : ∀ w ∈ u_ws RX8 TX8 4, w ∈ tables_1 ∧ goodWord w = true := wd_in _ [943, 945, 947, 949] (by decide +kernel) (by decide +kernel)
set_option maxRecDepth 100000 in
theorem inX9 : ∀ w ∈ u_ws RX9 TX9 10, w ∈ tables_1 ∧ goodWord w = true := wd_in _ [89, 91, 93, 95, 97, 99, 101, 103, 105, 107] (by decide +kernel) (by decide +kernel)
set_option maxRecDepth 100000 in
theorem inX10 : ∀ w ∈ u_ws RX10 TX10 7, w ∈ tables_1 ∧ goodWord w = true := wd_in _ [204, 206, 208, 210, 212, 214, 216] (by decide +kernel) (by decide +kernel)
set_option maxRecDepth 100000 in
theorem inX11 : ∀ w ∈ u_ws RX11 TX11 18, w ∈ tables_1 ∧ goodWord w = true := wd_in _ [253, 255, 257, 259, 261, 263, 265, 267, 269, 271, 273, 275, 277, 279, 281, 283, 285, 287] (by decide +kernel) (by decide +kernel)
set_option maxRecDepth 100000 in
theorem inX12 : ∀ w ∈ u_ws RX12 TX12 82, w ∈ tables_1 ∧ goodWord w = true := wd_in _ [1197, 1199, 1201, 1203, 1205, 1207, 1209, 1211, 1213, 1215, 1217, 1219, 1221, 1223, 1225, 1227, 1229, 1231, 1233, 1235, 1237, 1239, 1241, 1243, 1245, 1247, 1249, 1251, 1253, 1255, 1257, 1259, 1261, 1263, 1265, 1267, 1269, 1271, 1273, 1275, 1277, 1279, 1281, 1283, 1285, 1287, 1289, 1291, 1293, 1295, 1297, 1299, 1301, 1303, 1305, 1307, 1309, 1311, 1313, 1315, 1317, 1319, 1321, 1323, 1325, 1327, 1329, 1331, 1333, 1335, 1337, 1339, 1341, 1343, 1345, 1347, 1349, 1351, 1353, 1355, 1357, 1359] (by decide +kernel) (by decide +kernel)
def vwCl : List vw_C := [(RX0, TX0, 2), (RX1, TX1, 0), (RX2, TX2, 4), (RX3, TX3, 5), (RX4, TX4, 4), (RX5, TX5, 14), (RX6, TX6, 4), (RX7, TX7, 3), (RX8, TX8, 4), (RX9, TX9, 10), (RX10, TX10, 7), (RX11, TX11, 18), (RX12, TX12, 82)]
