def RX0 : String := "CopiedPages$Disk"
def TX0 : u_T := fun k => match k with
  | 0 => ("CopiedPages$Disk", "kind", "[I", true)
  | 1 => ("CopiedPages$Disk", "size", "[I", true)
  | 2 => ("CopiedPages$Disk", "wear", "[I", true)
  | 3 => ("CopiedPages$Disk", "next", "[I", true)
  | 4 => ("CopiedPages$Disk", "first", "[I", true)
  | 5 => ("CopiedPages$Disk", "second", "[I", true)
  | _ => ("CopiedPages$Disk", "heads", "[I", true)
def tyX0 : Nat → FieldType := fun k => match k with
  | 0 => .array .int
  | 1 => .array .int
  | 2 => .array .int
  | 3 => .array .int
  | 4 => .array .int
  | 5 => .array .int
  | _ => .array .int
theorem nmX0 : ∀ a, a < 7 → ∀ b, b < 7 → a ≠ b → (TX0 a).2.1 ≠ (TX0 b).2.1 := by decide +kernel
theorem tyX0_ok : ∀ k, k < 7 → parseFieldDescriptor (TX0 k).2.2.1 = some (tyX0 k) := by decide +kernel
def RX1 : String := "CopiedPages$Draft"
def TX1 : u_T := fun k => match k with
  | 0 => ("CopiedPages$Draft", "kind", "[I", true)
  | 1 => ("CopiedPages$Draft", "size", "[I", true)
  | 2 => ("CopiedPages$Draft", "first", "[I", true)
  | 3 => ("CopiedPages$Draft", "second", "[I", true)
  | 4 => ("CopiedPages$Draft", "fresh", "[I", true)
  | 5 => ("CopiedPages$Draft", "left", "[I", true)
  | 6 => ("CopiedPages$Draft", "way", "[I", true)
  | 7 => ("CopiedPages$Draft", "slot", "[I", true)
  | 8 => ("CopiedPages$Draft", "levels", "I", false)
  | 9 => ("CopiedPages$Draft", "nodes", "I", false)
  | 10 => ("CopiedPages$Draft", "root", "I", false)
  | 11 => ("CopiedPages$Draft", "altered", "Z", false)
  | _ => ("CopiedPages$Draft", "tooBig", "Z", false)
def tyX1 : Nat → FieldType := fun k => match k with
  | 0 => .array .int
  | 1 => .array .int
  | 2 => .array .int
  | 3 => .array .int
  | 4 => .array .int
  | 5 => .array .int
  | 6 => .array .int
  | 7 => .array .int
  | 8 => .int
  | 9 => .int
  | 10 => .int
  | 11 => .boolean
  | _ => .boolean
theorem nmX1 : ∀ a, a < 13 → ∀ b, b < 13 → a ≠ b → (TX1 a).2.1 ≠ (TX1 b).2.1 := by decide +kernel
theorem tyX1_ok : ∀ k, k < 13 → parseFieldDescriptor (TX1 k).2.2.1 = some (tyX1 k) := by decide +kernel
def RX2 : String := "CopiedPages$FreeList"
def TX2 : u_T := fun k => match k with
  | 0 => ("CopiedPages$FreeList", "freed", "[I", true)
  | 1 => ("CopiedPages$FreeList", "slip", "[I", true)
  | 2 => ("CopiedPages$FreeList", "rows", "I", false)
  | _ => ("CopiedPages$FreeList", "limit", "I", false)
def tyX2 : Nat → FieldType := fun k => match k with
  | 0 => .array .int
  | 1 => .array .int
  | 2 => .int
  | _ => .int
theorem nmX2 : ∀ a, a < 4 → ∀ b, b < 4 → a ≠ b → (TX2 a).2.1 ≠ (TX2 b).2.1 := by decide +kernel
theorem tyX2_ok : ∀ k, k < 4 → parseFieldDescriptor (TX2 k).2.2.1 = some (tyX2 k) := by decide +kernel
def RX3 : String := "CopiedPages$History"
def TX3 : u_T := fun k => match k with
  | 0 => ("CopiedPages$History", "states", "[LCopiedPages$State;", true)
  | 1 => ("CopiedPages$History", "acts", "I", false)
  | _ => ("CopiedPages$History", "next", "I", false)
def tyX3 : Nat → FieldType := fun k => match k with
  | 0 => .array (.object "CopiedPages$State")
  | 1 => .int
  | _ => .int
theorem nmX3 : ∀ a, a < 3 → ∀ b, b < 3 → a ≠ b → (TX3 a).2.1 ≠ (TX3 b).2.1 := by decide +kernel
theorem tyX3_ok : ∀ k, k < 3 → parseFieldDescriptor (TX3 k).2.2.1 = some (tyX3 k) := by decide +kernel
def RX4 : String := "CopiedPages$Law"
def TX4 : u_T := fun k => match k with
  | 0 => ("CopiedPages$Law", "lines", "I", false)
  | 1 => ("CopiedPages$Law", "lineWord", "[I", true)
  | 2 => ("CopiedPages$Law", "lineNumber", "[I", true)
  | 3 => ("CopiedPages$Law", "lineEnd", "[I", true)
  | 4 => ("CopiedPages$Law", "codes", "[I", true)
  | 5 => ("CopiedPages$Law", "codeCount", "I", false)
  | _ => ("CopiedPages$Law", "stack", "[I", true)
def tyX4 : Nat → FieldType := fun k => match k with
  | 0 => .int
  | 1 => .array .int
  | 2 => .array .int
  | 3 => .array .int
  | 4 => .array .int
  | 5 => .int
  | _ => .array .int
theorem nmX4 : ∀ a, a < 7 → ∀ b, b < 7 → a ≠ b → (TX4 a).2.1 ≠ (TX4 b).2.1 := by decide +kernel
theorem tyX4_ok : ∀ k, k < 7 → parseFieldDescriptor (TX4 k).2.2.1 = some (tyX4 k) := by decide +kernel
def RX5 : String := "CopiedPages$LawText"
def TX5 : u_T := fun k => match k with
  | 0 => ("CopiedPages$LawText", "tape", "LCopiedPages$Tape;", true)
  | _ => ("CopiedPages$LawText", "law", "LCopiedPages$Law;", true)
def tyX5 : Nat → FieldType := fun k => match k with
  | 0 => .object "CopiedPages$Tape"
  | _ => .object "CopiedPages$Law"
theorem nmX5 : ∀ a, a < 2 → ∀ b, b < 2 → a ≠ b → (TX5 a).2.1 ≠ (TX5 b).2.1 := by decide +kernel
theorem tyX5_ok : ∀ k, k < 2 → parseFieldDescriptor (TX5 k).2.2.1 = some (tyX5 k) := by decide +kernel
def RX6 : String := "CopiedPages$Plan"
def TX6 : u_T := fun k => match k with
  | 0 => ("CopiedPages$Plan", "draft", "LCopiedPages$Draft;", true)
  | 1 => ("CopiedPages$Plan", "free", "LCopiedPages$FreeList;", true)
  | 2 => ("CopiedPages$Plan", "owner", "[I", true)
  | 3 => ("CopiedPages$Plan", "pageOfNode", "[I", true)
  | 4 => ("CopiedPages$Plan", "slips", "[I", true)
  | 5 => ("CopiedPages$Plan", "slipCount", "I", false)
  | 6 => ("CopiedPages$Plan", "rowPage", "[I", true)
  | 7 => ("CopiedPages$Plan", "rowFreed", "[I", true)
  | 8 => ("CopiedPages$Plan", "rowCount", "I", false)
  | 9 => ("CopiedPages$Plan", "order", "[I", true)
  | 10 => ("CopiedPages$Plan", "writes", "I", false)
  | 11 => ("CopiedPages$Plan", "number", "I", false)
  | 12 => ("CopiedPages$Plan", "high", "I", false)
  | 13 => ("CopiedPages$Plan", "cursor", "I", false)
  | _ => ("CopiedPages$Plan", "facts", "[I", true)
def tyX6 : Nat → FieldType := fun k => match k with
  | 0 => .object "CopiedPages$Draft"
  | 1 => .object "CopiedPages$FreeList"
  | 2 => .array .int
  | 3 => .array .int
  | 4 => .array .int
  | 5 => .int
  | 6 => .array .int
  | 7 => .array .int
  | 8 => .int
  | 9 => .array .int
  | 10 => .int
  | 11 => .int
  | 12 => .int
  | 13 => .int
  | _ => .array .int
theorem nmX6 : ∀ a, a < 15 → ∀ b, b < 15 → a ≠ b → (TX6 a).2.1 ≠ (TX6 b).2.1 := by decide +kernel
theorem tyX6_ok : ∀ k, k < 15 → parseFieldDescriptor (TX6 k).2.2.1 = some (tyX6 k) := by decide +kernel
def RX7 : String := "CopiedPages$State"
def TX7 : u_T := fun k => match k with
  | 0 => ("CopiedPages$State", "disk", "LCopiedPages$Disk;", true)
  | 1 => ("CopiedPages$State", "readerVersion", "[I", true)
  | 2 => ("CopiedPages$State", "readerTree", "[I", true)
  | 3 => ("CopiedPages$State", "changeKey", "[I", true)
  | 4 => ("CopiedPages$State", "changeValue", "[I", true)
  | 5 => ("CopiedPages$State", "changes", "I", false)
  | 6 => ("CopiedPages$State", "risk", "I", false)
  | 7 => ("CopiedPages$State", "cost", "I", false)
  | 8 => ("CopiedPages$State", "tick", "I", false)
  | 9 => ("CopiedPages$State", "seed", "I", false)
  | 10 => ("CopiedPages$State", "texts", "I", false)
  | 11 => ("CopiedPages$State", "logCells", "[I", true)
  | 12 => ("CopiedPages$State", "logCount", "I", false)
  | _ => ("CopiedPages$State", "logNext", "I", false)
def tyX7 : Nat → FieldType := fun k => match k with
  | 0 => .object "CopiedPages$Disk"
  | 1 => .array .int
  | 2 => .array .int
  | 3 => .array .int
  | 4 => .array .int
  | 5 => .int
  | 6 => .int
  | 7 => .int
  | 8 => .int
  | 9 => .int
  | 10 => .int
  | 11 => .array .int
  | 12 => .int
  | _ => .int
theorem nmX7 : ∀ a, a < 14 → ∀ b, b < 14 → a ≠ b → (TX7 a).2.1 ≠ (TX7 b).2.1 := by decide +kernel
theorem tyX7_ok : ∀ k, k < 14 → parseFieldDescriptor (TX7 k).2.2.1 = some (tyX7 k) := by decide +kernel
def RX8 : String := "CopiedPages$Tape"
def TX8 : u_T := fun k => match k with
  | 0 => ("CopiedPages$Tape", "bytes", "[I", true)
  | 1 => ("CopiedPages$Tape", "length", "I", false)
  | 2 => ("CopiedPages$Tape", "things", "[I", true)
  | 3 => ("CopiedPages$Tape", "begins", "[I", true)
  | 4 => ("CopiedPages$Tape", "tells", "[I", true)
  | 5 => ("CopiedPages$Tape", "met", "I", false)
  | _ => ("CopiedPages$Tape", "wrong", "I", false)
def tyX8 : Nat → FieldType := fun k => match k with
  | 0 => .array .int
  | 1 => .int
  | 2 => .array .int
  | 3 => .array .int
  | 4 => .array .int
  | 5 => .int
  | _ => .int
theorem nmX8 : ∀ a, a < 7 → ∀ b, b < 7 → a ≠ b → (TX8 a).2.1 ≠ (TX8 b).2.1 := by decide +kernel
theorem tyX8_ok : ∀ k, k < 7 → parseFieldDescriptor (TX8 k).2.2.1 = some (tyX8 k) := by decide +kernel
def RX9 : String := "CopiedPages$Walk"
def TX9 : u_T := fun k => match k with
  | 0 => ("CopiedPages$Walk", "values", "[I", true)
  | 1 => ("CopiedPages$Walk", "beneath", "[I", true)
  | 2 => ("CopiedPages$Walk", "keys", "I", false)
  | 3 => ("CopiedPages$Walk", "depth", "I", false)
  | _ => ("CopiedPages$Walk", "size", "I", false)
def tyX9 : Nat → FieldType := fun k => match k with
  | 0 => .array .int
  | 1 => .array .int
  | 2 => .int
  | 3 => .int
  | _ => .int
theorem nmX9 : ∀ a, a < 5 → ∀ b, b < 5 → a ≠ b → (TX9 a).2.1 ≠ (TX9 b).2.1 := by decide +kernel
theorem tyX9_ok : ∀ k, k < 5 → parseFieldDescriptor (TX9 k).2.2.1 = some (tyX9 k) := by decide +kernel
def RX10 : String := "CopiedPages$WorkText"
def TX10 : u_T := fun k => match k with
  | 0 => ("CopiedPages$WorkText", "tape", "LCopiedPages$Tape;", true)
  | 1 => ("CopiedPages$WorkText", "keys", "[I", true)
  | 2 => ("CopiedPages$WorkText", "values", "[I", true)
  | 3 => ("CopiedPages$WorkText", "changes", "I", false)
  | 4 => ("CopiedPages$WorkText", "risk", "I", false)
  | _ => ("CopiedPages$WorkText", "tick", "I", false)
def tyX10 : Nat → FieldType := fun k => match k with
  | 0 => .object "CopiedPages$Tape"
  | 1 => .array .int
  | 2 => .array .int
  | 3 => .int
  | 4 => .int
  | _ => .int
theorem nmX10 : ∀ a, a < 6 → ∀ b, b < 6 → a ≠ b → (TX10 a).2.1 ≠ (TX10 b).2.1 := by decide +kernel
theorem tyX10_ok : ∀ k, k < 6 → parseFieldDescriptor (TX10 k).2.2.1 = some (tyX10 k) := by decide +kernel
def RX11 : String := "CopiedPages"
def TX11 : u_T := fun k => match k with
  | 0 => ("CopiedPages", "tape", "LCopiedPages$Tape;", true)
  | 1 => ("CopiedPages", "now", "LCopiedPages$State;", true)
  | 2 => ("CopiedPages", "spare", "LCopiedPages$State;", true)
  | 3 => ("CopiedPages", "kept", "LCopiedPages$State;", true)
  | 4 => ("CopiedPages", "isKept", "Z", false)
  | 5 => ("CopiedPages", "theLaw", "LCopiedPages$Law;", true)
  | 6 => ("CopiedPages", "lawRead", "LCopiedPages$Law;", true)
  | 7 => ("CopiedPages", "lawKept", "LCopiedPages$Law;", true)
  | 8 => ("CopiedPages", "lawText", "LCopiedPages$LawText;", true)
  | 9 => ("CopiedPages", "workText", "LCopiedPages$WorkText;", true)
  | 10 => ("CopiedPages", "history", "LCopiedPages$History;", true)
  | 11 => ("CopiedPages", "plan", "LCopiedPages$Plan;", true)
  | 12 => ("CopiedPages", "free", "LCopiedPages$FreeList;", true)
  | 13 => ("CopiedPages", "walks", "[LCopiedPages$Walk;", true)
  | 14 => ("CopiedPages", "tickKey", "[I", true)
  | 15 => ("CopiedPages", "tickValue", "[I", true)
  | 16 => ("CopiedPages", "partner", "[I", true)
  | 17 => ("CopiedPages", "bestPartner", "[I", true)
  | 18 => ("CopiedPages", "mostShared", "I", false)
  | _ => ("CopiedPages", "buffers", "[I", true)
def tyX11 : Nat → FieldType := fun k => match k with
  | 0 => .object "CopiedPages$Tape"
  | 1 => .object "CopiedPages$State"
  | 2 => .object "CopiedPages$State"
  | 3 => .object "CopiedPages$State"
  | 4 => .boolean
  | 5 => .object "CopiedPages$Law"
  | 6 => .object "CopiedPages$Law"
  | 7 => .object "CopiedPages$Law"
  | 8 => .object "CopiedPages$LawText"
  | 9 => .object "CopiedPages$WorkText"
  | 10 => .object "CopiedPages$History"
  | 11 => .object "CopiedPages$Plan"
  | 12 => .object "CopiedPages$FreeList"
  | 13 => .array (.object "CopiedPages$Walk")
  | 14 => .array .int
  | 15 => .array .int
  | 16 => .array .int
  | 17 => .array .int
  | 18 => .int
  | _ => .array .int
theorem nmX11 : ∀ a, a < 20 → ∀ b, b < 20 → a ≠ b → (TX11 a).2.1 ≠ (TX11 b).2.1 := by decide +kernel
theorem tyX11_ok : ∀ k, k < 20 → parseFieldDescriptor (TX11 k).2.2.1 = some (tyX11 k) := by decide +kernel
def RX12 : String := "CopiedPagesModel"
def TX12 : u_T := fun k => match k with
  | 0 => ("CopiedPagesModel", "thrown", "I", false)
  | 1 => ("CopiedPagesModel", "m", "[I", true)
  | 2 => ("CopiedPagesModel", "kept", "[I", true)
  | 3 => ("CopiedPagesModel", "hasImage", "Z", false)
  | 4 => ("CopiedPagesModel", "aside", "[I", true)
  | 5 => ("CopiedPagesModel", "acts", "[I", true)
  | 6 => ("CopiedPagesModel", "acted", "I", false)
  | 7 => ("CopiedPagesModel", "tape", "[I", true)
  | 8 => ("CopiedPagesModel", "taped", "I", false)
  | 9 => ("CopiedPagesModel", "base", "I", false)
  | 10 => ("CopiedPagesModel", "end", "I", false)
  | 11 => ("CopiedPagesModel", "at", "I", false)
  | 12 => ("CopiedPagesModel", "fault", "I", false)
  | 13 => ("CopiedPagesModel", "deep", "I", false)
  | 14 => ("CopiedPagesModel", "fact", "[I", true)
  | 15 => ("CopiedPagesModel", "risks", "I", false)
  | 16 => ("CopiedPagesModel", "costs", "I", false)
  | 17 => ("CopiedPagesModel", "cKey", "[I", true)
  | 18 => ("CopiedPagesModel", "cVal", "[I", true)
  | 19 => ("CopiedPagesModel", "cMany", "I", false)
  | 20 => ("CopiedPagesModel", "nodeKind", "[I", true)
  | 21 => ("CopiedPagesModel", "nodeRows", "[I", true)
  | 22 => ("CopiedPagesModel", "nodeA", "[I", true)
  | 23 => ("CopiedPagesModel", "nodeB", "[I", true)
  | 24 => ("CopiedPagesModel", "pageOf", "[I", true)
  | 25 => ("CopiedPagesModel", "nodes", "I", false)
  | 26 => ("CopiedPagesModel", "root", "I", false)
  | 27 => ("CopiedPagesModel", "way", "[I", true)
  | 28 => ("CopiedPagesModel", "turns", "[I", true)
  | 29 => ("CopiedPagesModel", "altered", "Z", false)
  | 30 => ("CopiedPagesModel", "left", "[Z", true)
  | 31 => ("CopiedPagesModel", "taken", "[Z", true)
  | 32 => ("CopiedPagesModel", "freed", "[I", true)
  | 33 => ("CopiedPagesModel", "slips", "[I", true)
  | 34 => ("CopiedPagesModel", "slipMany", "I", false)
  | 35 => ("CopiedPagesModel", "high", "I", false)
  | 36 => ("CopiedPagesModel", "full", "Z", false)
  | 37 => ("CopiedPagesModel", "planned", "[I", true)
  | 38 => ("CopiedPagesModel", "writes", "[I", true)
  | 39 => ("CopiedPagesModel", "writeMany", "I", false)
  | 40 => ("CopiedPagesModel", "made", "I", false)
  | 41 => ("CopiedPagesModel", "seenBy", "[I", true)
  | 42 => ("CopiedPagesModel", "values", "[I", true)
  | 43 => ("CopiedPagesModel", "wrongs", "[I", true)
  | 44 => ("CopiedPagesModel", "best", "[I", true)
  | _ => ("CopiedPagesModel", "had", "[I", true)
def tyX12 : Nat → FieldType := fun k => match k with
  | 0 => .int
  | 1 => .array .int
  | 2 => .array .int
  | 3 => .boolean
  | 4 => .array .int
  | 5 => .array .int
  | 6 => .int
  | 7 => .array .int
  | 8 => .int
  | 9 => .int
  | 10 => .int
  | 11 => .int
  | 12 => .int
  | 13 => .int
  | 14 => .array .int
  | 15 => .int
  | 16 => .int
  | 17 => .array .int
  | 18 => .array .int
  | 19 => .int
  | 20 => .array .int
  | 21 => .array .int
  | 22 => .array .int
  | 23 => .array .int
  | 24 => .array .int
  | 25 => .int
  | 26 => .int
  | 27 => .array .int
  | 28 => .array .int
  | 29 => .boolean
  | 30 => .array .boolean
  | 31 => .array .boolean
  | 32 => .array .int
  | 33 => .array .int
  | 34 => .int
  | 35 => .int
  | 36 => .boolean
  | 37 => .array .int
  | 38 => .array .int
  | 39 => .int
  | 40 => .int
  | 41 => .array .int
  | 42 => .array .int
  | 43 => .array .int
  | 44 => .array .int
  | _ => .array .int
theorem nmX12 : ∀ a, a < 46 → ∀ b, b < 46 → a ≠ b → (TX12 a).2.1 ≠ (TX12 b).2.1 := by decide +kernel
theorem tyX12_ok : ∀ k, k < 46 → parseFieldDescriptor (TX12 k).2.2.1 = some (tyX12 k) := by decide +kernel
def RL : String := "CopiedPagesLaw"
/-- the classes whose objects the heap holds -/
abbrev ex_cl : List vw_C := [(RX0, TX0, 7), (RX1, TX1, 13), (RX2, TX2, 4), (RX3, TX3, 3), (RX4, TX4, 7), (RX5, TX5, 2), (RX6, TX6, 15), (RX7, TX7, 14), (RX8, TX8, 7), (RX9, TX9, 5), (RX10, TX10, 6), (RX11, TX11, 20), (RX12, TX12, 46)]
/-- the String constants: class, entry, text; and their bytes -/
def ex_str : List (String × Nat × String) := [("CopiedPages$Tape", 48, "put drop risk spare cost if or and not head slip even page kind wear rows version readers tick"), ("CopiedPagesModel", 173, "risk"), ("CopiedPagesModel", 262, "spare"), ("CopiedPagesModel", 264, "cost"), ("CopiedPagesModel", 266, "if"), ("CopiedPagesModel", 244, "not"), ("CopiedPagesModel", 235, "head"), ("CopiedPagesModel", 237, "slip"), ("CopiedPagesModel", 239, "even"), ("CopiedPagesModel", 220, "page"), ("CopiedPagesModel", 222, "kind"), ("CopiedPagesModel", 224, "wear"), ("CopiedPagesModel", 226, "rows"), ("CopiedPagesModel", 228, "version"), ("CopiedPagesModel", 230, "readers"), ("CopiedPagesModel", 178, "tick"), ("CopiedPagesModel", 255, "and"), ("CopiedPagesModel", 260, "or"), ("CopiedPagesModel", 165, "put"), ("CopiedPagesModel", 171, "drop")]
def ex_byt : List (List Int32) := [[112, 117, 116, 32, 100, 114, 111, 112, 32, 114, 105, 115, 107, 32, 115, 112, 97, 114, 101, 32, 99, 111, 115, 116, 32, 105, 102, 32, 111, 114, 32, 97, 110, 100, 32, 110, 111, 116, 32, 104, 101, 97, 100, 32, 115, 108, 105, 112, 32, 101, 118, 101, 110, 32, 112, 97, 103, 101, 32, 107, 105, 110, 100, 32, 119, 101, 97, 114, 32, 114, 111, 119, 115, 32, 118, 101, 114, 115, 105, 111, 110, 32, 114, 101, 97, 100, 101, 114, 115, 32, 116, 105, 99, 107], [114, 105, 115, 107], [115, 112, 97, 114, 101], [99, 111, 115, 116], [105, 102], [110, 111, 116], [104, 101, 97, 100], [115, 108, 105, 112], [101, 118, 101, 110], [112, 97, 103, 101], [107, 105, 110, 100], [119, 101, 97, 114], [114, 111, 119, 115], [118, 101, 114, 115, 105, 111, 110], [114, 101, 97, 100, 101, 114, 115], [116, 105, 99, 107], [97, 110, 100], [111, 114], [112, 117, 116], [100, 114, 111, 112]]
def ex_len0 : List Nat := [94, 4, 5, 4, 2, 3, 4, 4, 4, 4, 4, 4, 4, 7, 7, 4, 3, 2, 3, 4]
