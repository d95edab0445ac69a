/-! classes whose objects the worlds hold: names, fields in the order of their slots, types -/
def R0 : String := "BracketHouse$Asker"
def T0 : u_T := fun k => match k with
  | 0 => ("BracketHouse$Asker", "sums", "LBracketHouse$Sums;", true)
  | 1 => ("BracketHouse$Asker", "words", "[I", true)
  | _ => ("BracketHouse$Asker", "told", "I", false)
def ft0 : Nat → FieldType := fun k => match k with
  | 0 => .object "BracketHouse$Sums"
  | 1 => .array .int
  | _ => .int
theorem fn0 : ∀ a, a < 3 → ∀ b, b < 3 → a ≠ b → (T0 a).2.1 ≠ (T0 b).2.1 := by decide +kernel
theorem fo0 : ∀ k, k < 3 → parseFieldDescriptor (T0 k).2.2.1 = some (ft0 k) := by decide +kernel
def R1 : String := "BracketHouse$Deeds"
def T1 : u_T := fun k => match k with
  | 0 => ("BracketHouse$Deeds", "size", "I", false)
  | 1 => ("BracketHouse$Deeds", "asker", "LBracketHouse$Asker;", true)
  | 2 => ("BracketHouse$Deeds", "state", "LBracketHouse$State;", true)
  | 3 => ("BracketHouse$Deeds", "kinds", "[I", true)
  | 4 => ("BracketHouse$Deeds", "places", "[I", true)
  | _ => ("BracketHouse$Deeds", "signs", "[I", true)
def ft1 : Nat → FieldType := fun k => match k with
  | 0 => .int
  | 1 => .object "BracketHouse$Asker"
  | 2 => .object "BracketHouse$State"
  | 3 => .array .int
  | 4 => .array .int
  | _ => .array .int
theorem fn1 : ∀ a, a < 6 → ∀ b, b < 6 → a ≠ b → (T1 a).2.1 ≠ (T1 b).2.1 := by decide +kernel
theorem fo1 : ∀ k, k < 6 → parseFieldDescriptor (T1 k).2.2.1 = some (ft1 k) := by decide +kernel
def R2 : String := "BracketHouse$Grammar"
def T2 : u_T := fun k => match k with
  | 0 => ("BracketHouse$Grammar", "text", "LBracketHouse$Text;", true)
  | 1 => ("BracketHouse$Grammar", "fault", "I", false)
  | 2 => ("BracketHouse$Grammar", "tape", "LBracketHouse$Tape;", true)
  | 3 => ("BracketHouse$Grammar", "ofOrders", "Z", false)
  | 4 => ("BracketHouse$Grammar", "next", "I", false)
  | 5 => ("BracketHouse$Grammar", "token", "I", false)
  | 6 => ("BracketHouse$Grammar", "parts", "I", false)
  | _ => ("BracketHouse$Grammar", "nested", "I", false)
def ft2 : Nat → FieldType := fun k => match k with
  | 0 => .object "BracketHouse$Text"
  | 1 => .int
  | 2 => .object "BracketHouse$Tape"
  | 3 => .boolean
  | 4 => .int
  | 5 => .int
  | 6 => .int
  | _ => .int
theorem fn2 : ∀ a, a < 8 → ∀ b, b < 8 → a ≠ b → (T2 a).2.1 ≠ (T2 b).2.1 := by decide +kernel
theorem fo2 : ∀ k, k < 8 → parseFieldDescriptor (T2 k).2.2.1 = some (ft2 k) := by decide +kernel
def R3 : String := "BracketHouse$Numbering"
def T3 : u_T := fun k => match k with
  | 0 => ("BracketHouse$Numbering", "ways", "[[J", true)
  | 1 => ("BracketHouse$Numbering", "open", "[I", true)
  | 2 => ("BracketHouse$Numbering", "parts", "[J", true)
  | _ => ("BracketHouse$Numbering", "partsNext", "[J", true)
def ft3 : Nat → FieldType := fun k => match k with
  | 0 => .array (.array .long)
  | 1 => .array .int
  | 2 => .array .long
  | _ => .array .long
theorem fn3 : ∀ a, a < 4 → ∀ b, b < 4 → a ≠ b → (T3 a).2.1 ≠ (T3 b).2.1 := by decide +kernel
theorem fo3 : ∀ k, k < 4 → parseFieldDescriptor (T3 k).2.2.1 = some (ft3 k) := by decide +kernel
def R4 : String := "BracketHouse$Paper"
def T4 : u_T := fun k => match k with
  | 0 => ("BracketHouse$Paper", "mendCost", "I", false)
  | 1 => ("BracketHouse$Paper", "mendSigns", "I", false)
  | 2 => ("BracketHouse$Paper", "runLength", "I", false)
  | 3 => ("BracketHouse$Paper", "runFirst", "I", false)
  | 4 => ("BracketHouse$Paper", "surplus", "I", false)
  | 5 => ("BracketHouse$Paper", "takenFirst", "I", false)
  | 6 => ("BracketHouse$Paper", "hideCost", "I", false)
  | 7 => ("BracketHouse$Paper", "hideKind", "I", false)
  | 8 => ("BracketHouse$Paper", "hideOpens", "I", false)
  | 9 => ("BracketHouse$Paper", "hideCloses", "I", false)
  | 10 => ("BracketHouse$Paper", "struck", "[Z", true)
  | 11 => ("BracketHouse$Paper", "asker", "LBracketHouse$Asker;", true)
  | 12 => ("BracketHouse$Paper", "trial", "LBracketHouse$Row;", true)
  | 13 => ("BracketHouse$Paper", "prices", "[[I", true)
  | 14 => ("BracketHouse$Paper", "best", "[[I", true)
  | 15 => ("BracketHouse$Paper", "stakes", "[I", true)
  | _ => ("BracketHouse$Paper", "open", "[I", true)
def ft4 : Nat → FieldType := fun k => match k with
  | 0 => .int
  | 1 => .int
  | 2 => .int
  | 3 => .int
  | 4 => .int
  | 5 => .int
  | 6 => .int
  | 7 => .int
  | 8 => .int
  | 9 => .int
  | 10 => .array .boolean
  | 11 => .object "BracketHouse$Asker"
  | 12 => .object "BracketHouse$Row"
  | 13 => .array (.array .int)
  | 14 => .array (.array .int)
  | 15 => .array .int
  | _ => .array .int
theorem fn4 : ∀ a, a < 17 → ∀ b, b < 17 → a ≠ b → (T4 a).2.1 ≠ (T4 b).2.1 := by decide +kernel
theorem fo4 : ∀ k, k < 17 → parseFieldDescriptor (T4 k).2.2.1 = some (ft4 k) := by decide +kernel
def R5 : String := "BracketHouse$Row"
def T5 : u_T := fun k => match k with
  | 0 => ("BracketHouse$Row", "signs", "[I", true)
  | 1 => ("BracketHouse$Row", "length", "I", false)
  | 2 => ("BracketHouse$Row", "mates", "[I", true)
  | 3 => ("BracketHouse$Row", "depths", "[I", true)
  | 4 => ("BracketHouse$Row", "open", "[I", true)
  | 5 => ("BracketHouse$Row", "loose", "I", false)
  | _ => ("BracketHouse$Row", "paired", "Z", false)
def ft5 : Nat → FieldType := fun k => match k with
  | 0 => .array .int
  | 1 => .int
  | 2 => .array .int
  | 3 => .array .int
  | 4 => .array .int
  | 5 => .int
  | _ => .boolean
theorem fn5 : ∀ a, a < 7 → ∀ b, b < 7 → a ≠ b → (T5 a).2.1 ≠ (T5 b).2.1 := by decide +kernel
theorem fo5 : ∀ k, k < 7 → parseFieldDescriptor (T5 k).2.2.1 = some (ft5 k) := by decide +kernel
def R6 : String := "BracketHouse$Runner"
def T6 : u_T := fun k => match k with
  | 0 => ("BracketHouse$Runner", "done", "I", false)
  | 1 => ("BracketHouse$Runner", "state", "LBracketHouse$State;", true)
  | 2 => ("BracketHouse$Runner", "deeds", "LBracketHouse$Deeds;", true)
  | 3 => ("BracketHouse$Runner", "stateBefore", "LBracketHouse$State;", true)
  | 4 => ("BracketHouse$Runner", "deedsBefore", "LBracketHouse$Deeds;", true)
  | 5 => ("BracketHouse$Runner", "sums", "LBracketHouse$Sums;", true)
  | 6 => ("BracketHouse$Runner", "words", "[I", true)
  | _ => ("BracketHouse$Runner", "latest", "I", false)
def ft6 : Nat → FieldType := fun k => match k with
  | 0 => .int
  | 1 => .object "BracketHouse$State"
  | 2 => .object "BracketHouse$Deeds"
  | 3 => .object "BracketHouse$State"
  | 4 => .object "BracketHouse$Deeds"
  | 5 => .object "BracketHouse$Sums"
  | 6 => .array .int
  | _ => .int
theorem fn6 : ∀ a, a < 8 → ∀ b, b < 8 → a ≠ b → (T6 a).2.1 ≠ (T6 b).2.1 := by decide +kernel
theorem fo6 : ∀ k, k < 8 → parseFieldDescriptor (T6 k).2.2.1 = some (ft6 k) := by decide +kernel
def R7 : String := "BracketHouse$State"
def T7 : u_T := fun k => match k with
  | 0 => ("BracketHouse$State", "row", "LBracketHouse$Row;", true)
  | 1 => ("BracketHouse$State", "terms", "[I", true)
  | 2 => ("BracketHouse$State", "laws", "[LBracketHouse$Text;", true)
  | 3 => ("BracketHouse$State", "lawCount", "I", false)
  | _ => ("BracketHouse$State", "force", "I", false)
def ft7 : Nat → FieldType := fun k => match k with
  | 0 => .object "BracketHouse$Row"
  | 1 => .array .int
  | 2 => .array (.object "BracketHouse$Text")
  | 3 => .int
  | _ => .int
theorem fn7 : ∀ a, a < 5 → ∀ b, b < 5 → a ≠ b → (T7 a).2.1 ≠ (T7 b).2.1 := by decide +kernel
theorem fo7 : ∀ k, k < 5 → parseFieldDescriptor (T7 k).2.2.1 = some (ft7 k) := by decide +kernel
def R8 : String := "BracketHouse$Sums"
def T8 : u_T := fun k => match k with
  | 0 => ("BracketHouse$Sums", "broken", "Z", false)
  | _ => ("BracketHouse$Sums", "stack", "[I", true)
def ft8 : Nat → FieldType := fun k => match k with
  | 0 => .boolean
  | _ => .array .int
theorem fn8 : ∀ a, a < 2 → ∀ b, b < 2 → a ≠ b → (T8 a).2.1 ≠ (T8 b).2.1 := by decide +kernel
theorem fo8 : ∀ k, k < 2 → parseFieldDescriptor (T8 k).2.2.1 = some (ft8 k) := by decide +kernel
def R9 : String := "BracketHouse$Tape"
def T9 : u_T := fun k => match k with
  | 0 => ("BracketHouse$Tape", "bytes", "[I", true)
  | 1 => ("BracketHouse$Tape", "size", "I", false)
  | 2 => ("BracketHouse$Tape", "tokens", "[I", true)
  | 3 => ("BracketHouse$Tape", "starts", "[I", true)
  | 4 => ("BracketHouse$Tape", "values", "[I", true)
  | 5 => ("BracketHouse$Tape", "count", "I", false)
  | _ => ("BracketHouse$Tape", "words", "[C", true)
def ft9 : Nat → FieldType := fun k => match k with
  | 0 => .array .int
  | 1 => .int
  | 2 => .array .int
  | 3 => .array .int
  | 4 => .array .int
  | 5 => .int
  | _ => .array .char
theorem fn9 : ∀ a, a < 7 → ∀ b, b < 7 → a ≠ b → (T9 a).2.1 ≠ (T9 b).2.1 := by decide +kernel
theorem fo9 : ∀ k, k < 7 → parseFieldDescriptor (T9 k).2.2.1 = some (ft9 k) := by decide +kernel
def R10 : String := "BracketHouse$Text"
def T10 : u_T := fun k => match k with
  | 0 => ("BracketHouse$Text", "kinds", "[I", true)
  | 1 => ("BracketHouse$Text", "firsts", "[I", true)
  | 2 => ("BracketHouse$Text", "seconds", "[I", true)
  | 3 => ("BracketHouse$Text", "tests", "[I", true)
  | 4 => ("BracketHouse$Text", "times", "[I", true)
  | 5 => ("BracketHouse$Text", "steps", "[I", true)
  | 6 => ("BracketHouse$Text", "values", "[I", true)
  | 7 => ("BracketHouse$Text", "clauses", "I", false)
  | _ => ("BracketHouse$Text", "size", "I", false)
def ft10 : Nat → FieldType := fun k => match k with
  | 0 => .array .int
  | 1 => .array .int
  | 2 => .array .int
  | 3 => .array .int
  | 4 => .array .int
  | 5 => .array .int
  | 6 => .array .int
  | 7 => .int
  | _ => .int
theorem fn10 : ∀ a, a < 9 → ∀ b, b < 9 → a ≠ b → (T10 a).2.1 ≠ (T10 b).2.1 := by decide +kernel
theorem fo10 : ∀ k, k < 9 → parseFieldDescriptor (T10 k).2.2.1 = some (ft10 k) := by decide +kernel
def R11 : String := "BracketHouse"
def T11 : u_T := fun k => match k with
  | 0 => ("BracketHouse", "state", "LBracketHouse$State;", true)
  | 1 => ("BracketHouse", "drawn", "LBracketHouse$State;", true)
  | 2 => ("BracketHouse", "images", "[LBracketHouse$State;", true)
  | 3 => ("BracketHouse", "kept", "[Z", true)
  | 4 => ("BracketHouse", "tape", "LBracketHouse$Tape;", true)
  | 5 => ("BracketHouse", "grammar", "LBracketHouse$Grammar;", true)
  | 6 => ("BracketHouse", "asker", "LBracketHouse$Asker;", true)
  | 7 => ("BracketHouse", "deeds", "LBracketHouse$Deeds;", true)
  | 8 => ("BracketHouse", "drawnDeeds", "LBracketHouse$Deeds;", true)
  | 9 => ("BracketHouse", "runner", "LBracketHouse$Runner;", true)
  | 10 => ("BracketHouse", "paper", "LBracketHouse$Paper;", true)
  | 11 => ("BracketHouse", "numbering", "LBracketHouse$Numbering;", true)
  | 12 => ("BracketHouse", "refused", "[I", true)
  | 13 => ("BracketHouse", "hasDrawn", "Z", false)
  | 14 => ("BracketHouse", "blots", "I", false)
  | 15 => ("BracketHouse", "stopped", "I", false)
  | _ => ("BracketHouse", "status", "I", false)
def ft11 : Nat → FieldType := fun k => match k with
  | 0 => .object "BracketHouse$State"
  | 1 => .object "BracketHouse$State"
  | 2 => .array (.object "BracketHouse$State")
  | 3 => .array .boolean
  | 4 => .object "BracketHouse$Tape"
  | 5 => .object "BracketHouse$Grammar"
  | 6 => .object "BracketHouse$Asker"
  | 7 => .object "BracketHouse$Deeds"
  | 8 => .object "BracketHouse$Deeds"
  | 9 => .object "BracketHouse$Runner"
  | 10 => .object "BracketHouse$Paper"
  | 11 => .object "BracketHouse$Numbering"
  | 12 => .array .int
  | 13 => .boolean
  | 14 => .int
  | 15 => .int
  | _ => .int
theorem fn11 : ∀ a, a < 17 → ∀ b, b < 17 → a ≠ b → (T11 a).2.1 ≠ (T11 b).2.1 := by decide +kernel
theorem fo11 : ∀ k, k < 17 → parseFieldDescriptor (T11 k).2.2.1 = some (ft11 k) := by decide +kernel
def R12 : String := "BracketHouseModel"
def T12 : u_T := fun k => match k with
  | 0 => ("BracketHouseModel", "status", "I", false)
  | 1 => ("BracketHouseModel", "refused", "[I", true)
  | 2 => ("BracketHouseModel", "kept", "[I", true)
  | 3 => ("BracketHouseModel", "images", "[I", true)
  | 4 => ("BracketHouseModel", "hasImage", "[Z", true)
  | 5 => ("BracketHouseModel", "aside", "[I", true)
  | 6 => ("BracketHouseModel", "blots0", "I", false)
  | 7 => ("BracketHouseModel", "words", "[B", true)
  | 8 => ("BracketHouseModel", "firstWord", "I", false)
  | 9 => ("BracketHouseModel", "lastWord", "I", false)
  | 10 => ("BracketHouseModel", "isOrders", "Z", false)
  | 11 => ("BracketHouseModel", "tape", "[B", true)
  | 12 => ("BracketHouseModel", "five", "[I", true)
  | 13 => ("BracketHouseModel", "taped", "I", false)
  | 14 => ("BracketHouseModel", "fault", "I", false)
  | 15 => ("BracketHouseModel", "code", "[I", true)
  | 16 => ("BracketHouseModel", "value", "[I", true)
  | 17 => ("BracketHouseModel", "placed", "[I", true)
  | 18 => ("BracketHouseModel", "tokens", "I", false)
  | 19 => ("BracketHouseModel", "token", "I", false)
  | 20 => ("BracketHouseModel", "leaves", "I", false)
  | 21 => ("BracketHouseModel", "bad", "I", false)
  | 22 => ("BracketHouseModel", "go", "I", false)
  | 23 => ("BracketHouseModel", "goEnd", "I", false)
  | 24 => ("BracketHouseModel", "broken", "Z", false)
  | 25 => ("BracketHouseModel", "inOrders", "Z", false)
  | 26 => ("BracketHouseModel", "asked", "[I", true)
  | 27 => ("BracketHouseModel", "orderDone", "I", false)
  | 28 => ("BracketHouseModel", "orderLatest", "I", false)
  | 29 => ("BracketHouseModel", "pairOf", "[I", true)
  | 30 => ("BracketHouseModel", "open0", "[I", true)
  | 31 => ("BracketHouseModel", "left0", "[I", true)
  | 32 => ("BracketHouseModel", "leftAhead", "[I", true)
  | 33 => ("BracketHouseModel", "undoMany", "I", false)
  | 34 => ("BracketHouseModel", "least", "[I", true)
  | 35 => ("BracketHouseModel", "costAt", "[I", true)
  | 36 => ("BracketHouseModel", "strikes0", "[I", true)
  | 37 => ("BracketHouseModel", "isCut", "[Z", true)
  | 38 => ("BracketHouseModel", "goesOn0", "[J", true)
  | 39 => ("BracketHouseModel", "row0", "[I", true)
  | 40 => ("BracketHouseModel", "hiding", "[I", true)
  | 41 => ("BracketHouseModel", "parts", "[J", true)
  | 42 => ("BracketHouseModel", "stopped0", "I", false)
  | 43 => ("BracketHouseModel", "orderAt", "I", false)
  | 44 => ("BracketHouseModel", "timesOf", "I", false)
  | 45 => ("BracketHouseModel", "head", "I", false)
  | 46 => ("BracketHouseModel", "undoAhead", "I", false)
  | 47 => ("BracketHouseModel", "sumsAre", "Z", false)
  | 48 => ("BracketHouseModel", "testIs", "Z", false)
  | 49 => ("BracketHouseModel", "sums", "[J", true)
  | 50 => ("BracketHouseModel", "drawnMoved", "[I", true)
  | 51 => ("BracketHouseModel", "drawnLoose", "I", false)
  | _ => ("BracketHouseModel", "latest", "I", false)
def ft12 : Nat → FieldType := fun k => match k with
  | 0 => .int
  | 1 => .array .int
  | 2 => .array .int
  | 3 => .array .int
  | 4 => .array .boolean
  | 5 => .array .int
  | 6 => .int
  | 7 => .array .byte
  | 8 => .int
  | 9 => .int
  | 10 => .boolean
  | 11 => .array .byte
  | 12 => .array .int
  | 13 => .int
  | 14 => .int
  | 15 => .array .int
  | 16 => .array .int
  | 17 => .array .int
  | 18 => .int
  | 19 => .int
  | 20 => .int
  | 21 => .int
  | 22 => .int
  | 23 => .int
  | 24 => .boolean
  | 25 => .boolean
  | 26 => .array .int
  | 27 => .int
  | 28 => .int
  | 29 => .array .int
  | 30 => .array .int
  | 31 => .array .int
  | 32 => .array .int
  | 33 => .int
  | 34 => .array .int
  | 35 => .array .int
  | 36 => .array .int
  | 37 => .array .boolean
  | 38 => .array .long
  | 39 => .array .int
  | 40 => .array .int
  | 41 => .array .long
  | 42 => .int
  | 43 => .int
  | 44 => .int
  | 45 => .int
  | 46 => .int
  | 47 => .boolean
  | 48 => .boolean
  | 49 => .array .long
  | 50 => .array .int
  | 51 => .int
  | _ => .int
theorem fn12 : ∀ a, a < 53 → ∀ b, b < 53 → a ≠ b → (T12 a).2.1 ≠ (T12 b).2.1 := by decide +kernel
theorem fo12 : ∀ k, k < 53 → parseFieldDescriptor (T12 k).2.2.1 = some (ft12 k) := by decide +kernel
abbrev xcl : List vw_C := [(R0, T0, 3), (R1, T1, 6), (R2, T2, 8), (R3, T3, 4), (R4, T4, 17), (R5, T5, 7), (R6, T6, 8), (R7, T7, 5), (R8, T8, 2), (R9, T9, 7), (R10, T10, 9), (R11, T11, 17), (R12, T12, 53)]
/-- the words that go on unchanged into every call -/
def gw : List Cond := lw_tbl.filter goodWord
theorem gw_in {w : Cond} {i : Nat} (h : tables_1[i]? = some w) (hg : goodWord w = true) : w ∈ gw := List.mem_filter.mpr ⟨List.mem_append_right _ (List.mem_of_getElem? h), hg⟩
theorem gw_sel {w : Cond} {i : Nat} (h : (k2_sels lw_privs)[i]? = some w) (hg : goodWord w = true) : w ∈ gw := List.mem_filter.mpr ⟨List.mem_append_left _ (List.mem_of_getElem? h), hg⟩
theorem gw_good : GoodIn gw gw := fun w h => ⟨h, good_of_word (List.mem_filter.mp h).2⟩
theorem lay0_0 : u_lay R0 T0 0 ∈ gw := gw_in (i := 307) (by decide +kernel) (by decide +kernel)
theorem lay0_1 : u_lay R0 T0 1 ∈ gw := gw_in (i := 309) (by decide +kernel) (by decide +kernel)
theorem lay0_2 : u_lay R0 T0 2 ∈ gw := gw_in (i := 311) (by decide +kernel) (by decide +kernel)
theorem lay0 : ∀ w ∈ u_ws R0 T0 3, w ∈ gw := by
  intro w hw
  obtain ⟨k, hk, rfl⟩ := List.mem_map.mp hw
  have hk := List.mem_range.mp hk
  match k, hk with
  | 0, _ => exact lay0_0
  | 1, _ => exact lay0_1
  | 2, _ => exact lay0_2
  | k + 3, h => exact absurd h (by omega)
theorem lay1_0 : u_lay R1 T1 0 ∈ gw := gw_in (i := 328) (by decide +kernel) (by decide +kernel)
theorem lay1_1 : u_lay R1 T1 1 ∈ gw := gw_in (i := 330) (by decide +kernel) (by decide +kernel)
theorem lay1_2 : u_lay R1 T1 2 ∈ gw := gw_in (i := 332) (by decide +kernel) (by decide +kernel)
theorem lay1_3 : u_lay R1 T1 3 ∈ gw := gw_in (i := 334) (by decide +kernel) (by decide +kernel)
theorem lay1_4 : u_lay R1 T1 4 ∈ gw := gw_in (i := 336) (by decide +kernel) (by decide +kernel)
theorem lay1_5 : u_lay R1 T1 5 ∈ gw := gw_in (i := 338) (by decide +kernel) (by decide +kernel)
theorem lay1 : ∀ w ∈ u_ws R1 T1 6, w ∈ gw := by
  intro w hw
  obtain ⟨k, hk, rfl⟩ := List.mem_map.mp hw
  have hk := List.mem_range.mp hk
  match k, hk with
  | 0, _ => exact lay1_0
  | 1, _ => exact lay1_1
  | 2, _ => exact lay1_2
  | 3, _ => exact lay1_3
  | 4, _ => exact lay1_4
  | 5, _ => exact lay1_5
  | k + 6, h => exact absurd h (by omega)
theorem lay2_0 : u_lay R2 T2 0 ∈ gw := gw_in (i := 266) (by decide +kernel) (by decide +kernel)
theorem lay2_1 : u_lay R2 T2 1 ∈ gw := gw_in (i := 268) (by decide +kernel) (by decide +kernel)
theorem lay2_2 : u_lay R2 T2 2 ∈ gw := gw_in (i := 270) (by decide +kernel) (by decide +kernel)
theorem lay2_3 : u_lay R2 T2 3 ∈ gw := gw_in (i := 272) (by decide +kernel) (by decide +kernel)
theorem lay2_4 : u_lay R2 T2 4 ∈ gw := gw_in (i := 274) (by decide +kernel) (by decide +kernel)
theorem lay2_5 : u_lay R2 T2 5 ∈ gw := gw_in (i := 276) (by decide +kernel) (by decide +kernel)
theorem lay2_6 : u_lay R2 T2 6 ∈ gw := gw_in (i := 278) (by decide +kernel) (by decide +kernel)
theorem lay2_7 : u_lay R2 T2 7 ∈ gw := gw_in (i := 280) (by decide +kernel) (by decide +kernel)
theorem lay2 : ∀ w ∈ u_ws R2 T2 8, w ∈ gw := by
  intro w hw
  obtain ⟨k, hk, rfl⟩ := List.mem_map.mp hw
  have hk := List.mem_range.mp hk
  match k, hk with
  | 0, _ => exact lay2_0
  | 1, _ => exact lay2_1
  | 2, _ => exact lay2_2
  | 3, _ => exact lay2_3
  | 4, _ => exact lay2_4
  | 5, _ => exact lay2_5
  | 6, _ => exact lay2_6
  | 7, _ => exact lay2_7
  | k + 8, h => exact absurd h (by omega)
theorem lay3_0 : u_lay R3 T3 0 ∈ gw := gw_in (i := 464) (by decide +kernel) (by decide +kernel)
theorem lay3_1 : u_lay R3 T3 1 ∈ gw := gw_in (i := 466) (by decide +kernel) (by decide +kernel)
theorem lay3_2 : u_lay R3 T3 2 ∈ gw := gw_in (i := 468) (by decide +kernel) (by decide +kernel)
theorem lay3_3 : u_lay R3 T3 3 ∈ gw := gw_in (i := 470) (by decide +kernel) (by decide +kernel)
theorem lay3 : ∀ w ∈ u_ws R3 T3 4, w ∈ gw := by
  intro w hw
  obtain ⟨k, hk, rfl⟩ := List.mem_map.mp hw
  have hk := List.mem_range.mp hk
  match k, hk with
  | 0, _ => exact lay3_0
  | 1, _ => exact lay3_1
  | 2, _ => exact lay3_2
  | 3, _ => exact lay3_3
  | k + 4, h => exact absurd h (by omega)
theorem lay4_0 : u_lay R4 T4 0 ∈ gw := gw_in (i := 417) (by decide +kernel) (by decide +kernel)
theorem lay4_1 : u_lay R4 T4 1 ∈ gw := gw_in (i := 419) (by decide +kernel) (by decide +kernel)
theorem lay4_2 : u_lay R4 T4 2 ∈ gw := gw_in (i := 421) (by decide +kernel) (by decide +kernel)
theorem lay4_3 : u_lay R4 T4 3 ∈ gw := gw_in (i := 423) (by decide +kernel) (by decide +kernel)
theorem lay4_4 : u_lay R4 T4 4 ∈ gw := gw_in (i := 425) (by decide +kernel) (by decide +kernel)
theorem lay4_5 : u_lay R4 T4 5 ∈ gw := gw_in (i := 427) (by decide +kernel) (by decide +kernel)
theorem lay4_6 : u_lay R4 T4 6 ∈ gw := gw_in (i := 429) (by decide +kernel) (by decide +kernel)
theorem lay4_7 : u_lay R4 T4 7 ∈ gw := gw_in (i := 431) (by decide +kernel) (by decide +kernel)
theorem lay4_8 : u_lay R4 T4 8 ∈ gw := gw_in (i := 433) (by decide +kernel) (by decide +kernel)
theorem lay4_9 : u_lay R4 T4 9 ∈ gw := gw_in (i := 435) (by decide +kernel) (by decide +kernel)
theorem lay4_10 : u_lay R4 T4 10 ∈ gw := gw_in (i := 437) (by decide +kernel) (by decide +kernel)
theorem lay4_11 : u_lay R4 T4 11 ∈ gw := gw_in (i := 439) (by decide +kernel) (by decide +kernel)
theorem lay4_12 : u_lay R4 T4 12 ∈ gw := gw_in (i := 441) (by decide +kernel) (by decide +kernel)
theorem lay4_13 : u_lay R4 T4 13 ∈ gw := gw_in (i := 443) (by decide +kernel) (by decide +kernel)
theorem lay4_14 : u_lay R4 T4 14 ∈ gw := gw_in (i := 445) (by decide +kernel) (by decide +kernel)
theorem lay4_15 : u_lay R4 T4 15 ∈ gw := gw_in (i := 447) (by decide +kernel) (by decide +kernel)
theorem lay4_16 : u_lay R4 T4 16 ∈ gw := gw_in (i := 449) (by decide +kernel) (by decide +kernel)
theorem lay4 : ∀ w ∈ u_ws R4 T4 17, w ∈ gw := by
  intro w hw
  obtain ⟨k, hk, rfl⟩ := List.mem_map.mp hw
  have hk := List.mem_range.mp hk
  match k, hk with
  | 0, _ => exact lay4_0
  | 1, _ => exact lay4_1
  | 2, _ => exact lay4_2
  | 3, _ => exact lay4_3
  | 4, _ => exact lay4_4
  | 5, _ => exact lay4_5
  | 6, _ => exact lay4_6
  | 7, _ => exact lay4_7
  | 8, _ => exact lay4_8
  | 9, _ => exact lay4_9
  | 10, _ => exact lay4_10
  | 11, _ => exact lay4_11
  | 12, _ => exact lay4_12
  | 13, _ => exact lay4_13
  | 14, _ => exact lay4_14
  | 15, _ => exact lay4_15
  | 16, _ => exact lay4_16
  | k + 17, h => exact absurd h (by omega)
theorem lay5_0 : u_lay R5 T5 0 ∈ gw := gw_in (i := 59) (by decide +kernel) (by decide +kernel)
theorem lay5_1 : u_lay R5 T5 1 ∈ gw := gw_in (i := 61) (by decide +kernel) (by decide +kernel)
theorem lay5_2 : u_lay R5 T5 2 ∈ gw := gw_in (i := 63) (by decide +kernel) (by decide +kernel)
theorem lay5_3 : u_lay R5 T5 3 ∈ gw := gw_in (i := 65) (by decide +kernel) (by decide +kernel)
theorem lay5_4 : u_lay R5 T5 4 ∈ gw := gw_in (i := 67) (by decide +kernel) (by decide +kernel)
theorem lay5_5 : u_lay R5 T5 5 ∈ gw := gw_in (i := 69) (by decide +kernel) (by decide +kernel)
theorem lay5_6 : u_lay R5 T5 6 ∈ gw := gw_in (i := 71) (by decide +kernel) (by decide +kernel)
theorem lay5 : ∀ w ∈ u_ws R5 T5 7, w ∈ gw := by
  intro w hw
  obtain ⟨k, hk, rfl⟩ := List.mem_map.mp hw
  have hk := List.mem_range.mp hk
  match k, hk with
  | 0, _ => exact lay5_0
  | 1, _ => exact lay5_1
  | 2, _ => exact lay5_2
  | 3, _ => exact lay5_3
  | 4, _ => exact lay5_4
  | 5, _ => exact lay5_5
  | 6, _ => exact lay5_6
  | k + 7, h => exact absurd h (by omega)
theorem lay6_0 : u_lay R6 T6 0 ∈ gw := gw_in (i := 362) (by decide +kernel) (by decide +kernel)
theorem lay6_1 : u_lay R6 T6 1 ∈ gw := gw_in (i := 364) (by decide +kernel) (by decide +kernel)
theorem lay6_2 : u_lay R6 T6 2 ∈ gw := gw_in (i := 366) (by decide +kernel) (by decide +kernel)
theorem lay6_3 : u_lay R6 T6 3 ∈ gw := gw_in (i := 368) (by decide +kernel) (by decide +kernel)
theorem lay6_4 : u_lay R6 T6 4 ∈ gw := gw_in (i := 370) (by decide +kernel) (by decide +kernel)
theorem lay6_5 : u_lay R6 T6 5 ∈ gw := gw_in (i := 372) (by decide +kernel) (by decide +kernel)
theorem lay6_6 : u_lay R6 T6 6 ∈ gw := gw_in (i := 374) (by decide +kernel) (by decide +kernel)
theorem lay6_7 : u_lay R6 T6 7 ∈ gw := gw_in (i := 376) (by decide +kernel) (by decide +kernel)
theorem lay6 : ∀ w ∈ u_ws R6 T6 8, w ∈ gw := by
  intro w hw
  obtain ⟨k, hk, rfl⟩ := List.mem_map.mp hw
  have hk := List.mem_range.mp hk
  match k, hk with
  | 0, _ => exact lay6_0
  | 1, _ => exact lay6_1
  | 2, _ => exact lay6_2
  | 3, _ => exact lay6_3
  | 4, _ => exact lay6_4
  | 5, _ => exact lay6_5
  | 6, _ => exact lay6_6
  | 7, _ => exact lay6_7
  | k + 8, h => exact absurd h (by omega)
theorem lay7_0 : u_lay R7 T7 0 ∈ gw := gw_in (i := 101) (by decide +kernel) (by decide +kernel)
theorem lay7_1 : u_lay R7 T7 1 ∈ gw := gw_in (i := 103) (by decide +kernel) (by decide +kernel)
theorem lay7_2 : u_lay R7 T7 2 ∈ gw := gw_in (i := 105) (by decide +kernel) (by decide +kernel)
theorem lay7_3 : u_lay R7 T7 3 ∈ gw := gw_in (i := 107) (by decide +kernel) (by decide +kernel)
theorem lay7_4 : u_lay R7 T7 4 ∈ gw := gw_in (i := 109) (by decide +kernel) (by decide +kernel)
theorem lay7 : ∀ w ∈ u_ws R7 T7 5, w ∈ gw := by
  intro w hw
  obtain ⟨k, hk, rfl⟩ := List.mem_map.mp hw
  have hk := List.mem_range.mp hk
  match k, hk with
  | 0, _ => exact lay7_0
  | 1, _ => exact lay7_1
  | 2, _ => exact lay7_2
  | 3, _ => exact lay7_3
  | 4, _ => exact lay7_4
  | k + 5, h => exact absurd h (by omega)
theorem lay8_0 : u_lay R8 T8 0 ∈ gw := gw_in (i := 299) (by decide +kernel) (by decide +kernel)
theorem lay8_1 : u_lay R8 T8 1 ∈ gw := gw_in (i := 301) (by decide +kernel) (by decide +kernel)
theorem lay8 : ∀ w ∈ u_ws R8 T8 2, w ∈ gw := by
  intro w hw
  obtain ⟨k, hk, rfl⟩ := List.mem_map.mp hw
  have hk := List.mem_range.mp hk
  match k, hk with
  | 0, _ => exact lay8_0
  | 1, _ => exact lay8_1
  | k + 2, h => exact absurd h (by omega)
theorem lay9_0 : u_lay R9 T9 0 ∈ gw := gw_in (i := 179) (by decide +kernel) (by decide +kernel)
theorem lay9_1 : u_lay R9 T9 1 ∈ gw := gw_in (i := 181) (by decide +kernel) (by decide +kernel)
theorem lay9_2 : u_lay R9 T9 2 ∈ gw := gw_in (i := 183) (by decide +kernel) (by decide +kernel)
theorem lay9_3 : u_lay R9 T9 3 ∈ gw := gw_in (i := 185) (by decide +kernel) (by decide +kernel)
theorem lay9_4 : u_lay R9 T9 4 ∈ gw := gw_in (i := 187) (by decide +kernel) (by decide +kernel)
theorem lay9_5 : u_lay R9 T9 5 ∈ gw := gw_in (i := 189) (by decide +kernel) (by decide +kernel)
theorem lay9_6 : u_lay R9 T9 6 ∈ gw := gw_in (i := 191) (by decide +kernel) (by decide +kernel)
theorem lay9 : ∀ w ∈ u_ws R9 T9 7, w ∈ gw := by
  intro w hw
  obtain ⟨k, hk, rfl⟩ := List.mem_map.mp hw
  have hk := List.mem_range.mp hk
  match k, hk with
  | 0, _ => exact lay9_0
  | 1, _ => exact lay9_1
  | 2, _ => exact lay9_2
  | 3, _ => exact lay9_3
  | 4, _ => exact lay9_4
  | 5, _ => exact lay9_5
  | 6, _ => exact lay9_6
  | k + 7, h => exact absurd h (by omega)
theorem lay10_0 : u_lay R10 T10 0 ∈ gw := gw_in (i := 237) (by decide +kernel) (by decide +kernel)
theorem lay10_1 : u_lay R10 T10 1 ∈ gw := gw_in (i := 239) (by decide +kernel) (by decide +kernel)
theorem lay10_2 : u_lay R10 T10 2 ∈ gw := gw_in (i := 241) (by decide +kernel) (by decide +kernel)
theorem lay10_3 : u_lay R10 T10 3 ∈ gw := gw_in (i := 243) (by decide +kernel) (by decide +kernel)
theorem lay10_4 : u_lay R10 T10 4 ∈ gw := gw_in (i := 245) (by decide +kernel) (by decide +kernel)
theorem lay10_5 : u_lay R10 T10 5 ∈ gw := gw_in (i := 247) (by decide +kernel) (by decide +kernel)
theorem lay10_6 : u_lay R10 T10 6 ∈ gw := gw_in (i := 249) (by decide +kernel) (by decide +kernel)
theorem lay10_7 : u_lay R10 T10 7 ∈ gw := gw_in (i := 251) (by decide +kernel) (by decide +kernel)
theorem lay10_8 : u_lay R10 T10 8 ∈ gw := gw_in (i := 253) (by decide +kernel) (by decide +kernel)
theorem lay10 : ∀ w ∈ u_ws R10 T10 9, w ∈ gw := by
  intro w hw
  obtain ⟨k, hk, rfl⟩ := List.mem_map.mp hw
  have hk := List.mem_range.mp hk
  match k, hk with
  | 0, _ => exact lay10_0
  | 1, _ => exact lay10_1
  | 2, _ => exact lay10_2
  | 3, _ => exact lay10_3
  | 4, _ => exact lay10_4
  | 5, _ => exact lay10_5
  | 6, _ => exact lay10_6
  | 7, _ => exact lay10_7
  | 8, _ => exact lay10_8
  | k + 9, h => exact absurd h (by omega)
theorem lay11_0 : u_lay R11 T11 0 ∈ gw := gw_in (i := 491) (by decide +kernel) (by decide +kernel)
theorem lay11_1 : u_lay R11 T11 1 ∈ gw := gw_in (i := 493) (by decide +kernel) (by decide +kernel)
theorem lay11_2 : u_lay R11 T11 2 ∈ gw := gw_in (i := 495) (by decide +kernel) (by decide +kernel)
theorem lay11_3 : u_lay R11 T11 3 ∈ gw := gw_in (i := 497) (by decide +kernel) (by decide +kernel)
theorem lay11_4 : u_lay R11 T11 4 ∈ gw := gw_in (i := 499) (by decide +kernel) (by decide +kernel)
theorem lay11_5 : u_lay R11 T11 5 ∈ gw := gw_in (i := 501) (by decide +kernel) (by decide +kernel)
theorem lay11_6 : u_lay R11 T11 6 ∈ gw := gw_in (i := 503) (by decide +kernel) (by decide +kernel)
theorem lay11_7 : u_lay R11 T11 7 ∈ gw := gw_in (i := 505) (by decide +kernel) (by decide +kernel)
theorem lay11_8 : u_lay R11 T11 8 ∈ gw := gw_in (i := 507) (by decide +kernel) (by decide +kernel)
theorem lay11_9 : u_lay R11 T11 9 ∈ gw := gw_in (i := 509) (by decide +kernel) (by decide +kernel)
theorem lay11_10 : u_lay R11 T11 10 ∈ gw := gw_in (i := 511) (by decide +kernel) (by decide +kernel)
theorem lay11_11 : u_lay R11 T11 11 ∈ gw := gw_in (i := 513) (by decide +kernel) (by decide +kernel)
theorem lay11_12 : u_lay R11 T11 12 ∈ gw := gw_in (i := 515) (by decide +kernel) (by decide +kernel)
theorem lay11_13 : u_lay R11 T11 13 ∈ gw := gw_in (i := 517) (by decide +kernel) (by decide +kernel)
theorem lay11_14 : u_lay R11 T11 14 ∈ gw := gw_in (i := 519) (by decide +kernel) (by decide +kernel)
theorem lay11_15 : u_lay R11 T11 15 ∈ gw := gw_in (i := 521) (by decide +kernel) (by decide +kernel)
theorem lay11_16 : u_lay R11 T11 16 ∈ gw := gw_in (i := 523) (by decide +kernel) (by decide +kernel)
theorem lay11 : ∀ w ∈ u_ws R11 T11 17, w ∈ gw := by
  intro w hw
  obtain ⟨k, hk, rfl⟩ := List.mem_map.mp hw
  have hk := List.mem_range.mp hk
  match k, hk with
  | 0, _ => exact lay11_0
  | 1, _ => exact lay11_1
  | 2, _ => exact lay11_2
  | 3, _ => exact lay11_3
  | 4, _ => exact lay11_4
  | 5, _ => exact lay11_5
  | 6, _ => exact lay11_6
  | 7, _ => exact lay11_7
  | 8, _ => exact lay11_8
  | 9, _ => exact lay11_9
  | 10, _ => exact lay11_10
  | 11, _ => exact lay11_11
  | 12, _ => exact lay11_12
  | 13, _ => exact lay11_13
  | 14, _ => exact lay11_14
  | 15, _ => exact lay11_15
  | 16, _ => exact lay11_16
  | k + 17, h => exact absurd h (by omega)
theorem lay12_0 : u_lay R12 T12 0 ∈ gw := gw_in (i := 1193) (by decide +kernel) (by decide +kernel)
theorem lay12_1 : u_lay R12 T12 1 ∈ gw := gw_in (i := 1195) (by decide +kernel) (by decide +kernel)
theorem lay12_2 : u_lay R12 T12 2 ∈ gw := gw_in (i := 1197) (by decide +kernel) (by decide +kernel)
theorem lay12_3 : u_lay R12 T12 3 ∈ gw := gw_in (i := 1199) (by decide +kernel) (by decide +kernel)
theorem lay12_4 : u_lay R12 T12 4 ∈ gw := gw_in (i := 1201) (by decide +kernel) (by decide +kernel)
theorem lay12_5 : u_lay R12 T12 5 ∈ gw := gw_in (i := 1203) (by decide +kernel) (by decide +kernel)
theorem lay12_6 : u_lay R12 T12 6 ∈ gw := gw_in (i := 1205) (by decide +kernel) (by decide +kernel)
theorem lay12_7 : u_lay R12 T12 7 ∈ gw := gw_in (i := 1207) (by decide +kernel) (by decide +kernel)
theorem lay12_8 : u_lay R12 T12 8 ∈ gw := gw_in (i := 1209) (by decide +kernel) (by decide +kernel)
theorem lay12_9 : u_lay R12 T12 9 ∈ gw := gw_in (i := 1211) (by decide +kernel) (by decide +kernel)
theorem lay12_10 : u_lay R12 T12 10 ∈ gw := gw_in (i := 1213) (by decide +kernel) (by decide +kernel)
theorem lay12_11 : u_lay R12 T12 11 ∈ gw := gw_in (i := 1215) (by decide +kernel) (by decide +kernel)
theorem lay12_12 : u_lay R12 T12 12 ∈ gw := gw_in (i := 1217) (by decide +kernel) (by decide +kernel)
theorem lay12_13 : u_lay R12 T12 13 ∈ gw := gw_in (i := 1219) (by decide +kernel) (by decide +kernel)
theorem lay12_14 : u_lay R12 T12 14 ∈ gw := gw_in (i := 1221) (by decide +kernel) (by decide +kernel)
theorem lay12_15 : u_lay R12 T12 15 ∈ gw := gw_in (i := 1223) (by decide +kernel) (by decide +kernel)
theorem lay12_16 : u_lay R12 T12 16 ∈ gw := gw_in (i := 1225) (by decide +kernel) (by decide +kernel)
theorem lay12_17 : u_lay R12 T12 17 ∈ gw := gw_in (i := 1227) (by decide +kernel) (by decide +kernel)
theorem lay12_18 : u_lay R12 T12 18 ∈ gw := gw_in (i := 1229) (by decide +kernel) (by decide +kernel)
theorem lay12_19 : u_lay R12 T12 19 ∈ gw := gw_in (i := 1231) (by decide +kernel) (by decide +kernel)
theorem lay12_20 : u_lay R12 T12 20 ∈ gw := gw_in (i := 1233) (by decide +kernel) (by decide +kernel)
theorem lay12_21 : u_lay R12 T12 21 ∈ gw := gw_in (i := 1235) (by decide +kernel) (by decide +kernel)
theorem lay12_22 : u_lay R12 T12 22 ∈ gw := gw_in (i := 1237) (by decide +kernel) (by decide +kernel)
theorem lay12_23 : u_lay R12 T12 23 ∈ gw := gw_in (i := 1239) (by decide +kernel) (by decide +kernel)
theorem lay12_24 : u_lay R12 T12 24 ∈ gw := gw_in (i := 1241) (by decide +kernel) (by decide +kernel)
theorem lay12_25 : u_lay R12 T12 25 ∈ gw := gw_in (i := 1243) (by decide +kernel) (by decide +kernel)
theorem lay12_26 : u_lay R12 T12 26 ∈ gw := gw_in (i := 1245) (by decide +kernel) (by decide +kernel)
theorem lay12_27 : u_lay R12 T12 27 ∈ gw := gw_in (i := 1247) (by decide +kernel) (by decide +kernel)
theorem lay12_28 : u_lay R12 T12 28 ∈ gw := gw_in (i := 1249) (by decide +kernel) (by decide +kernel)
theorem lay12_29 : u_lay R12 T12 29 ∈ gw := gw_in (i := 1251) (by decide +kernel) (by decide +kernel)
theorem lay12_30 : u_lay R12 T12 30 ∈ gw := gw_in (i := 1253) (by decide +kernel) (by decide +kernel)
theorem lay12_31 : u_lay R12 T12 31 ∈ gw := gw_in (i := 1255) (by decide +kernel) (by decide +kernel)
theorem lay12_32 : u_lay R12 T12 32 ∈ gw := gw_in (i := 1257) (by decide +kernel) (by decide +kernel)
theorem lay12_33 : u_lay R12 T12 33 ∈ gw := gw_in (i := 1259) (by decide +kernel) (by decide +kernel)
theorem lay12_34 : u_lay R12 T12 34 ∈ gw := gw_in (i := 1261) (by decide +kernel) (by decide +kernel)
theorem lay12_35 : u_lay R12 T12 35 ∈ gw := gw_in (i := 1263) (by decide +kernel) (by decide +kernel)
theorem lay12_36 : u_lay R12 T12 36 ∈ gw := gw_in (i := 1265) (by decide +kernel) (by decide +kernel)
theorem lay12_37 : u_lay R12 T12 37 ∈ gw := gw_in (i := 1267) (by decide +kernel) (by decide +kernel)
theorem lay12_38 : u_lay R12 T12 38 ∈ gw := gw_in (i := 1269) (by decide +kernel) (by decide +kernel)
theorem lay12_39 : u_lay R12 T12 39 ∈ gw := gw_in (i := 1271) (by decide +kernel) (by decide +kernel)
theorem lay12_40 : u_lay R12 T12 40 ∈ gw := gw_in (i := 1273) (by decide +kernel) (by decide +kernel)
theorem lay12_41 : u_lay R12 T12 41 ∈ gw := gw_in (i := 1275) (by decide +kernel) (by decide +kernel)
theorem lay12_42 : u_lay R12 T12 42 ∈ gw := gw_in (i := 1277) (by decide +kernel) (by decide +kernel)
theorem lay12_43 : u_lay R12 T12 43 ∈ gw := gw_in (i := 1279) (by decide +kernel) (by decide +kernel)
theorem lay12_44 : u_lay R12 T12 44 ∈ gw := gw_in (i := 1281) (by decide +kernel) (by decide +kernel)
theorem lay12_45 : u_lay R12 T12 45 ∈ gw := gw_in (i := 1283) (by decide +kernel) (by decide +kernel)
theorem lay12_46 : u_lay R12 T12 46 ∈ gw := gw_in (i := 1285) (by decide +kernel) (by decide +kernel)
theorem lay12_47 : u_lay R12 T12 47 ∈ gw := gw_in (i := 1287) (by decide +kernel) (by decide +kernel)
theorem lay12_48 : u_lay R12 T12 48 ∈ gw := gw_in (i := 1289) (by decide +kernel) (by decide +kernel)
theorem lay12_49 : u_lay R12 T12 49 ∈ gw := gw_in (i := 1291) (by decide +kernel) (by decide +kernel)
theorem lay12_50 : u_lay R12 T12 50 ∈ gw := gw_in (i := 1293) (by decide +kernel) (by decide +kernel)
theorem lay12_51 : u_lay R12 T12 51 ∈ gw := gw_in (i := 1295) (by decide +kernel) (by decide +kernel)
theorem lay12_52 : u_lay R12 T12 52 ∈ gw := gw_in (i := 1297) (by decide +kernel) (by decide +kernel)
theorem lay12 : ∀ w ∈ u_ws R12 T12 53, w ∈ gw := by
  intro w hw
  obtain ⟨k, hk, rfl⟩ := List.mem_map.mp hw
  have hk := List.mem_range.mp hk
  match k, hk with
  | 0, _ => exact lay12_0
  | 1, _ => exact lay12_1
  | 2, _ => exact lay12_2
  | 3, _ => exact lay12_3
  | 4, _ => exact lay12_4
  | 5, _ => exact lay12_5
  | 6, _ => exact lay12_6
  | 7, _ => exact lay12_7
  | 8, _ => exact lay12_8
  | 9, _ => exact lay12_9
  | 10, _ => exact lay12_10
  | 11, _ => exact lay12_11
  | 12, _ => exact lay12_12
  | 13, _ => exact lay12_13
  | 14, _ => exact lay12_14
  | 15, _ => exact lay12_15
  | 16, _ => exact lay12_16
  | 17, _ => exact lay12_17
  | 18, _ => exact lay12_18
  | 19, _ => exact lay12_19
  | 20, _ => exact lay12_20
  | 21, _ => exact lay12_21
  | 22, _ => exact lay12_22
  | 23, _ => exact lay12_23
  | 24, _ => exact lay12_24
  | 25, _ => exact lay12_25
  | 26, _ => exact lay12_26
  | 27, _ => exact lay12_27
  | 28, _ => exact lay12_28
  | 29, _ => exact lay12_29
  | 30, _ => exact lay12_30
  | 31, _ => exact lay12_31
  | 32, _ => exact lay12_32
  | 33, _ => exact lay12_33
  | 34, _ => exact lay12_34
  | 35, _ => exact lay12_35
  | 36, _ => exact lay12_36
  | 37, _ => exact lay12_37
  | 38, _ => exact lay12_38
  | 39, _ => exact lay12_39
  | 40, _ => exact lay12_40
  | 41, _ => exact lay12_41
  | 42, _ => exact lay12_42
  | 43, _ => exact lay12_43
  | 44, _ => exact lay12_44
  | 45, _ => exact lay12_45
  | 46, _ => exact lay12_46
  | 47, _ => exact lay12_47
  | 48, _ => exact lay12_48
  | 49, _ => exact lay12_49
  | 50, _ => exact lay12_50
  | 51, _ => exact lay12_51
  | 52, _ => exact lay12_52
  | k + 53, h => exact absurd h (by omega)
