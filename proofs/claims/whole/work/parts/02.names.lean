abbrev ruMD : Type := MethodName × ByteArray × Nat × Option FieldType
def ruDec (M : ruMD) (pc : Nat) (i : Instr) (n pc2 : Nat) : Prop := decode M.2.1 pc = .ok (i, n) ∧ pc + n = pc2
theorem ru_mt {w : Cond} (i : Nat) (h : tables_1[i]? = some w) : w ∈ lw_tbl := List.mem_append_right _ (List.mem_of_getElem? h)
def ruR0 : String := "RubbedSheets$Book"
def ruT0 : u_T := fun k => match k with
  | 0 => ("RubbedSheets$Book", "school", "LRubbedSheets$School;", true)
  | 1 => ("RubbedSheets$Book", "sheets", "LRubbedSheets$Sheets;", true)
  | 2 => ("RubbedSheets$Book", "ways", "LRubbedSheets$Ways;", true)
  | 3 => ("RubbedSheets$Book", "keys", "LRubbedSheets$Keys;", true)
  | _ => ("RubbedSheets$Book", "forms", "LRubbedSheets$Forms;", true)
def ruty0 : Nat → FieldType := fun k => match k with
  | 0 => .object "RubbedSheets$School"
  | 1 => .object "RubbedSheets$Sheets"
  | 2 => .object "RubbedSheets$Ways"
  | 3 => .object "RubbedSheets$Keys"
  | _ => .object "RubbedSheets$Forms"
theorem runm0 : ∀ a, a < 5 → ∀ b, b < 5 → a ≠ b → (ruT0 a).2.1 ≠ (ruT0 b).2.1 := by decide +kernel
theorem rutyok0 : ∀ k, k < 5 → parseFieldDescriptor (ruT0 k).2.2.1 = some (ruty0 k) := by decide +kernel
theorem ruin0 : ∀ w ∈ u_ws ruR0 ruT0 5, w ∈ lw_tbl := by
  intro w hw
  obtain ⟨j, hj, rfl⟩ := List.mem_map.mp hw
  rw [List.mem_range] at hj
  match j, hj with
  | 0, _ => exact ru_mt 183 (by decide +kernel)
  | 1, _ => exact ru_mt 185 (by decide +kernel)
  | 2, _ => exact ru_mt 187 (by decide +kernel)
  | 3, _ => exact ru_mt 189 (by decide +kernel)
  | 4, _ => exact ru_mt 191 (by decide +kernel)
  | j + 5, h => omega
def ruR1 : String := "RubbedSheets$Forms"
def ruT1 : u_T := fun k => match k with
  | 0 => ("RubbedSheets$Forms", "size", "I", false)
  | 1 => ("RubbedSheets$Forms", "prices", "[I", true)
  | _ => ("RubbedSheets$Forms", "barred", "[I", true)
def ruty1 : Nat → FieldType := fun k => match k with
  | 0 => .int
  | 1 => .array .int
  | _ => .array .int
theorem runm1 : ∀ a, a < 3 → ∀ b, b < 3 → a ≠ b → (ruT1 a).2.1 ≠ (ruT1 b).2.1 := by decide +kernel
theorem rutyok1 : ∀ k, k < 3 → parseFieldDescriptor (ruT1 k).2.2.1 = some (ruty1 k) := by decide +kernel
theorem ruin1 : ∀ w ∈ u_ws ruR1 ruT1 3, w ∈ lw_tbl := by
  intro w hw
  obtain ⟨j, hj, rfl⟩ := List.mem_map.mp hw
  rw [List.mem_range] at hj
  match j, hj with
  | 0, _ => exact ru_mt 166 (by decide +kernel)
  | 1, _ => exact ru_mt 168 (by decide +kernel)
  | 2, _ => exact ru_mt 170 (by decide +kernel)
  | j + 3, h => omega
def ruR2 : String := "RubbedSheets$Keys"
def ruT2 : u_T := fun k => match k with
  | 0 => ("RubbedSheets$Keys", "size", "I", false)
  | 1 => ("RubbedSheets$Keys", "persons", "[I", true)
  | 2 => ("RubbedSheets$Keys", "rooms", "[I", true)
  | 3 => ("RubbedSheets$Keys", "froms", "[I", true)
  | 4 => ("RubbedSheets$Keys", "tos", "[I", true)
  | _ => ("RubbedSheets$Keys", "hours", "[I", true)
def ruty2 : Nat → FieldType := fun k => match k with
  | 0 => .int
  | 1 => .array .int
  | 2 => .array .int
  | 3 => .array .int
  | 4 => .array .int
  | _ => .array .int
theorem runm2 : ∀ a, a < 6 → ∀ b, b < 6 → a ≠ b → (ruT2 a).2.1 ≠ (ruT2 b).2.1 := by decide +kernel
theorem rutyok2 : ∀ k, k < 6 → parseFieldDescriptor (ruT2 k).2.2.1 = some (ruty2 k) := by decide +kernel
theorem ruin2 : ∀ w ∈ u_ws ruR2 ruT2 6, w ∈ lw_tbl := by
  intro w hw
  obtain ⟨j, hj, rfl⟩ := List.mem_map.mp hw
  rw [List.mem_range] at hj
  match j, hj with
  | 0, _ => exact ru_mt 143 (by decide +kernel)
  | 1, _ => exact ru_mt 145 (by decide +kernel)
  | 2, _ => exact ru_mt 147 (by decide +kernel)
  | 3, _ => exact ru_mt 149 (by decide +kernel)
  | 4, _ => exact ru_mt 151 (by decide +kernel)
  | 5, _ => exact ru_mt 153 (by decide +kernel)
  | j + 6, h => omega
def ruR3 : String := "RubbedSheets$Measures"
def ruT3 : u_T := fun k => match k with
  | 0 => ("RubbedSheets$Measures", "strings", "LRubbedSheets$Strings;", true)
  | 1 => ("RubbedSheets$Measures", "worths", "[I", true)
  | 2 => ("RubbedSheets$Measures", "school", "LRubbedSheets$School;", true)
  | _ => ("RubbedSheets$Measures", "sheets", "LRubbedSheets$Sheets;", true)
def ruty3 : Nat → FieldType := fun k => match k with
  | 0 => .object "RubbedSheets$Strings"
  | 1 => .array .int
  | 2 => .object "RubbedSheets$School"
  | _ => .object "RubbedSheets$Sheets"
theorem runm3 : ∀ a, a < 4 → ∀ b, b < 4 → a ≠ b → (ruT3 a).2.1 ≠ (ruT3 b).2.1 := by decide +kernel
theorem rutyok3 : ∀ k, k < 4 → parseFieldDescriptor (ruT3 k).2.2.1 = some (ruty3 k) := by decide +kernel
theorem ruin3 : ∀ w ∈ u_ws ruR3 ruT3 4, w ∈ lw_tbl := by
  intro w hw
  obtain ⟨j, hj, rfl⟩ := List.mem_map.mp hw
  rw [List.mem_range] at hj
  match j, hj with
  | 0, _ => exact ru_mt 248 (by decide +kernel)
  | 1, _ => exact ru_mt 250 (by decide +kernel)
  | 2, _ => exact ru_mt 252 (by decide +kernel)
  | 3, _ => exact ru_mt 254 (by decide +kernel)
  | j + 4, h => omega
def ruR4 : String := "RubbedSheets$Reader"
def ruT4 : u_T := fun k => match k with
  | 0 => ("RubbedSheets$Reader", "text", "[I", false)
  | 1 => ("RubbedSheets$Reader", "length", "I", false)
  | 2 => ("RubbedSheets$Reader", "next", "I", false)
  | 3 => ("RubbedSheets$Reader", "start", "I", false)
  | 4 => ("RubbedSheets$Reader", "sign", "I", false)
  | 5 => ("RubbedSheets$Reader", "worth", "I", false)
  | 6 => ("RubbedSheets$Reader", "fault", "I", false)
  | 7 => ("RubbedSheets$Reader", "measures", "[I", false)
  | _ => ("RubbedSheets$Reader", "nothing", "[I", true)
def ruty4 : Nat → FieldType := fun k => match k with
  | 0 => .array .int
  | 1 => .int
  | 2 => .int
  | 3 => .int
  | 4 => .int
  | 5 => .int
  | 6 => .int
  | 7 => .array .int
  | _ => .array .int
theorem runm4 : ∀ a, a < 9 → ∀ b, b < 9 → a ≠ b → (ruT4 a).2.1 ≠ (ruT4 b).2.1 := by decide +kernel
theorem rutyok4 : ∀ k, k < 9 → parseFieldDescriptor (ruT4 k).2.2.1 = some (ruty4 k) := by decide +kernel
theorem ruin4 : ∀ w ∈ u_ws ruR4 ruT4 9, w ∈ lw_tbl := by
  intro w hw
  obtain ⟨j, hj, rfl⟩ := List.mem_map.mp hw
  rw [List.mem_range] at hj
  match j, hj with
  | 0, _ => exact ru_mt 272 (by decide +kernel)
  | 1, _ => exact ru_mt 274 (by decide +kernel)
  | 2, _ => exact ru_mt 276 (by decide +kernel)
  | 3, _ => exact ru_mt 278 (by decide +kernel)
  | 4, _ => exact ru_mt 280 (by decide +kernel)
  | 5, _ => exact ru_mt 282 (by decide +kernel)
  | 6, _ => exact ru_mt 284 (by decide +kernel)
  | 7, _ => exact ru_mt 286 (by decide +kernel)
  | 8, _ => exact ru_mt 288 (by decide +kernel)
  | j + 9, h => omega
def ruR5 : String := "RubbedSheets$School"
def ruT5 : u_T := fun k => match k with
  | 0 => ("RubbedSheets$School", "openYear", "I", false)
  | 1 => ("RubbedSheets$School", "rooms", "I", false)
  | 2 => ("RubbedSheets$School", "children", "I", false)
  | 3 => ("RubbedSheets$School", "keys", "[I", true)
  | 4 => ("RubbedSheets$School", "hard", "[I", true)
  | 5 => ("RubbedSheets$School", "roomOf", "[I", true)
  | 6 => ("RubbedSheets$School", "seatOf", "[I", true)
  | 7 => ("RubbedSheets$School", "known", "[I", true)
  | _ => ("RubbedSheets$School", "taught", "[I", true)
def ruty5 : Nat → FieldType := fun k => match k with
  | 0 => .int
  | 1 => .int
  | 2 => .int
  | 3 => .array .int
  | 4 => .array .int
  | 5 => .array .int
  | 6 => .array .int
  | 7 => .array .int
  | _ => .array .int
theorem runm5 : ∀ a, a < 9 → ∀ b, b < 9 → a ≠ b → (ruT5 a).2.1 ≠ (ruT5 b).2.1 := by decide +kernel
theorem rutyok5 : ∀ k, k < 9 → parseFieldDescriptor (ruT5 k).2.2.1 = some (ruty5 k) := by decide +kernel
theorem ruin5 : ∀ w ∈ u_ws ruR5 ruT5 9, w ∈ lw_tbl := by
  intro w hw
  obtain ⟨j, hj, rfl⟩ := List.mem_map.mp hw
  rw [List.mem_range] at hj
  match j, hj with
  | 0, _ => exact ru_mt 66 (by decide +kernel)
  | 1, _ => exact ru_mt 68 (by decide +kernel)
  | 2, _ => exact ru_mt 70 (by decide +kernel)
  | 3, _ => exact ru_mt 72 (by decide +kernel)
  | 4, _ => exact ru_mt 74 (by decide +kernel)
  | 5, _ => exact ru_mt 76 (by decide +kernel)
  | 6, _ => exact ru_mt 78 (by decide +kernel)
  | 7, _ => exact ru_mt 80 (by decide +kernel)
  | 8, _ => exact ru_mt 82 (by decide +kernel)
  | j + 9, h => omega
def ruR6 : String := "RubbedSheets$Sheets"
def ruT6 : u_T := fun k => match k with
  | 0 => ("RubbedSheets$Sheets", "there", "[Z", true)
  | 1 => ("RubbedSheets$Sheets", "choices", "[I", true)
  | 2 => ("RubbedSheets$Sheets", "kinds", "[I", true)
  | _ => ("RubbedSheets$Sheets", "rubbed", "[I", true)
def ruty6 : Nat → FieldType := fun k => match k with
  | 0 => .array .boolean
  | 1 => .array .int
  | 2 => .array .int
  | _ => .array .int
theorem runm6 : ∀ a, a < 4 → ∀ b, b < 4 → a ≠ b → (ruT6 a).2.1 ≠ (ruT6 b).2.1 := by decide +kernel
theorem rutyok6 : ∀ k, k < 4 → parseFieldDescriptor (ruT6 k).2.2.1 = some (ruty6 k) := by decide +kernel
theorem ruin6 : ∀ w ∈ u_ws ruR6 ruT6 4, w ∈ lw_tbl := by
  intro w hw
  obtain ⟨j, hj, rfl⟩ := List.mem_map.mp hw
  rw [List.mem_range] at hj
  match j, hj with
  | 0, _ => exact ru_mt 99 (by decide +kernel)
  | 1, _ => exact ru_mt 101 (by decide +kernel)
  | 2, _ => exact ru_mt 103 (by decide +kernel)
  | 3, _ => exact ru_mt 105 (by decide +kernel)
  | j + 4, h => omega
def ruR7 : String := "RubbedSheets$Slip"
def ruT7 : u_T := fun k => match k with
  | 0 => ("RubbedSheets$Slip", "bits", "I", false)
  | 1 => ("RubbedSheets$Slip", "size", "I", false)
  | _ => ("RubbedSheets$Slip", "numbers", "[I", true)
def ruty7 : Nat → FieldType := fun k => match k with
  | 0 => .int
  | 1 => .int
  | _ => .array .int
theorem runm7 : ∀ a, a < 3 → ∀ b, b < 3 → a ≠ b → (ruT7 a).2.1 ≠ (ruT7 b).2.1 := by decide +kernel
theorem rutyok7 : ∀ k, k < 3 → parseFieldDescriptor (ruT7 k).2.2.1 = some (ruty7 k) := by decide +kernel
theorem ruin7 : ∀ w ∈ u_ws ruR7 ruT7 3, w ∈ lw_tbl := by
  intro w hw
  obtain ⟨j, hj, rfl⟩ := List.mem_map.mp hw
  rw [List.mem_range] at hj
  match j, hj with
  | 0, _ => exact ru_mt 304 (by decide +kernel)
  | 1, _ => exact ru_mt 306 (by decide +kernel)
  | 2, _ => exact ru_mt 308 (by decide +kernel)
  | j + 3, h => omega
def ruR8 : String := "RubbedSheets$Strings"
def ruT8 : u_T := fun k => match k with
  | 0 => ("RubbedSheets$Strings", "length", "I", false)
  | 1 => ("RubbedSheets$Strings", "first", "I", false)
  | 2 => ("RubbedSheets$Strings", "members", "I", false)
  | 3 => ("RubbedSheets$Strings", "most", "I", false)
  | 4 => ("RubbedSheets$Strings", "gathered", "I", false)
  | 5 => ("RubbedSheets$Strings", "owners", "[I", true)
  | 6 => ("RubbedSheets$Strings", "rows", "[J", true)
  | 7 => ("RubbedSheets$Strings", "filled", "[I", true)
  | 8 => ("RubbedSheets$Strings", "school", "LRubbedSheets$School;", true)
  | _ => ("RubbedSheets$Strings", "sheets", "LRubbedSheets$Sheets;", true)
def ruty8 : Nat → FieldType := fun k => match k with
  | 0 => .int
  | 1 => .int
  | 2 => .int
  | 3 => .int
  | 4 => .int
  | 5 => .array .int
  | 6 => .array .long
  | 7 => .array .int
  | 8 => .object "RubbedSheets$School"
  | _ => .object "RubbedSheets$Sheets"
theorem runm8 : ∀ a, a < 10 → ∀ b, b < 10 → a ≠ b → (ruT8 a).2.1 ≠ (ruT8 b).2.1 := by decide +kernel
theorem rutyok8 : ∀ k, k < 10 → parseFieldDescriptor (ruT8 k).2.2.1 = some (ruty8 k) := by decide +kernel
theorem ruin8 : ∀ w ∈ u_ws ruR8 ruT8 10, w ∈ lw_tbl := by
  intro w hw
  obtain ⟨j, hj, rfl⟩ := List.mem_map.mp hw
  rw [List.mem_range] at hj
  match j, hj with
  | 0, _ => exact ru_mt 220 (by decide +kernel)
  | 1, _ => exact ru_mt 222 (by decide +kernel)
  | 2, _ => exact ru_mt 224 (by decide +kernel)
  | 3, _ => exact ru_mt 226 (by decide +kernel)
  | 4, _ => exact ru_mt 228 (by decide +kernel)
  | 5, _ => exact ru_mt 230 (by decide +kernel)
  | 6, _ => exact ru_mt 232 (by decide +kernel)
  | 7, _ => exact ru_mt 234 (by decide +kernel)
  | 8, _ => exact ru_mt 236 (by decide +kernel)
  | 9, _ => exact ru_mt 238 (by decide +kernel)
  | j + 10, h => omega
def ruR9 : String := "RubbedSheets$Ways"
def ruT9 : u_T := fun k => match k with
  | 0 => ("RubbedSheets$Ways", "size", "I", false)
  | 1 => ("RubbedSheets$Ways", "texts", "[[I", true)
  | _ => ("RubbedSheets$Ways", "lengths", "[I", true)
def ruty9 : Nat → FieldType := fun k => match k with
  | 0 => .int
  | 1 => .array (.array .int)
  | _ => .array .int
theorem runm9 : ∀ a, a < 3 → ∀ b, b < 3 → a ≠ b → (ruT9 a).2.1 ≠ (ruT9 b).2.1 := by decide +kernel
theorem rutyok9 : ∀ k, k < 3 → parseFieldDescriptor (ruT9 k).2.2.1 = some (ruty9 k) := by decide +kernel
theorem ruin9 : ∀ w ∈ u_ws ruR9 ruT9 3, w ∈ lw_tbl := by
  intro w hw
  obtain ⟨j, hj, rfl⟩ := List.mem_map.mp hw
  rw [List.mem_range] at hj
  match j, hj with
  | 0, _ => exact ru_mt 123 (by decide +kernel)
  | 1, _ => exact ru_mt 125 (by decide +kernel)
  | 2, _ => exact ru_mt 127 (by decide +kernel)
  | j + 3, h => omega
def ruR10 : String := "RubbedSheets"
def ruT10 : u_T := fun k => match k with
  | 0 => ("RubbedSheets", "now", "LRubbedSheets$Book;", true)
  | 1 => ("RubbedSheets", "kept", "LRubbedSheets$Book;", true)
  | 2 => ("RubbedSheets", "isKept", "Z", false)
  | 3 => ("RubbedSheets", "school", "LRubbedSheets$School;", true)
  | 4 => ("RubbedSheets", "sheets", "LRubbedSheets$Sheets;", true)
  | 5 => ("RubbedSheets", "measures", "LRubbedSheets$Measures;", true)
  | 6 => ("RubbedSheets", "told", "[I", true)
  | 7 => ("RubbedSheets", "reader", "LRubbedSheets$Reader;", true)
  | 8 => ("RubbedSheets", "tape", "[I", true)
  | 9 => ("RubbedSheets", "fed", "I", false)
  | 10 => ("RubbedSheets", "slips", "[LRubbedSheets$Slip;", true)
  | 11 => ("RubbedSheets", "found", "[I", true)
  | _ => ("RubbedSheets", "looks", "I", false)
def ruty10 : Nat → FieldType := fun k => match k with
  | 0 => .object "RubbedSheets$Book"
  | 1 => .object "RubbedSheets$Book"
  | 2 => .boolean
  | 3 => .object "RubbedSheets$School"
  | 4 => .object "RubbedSheets$Sheets"
  | 5 => .object "RubbedSheets$Measures"
  | 6 => .array .int
  | 7 => .object "RubbedSheets$Reader"
  | 8 => .array .int
  | 9 => .int
  | 10 => .array (.object "RubbedSheets$Slip")
  | 11 => .array .int
  | _ => .int
theorem runm10 : ∀ a, a < 13 → ∀ b, b < 13 → a ≠ b → (ruT10 a).2.1 ≠ (ruT10 b).2.1 := by decide +kernel
theorem rutyok10 : ∀ k, k < 13 → parseFieldDescriptor (ruT10 k).2.2.1 = some (ruty10 k) := by decide +kernel
theorem ruin10 : ∀ w ∈ u_ws ruR10 ruT10 13, w ∈ lw_tbl := by
  intro w hw
  obtain ⟨j, hj, rfl⟩ := List.mem_map.mp hw
  rw [List.mem_range] at hj
  match j, hj with
  | 0, _ => exact ru_mt 324 (by decide +kernel)
  | 1, _ => exact ru_mt 326 (by decide +kernel)
  | 2, _ => exact ru_mt 328 (by decide +kernel)
  | 3, _ => exact ru_mt 330 (by decide +kernel)
  | 4, _ => exact ru_mt 332 (by decide +kernel)
  | 5, _ => exact ru_mt 334 (by decide +kernel)
  | 6, _ => exact ru_mt 336 (by decide +kernel)
  | 7, _ => exact ru_mt 338 (by decide +kernel)
  | 8, _ => exact ru_mt 340 (by decide +kernel)
  | 9, _ => exact ru_mt 342 (by decide +kernel)
  | 10, _ => exact ru_mt 344 (by decide +kernel)
  | 11, _ => exact ru_mt 346 (by decide +kernel)
  | 12, _ => exact ru_mt 348 (by decide +kernel)
  | j + 13, h => omega
def ruR11 : String := "RubbedSheetsModel"
def ruT11 : u_T := fun k => match k with
  | 0 => ("RubbedSheetsModel", "now", "[I", true)
  | 1 => ("RubbedSheetsModel", "kept", "[I", true)
  | 2 => ("RubbedSheetsModel", "hasKept", "Z", false)
  | 3 => ("RubbedSheetsModel", "looks", "I", false)
  | 4 => ("RubbedSheetsModel", "found", "[I", true)
  | 5 => ("RubbedSheetsModel", "tape", "[I", true)
  | 6 => ("RubbedSheetsModel", "taped", "I", false)
  | 7 => ("RubbedSheetsModel", "widths", "[I", true)
  | 8 => ("RubbedSheetsModel", "sizes", "[I", true)
  | 9 => ("RubbedSheetsModel", "numbers", "[I", true)
  | 10 => ("RubbedSheetsModel", "longest", "I", false)
  | 11 => ("RubbedSheetsModel", "firstOf", "I", false)
  | 12 => ("RubbedSheetsModel", "alike", "I", false)
  | 13 => ("RubbedSheetsModel", "names", "[Ljava/lang/String;", true)
  | 14 => ("RubbedSheetsModel", "sort", "I", false)
  | 15 => ("RubbedSheetsModel", "from", "I", false)
  | 16 => ("RubbedSheetsModel", "to", "I", false)
  | 17 => ("RubbedSheetsModel", "isWrong", "Z", false)
  | 18 => ("RubbedSheetsModel", "open", "I", false)
  | 19 => ("RubbedSheetsModel", "step", "[I", true)
  | 20 => ("RubbedSheetsModel", "steps", "I", false)
  | 21 => ("RubbedSheetsModel", "pile", "[I", true)
  | 22 => ("RubbedSheetsModel", "lineOf", "[I", true)
  | 23 => ("RubbedSheetsModel", "hasPuts", "[Z", true)
  | _ => ("RubbedSheetsModel", "moved", "[I", true)
def ruty11 : Nat → FieldType := fun k => match k with
  | 0 => .array .int
  | 1 => .array .int
  | 2 => .boolean
  | 3 => .int
  | 4 => .array .int
  | 5 => .array .int
  | 6 => .int
  | 7 => .array .int
  | 8 => .array .int
  | 9 => .array .int
  | 10 => .int
  | 11 => .int
  | 12 => .int
  | 13 => .array (.object "java/lang/String")
  | 14 => .int
  | 15 => .int
  | 16 => .int
  | 17 => .boolean
  | 18 => .int
  | 19 => .array .int
  | 20 => .int
  | 21 => .array .int
  | 22 => .array .int
  | 23 => .array .boolean
  | _ => .array .int
theorem runm11 : ∀ a, a < 25 → ∀ b, b < 25 → a ≠ b → (ruT11 a).2.1 ≠ (ruT11 b).2.1 := by decide +kernel
theorem rutyok11 : ∀ k, k < 25 → parseFieldDescriptor (ruT11 k).2.2.1 = some (ruty11 k) := by decide +kernel
theorem ruin11 : ∀ w ∈ u_ws ruR11 ruT11 25, w ∈ lw_tbl := by
  intro w hw
  obtain ⟨j, hj, rfl⟩ := List.mem_map.mp hw
  rw [List.mem_range] at hj
  match j, hj with
  | 0, _ => exact ru_mt 1002 (by decide +kernel)
  | 1, _ => exact ru_mt 1004 (by decide +kernel)
  | 2, _ => exact ru_mt 1006 (by decide +kernel)
  | 3, _ => exact ru_mt 1008 (by decide +kernel)
  | 4, _ => exact ru_mt 1010 (by decide +kernel)
  | 5, _ => exact ru_mt 1012 (by decide +kernel)
  | 6, _ => exact ru_mt 1014 (by decide +kernel)
  | 7, _ => exact ru_mt 1016 (by decide +kernel)
  | 8, _ => exact ru_mt 1018 (by decide +kernel)
  | 9, _ => exact ru_mt 1020 (by decide +kernel)
  | 10, _ => exact ru_mt 1022 (by decide +kernel)
  | 11, _ => exact ru_mt 1024 (by decide +kernel)
  | 12, _ => exact ru_mt 1026 (by decide +kernel)
  | 13, _ => exact ru_mt 1028 (by decide +kernel)
  | 14, _ => exact ru_mt 1030 (by decide +kernel)
  | 15, _ => exact ru_mt 1032 (by decide +kernel)
  | 16, _ => exact ru_mt 1034 (by decide +kernel)
  | 17, _ => exact ru_mt 1036 (by decide +kernel)
  | 18, _ => exact ru_mt 1038 (by decide +kernel)
  | 19, _ => exact ru_mt 1040 (by decide +kernel)
  | 20, _ => exact ru_mt 1042 (by decide +kernel)
  | 21, _ => exact ru_mt 1044 (by decide +kernel)
  | 22, _ => exact ru_mt 1046 (by decide +kernel)
  | 23, _ => exact ru_mt 1048 (by decide +kernel)
  | 24, _ => exact ru_mt 1050 (by decide +kernel)
  | j + 25, h => omega
abbrev rucl : List vw_C := [(ruR0, ruT0, 5), (ruR1, ruT1, 3), (ruR2, ruT2, 6), (ruR3, ruT3, 4), (ruR4, ruT4, 9), (ruR5, ruT5, 9), (ruR6, ruT6, 4), (ruR7, ruT7, 3), (ruR8, ruT8, 10), (ruR9, ruT9, 3), (ruR10, ruT10, 13), (ruR11, ruT11, 25)]
