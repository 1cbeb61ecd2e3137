def RX0 : String := "SleeveSlips$Chances"
def TX0 : u_T := fun k => match k with
  | 0 => ("SleeveSlips$Chances", "tenths", "[I", true)
  | 1 => ("SleeveSlips$Chances", "worth", "[I", true)
  | 2 => ("SleeveSlips$Chances", "days", "[I", true)
  | 3 => ("SleeveSlips$Chances", "known", "[Z", true)
  | 4 => ("SleeveSlips$Chances", "means", "[[J", true)
  | 5 => ("SleeveSlips$Chances", "upper", "J", false)
  | _ => ("SleeveSlips$Chances", "lower", "J", false)
def tyX0 : Nat → FieldType := fun k => match k with
  | 0 => .array .int
  | 1 => .array .int
  | 2 => .array .int
  | 3 => .array .boolean
  | 4 => .array (.array .long)
  | 5 => .long
  | _ => .long
abbrev wsX00 : List Cond := u_ws RX0 TX0 7
theorem nmX0 : ∀ a, a < 7 → ∀ b, b < 7 → a ≠ b → (TX0 a).2.1 ≠ (TX0 b).2.1 := by decide +kernel
theorem tyX0_ok : ∀ k, k < 7 → parseFieldDescriptor (TX0 k).2.2.1 = some (tyX0 k) := by decide +kernel
def RX1 : String := "SleeveSlips$Chooser"
def TX1 : u_T := fun k => match k with
  | 0 => ("SleeveSlips$Chooser", "bestWorth", "I", false)
  | 1 => ("SleeveSlips$Chooser", "bestSet", "I", false)
  | _ => ("SleeveSlips$Chooser", "left", "[I", true)
def tyX1 : Nat → FieldType := fun k => match k with
  | 0 => .int
  | 1 => .int
  | _ => .array .int
abbrev wsX10 : List Cond := u_ws RX1 TX1 3
theorem nmX1 : ∀ a, a < 3 → ∀ b, b < 3 → a ≠ b → (TX1 a).2.1 ≠ (TX1 b).2.1 := by decide +kernel
theorem tyX1_ok : ∀ k, k < 3 → parseFieldDescriptor (TX1 k).2.2.1 = some (tyX1 k) := by decide +kernel
def RX2 : String := "SleeveSlips$Now"
def TX2 : u_T := fun k => match k with
  | 0 => ("SleeveSlips$Now", "today", "I", false)
  | 1 => ("SleeveSlips$Now", "won", "I", false)
  | 2 => ("SleeveSlips$Now", "lost", "I", false)
  | 3 => ("SleeveSlips$Now", "became", "[I", true)
  | 4 => ("SleeveSlips$Now", "left", "[I", true)
  | 5 => ("SleeveSlips$Now", "sleeve", "[I", true)
  | 6 => ("SleeveSlips$Now", "slipCount", "[I", true)
  | 7 => ("SleeveSlips$Now", "slips", "[I", true)
  | 8 => ("SleeveSlips$Now", "deeds", "I", false)
  | _ => ("SleeveSlips$Now", "deedRows", "[I", true)
def tyX2 : Nat → FieldType := fun k => match k with
  | 0 => .int
  | 1 => .int
  | 2 => .int
  | 3 => .array .int
  | 4 => .array .int
  | 5 => .array .int
  | 6 => .array .int
  | 7 => .array .int
  | 8 => .int
  | _ => .array .int
abbrev wsX20 : List Cond := u_ws RX2 TX2 10
theorem nmX2 : ∀ a, a < 10 → ∀ b, b < 10 → a ≠ b → (TX2 a).2.1 ≠ (TX2 b).2.1 := by decide +kernel
theorem tyX2_ok : ∀ k, k < 10 → parseFieldDescriptor (TX2 k).2.2.1 = some (tyX2 k) := by decide +kernel
def RX3 : String := "SleeveSlips$Rings"
def TX3 : u_T := fun k => match k with
  | _ => ("SleeveSlips$Rings", "row", "[I", true)
def tyX3 : Nat → FieldType := fun k => match k with
  | _ => .array .int
abbrev wsX30 : List Cond := u_ws RX3 TX3 1
theorem nmX3 : ∀ a, a < 1 → ∀ b, b < 1 → a ≠ b → (TX3 a).2.1 ≠ (TX3 b).2.1 := by decide +kernel
theorem tyX3_ok : ∀ k, k < 1 → parseFieldDescriptor (TX3 k).2.2.1 = some (tyX3 k) := by decide +kernel
def RX4 : String := "SleeveSlips$Text"
def TX4 : u_T := fun k => match k with
  | 0 => ("SleeveSlips$Text", "bytes", "[B", true)
  | 1 => ("SleeveSlips$Text", "length", "I", false)
  | 2 => ("SleeveSlips$Text", "place", "I", false)
  | 3 => ("SleeveSlips$Text", "start", "I", false)
  | 4 => ("SleeveSlips$Text", "token", "I", false)
  | 5 => ("SleeveSlips$Text", "value", "I", false)
  | _ => ("SleeveSlips$Text", "numbers", "[I", true)
def tyX4 : Nat → FieldType := fun k => match k with
  | 0 => .array .byte
  | 1 => .int
  | 2 => .int
  | 3 => .int
  | 4 => .int
  | 5 => .int
  | _ => .array .int
abbrev wsX40 : List Cond := u_ws RX4 TX4 7
theorem nmX4 : ∀ a, a < 7 → ∀ b, b < 7 → a ≠ b → (TX4 a).2.1 ≠ (TX4 b).2.1 := by decide +kernel
theorem tyX4_ok : ∀ k, k < 7 → parseFieldDescriptor (TX4 k).2.2.1 = some (tyX4 k) := by decide +kernel
def RX5 : String := "SleeveSlips$Town"
def TX5 : u_T := fun k => match k with
  | 0 => ("SleeveSlips$Town", "people", "I", false)
  | 1 => ("SleeveSlips$Town", "room", "[I", true)
  | 2 => ("SleeveSlips$Town", "work", "[I", true)
  | 3 => ("SleeveSlips$Town", "price", "[I", true)
  | 4 => ("SleeveSlips$Town", "askings", "I", false)
  | 5 => ("SleeveSlips$Town", "whom", "[I", true)
  | 6 => ("SleeveSlips$Town", "askedOn", "[I", true)
  | 7 => ("SleeveSlips$Town", "units", "[I", true)
  | 8 => ("SleeveSlips$Town", "worth", "[I", true)
  | 9 => ("SleeveSlips$Town", "due", "[I", true)
  | 10 => ("SleeveSlips$Town", "hangs", "I", false)
  | _ => ("SleeveSlips$Town", "hangsOn", "[I", true)
def tyX5 : Nat → FieldType := fun k => match k with
  | 0 => .int
  | 1 => .array .int
  | 2 => .array .int
  | 3 => .array .int
  | 4 => .int
  | 5 => .array .int
  | 6 => .array .int
  | 7 => .array .int
  | 8 => .array .int
  | 9 => .array .int
  | 10 => .int
  | _ => .array .int
abbrev wsX50 : List Cond := u_ws RX5 TX5 12
theorem nmX5 : ∀ a, a < 12 → ∀ b, b < 12 → a ≠ b → (TX5 a).2.1 ≠ (TX5 b).2.1 := by decide +kernel
theorem tyX5_ok : ∀ k, k < 12 → parseFieldDescriptor (TX5 k).2.2.1 = some (tyX5 k) := by decide +kernel
def RX6 : String := "SleeveSlips"
def TX6 : u_T := fun k => match k with
  | 0 => ("SleeveSlips", "text", "LSleeveSlips$Text;", true)
  | 1 => ("SleeveSlips", "told", "LSleeveSlips$Town;", false)
  | 2 => ("SleeveSlips", "spare", "LSleeveSlips$Town;", false)
  | 3 => ("SleeveSlips", "present", "LSleeveSlips$Now;", true)
  | 4 => ("SleeveSlips", "images", "[LSleeveSlips$Now;", true)
  | 5 => ("SleeveSlips", "imageKept", "[Z", true)
  | 6 => ("SleeveSlips", "chances", "LSleeveSlips$Chances;", true)
  | 7 => ("SleeveSlips", "chooser", "LSleeveSlips$Chooser;", true)
  | 8 => ("SleeveSlips", "rings", "LSleeveSlips$Rings;", true)
  | _ => ("SleeveSlips", "traced", "J", false)
def tyX6 : Nat → FieldType := fun k => match k with
  | 0 => .object "SleeveSlips$Text"
  | 1 => .object "SleeveSlips$Town"
  | 2 => .object "SleeveSlips$Town"
  | 3 => .object "SleeveSlips$Now"
  | 4 => .array (.object "SleeveSlips$Now")
  | 5 => .array .boolean
  | 6 => .object "SleeveSlips$Chances"
  | 7 => .object "SleeveSlips$Chooser"
  | 8 => .object "SleeveSlips$Rings"
  | _ => .long
abbrev wsX60 : List Cond := u_ws RX6 TX6 10
theorem nmX6 : ∀ a, a < 10 → ∀ b, b < 10 → a ≠ b → (TX6 a).2.1 ≠ (TX6 b).2.1 := by decide +kernel
theorem tyX6_ok : ∀ k, k < 10 → parseFieldDescriptor (TX6 k).2.2.1 = some (tyX6 k) := by decide +kernel
def RX7 : String := "SleeveSlipsModel"
def TX7 : u_T := fun k => match k with
  | 0 => ("SleeveSlipsModel", "w", "[I", true)
  | 1 => ("SleeveSlipsModel", "isKept", "[Z", true)
  | 2 => ("SleeveSlipsModel", "people", "I", false)
  | 3 => ("SleeveSlipsModel", "room", "[I", true)
  | 4 => ("SleeveSlipsModel", "work", "[I", true)
  | 5 => ("SleeveSlipsModel", "price", "[I", true)
  | 6 => ("SleeveSlipsModel", "askings", "I", false)
  | 7 => ("SleeveSlipsModel", "asked", "[I", true)
  | 8 => ("SleeveSlipsModel", "hangs", "I", false)
  | 9 => ("SleeveSlipsModel", "hung", "[I", true)
  | 10 => ("SleeveSlipsModel", "tenths", "[I", true)
  | 11 => ("SleeveSlipsModel", "sortWorth", "[I", true)
  | 12 => ("SleeveSlipsModel", "sortDays", "[I", true)
  | 13 => ("SleeveSlipsModel", "sorts", "I", false)
  | 14 => ("SleeveSlipsModel", "text", "[I", true)
  | 15 => ("SleeveSlipsModel", "texted", "I", false)
  | 16 => ("SleeveSlipsModel", "trace", "J", false)
  | 17 => ("SleeveSlipsModel", "at", "I", false)
  | 18 => ("SleeveSlipsModel", "fault", "I", false)
  | 19 => ("SleeveSlipsModel", "readPeople", "I", false)
  | 20 => ("SleeveSlipsModel", "readPerson", "[I", true)
  | 21 => ("SleeveSlipsModel", "readAskings", "I", false)
  | 22 => ("SleeveSlipsModel", "readAsked", "[I", true)
  | 23 => ("SleeveSlipsModel", "readHangs", "I", false)
  | 24 => ("SleeveSlipsModel", "readHung", "[I", true)
  | 25 => ("SleeveSlipsModel", "rest", "[I", true)
  | 26 => ("SleeveSlipsModel", "brings", "[J", true)
  | _ => ("SleeveSlipsModel", "later", "[J", true)
def tyX7 : Nat → FieldType := fun k => match k with
  | 0 => .array .int
  | 1 => .array .boolean
  | 2 => .int
  | 3 => .array .int
  | 4 => .array .int
  | 5 => .array .int
  | 6 => .int
  | 7 => .array .int
  | 8 => .int
  | 9 => .array .int
  | 10 => .array .int
  | 11 => .array .int
  | 12 => .array .int
  | 13 => .int
  | 14 => .array .int
  | 15 => .int
  | 16 => .long
  | 17 => .int
  | 18 => .int
  | 19 => .int
  | 20 => .array .int
  | 21 => .int
  | 22 => .array .int
  | 23 => .int
  | 24 => .array .int
  | 25 => .array .int
  | 26 => .array .long
  | _ => .array .long
abbrev wsX70 : List Cond := u_ws RX7 TX7 28
theorem nmX7 : ∀ a, a < 28 → ∀ b, b < 28 → a ≠ b → (TX7 a).2.1 ≠ (TX7 b).2.1 := by decide +kernel
theorem tyX7_ok : ∀ k, k < 28 → parseFieldDescriptor (TX7 k).2.2.1 = some (tyX7 k) := by decide +kernel
abbrev vwCl : List vw_C := [(RX0, TX0, 7), (RX1, TX1, 3), (RX2, TX2, 10), (RX3, TX3, 1), (RX4, TX4, 7), (RX5, TX5, 12), (RX6, TX6, 10), (RX7, TX7, 28)]
def tF (ci : Nat) : u_T := match ci with
  | 0 => TX0
  | 1 => TX1
  | 2 => TX2
  | 3 => TX3
  | 4 => TX4
  | 5 => TX5
  | 6 => TX6
  | _ => TX7
def tN (ci : Nat) : Nat := [7, 3, 10, 1, 7, 12, 10, 28].getD ci 0
def tY (ci : Nat) : Nat → FieldType := match ci with
  | 0 => tyX0
  | 1 => tyX1
  | 2 => tyX2
  | 3 => tyX3
  | 4 => tyX4
  | 5 => tyX5
  | 6 => tyX6
  | _ => tyX7
def tR (ci : Nat) : String := match ci with
  | 0 => RX0
  | 1 => RX1
  | 2 => RX2
  | 3 => RX3
  | 4 => RX4
  | 5 => RX5
  | 6 => RX6
  | _ => RX7
theorem tCl : ∀ ci, ci < 8 → vwCl[ci]? = some (tR ci, tF ci, tN ci) := by
  intro ci h
  match ci, h with
  | 0, _ => rfl
  | 1, _ => rfl
  | 2, _ => rfl
  | 3, _ => rfl
  | 4, _ => rfl
  | 5, _ => rfl
  | 6, _ => rfl
  | 7, _ => rfl
  | k + 8, h => omega
theorem tin0 : ∀ w ∈ wsX00, w ∈ lw_tbl := by decide +kernel
theorem tin1 : ∀ w ∈ wsX10, w ∈ lw_tbl := by decide +kernel
theorem tin2 : ∀ w ∈ wsX20, w ∈ lw_tbl := by decide +kernel
theorem tin3 : ∀ w ∈ wsX30, w ∈ lw_tbl := by decide +kernel
theorem tin4 : ∀ w ∈ wsX40, w ∈ lw_tbl := by decide +kernel
theorem tin5 : ∀ w ∈ wsX50, w ∈ lw_tbl := by decide +kernel
theorem tin6 : ∀ w ∈ wsX60, w ∈ lw_tbl := by decide +kernel
theorem tin7 : ∀ w ∈ wsX70, w ∈ lw_tbl := by decide +kernel
theorem tIn : ∀ ci, ci < 8 → ∀ w ∈ u_ws (tR ci) (tF ci) (tN ci), w ∈ lw_tbl := by
  intro ci h
  match ci, h with
  | 0, _ => exact tin0
  | 1, _ => exact tin1
  | 2, _ => exact tin2
  | 3, _ => exact tin3
  | 4, _ => exact tin4
  | 5, _ => exact tin5
  | 6, _ => exact tin6
  | 7, _ => exact tin7
  | k + 8, h => omega
theorem tNm : ∀ ci, ci < 8 → ∀ a, a < tN ci → ∀ b, b < tN ci → a ≠ b → (tF ci a).2.1 ≠ (tF ci b).2.1 := by
  intro ci h
  match ci, h with
  | 0, _ => exact nmX0
  | 1, _ => exact nmX1
  | 2, _ => exact nmX2
  | 3, _ => exact nmX3
  | 4, _ => exact nmX4
  | 5, _ => exact nmX5
  | 6, _ => exact nmX6
  | 7, _ => exact nmX7
  | k + 8, h => omega
theorem tTy : ∀ ci, ci < 8 → ∀ k, k < tN ci → parseFieldDescriptor (tF ci k).2.2.1 = some (tY ci k) := by
  intro ci h
  match ci, h with
  | 0, _ => exact tyX0_ok
  | 1, _ => exact tyX1_ok
  | 2, _ => exact tyX2_ok
  | 3, _ => exact tyX3_ok
  | 4, _ => exact tyX4_ok
  | 5, _ => exact tyX5_ok
  | 6, _ => exact tyX6_ok
  | 7, _ => exact tyX7_ok
  | k + 8, h => omega
