def RX0 : String := "LastLayer$Catcher"
def TX0 : u_T := fun k => match k with
  | 0 => ("LastLayer$Catcher", "name", "J", false)
  | 1 => ("LastLayer$Catcher", "at", "I", false)
  | 2 => ("LastLayer$Catcher", "most", "I", false)
  | 3 => ("LastLayer$Catcher", "tires", "I", false)
  | 4 => ("LastLayer$Catcher", "tails", "I", false)
  | _ => ("LastLayer$Catcher", "weary", "I", false)
def tyX0 : Nat → FieldType := fun k => match k with
  | 0 => .long
  | 1 => .int
  | 2 => .int
  | 3 => .int
  | 4 => .int
  | _ => .int
abbrev wsX00 : List Cond := u_ws RX0 TX0 6
theorem nmX0 : ∀ a, a < 6 → ∀ b, b < 6 → a ≠ b → (TX0 a).2.1 ≠ (TX0 b).2.1 := by decide +kernel
theorem tyX0_ok : ∀ k, k < 6 → parseFieldDescriptor (TX0 k).2.2.1 = some (tyX0 k) := by decide +kernel
def RX1 : String := "LastLayer$Days"
def TX1 : u_T := fun k => match k with
  | 0 => ("LastLayer$Days", "word", "[I", true)
  | 1 => ("LastLayer$Days", "thing", "[I", true)
  | 2 => ("LastLayer$Days", "number", "[I", true)
  | 3 => ("LastLayer$Days", "sign", "[I", true)
  | 4 => ("LastLayer$Days", "close", "[I", true)
  | 5 => ("LastLayer$Days", "steps", "I", false)
  | _ => ("LastLayer$Days", "there", "Z", false)
def tyX1 : Nat → FieldType := fun k => match k with
  | 0 => .array .int
  | 1 => .array .int
  | 2 => .array .int
  | 3 => .array .int
  | 4 => .array .int
  | 5 => .int
  | _ => .boolean
abbrev wsX10 : List Cond := u_ws RX1 TX1 7
theorem nmX1 : ∀ a, a < 7 → ∀ b, b < 7 → a ≠ b → (TX1 a).2.1 ≠ (TX1 b).2.1 := by decide +kernel
theorem tyX1_ok : ∀ k, k < 7 → parseFieldDescriptor (TX1 k).2.2.1 = some (tyX1 k) := by decide +kernel
def RX2 : String := "LastLayer$DaysReader"
def TX2 : u_T := fun k => match k with
  | 0 => ("LastLayer$DaysReader", "fresh", "LLastLayer$Days;", true)
  | 1 => ("LastLayer$DaysReader", "tape", "LLastLayer$Tape;", true)
  | 2 => ("LastLayer$DaysReader", "yard", "LLastLayer$Yard;", true)
  | 3 => ("LastLayer$DaysReader", "open", "[I", true)
  | _ => ("LastLayer$DaysReader", "depth", "I", false)
def tyX2 : Nat → FieldType := fun k => match k with
  | 0 => .object "LastLayer$Days"
  | 1 => .object "LastLayer$Tape"
  | 2 => .object "LastLayer$Yard"
  | 3 => .array .int
  | _ => .int
abbrev wsX20 : List Cond := u_ws RX2 TX2 5
theorem nmX2 : ∀ a, a < 5 → ∀ b, b < 5 → a ≠ b → (TX2 a).2.1 ≠ (TX2 b).2.1 := by decide +kernel
theorem tyX2_ok : ∀ k, k < 5 → parseFieldDescriptor (TX2 k).2.2.1 = some (tyX2 k) := by decide +kernel
def RX3 : String := "LastLayer$Life"
def TX3 : u_T := fun k => match k with
  | 0 => ("LastLayer$Life", "wasLived", "Z", false)
  | 1 => ("LastLayer$Life", "steps", "I", false)
  | 2 => ("LastLayer$Life", "missed", "I", false)
  | 3 => ("LastLayer$Life", "threshed", "I", false)
  | 4 => ("LastLayer$Life", "caught", "I", false)
  | 5 => ("LastLayer$Life", "off", "I", false)
  | 6 => ("LastLayer$Life", "cut", "Z", false)
  | 7 => ("LastLayer$Life", "open", "[I", true)
  | 8 => ("LastLayer$Life", "turns", "[I", true)
  | 9 => ("LastLayer$Life", "depth", "I", false)
  | _ => ("LastLayer$Life", "s", "I", false)
def tyX3 : Nat → FieldType := fun k => match k with
  | 0 => .boolean
  | 1 => .int
  | 2 => .int
  | 3 => .int
  | 4 => .int
  | 5 => .int
  | 6 => .boolean
  | 7 => .array .int
  | 8 => .array .int
  | 9 => .int
  | _ => .int
abbrev wsX30 : List Cond := u_ws RX3 TX3 11
theorem nmX3 : ∀ a, a < 11 → ∀ b, b < 11 → a ≠ b → (TX3 a).2.1 ≠ (TX3 b).2.1 := by decide +kernel
theorem tyX3_ok : ∀ k, k < 11 → parseFieldDescriptor (TX3 k).2.2.1 = some (tyX3 k) := by decide +kernel
def RX4 : String := "LastLayer$Rick"
def TX4 : u_T := fun k => match k with
  | 0 => ("LastLayer$Rick", "name", "J", false)
  | 1 => ("LastLayer$Rick", "holds", "I", false)
  | 2 => ("LastLayer$Rick", "caps", "Z", false)
  | 3 => ("LastLayer$Rick", "rats", "[I", true)
  | 4 => ("LastLayer$Rick", "upper", "I", false)
  | _ => ("LastLayer$Rick", "end", "I", false)
def tyX4 : Nat → FieldType := fun k => match k with
  | 0 => .long
  | 1 => .int
  | 2 => .boolean
  | 3 => .array .int
  | 4 => .int
  | _ => .int
abbrev wsX40 : List Cond := u_ws RX4 TX4 6
theorem nmX4 : ∀ a, a < 6 → ∀ b, b < 6 → a ≠ b → (TX4 a).2.1 ≠ (TX4 b).2.1 := by decide +kernel
theorem tyX4_ok : ∀ k, k < 6 → parseFieldDescriptor (TX4 k).2.2.1 = some (tyX4 k) := by decide +kernel
def RX5 : String := "LastLayer$Side"
def TX5 : u_T := fun k => match k with
  | 0 => ("LastLayer$Side", "name", "J", false)
  | 1 => ("LastLayer$Side", "weight", "I", false)
  | 2 => ("LastLayer$Side", "net", "Z", false)
  | 3 => ("LastLayer$Side", "to", "I", false)
  | _ => ("LastLayer$Side", "off", "I", false)
def tyX5 : Nat → FieldType := fun k => match k with
  | 0 => .long
  | 1 => .int
  | 2 => .boolean
  | 3 => .int
  | _ => .int
abbrev wsX50 : List Cond := u_ws RX5 TX5 5
theorem nmX5 : ∀ a, a < 5 → ∀ b, b < 5 → a ≠ b → (TX5 a).2.1 ≠ (TX5 b).2.1 := by decide +kernel
theorem tyX5_ok : ∀ k, k < 5 → parseFieldDescriptor (TX5 k).2.2.1 = some (tyX5 k) := by decide +kernel
def RX6 : String := "LastLayer$Tape"
def TX6 : u_T := fun k => match k with
  | 0 => ("LastLayer$Tape", "bytes", "[B", true)
  | 1 => ("LastLayer$Tape", "kinds", "[I", true)
  | 2 => ("LastLayer$Tape", "starts", "[I", true)
  | 3 => ("LastLayer$Tape", "values", "[J", true)
  | 4 => ("LastLayer$Tape", "tokens", "I", false)
  | 5 => ("LastLayer$Tape", "next", "I", false)
  | 6 => ("LastLayer$Tape", "length", "I", false)
  | 7 => ("LastLayer$Tape", "place", "I", false)
  | 8 => ("LastLayer$Tape", "size", "I", false)
  | 9 => ("LastLayer$Tape", "fault", "I", false)
  | 10 => ("LastLayer$Tape", "faultPlace", "I", false)
  | 11 => ("LastLayer$Tape", "kind", "I", false)
  | 12 => ("LastLayer$Tape", "word", "I", false)
  | 13 => ("LastLayer$Tape", "number", "I", false)
  | 14 => ("LastLayer$Tape", "sign", "I", false)
  | 15 => ("LastLayer$Tape", "name", "J", false)
  | _ => ("LastLayer$Tape", "start", "I", false)
def tyX6 : Nat → FieldType := fun k => match k with
  | 0 => .array .byte
  | 1 => .array .int
  | 2 => .array .int
  | 3 => .array .long
  | 4 => .int
  | 5 => .int
  | 6 => .int
  | 7 => .int
  | 8 => .int
  | 9 => .int
  | 10 => .int
  | 11 => .int
  | 12 => .int
  | 13 => .int
  | 14 => .int
  | 15 => .long
  | _ => .int
abbrev wsX60 : List Cond := u_ws RX6 TX6 17
theorem nmX6 : ∀ a, a < 17 → ∀ b, b < 17 → a ≠ b → (TX6 a).2.1 ≠ (TX6 b).2.1 := by decide +kernel
theorem tyX6_ok : ∀ k, k < 17 → parseFieldDescriptor (TX6 k).2.2.1 = some (tyX6 k) := by decide +kernel
def RX7 : String := "LastLayer$Tray"
def TX7 : u_T := fun k => match k with
  | 0 => ("LastLayer$Tray", "row", "[J", true)
  | 1 => ("LastLayer$Tray", "sort", "I", false)
  | _ => ("LastLayer$Tray", "size", "I", false)
def tyX7 : Nat → FieldType := fun k => match k with
  | 0 => .array .long
  | 1 => .int
  | _ => .int
abbrev wsX70 : List Cond := u_ws RX7 TX7 3
theorem nmX7 : ∀ a, a < 3 → ∀ b, b < 3 → a ≠ b → (TX7 a).2.1 ≠ (TX7 b).2.1 := by decide +kernel
theorem tyX7_ok : ∀ k, k < 3 → parseFieldDescriptor (TX7 k).2.2.1 = some (tyX7 k) := by decide +kernel
def RX8 : String := "LastLayer$Trial"
def TX8 : u_T := fun k => match k with
  | 0 => ("LastLayer$Trial", "copy", "LLastLayer$Yard;", true)
  | 1 => ("LastLayer$Trial", "rick", "LLastLayer$Rick;", true)
  | 2 => ("LastLayer$Trial", "netsFound", "Z", false)
  | 3 => ("LastLayer$Trial", "netSet", "I", false)
  | 4 => ("LastLayer$Trial", "placeMany", "I", false)
  | 5 => ("LastLayer$Trial", "places", "[I", true)
  | 6 => ("LastLayer$Trial", "orderMany", "I", false)
  | 7 => ("LastLayer$Trial", "order", "[I", true)
  | _ => ("LastLayer$Trial", "digits", "[I", true)
def tyX8 : Nat → FieldType := fun k => match k with
  | 0 => .object "LastLayer$Yard"
  | 1 => .object "LastLayer$Rick"
  | 2 => .boolean
  | 3 => .int
  | 4 => .int
  | 5 => .array .int
  | 6 => .int
  | 7 => .array .int
  | _ => .array .int
abbrev wsX80 : List Cond := u_ws RX8 TX8 9
theorem nmX8 : ∀ a, a < 9 → ∀ b, b < 9 → a ≠ b → (TX8 a).2.1 ≠ (TX8 b).2.1 := by decide +kernel
theorem tyX8_ok : ∀ k, k < 9 → parseFieldDescriptor (TX8 k).2.2.1 = some (tyX8 k) := by decide +kernel
def RX9 : String := "LastLayer$Yard"
def TX9 : u_T := fun k => match k with
  | 0 => ("LastLayer$Yard", "ricks", "[LLastLayer$Rick;", true)
  | 1 => ("LastLayer$Yard", "sides", "[LLastLayer$Side;", true)
  | 2 => ("LastLayer$Yard", "dogs", "[LLastLayer$Catcher;", true)
  | 3 => ("LastLayer$Yard", "boys", "[LLastLayer$Catcher;", true)
  | 4 => ("LastLayer$Yard", "crowd", "[I", true)
  | 5 => ("LastLayer$Yard", "rickMany", "I", false)
  | 6 => ("LastLayer$Yard", "sideMany", "I", false)
  | 7 => ("LastLayer$Yard", "dogMany", "I", false)
  | 8 => ("LastLayer$Yard", "boyMany", "I", false)
  | 9 => ("LastLayer$Yard", "penny", "I", false)
  | 10 => ("LastLayer$Yard", "corn", "I", false)
  | 11 => ("LastLayer$Yard", "breed", "I", false)
  | 12 => ("LastLayer$Yard", "cost", "I", false)
  | 13 => ("LastLayer$Yard", "atHand", "I", false)
  | 14 => ("LastLayer$Yard", "inNet", "I", false)
  | 15 => ("LastLayer$Yard", "off", "I", false)
  | 16 => ("LastLayer$Yard", "runs", "I", false)
  | _ => ("LastLayer$Yard", "spent", "I", false)
def tyX9 : Nat → FieldType := fun k => match k with
  | 0 => .array (.object "LastLayer$Rick")
  | 1 => .array (.object "LastLayer$Side")
  | 2 => .array (.object "LastLayer$Catcher")
  | 3 => .array (.object "LastLayer$Catcher")
  | 4 => .array .int
  | 5 => .int
  | 6 => .int
  | 7 => .int
  | 8 => .int
  | 9 => .int
  | 10 => .int
  | 11 => .int
  | 12 => .int
  | 13 => .int
  | 14 => .int
  | 15 => .int
  | 16 => .int
  | _ => .int
abbrev wsX90 : List Cond := u_ws RX9 TX9 18
theorem nmX9 : ∀ a, a < 18 → ∀ b, b < 18 → a ≠ b → (TX9 a).2.1 ≠ (TX9 b).2.1 := by decide +kernel
theorem tyX9_ok : ∀ k, k < 18 → parseFieldDescriptor (TX9 k).2.2.1 = some (tyX9 k) := by decide +kernel
def RX10 : String := "LastLayer$YardReader"
def TX10 : u_T := fun k => match k with
  | 0 => ("LastLayer$YardReader", "fresh", "LLastLayer$Yard;", true)
  | 1 => ("LastLayer$YardReader", "tape", "LLastLayer$Tape;", true)
  | _ => ("LastLayer$YardReader", "told", "I", false)
def tyX10 : Nat → FieldType := fun k => match k with
  | 0 => .object "LastLayer$Yard"
  | 1 => .object "LastLayer$Tape"
  | _ => .int
abbrev wsX100 : List Cond := u_ws RX10 TX10 3
theorem nmX10 : ∀ a, a < 3 → ∀ b, b < 3 → a ≠ b → (TX10 a).2.1 ≠ (TX10 b).2.1 := by decide +kernel
theorem tyX10_ok : ∀ k, k < 3 → parseFieldDescriptor (TX10 k).2.2.1 = some (tyX10 k) := by decide +kernel
def RX11 : String := "LastLayer"
def TX11 : u_T := fun k => match k with
  | 0 => ("LastLayer", "trays", "[LLastLayer$Tray;", true)
  | 1 => ("LastLayer", "tape", "LLastLayer$Tape;", true)
  | 2 => ("LastLayer", "yard", "LLastLayer$Yard;", true)
  | 3 => ("LastLayer", "days", "LLastLayer$Days;", true)
  | 4 => ("LastLayer", "yardReader", "LLastLayer$YardReader;", true)
  | 5 => ("LastLayer", "daysReader", "LLastLayer$DaysReader;", true)
  | 6 => ("LastLayer", "trial", "LLastLayer$Trial;", true)
  | 7 => ("LastLayer", "life", "LLastLayer$Life;", true)
  | 8 => ("LastLayer", "dream", "LLastLayer$Life;", true)
  | 9 => ("LastLayer", "markedYards", "[LLastLayer$Yard;", true)
  | 10 => ("LastLayer", "markedDays", "[LLastLayer$Days;", true)
  | 11 => ("LastLayer", "marks", "I", false)
  | 12 => ("LastLayer", "status", "I", false)
  | 13 => ("LastLayer", "top", "J", false)
  | _ => ("LastLayer", "bottom", "J", false)
def tyX11 : Nat → FieldType := fun k => match k with
  | 0 => .array (.object "LastLayer$Tray")
  | 1 => .object "LastLayer$Tape"
  | 2 => .object "LastLayer$Yard"
  | 3 => .object "LastLayer$Days"
  | 4 => .object "LastLayer$YardReader"
  | 5 => .object "LastLayer$DaysReader"
  | 6 => .object "LastLayer$Trial"
  | 7 => .object "LastLayer$Life"
  | 8 => .object "LastLayer$Life"
  | 9 => .array (.object "LastLayer$Yard")
  | 10 => .array (.object "LastLayer$Days")
  | 11 => .int
  | 12 => .int
  | 13 => .long
  | _ => .long
abbrev wsX110 : List Cond := u_ws RX11 TX11 15
theorem nmX11 : ∀ a, a < 15 → ∀ b, b < 15 → a ≠ b → (TX11 a).2.1 ≠ (TX11 b).2.1 := by decide +kernel
theorem tyX11_ok : ∀ k, k < 15 → parseFieldDescriptor (TX11 k).2.2.1 = some (tyX11 k) := by decide +kernel
def RX12 : String := "LastLayerModel"
def TX12 : u_T := fun k => match k with
  | 0 => ("LastLayerModel", "status", "I", false)
  | 1 => ("LastLayerModel", "thrown", "I", false)
  | 2 => ("LastLayerModel", "above", "J", false)
  | 3 => ("LastLayerModel", "under", "J", false)
  | 4 => ("LastLayerModel", "traySort", "[I", true)
  | 5 => ("LastLayerModel", "trayMany", "[I", true)
  | 6 => ("LastLayerModel", "numbers", "[J", true)
  | 7 => ("LastLayerModel", "tape", "[B", true)
  | 8 => ("LastLayerModel", "taped", "I", false)
  | 9 => ("LastLayerModel", "textEnd", "I", false)
  | 10 => ("LastLayerModel", "faultKind", "I", false)
  | 11 => ("LastLayerModel", "faultAt", "I", false)
  | 12 => ("LastLayerModel", "bad", "I", false)
  | 13 => ("LastLayerModel", "badAt", "I", false)
  | 14 => ("LastLayerModel", "token", "I", false)
  | 15 => ("LastLayerModel", "at", "I", false)
  | 16 => ("LastLayerModel", "behind", "I", false)
  | 17 => ("LastLayerModel", "number", "I", false)
  | 18 => ("LastLayerModel", "letters", "I", false)
  | 19 => ("LastLayerModel", "word", "J", false)
  | 20 => ("LastLayerModel", "c", "[I", true)
  | 21 => ("LastLayerModel", "kept", "[I", true)
  | 22 => ("LastLayerModel", "words", "[J", true)
  | 23 => ("LastLayerModel", "markMany", "I", false)
  | 24 => ("LastLayerModel", "tollsTold", "I", false)
  | 25 => ("LastLayerModel", "newSteps", "I", false)
  | 26 => ("LastLayerModel", "go", "[I", true)
  | 27 => ("LastLayerModel", "bringsCaught", "I", false)
  | 28 => ("LastLayerModel", "bringsOff", "I", false)
  | 29 => ("LastLayerModel", "bringsRuns", "I", false)
  | 30 => ("LastLayerModel", "netTold", "I", false)
  | 31 => ("LastLayerModel", "placesTold", "[I", true)
  | 32 => ("LastLayerModel", "placesMany", "I", false)
  | 33 => ("LastLayerModel", "orderNow", "[I", true)
  | 34 => ("LastLayerModel", "orderTold", "[I", true)
  | 35 => ("LastLayerModel", "depth", "[I", true)
  | 36 => ("LastLayerModel", "orderMany", "I", false)
  | 37 => ("LastLayerModel", "orderBest", "I", false)
  | 38 => ("LastLayerModel", "grown", "[I", true)
  | 39 => ("LastLayerModel", "livedLast", "[I", true)
  | 40 => ("LastLayerModel", "before", "[I", true)
  | 41 => ("LastLayerModel", "hasLived", "Z", false)
  | 42 => ("LastLayerModel", "isOver", "Z", false)
  | 43 => ("LastLayerModel", "random", "I", false)
  | 44 => ("LastLayerModel", "done", "I", false)
  | 45 => ("LastLayerModel", "missed", "I", false)
  | 46 => ("LastLayerModel", "hours", "I", false)
  | _ => ("LastLayerModel", "leftOver", "I", false)
def tyX12 : Nat → FieldType := fun k => match k with
  | 0 => .int
  | 1 => .int
  | 2 => .long
  | 3 => .long
  | 4 => .array .int
  | 5 => .array .int
  | 6 => .array .long
  | 7 => .array .byte
  | 8 => .int
  | 9 => .int
  | 10 => .int
  | 11 => .int
  | 12 => .int
  | 13 => .int
  | 14 => .int
  | 15 => .int
  | 16 => .int
  | 17 => .int
  | 18 => .int
  | 19 => .long
  | 20 => .array .int
  | 21 => .array .int
  | 22 => .array .long
  | 23 => .int
  | 24 => .int
  | 25 => .int
  | 26 => .array .int
  | 27 => .int
  | 28 => .int
  | 29 => .int
  | 30 => .int
  | 31 => .array .int
  | 32 => .int
  | 33 => .array .int
  | 34 => .array .int
  | 35 => .array .int
  | 36 => .int
  | 37 => .int
  | 38 => .array .int
  | 39 => .array .int
  | 40 => .array .int
  | 41 => .boolean
  | 42 => .boolean
  | 43 => .int
  | 44 => .int
  | 45 => .int
  | 46 => .int
  | _ => .int
abbrev wsX120 : List Cond := u_ws RX12 TX12 48
theorem nmX12 : ∀ a, a < 48 → ∀ b, b < 48 → a ≠ b → (TX12 a).2.1 ≠ (TX12 b).2.1 := by decide +kernel
theorem tyX12_ok : ∀ k, k < 48 → parseFieldDescriptor (TX12 k).2.2.1 = some (tyX12 k) := by decide +kernel
def RL : String := "LastLayerLaw"
abbrev vwCl : List vw_C := [(RX0, TX0, 6), (RX1, TX1, 7), (RX2, TX2, 5), (RX3, TX3, 11), (RX4, TX4, 6), (RX5, TX5, 5), (RX6, TX6, 17), (RX7, TX7, 3), (RX8, TX8, 9), (RX9, TX9, 18), (RX10, TX10, 3), (RX11, TX11, 15), (RX12, TX12, 48)]
theorem am_mem {big ws : List Cond} (ps : List Nat) (hp : ws = ps.filterMap (fun i => big[i]?)) : ∀ w ∈ ws, w ∈ big := by
  intro w hw
  rw [hp] at hw
  obtain ⟨i, -, hi⟩ := List.mem_filterMap.mp hw
  exact List.mem_of_getElem? hi
set_option maxRecDepth 20000 in
theorem inX0 : ∀ w ∈ wsX00, w ∈ lw_tbl := am_mem [352, 354, 356, 358, 360, 362] (by decide +kernel)
set_option maxRecDepth 20000 in
theorem inX1 : ∀ w ∈ wsX10, w ∈ lw_tbl := am_mem [492, 494, 496, 498, 500, 502, 504] (by decide +kernel)
set_option maxRecDepth 20000 in
theorem inX2 : ∀ w ∈ wsX20, w ∈ lw_tbl := am_mem [540, 542, 544, 546, 548] (by decide +kernel)
set_option maxRecDepth 20000 in
theorem inX3 : ∀ w ∈ wsX30, w ∈ lw_tbl := am_mem [620, 622, 624, 626, 628, 630, 632, 634, 636, 638, 640] (by decide +kernel)
set_option maxRecDepth 20000 in
theorem inX4 : ∀ w ∈ wsX40, w ∈ lw_tbl := am_mem [279, 281, 283, 285, 287, 289] (by decide +kernel)
set_option maxRecDepth 20000 in
theorem inX5 : ∀ w ∈ wsX50, w ∈ lw_tbl := am_mem [315, 317, 319, 321, 323] (by decide +kernel)
set_option maxRecDepth 20000 in
theorem inX6 : ∀ w ∈ wsX60, w ∈ lw_tbl := am_mem [213, 215, 217, 219, 221, 223, 225, 227, 229, 231, 233, 235, 237, 239, 241, 243, 245] (by decide +kernel)
set_option maxRecDepth 20000 in
theorem inX7 : ∀ w ∈ wsX70, w ∈ lw_tbl := am_mem [655, 657, 659] (by decide +kernel)
set_option maxRecDepth 20000 in
theorem inX8 : ∀ w ∈ wsX80, w ∈ lw_tbl := am_mem [577, 579, 581, 583, 585, 587, 589, 591, 593] (by decide +kernel)
set_option maxRecDepth 20000 in
theorem inX9 : ∀ w ∈ wsX90, w ∈ lw_tbl := am_mem [427, 429, 431, 433, 435, 437, 439, 441, 443, 445, 447, 449, 451, 453, 455, 457, 459, 461] (by decide +kernel)
set_option maxRecDepth 20000 in
theorem inX10 : ∀ w ∈ wsX100, w ∈ lw_tbl := am_mem [519, 521, 523] (by decide +kernel)
set_option maxRecDepth 20000 in
theorem inX11 : ∀ w ∈ wsX110, w ∈ lw_tbl := am_mem [677, 679, 681, 683, 685, 687, 689, 691, 693, 695, 697, 699, 701, 703, 705] (by decide +kernel)
set_option maxRecDepth 20000 in
theorem inX12 : ∀ w ∈ wsX120, w ∈ lw_tbl := am_mem [1622, 1624, 1626, 1628, 1630, 1632, 1634, 1636, 1638, 1640, 1642, 1644, 1646, 1648, 1650, 1652, 1654, 1656, 1658, 1660, 1662, 1664, 1666, 1668, 1670, 1672, 1674, 1676, 1678, 1680, 1682, 1684, 1686, 1688, 1690, 1692, 1694, 1696, 1698, 1700, 1702, 1704, 1706, 1708, 1710, 1712, 1714, 1716] (by decide +kernel)
