theorem in_r {big : List Cond} (ws : List Cond) (ps : List Nat) (hp : ws = ps.filterMap (fun i => big[i]?)) : ∀ w ∈ ws, w ∈ big := by
  intro w hw
  rw [hp] at hw
  obtain ⟨i, -, hi⟩ := List.mem_filterMap.mp hw
  exact List.mem_of_getElem? hi
def RX0 : String := "LatePrices$Gains"
def TX0 : u_T := fun k => match k with
  | 0 => ("LatePrices$Gains", "news", "LLatePrices$News;", true)
  | 1 => ("LatePrices$Gains", "calls", "LLatePrices$Rows;", true)
  | 2 => ("LatePrices$Gains", "opens", "[I", true)
  | 3 => ("LatePrices$Gains", "closes", "[I", true)
  | 4 => ("LatePrices$Gains", "left", "[I", true)
  | 5 => ("LatePrices$Gains", "brings", "I", false)
  | _ => ("LatePrices$Gains", "units", "I", false)
def tyX0 : Nat → FieldType := fun k => match k with
  | 0 => .object "LatePrices$News"
  | 1 => .object "LatePrices$Rows"
  | 2 => .array .int
  | 3 => .array .int
  | 4 => .array .int
  | 5 => .int
  | _ => .int
theorem nmX0 : ∀ a, a < 7 → ∀ b, b < 7 → a ≠ b → (TX0 a).2.1 ≠ (TX0 b).2.1 := by decide +kernel
theorem tyX0_ok : ∀ k, k < 7 → parseFieldDescriptor (TX0 k).2.2.1 = some (tyX0 k) := by decide +kernel
theorem uin_0 : ∀ w ∈ u_ws RX0 TX0 7, w ∈ lw_tbl := in_r _ [372, 374, 376, 378, 380, 382, 384] (by decide +kernel)
theorem uns_0 : Cond.instantiable RX0 7 ∈ lw_tbl := List.mem_of_getElem? (i := 358) (by decide +kernel)
theorem uni_0 : Cond.initialized RX0 ∈ lw_tbl := List.mem_of_getElem? (i := 82) (by decide +kernel)
def RX1 : String := "LatePrices$Ledger"
def TX1 : u_T := fun k => match k with
  | 0 => ("LatePrices$Ledger", "plan", "LLatePrices$Plan;", true)
  | 1 => ("LatePrices$Ledger", "steps", "LLatePrices$Rows;", true)
  | 2 => ("LatePrices$Ledger", "calls", "LLatePrices$Rows;", true)
  | 3 => ("LatePrices$Ledger", "deals", "LLatePrices$Rows;", true)
  | _ => ("LatePrices$Ledger", "kept", "Z", false)
def tyX1 : Nat → FieldType := fun k => match k with
  | 0 => .object "LatePrices$Plan"
  | 1 => .object "LatePrices$Rows"
  | 2 => .object "LatePrices$Rows"
  | 3 => .object "LatePrices$Rows"
  | _ => .boolean
theorem nmX1 : ∀ a, a < 5 → ∀ b, b < 5 → a ≠ b → (TX1 a).2.1 ≠ (TX1 b).2.1 := by decide +kernel
theorem tyX1_ok : ∀ k, k < 5 → parseFieldDescriptor (TX1 k).2.2.1 = some (tyX1 k) := by decide +kernel
theorem uin_1 : ∀ w ∈ u_ws RX1 TX1 5, w ∈ lw_tbl := in_r _ [299, 301, 303, 305, 307] (by decide +kernel)
theorem uns_1 : Cond.instantiable RX1 5 ∈ lw_tbl := List.mem_of_getElem? (i := 257) (by decide +kernel)
theorem uni_1 : Cond.initialized RX1 ∈ lw_tbl := List.mem_of_getElem? (i := 78) (by decide +kernel)
def RX2 : String := "LatePrices$News"
def TX2 : u_T := fun k => match k with
  | 0 => ("LatePrices$News", "plan", "LLatePrices$Plan;", true)
  | 1 => ("LatePrices$News", "arrives", "[I", true)
  | _ => ("LatePrices$News", "leaves", "[I", true)
def tyX2 : Nat → FieldType := fun k => match k with
  | 0 => .object "LatePrices$Plan"
  | 1 => .array .int
  | _ => .array .int
theorem nmX2 : ∀ a, a < 3 → ∀ b, b < 3 → a ≠ b → (TX2 a).2.1 ≠ (TX2 b).2.1 := by decide +kernel
theorem tyX2_ok : ∀ k, k < 3 → parseFieldDescriptor (TX2 k).2.2.1 = some (tyX2 k) := by decide +kernel
theorem uin_2 : ∀ w ∈ u_ws RX2 TX2 3, w ∈ lw_tbl := in_r _ [249, 251, 253] (by decide +kernel)
theorem uns_2 : Cond.instantiable RX2 3 ∈ lw_tbl := List.mem_of_getElem? (i := 238) (by decide +kernel)
theorem uni_2 : Cond.initialized RX2 ∈ lw_tbl := List.mem_of_getElem? (i := 77) (by decide +kernel)
def RX3 : String := "LatePrices$Plan"
def TX3 : u_T := fun k => match k with
  | 0 => ("LatePrices$Plan", "prices", "[I", true)
  | 1 => ("LatePrices$Plan", "minutes", "[I", true)
  | 2 => ("LatePrices$Plan", "shutWay", "[I", true)
  | 3 => ("LatePrices$Plan", "shutFrom", "[I", true)
  | 4 => ("LatePrices$Plan", "shutTo", "[I", true)
  | 5 => ("LatePrices$Plan", "moves", "[I", true)
  | 6 => ("LatePrices$Plan", "places", "I", false)
  | 7 => ("LatePrices$Plan", "ways", "I", false)
  | 8 => ("LatePrices$Plan", "shuts", "I", false)
  | 9 => ("LatePrices$Plan", "rule", "I", false)
  | _ => ("LatePrices$Plan", "most", "I", false)
def tyX3 : Nat → FieldType := fun k => match k with
  | 0 => .array .int
  | 1 => .array .int
  | 2 => .array .int
  | 3 => .array .int
  | 4 => .array .int
  | 5 => .array .int
  | 6 => .int
  | 7 => .int
  | 8 => .int
  | 9 => .int
  | _ => .int
theorem nmX3 : ∀ a, a < 11 → ∀ b, b < 11 → a ≠ b → (TX3 a).2.1 ≠ (TX3 b).2.1 := by decide +kernel
theorem tyX3_ok : ∀ k, k < 11 → parseFieldDescriptor (TX3 k).2.2.1 = some (tyX3 k) := by decide +kernel
theorem uin_3 : ∀ w ∈ u_ws RX3 TX3 11, w ∈ lw_tbl := in_r _ [183, 185, 187, 189, 191, 193, 195, 197, 199, 201, 203] (by decide +kernel)
theorem uns_3 : Cond.instantiable RX3 11 ∈ lw_tbl := List.mem_of_getElem? (i := 132) (by decide +kernel)
theorem uni_3 : Cond.initialized RX3 ∈ lw_tbl := List.mem_of_getElem? (i := 74) (by decide +kernel)
def RX4 : String := "LatePrices$Reader"
def TX4 : u_T := fun k => match k with
  | 0 => ("LatePrices$Reader", "tape", "LLatePrices$Tape;", true)
  | 1 => ("LatePrices$Reader", "draft", "LLatePrices$Plan;", true)
  | 2 => ("LatePrices$Reader", "fault", "I", false)
  | 3 => ("LatePrices$Reader", "faultPlace", "I", false)
  | 4 => ("LatePrices$Reader", "movesTold", "Z", false)
  | 5 => ("LatePrices$Reader", "firstTold", "Z", false)
  | _ => ("LatePrices$Reader", "mostTold", "Z", false)
def tyX4 : Nat → FieldType := fun k => match k with
  | 0 => .object "LatePrices$Tape"
  | 1 => .object "LatePrices$Plan"
  | 2 => .int
  | 3 => .int
  | 4 => .boolean
  | 5 => .boolean
  | _ => .boolean
theorem nmX4 : ∀ a, a < 7 → ∀ b, b < 7 → a ≠ b → (TX4 a).2.1 ≠ (TX4 b).2.1 := by decide +kernel
theorem tyX4_ok : ∀ k, k < 7 → parseFieldDescriptor (TX4 k).2.2.1 = some (tyX4 k) := by decide +kernel
theorem uin_4 : ∀ w ∈ u_ws RX4 TX4 7, w ∈ lw_tbl := in_r _ [222, 224, 226, 228, 230, 232, 234] (by decide +kernel)
theorem uns_4 : Cond.instantiable RX4 7 ∈ lw_tbl := List.mem_of_getElem? (i := 208) (by decide +kernel)
theorem uni_4 : Cond.initialized RX4 ∈ lw_tbl := List.mem_of_getElem? (i := 76) (by decide +kernel)
def RX5 : String := "LatePrices$Rows"
def TX5 : u_T := fun k => match k with
  | 0 => ("LatePrices$Rows", "most", "I", true)
  | 1 => ("LatePrices$Rows", "width", "I", true)
  | 2 => ("LatePrices$Rows", "cells", "[I", true)
  | _ => ("LatePrices$Rows", "size", "I", false)
def tyX5 : Nat → FieldType := fun k => match k with
  | 0 => .int
  | 1 => .int
  | 2 => .array .int
  | _ => .int
theorem nmX5 : ∀ a, a < 4 → ∀ b, b < 4 → a ≠ b → (TX5 a).2.1 ≠ (TX5 b).2.1 := by decide +kernel
theorem tyX5_ok : ∀ k, k < 4 → parseFieldDescriptor (TX5 k).2.2.1 = some (tyX5 k) := by decide +kernel
theorem uin_5 : ∀ w ∈ u_ws RX5 TX5 4, w ∈ lw_tbl := in_r _ [279, 281, 283, 285] (by decide +kernel)
theorem uns_5 : Cond.instantiable RX5 4 ∈ lw_tbl := List.mem_of_getElem? (i := 263) (by decide +kernel)
theorem uni_5 : Cond.initialized RX5 ∈ lw_tbl := List.mem_of_getElem? (i := 79) (by decide +kernel)
def RX6 : String := "LatePrices$Sheet"
def TX6 : u_T := fun k => match k with
  | 0 => ("LatePrices$Sheet", "cells", "[I", true)
  | 1 => ("LatePrices$Sheet", "lane", "I", false)
  | _ => ("LatePrices$Sheet", "size", "I", false)
def tyX6 : Nat → FieldType := fun k => match k with
  | 0 => .array .int
  | 1 => .int
  | _ => .int
theorem nmX6 : ∀ a, a < 3 → ∀ b, b < 3 → a ≠ b → (TX6 a).2.1 ≠ (TX6 b).2.1 := by decide +kernel
theorem tyX6_ok : ∀ k, k < 3 → parseFieldDescriptor (TX6 k).2.2.1 = some (tyX6 k) := by decide +kernel
theorem uin_6 : ∀ w ∈ u_ws RX6 TX6 3, w ∈ lw_tbl := in_r _ [433, 435, 437] (by decide +kernel)
theorem uns_6 : Cond.instantiable RX6 3 ∈ lw_tbl := List.mem_of_getElem? (i := 424) (by decide +kernel)
theorem uni_6 : Cond.initialized RX6 ∈ lw_tbl := List.mem_of_getElem? (i := 85) (by decide +kernel)
def RX7 : String := "LatePrices$Strikes"
def TX7 : u_T := fun k => match k with
  | 0 => ("LatePrices$Strikes", "plan", "LLatePrices$Plan;", true)
  | 1 => ("LatePrices$Strikes", "news", "LLatePrices$News;", true)
  | 2 => ("LatePrices$Strikes", "calls", "LLatePrices$Rows;", true)
  | 3 => ("LatePrices$Strikes", "deals", "LLatePrices$Rows;", true)
  | 4 => ("LatePrices$Strikes", "ledger", "LLatePrices$Ledger;", true)
  | 5 => ("LatePrices$Strikes", "order", "[I", true)
  | 6 => ("LatePrices$Strikes", "taken", "[I", true)
  | 7 => ("LatePrices$Strikes", "pays", "[I", true)
  | 8 => ("LatePrices$Strikes", "left", "[I", true)
  | 9 => ("LatePrices$Strikes", "last", "[I", true)
  | 10 => ("LatePrices$Strikes", "fullAt", "[I", true)
  | _ => ("LatePrices$Strikes", "excess", "I", false)
def tyX7 : Nat → FieldType := fun k => match k with
  | 0 => .object "LatePrices$Plan"
  | 1 => .object "LatePrices$News"
  | 2 => .object "LatePrices$Rows"
  | 3 => .object "LatePrices$Rows"
  | 4 => .object "LatePrices$Ledger"
  | 5 => .array .int
  | 6 => .array .int
  | 7 => .array .int
  | 8 => .array .int
  | 9 => .array .int
  | 10 => .array .int
  | _ => .int
theorem nmX7 : ∀ a, a < 12 → ∀ b, b < 12 → a ≠ b → (TX7 a).2.1 ≠ (TX7 b).2.1 := by decide +kernel
theorem tyX7_ok : ∀ k, k < 12 → parseFieldDescriptor (TX7 k).2.2.1 = some (tyX7 k) := by decide +kernel
theorem uin_7 : ∀ w ∈ u_ws RX7 TX7 12, w ∈ lw_tbl := in_r _ [332, 334, 336, 338, 340, 342, 344, 346, 348, 350, 352, 354] (by decide +kernel)
theorem uns_7 : Cond.instantiable RX7 12 ∈ lw_tbl := List.mem_of_getElem? (i := 312) (by decide +kernel)
theorem uni_7 : Cond.initialized RX7 ∈ lw_tbl := List.mem_of_getElem? (i := 81) (by decide +kernel)
def RX8 : String := "LatePrices$Tape"
def TX8 : u_T := fun k => match k with
  | 0 => ("LatePrices$Tape", "bytes", "[B", true)
  | 1 => ("LatePrices$Tape", "length", "I", false)
  | 2 => ("LatePrices$Tape", "next", "I", false)
  | 3 => ("LatePrices$Tape", "kind", "I", false)
  | 4 => ("LatePrices$Tape", "start", "I", false)
  | _ => ("LatePrices$Tape", "value", "I", false)
def tyX8 : Nat → FieldType := fun k => match k with
  | 0 => .array .byte
  | 1 => .int
  | 2 => .int
  | 3 => .int
  | 4 => .int
  | _ => .int
theorem nmX8 : ∀ a, a < 6 → ∀ b, b < 6 → a ≠ b → (TX8 a).2.1 ≠ (TX8 b).2.1 := by decide +kernel
theorem tyX8_ok : ∀ k, k < 6 → parseFieldDescriptor (TX8 k).2.2.1 = some (tyX8 k) := by decide +kernel
theorem uin_8 : ∀ w ∈ u_ws RX8 TX8 6, w ∈ lw_tbl := in_r _ [117, 119, 121, 123, 125, 127] (by decide +kernel)
theorem uns_8 : Cond.instantiable RX8 6 ∈ lw_tbl := List.mem_of_getElem? (i := 101) (by decide +kernel)
theorem uni_8 : Cond.initialized RX8 ∈ lw_tbl := List.mem_of_getElem? (i := 73) (by decide +kernel)
def RX9 : String := "LatePrices$Waits"
def TX9 : u_T := fun k => match k with
  | 0 => ("LatePrices$Waits", "plan", "LLatePrices$Plan;", true)
  | 1 => ("LatePrices$Waits", "news", "LLatePrices$News;", true)
  | _ => ("LatePrices$Waits", "longest", "[I", true)
def tyX9 : Nat → FieldType := fun k => match k with
  | 0 => .object "LatePrices$Plan"
  | 1 => .object "LatePrices$News"
  | _ => .array .int
theorem nmX9 : ∀ a, a < 3 → ∀ b, b < 3 → a ≠ b → (TX9 a).2.1 ≠ (TX9 b).2.1 := by decide +kernel
theorem tyX9_ok : ∀ k, k < 3 → parseFieldDescriptor (TX9 k).2.2.1 = some (tyX9 k) := by decide +kernel
theorem uin_9 : ∀ w ∈ u_ws RX9 TX9 3, w ∈ lw_tbl := in_r _ [397, 399, 401] (by decide +kernel)
theorem uns_9 : Cond.instantiable RX9 3 ∈ lw_tbl := List.mem_of_getElem? (i := 388) (by decide +kernel)
theorem uni_9 : Cond.initialized RX9 ∈ lw_tbl := List.mem_of_getElem? (i := 83) (by decide +kernel)
def RX10 : String := "LatePrices$Worth"
def TX10 : u_T := fun k => match k with
  | 0 => ("LatePrices$Worth", "plan", "LLatePrices$Plan;", true)
  | 1 => ("LatePrices$Worth", "counts", "[J", true)
  | _ => ("LatePrices$Worth", "before", "[J", true)
def tyX10 : Nat → FieldType := fun k => match k with
  | 0 => .object "LatePrices$Plan"
  | 1 => .array .long
  | _ => .array .long
theorem nmX10 : ∀ a, a < 3 → ∀ b, b < 3 → a ≠ b → (TX10 a).2.1 ≠ (TX10 b).2.1 := by decide +kernel
theorem tyX10_ok : ∀ k, k < 3 → parseFieldDescriptor (TX10 k).2.2.1 = some (tyX10 k) := by decide +kernel
theorem uin_10 : ∀ w ∈ u_ws RX10 TX10 3, w ∈ lw_tbl := in_r _ [414, 416, 418] (by decide +kernel)
theorem uns_10 : Cond.instantiable RX10 3 ∈ lw_tbl := List.mem_of_getElem? (i := 405) (by decide +kernel)
theorem uni_10 : Cond.initialized RX10 ∈ lw_tbl := List.mem_of_getElem? (i := 84) (by decide +kernel)
def RX11 : String := "LatePrices"
def TX11 : u_T := fun k => match k with
  | 0 => ("LatePrices", "tape", "LLatePrices$Tape;", true)
  | 1 => ("LatePrices", "plan", "LLatePrices$Plan;", true)
  | 2 => ("LatePrices", "draft", "LLatePrices$Plan;", true)
  | 3 => ("LatePrices", "reader", "LLatePrices$Reader;", true)
  | 4 => ("LatePrices", "news", "LLatePrices$News;", true)
  | 5 => ("LatePrices", "ledger", "LLatePrices$Ledger;", true)
  | 6 => ("LatePrices", "images", "[LLatePrices$Ledger;", true)
  | 7 => ("LatePrices", "strikes", "LLatePrices$Strikes;", true)
  | 8 => ("LatePrices", "gains", "LLatePrices$Gains;", true)
  | 9 => ("LatePrices", "waiting", "LLatePrices$Waits;", true)
  | 10 => ("LatePrices", "worth", "LLatePrices$Worth;", true)
  | 11 => ("LatePrices", "sheets", "[LLatePrices$Sheet;", true)
  | 12 => ("LatePrices", "fault", "I", false)
  | _ => ("LatePrices", "torn", "I", false)
def tyX11 : Nat → FieldType := fun k => match k with
  | 0 => .object "LatePrices$Tape"
  | 1 => .object "LatePrices$Plan"
  | 2 => .object "LatePrices$Plan"
  | 3 => .object "LatePrices$Reader"
  | 4 => .object "LatePrices$News"
  | 5 => .object "LatePrices$Ledger"
  | 6 => .array (.object "LatePrices$Ledger")
  | 7 => .object "LatePrices$Strikes"
  | 8 => .object "LatePrices$Gains"
  | 9 => .object "LatePrices$Waits"
  | 10 => .object "LatePrices$Worth"
  | 11 => .array (.object "LatePrices$Sheet")
  | 12 => .int
  | _ => .int
theorem nmX11 : ∀ a, a < 14 → ∀ b, b < 14 → a ≠ b → (TX11 a).2.1 ≠ (TX11 b).2.1 := by decide +kernel
theorem tyX11_ok : ∀ k, k < 14 → parseFieldDescriptor (TX11 k).2.2.1 = some (tyX11 k) := by decide +kernel
theorem uin_11 : ∀ w ∈ u_ws RX11 TX11 14, w ∈ lw_tbl := in_r _ [454, 456, 458, 460, 462, 464, 466, 468, 470, 472, 474, 476, 478, 480] (by decide +kernel)
theorem uns_11 : Cond.instantiable RX11 14 ∈ lw_tbl := List.mem_of_getElem? (i := 93) (by decide +kernel)
theorem uni_11 : Cond.initialized RX11 ∈ lw_tbl := List.mem_of_getElem? (i := 72) (by decide +kernel)
def RX12 : String := "LatePricesModel"
def TX12 : u_T := fun k => match k with
  | 0 => ("LatePricesModel", "tape", "[I", true)
  | 1 => ("LatePricesModel", "taped", "I", false)
  | 2 => ("LatePricesModel", "fault", "I", false)
  | 3 => ("LatePricesModel", "wrong", "I", false)
  | 4 => ("LatePricesModel", "wrongAt", "I", false)
  | 5 => ("LatePricesModel", "spot", "I", false)
  | 6 => ("LatePricesModel", "place", "I", false)
  | 7 => ("LatePricesModel", "token", "I", false)
  | 8 => ("LatePricesModel", "value", "I", false)
  | 9 => ("LatePricesModel", "cuts", "[I", true)
  | 10 => ("LatePricesModel", "letters", "[I", true)
  | 11 => ("LatePricesModel", "plain", "[I", true)
  | 12 => ("LatePricesModel", "rules", "[I", true)
  | 13 => ("LatePricesModel", "prices", "[I", true)
  | 14 => ("LatePricesModel", "ways", "[I", true)
  | 15 => ("LatePricesModel", "shuts", "[I", true)
  | 16 => ("LatePricesModel", "readRules", "[I", true)
  | 17 => ("LatePricesModel", "readPrices", "[I", true)
  | 18 => ("LatePricesModel", "readWays", "[I", true)
  | 19 => ("LatePricesModel", "readShuts", "[I", true)
  | 20 => ("LatePricesModel", "toldOnes", "I", false)
  | 21 => ("LatePricesModel", "comesTo", "[I", true)
  | 22 => ("LatePricesModel", "state", "[I", true)
  | 23 => ("LatePricesModel", "arrives", "[I", true)
  | 24 => ("LatePricesModel", "struck", "[I", true)
  | 25 => ("LatePricesModel", "isGone", "[Z", true)
  | 26 => ("LatePricesModel", "isOut", "[Z", true)
  | 27 => ("LatePricesModel", "offers", "[I", true)
  | 28 => ("LatePricesModel", "gained", "I", false)
  | 29 => ("LatePricesModel", "gainedUnits", "I", false)
  | 30 => ("LatePricesModel", "walks", "[J", true)
  | 31 => ("LatePricesModel", "walksThen", "[J", true)
  | 32 => ("LatePricesModel", "allWalks", "J", false)
  | 33 => ("LatePricesModel", "isKept", "[Z", true)
  | 34 => ("LatePricesModel", "lanes", "[I", true)
  | 35 => ("LatePricesModel", "lengths", "[I", true)
  | 36 => ("LatePricesModel", "cells", "[I", true)
  | _ => ("LatePricesModel", "torn", "I", false)
def tyX12 : Nat → FieldType := fun k => match k with
  | 0 => .array .int
  | 1 => .int
  | 2 => .int
  | 3 => .int
  | 4 => .int
  | 5 => .int
  | 6 => .int
  | 7 => .int
  | 8 => .int
  | 9 => .array .int
  | 10 => .array .int
  | 11 => .array .int
  | 12 => .array .int
  | 13 => .array .int
  | 14 => .array .int
  | 15 => .array .int
  | 16 => .array .int
  | 17 => .array .int
  | 18 => .array .int
  | 19 => .array .int
  | 20 => .int
  | 21 => .array .int
  | 22 => .array .int
  | 23 => .array .int
  | 24 => .array .int
  | 25 => .array .boolean
  | 26 => .array .boolean
  | 27 => .array .int
  | 28 => .int
  | 29 => .int
  | 30 => .array .long
  | 31 => .array .long
  | 32 => .long
  | 33 => .array .boolean
  | 34 => .array .int
  | 35 => .array .int
  | 36 => .array .int
  | _ => .int
theorem nmX12 : ∀ a, a < 38 → ∀ b, b < 38 → a ≠ b → (TX12 a).2.1 ≠ (TX12 b).2.1 := by decide +kernel
theorem tyX12_ok : ∀ k, k < 38 → parseFieldDescriptor (TX12 k).2.2.1 = some (tyX12 k) := by decide +kernel
theorem uin_12 : ∀ w ∈ u_ws RX12 TX12 38, w ∈ lw_tbl := in_r _ [1128, 1130, 1132, 1134, 1136, 1138, 1140, 1142, 1144, 1146, 1148, 1150, 1152, 1154, 1156, 1158, 1160, 1162, 1164, 1166, 1168, 1170, 1172, 1174, 1176, 1178, 1180, 1182, 1184, 1186, 1188, 1190, 1192, 1194, 1196, 1198, 1200, 1202] (by decide +kernel)
theorem uns_12 : Cond.instantiable RX12 38 ∈ lw_tbl := List.mem_of_getElem? (i := 1085) (by decide +kernel)
theorem uni_12 : Cond.initialized RX12 ∈ lw_tbl := List.mem_of_getElem? (i := 86) (by decide +kernel)
abbrev CLS : List vw_C := [(RX0, TX0, 7), (RX1, TX1, 5), (RX2, TX2, 3), (RX3, TX3, 11), (RX4, TX4, 7), (RX5, TX5, 4), (RX6, TX6, 3), (RX7, TX7, 12), (RX8, TX8, 6), (RX9, TX9, 3), (RX10, TX10, 3), (RX11, TX11, 14), (RX12, TX12, 38)]
def tyOf (c : Nat) : Nat → FieldType := match c with
  | 0 => tyX0
  | 1 => tyX1
  | 2 => tyX2
  | 3 => tyX3
  | 4 => tyX4
  | 5 => tyX5
  | 6 => tyX6
  | 7 => tyX7
  | 8 => tyX8
  | 9 => tyX9
  | 10 => tyX10
  | 11 => tyX11
  | _ => tyX12
theorem u_in {ci : Nat} {q : vw_C} (h : CLS[ci]? = some q) : ∀ w ∈ u_ws q.1 q.2.1 q.2.2, w ∈ lw_tbl := by
  match ci, h with
  | 0, h => cases h; exact uin_0
  | 1, h => cases h; exact uin_1
  | 2, h => cases h; exact uin_2
  | 3, h => cases h; exact uin_3
  | 4, h => cases h; exact uin_4
  | 5, h => cases h; exact uin_5
  | 6, h => cases h; exact uin_6
  | 7, h => cases h; exact uin_7
  | 8, h => cases h; exact uin_8
  | 9, h => cases h; exact uin_9
  | 10, h => cases h; exact uin_10
  | 11, h => cases h; exact uin_11
  | 12, h => cases h; exact uin_12
  | n + 13, h => simp [CLS] at h
theorem u_nm {ci : Nat} {q : vw_C} (h : CLS[ci]? = some q) : ∀ a, a < q.2.2 → ∀ b, b < q.2.2 → a ≠ b → (q.2.1 a).2.1 ≠ (q.2.1 b).2.1 := by
  match ci, h with
  | 0, h => cases h; exact nmX0
  | 1, h => cases h; exact nmX1
  | 2, h => cases h; exact nmX2
  | 3, h => cases h; exact nmX3
  | 4, h => cases h; exact nmX4
  | 5, h => cases h; exact nmX5
  | 6, h => cases h; exact nmX6
  | 7, h => cases h; exact nmX7
  | 8, h => cases h; exact nmX8
  | 9, h => cases h; exact nmX9
  | 10, h => cases h; exact nmX10
  | 11, h => cases h; exact nmX11
  | 12, h => cases h; exact nmX12
  | n + 13, h => simp [CLS] at h
theorem u_ty {ci : Nat} {q : vw_C} (h : CLS[ci]? = some q) : ∀ k, k < q.2.2 → parseFieldDescriptor (q.2.1 k).2.2.1 = some (tyOf ci k) := by
  match ci, h with
  | 0, h => cases h; exact tyX0_ok
  | 1, h => cases h; exact tyX1_ok
  | 2, h => cases h; exact tyX2_ok
  | 3, h => cases h; exact tyX3_ok
  | 4, h => cases h; exact tyX4_ok
  | 5, h => cases h; exact tyX5_ok
  | 6, h => cases h; exact tyX6_ok
  | 7, h => cases h; exact tyX7_ok
  | 8, h => cases h; exact tyX8_ok
  | 9, h => cases h; exact tyX9_ok
  | 10, h => cases h; exact tyX10_ok
  | 11, h => cases h; exact tyX11_ok
  | 12, h => cases h; exact tyX12_ok
  | n + 13, h => simp [CLS] at h
theorem u_ns {ci : Nat} {q : vw_C} (h : CLS[ci]? = some q) : Cond.instantiable q.1 q.2.2 ∈ lw_tbl := by
  match ci, h with
  | 0, h => cases h; exact uns_0
  | 1, h => cases h; exact uns_1
  | 2, h => cases h; exact uns_2
  | 3, h => cases h; exact uns_3
  | 4, h => cases h; exact uns_4
  | 5, h => cases h; exact uns_5
  | 6, h => cases h; exact uns_6
  | 7, h => cases h; exact uns_7
  | 8, h => cases h; exact uns_8
  | 9, h => cases h; exact uns_9
  | 10, h => cases h; exact uns_10
  | 11, h => cases h; exact uns_11
  | 12, h => cases h; exact uns_12
  | n + 13, h => simp [CLS] at h
theorem u_ni {ci : Nat} {q : vw_C} (h : CLS[ci]? = some q) : Cond.initialized q.1 ∈ lw_tbl := by
  match ci, h with
  | 0, h => cases h; exact uni_0
  | 1, h => cases h; exact uni_1
  | 2, h => cases h; exact uni_2
  | 3, h => cases h; exact uni_3
  | 4, h => cases h; exact uni_4
  | 5, h => cases h; exact uni_5
  | 6, h => cases h; exact uni_6
  | 7, h => cases h; exact uni_7
  | 8, h => cases h; exact uni_8
  | 9, h => cases h; exact uni_9
  | 10, h => cases h; exact uni_10
  | 11, h => cases h; exact uni_11
  | 12, h => cases h; exact uni_12
  | n + 13, h => simp [CLS] at h
