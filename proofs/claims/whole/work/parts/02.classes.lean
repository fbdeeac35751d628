def lw_good : List Cond := lw_tbl.filter goodWord
theorem lw_in {w : Cond} (i : Nat) (h : lw_tbl[i]? = some w) (g : goodWord w = true) : w ∈ lw_good := List.mem_filter.mpr ⟨List.mem_of_getElem? h, g⟩
theorem lw_ps {ws : List Cond} (ps : List Nat) (hp : ws = ps.filterMap (fun i => lw_tbl[i]?)) (h : ws.all goodWord = true) : ∀ w ∈ ws, w ∈ lw_good := by
  intro w hw
  have h1 := List.all_eq_true.mp h w hw
  rw [hp] at hw
  obtain ⟨i, -, hi⟩ := List.mem_filterMap.mp hw
  exact lw_in i hi h1
def RX0 : String := "CallSigns$Book"
def TX0 : u_T := fun k => match k with
  | 0 => ("CallSigns$Book", "text", "[B", true)
  | 1 => ("CallSigns$Book", "length", "I", false)
  | 2 => ("CallSigns$Book", "numbers", "[I", true)
  | 3 => ("CallSigns$Book", "letters", "[I", true)
  | 4 => ("CallSigns$Book", "firsts", "[I", true)
  | 5 => ("CallSigns$Book", "seconds", "[I", true)
  | 6 => ("CallSigns$Book", "thirds", "[I", true)
  | 7 => ("CallSigns$Book", "items", "I", false)
  | 8 => ("CallSigns$Book", "postsTold", "I", false)
  | 9 => ("CallSigns$Book", "namesTold", "I", false)
  | 10 => ("CallSigns$Book", "nameOn", "[[I", true)
  | 11 => ("CallSigns$Book", "postOn", "[[I", true)
  | _ => ("CallSigns$Book", "taken", "I", false)
def tyX0 : Nat → FieldType := fun k => match k with
  | 0 => .array .byte
  | 1 => .int
  | 2 => .array .int
  | 3 => .array .int
  | 4 => .array .int
  | 5 => .array .int
  | 6 => .array .int
  | 7 => .int
  | 8 => .int
  | 9 => .int
  | 10 => .array (.array .int)
  | 11 => .array (.array .int)
  | _ => .int
theorem nmX0 : ∀ a, a < 13 → ∀ b, b < 13 → a ≠ b → (TX0 a).2.1 ≠ (TX0 b).2.1 := by decide +kernel
theorem tyX0_ok : ∀ k, k < 13 → parseFieldDescriptor (TX0 k).2.2.1 = some (tyX0 k) := by decide +kernel
theorem inX0 : ∀ w ∈ u_ws RX0 TX0 13, w ∈ lw_good := lw_ps [170, 172, 174, 176, 178, 180, 182, 184, 186, 188, 190, 192, 194] (by decide +kernel) (by decide +kernel)
def RX1 : String := "CallSigns$CallLog"
def TX1 : u_T := fun k => match k with
  | 0 => ("CallSigns$CallLog", "from", "[I", true)
  | 1 => ("CallSigns$CallLog", "to", "[I", true)
  | 2 => ("CallSigns$CallLog", "hour", "[I", true)
  | 3 => ("CallSigns$CallLog", "minutes", "[I", true)
  | 4 => ("CallSigns$CallLog", "wave", "[I", true)
  | 5 => ("CallSigns$CallLog", "pause", "[I", true)
  | _ => ("CallSigns$CallLog", "size", "I", false)
def tyX1 : Nat → FieldType := fun k => match k with
  | 0 => .array .int
  | 1 => .array .int
  | 2 => .array .int
  | 3 => .array .int
  | 4 => .array .int
  | 5 => .array .int
  | _ => .int
theorem nmX1 : ∀ a, a < 7 → ∀ b, b < 7 → a ≠ b → (TX1 a).2.1 ≠ (TX1 b).2.1 := by decide +kernel
theorem tyX1_ok : ∀ k, k < 7 → parseFieldDescriptor (TX1 k).2.2.1 = some (tyX1 k) := by decide +kernel
theorem inX1 : ∀ w ∈ u_ws RX1 TX1 7, w ∈ lw_good := lw_ps [126, 128, 130, 132, 134, 136, 138] (by decide +kernel) (by decide +kernel)
def RX2 : String := "CallSigns$Hands"
def TX2 : u_T := fun k => match k with
  | 0 => ("CallSigns$Hands", "apart", "I", false)
  | 1 => ("CallSigns$Hands", "size", "I", false)
  | _ => ("CallSigns$Hands", "byPause", "[I", true)
def tyX2 : Nat → FieldType := fun k => match k with
  | 0 => .int
  | 1 => .int
  | _ => .array .int
theorem nmX2 : ∀ a, a < 3 → ∀ b, b < 3 → a ≠ b → (TX2 a).2.1 ≠ (TX2 b).2.1 := by decide +kernel
theorem tyX2_ok : ∀ k, k < 3 → parseFieldDescriptor (TX2 k).2.2.1 = some (tyX2 k) := by decide +kernel
theorem inX2 : ∀ w ∈ u_ws RX2 TX2 3, w ∈ lw_good := lw_ps [209, 211, 213] (by decide +kernel) (by decide +kernel)
def RX3 : String := "CallSigns$Links"
def TX3 : u_T := fun k => match k with
  | 0 => ("CallSigns$Links", "size", "I", false)
  | _ => ("CallSigns$Links", "waveBits", "[I", true)
def tyX3 : Nat → FieldType := fun k => match k with
  | 0 => .int
  | _ => .array .int
theorem nmX3 : ∀ a, a < 2 → ∀ b, b < 2 → a ≠ b → (TX3 a).2.1 ≠ (TX3 b).2.1 := by decide +kernel
theorem tyX3_ok : ∀ k, k < 2 → parseFieldDescriptor (TX3 k).2.2.1 = some (tyX3 k) := by decide +kernel
theorem inX3 : ∀ w ∈ u_ws RX3 TX3 2, w ∈ lw_good := lw_ps [419, 421] (by decide +kernel) (by decide +kernel)
def RX4 : String := "CallSigns$Orders"
def TX4 : u_T := fun k => match k with
  | 0 => ("CallSigns$Orders", "within", "I", false)
  | _ => ("CallSigns$Orders", "signs", "[I", true)
def tyX4 : Nat → FieldType := fun k => match k with
  | 0 => .int
  | _ => .array .int
theorem nmX4 : ∀ a, a < 2 → ∀ b, b < 2 → a ≠ b → (TX4 a).2.1 ≠ (TX4 b).2.1 := by decide +kernel
theorem tyX4_ok : ∀ k, k < 2 → parseFieldDescriptor (TX4 k).2.2.1 = some (tyX4 k) := by decide +kernel
theorem inX4 : ∀ w ∈ u_ws RX4 TX4 2, w ∈ lw_good := lw_ps [298, 300] (by decide +kernel) (by decide +kernel)
def RX5 : String := "CallSigns$Pairing"
def TX5 : u_T := fun k => match k with
  | 0 => ("CallSigns$Pairing", "today", "LCallSigns$Senders;", true)
  | 1 => ("CallSigns$Pairing", "next", "LCallSigns$Senders;", true)
  | 2 => ("CallSigns$Pairing", "becomes", "[I", true)
  | 3 => ("CallSigns$Pairing", "cameFrom", "[I", true)
  | 4 => ("CallSigns$Pairing", "likes", "[I", true)
  | 5 => ("CallSigns$Pairing", "bests", "[I", true)
  | 6 => ("CallSigns$Pairing", "reached", "[Z", true)
  | _ => ("CallSigns$Pairing", "sure", "I", false)
def tyX5 : Nat → FieldType := fun k => match k with
  | 0 => .object "CallSigns$Senders"
  | 1 => .object "CallSigns$Senders"
  | 2 => .array .int
  | 3 => .array .int
  | 4 => .array .int
  | 5 => .array .int
  | 6 => .array .boolean
  | _ => .int
theorem nmX5 : ∀ a, a < 8 → ∀ b, b < 8 → a ≠ b → (TX5 a).2.1 ≠ (TX5 b).2.1 := by decide +kernel
theorem tyX5_ok : ∀ k, k < 8 → parseFieldDescriptor (TX5 k).2.2.1 = some (tyX5 k) := by decide +kernel
theorem inX5 : ∀ w ∈ u_ws RX5 TX5 8, w ∈ lw_good := lw_ps [259, 261, 263, 265, 267, 269, 271, 273] (by decide +kernel) (by decide +kernel)
def RX6 : String := "CallSigns$Places"
def TX6 : u_T := fun k => match k with
  | 0 => ("CallSigns$Places", "hearerX", "[I", true)
  | 1 => ("CallSigns$Places", "hearerY", "[I", true)
  | 2 => ("CallSigns$Places", "hearers", "[I", true)
  | 3 => ("CallSigns$Places", "names", "[I", true)
  | 4 => ("CallSigns$Places", "days", "[I", true)
  | 5 => ("CallSigns$Places", "us", "[I", true)
  | 6 => ("CallSigns$Places", "vs", "[I", true)
  | 7 => ("CallSigns$Places", "ws", "[I", true)
  | 8 => ("CallSigns$Places", "size", "I", false)
  | 9 => ("CallSigns$Places", "cells", "[I", true)
  | _ => ("CallSigns$Places", "otherCells", "[I", true)
def tyX6 : Nat → FieldType := fun k => match k with
  | 0 => .array .int
  | 1 => .array .int
  | 2 => .array .int
  | 3 => .array .int
  | 4 => .array .int
  | 5 => .array .int
  | 6 => .array .int
  | 7 => .array .int
  | 8 => .int
  | 9 => .array .int
  | _ => .array .int
theorem nmX6 : ∀ a, a < 11 → ∀ b, b < 11 → a ≠ b → (TX6 a).2.1 ≠ (TX6 b).2.1 := by decide +kernel
theorem tyX6_ok : ∀ k, k < 11 → parseFieldDescriptor (TX6 k).2.2.1 = some (tyX6 k) := by decide +kernel
theorem inX6 : ∀ w ∈ u_ws RX6 TX6 11, w ∈ lw_good := lw_ps [354, 356, 358, 360, 362, 364, 366, 368, 370, 372, 374] (by decide +kernel) (by decide +kernel)
def RX7 : String := "CallSigns$Senders"
def TX7 : u_T := fun k => match k with
  | 0 => ("CallSigns$Senders", "names", "[I", true)
  | 1 => ("CallSigns$Senders", "size", "I", false)
  | 2 => ("CallSigns$Senders", "handBits", "[J", true)
  | 3 => ("CallSigns$Senders", "waveBits", "[I", true)
  | _ => ("CallSigns$Senders", "hourBits", "[I", true)
def tyX7 : Nat → FieldType := fun k => match k with
  | 0 => .array .int
  | 1 => .int
  | 2 => .array .long
  | 3 => .array .int
  | _ => .array .int
theorem nmX7 : ∀ a, a < 5 → ∀ b, b < 5 → a ≠ b → (TX7 a).2.1 ≠ (TX7 b).2.1 := by decide +kernel
theorem tyX7_ok : ∀ k, k < 5 → parseFieldDescriptor (TX7 k).2.2.1 = some (tyX7 k) := by decide +kernel
theorem inX7 : ∀ w ∈ u_ws RX7 TX7 5, w ∈ lw_good := lw_ps [235, 237, 239, 241, 243] (by decide +kernel) (by decide +kernel)
def RX8 : String := "CallSigns$Silence"
def TX8 : u_T := fun k => match k with
  | 0 => ("CallSigns$Silence", "listened", "I", false)
  | 1 => ("CallSigns$Silence", "events", "I", false)
  | 2 => ("CallSigns$Silence", "waves", "[I", true)
  | 3 => ("CallSigns$Silence", "starts", "[I", true)
  | 4 => ("CallSigns$Silence", "ends", "[I", true)
  | 5 => ("CallSigns$Silence", "eventHours", "[I", true)
  | 6 => ("CallSigns$Silence", "heardWaves", "[I", true)
  | _ => ("CallSigns$Silence", "still", "[I", true)
def tyX8 : Nat → FieldType := fun k => match k with
  | 0 => .int
  | 1 => .int
  | 2 => .array .int
  | 3 => .array .int
  | 4 => .array .int
  | 5 => .array .int
  | 6 => .array .int
  | _ => .array .int
theorem nmX8 : ∀ a, a < 8 → ∀ b, b < 8 → a ≠ b → (TX8 a).2.1 ≠ (TX8 b).2.1 := by decide +kernel
theorem tyX8_ok : ∀ k, k < 8 → parseFieldDescriptor (TX8 k).2.2.1 = some (tyX8 k) := by decide +kernel
theorem inX8 : ∀ w ∈ u_ws RX8 TX8 8, w ∈ lw_good := lw_ps [393, 395, 397, 399, 401, 403, 405, 407] (by decide +kernel) (by decide +kernel)
def RX9 : String := "CallSigns$Trail"
def TX9 : u_T := fun k => match k with
  | _ => ("CallSigns$Trail", "origin", "[I", true)
def tyX9 : Nat → FieldType := fun k => match k with
  | _ => .array .int
theorem nmX9 : ∀ a, a < 1 → ∀ b, b < 1 → a ≠ b → (TX9 a).2.1 ≠ (TX9 b).2.1 := by decide +kernel
theorem tyX9_ok : ∀ k, k < 1 → parseFieldDescriptor (TX9 k).2.2.1 = some (tyX9 k) := by decide +kernel
theorem inX9 : ∀ w ∈ u_ws RX9 TX9 1, w ∈ lw_good := lw_ps [285] (by decide +kernel) (by decide +kernel)
def RX10 : String := "CallSigns$Tree"
def TX10 : u_T := fun k => match k with
  | 0 => ("CallSigns$Tree", "bestSum", "I", false)
  | 1 => ("CallSigns$Tree", "size", "I", false)
  | 2 => ("CallSigns$Tree", "members", "[I", true)
  | 3 => ("CallSigns$Tree", "signs", "[I", true)
  | 4 => ("CallSigns$Tree", "hope", "[I", true)
  | 5 => ("CallSigns$Tree", "above", "[I", true)
  | 6 => ("CallSigns$Tree", "best", "[I", true)
  | _ => ("CallSigns$Tree", "sure", "I", false)
def tyX10 : Nat → FieldType := fun k => match k with
  | 0 => .int
  | 1 => .int
  | 2 => .array .int
  | 3 => .array .int
  | 4 => .array .int
  | 5 => .array .int
  | 6 => .array .int
  | _ => .int
theorem nmX10 : ∀ a, a < 8 → ∀ b, b < 8 → a ≠ b → (TX10 a).2.1 ≠ (TX10 b).2.1 := by decide +kernel
theorem tyX10_ok : ∀ k, k < 8 → parseFieldDescriptor (TX10 k).2.2.1 = some (tyX10 k) := by decide +kernel
theorem inX10 : ∀ w ∈ u_ws RX10 TX10 8, w ∈ lw_good := lw_ps [318, 320, 322, 324, 326, 328, 330, 332] (by decide +kernel) (by decide +kernel)
def RX11 : String := "CallSigns"
def TX11 : u_T := fun k => match k with
  | 0 => ("CallSigns", "log", "LCallSigns$CallLog;", true)
  | 1 => ("CallSigns", "book", "LCallSigns$Book;", true)
  | 2 => ("CallSigns", "handBook", "LCallSigns$Hands;", true)
  | 3 => ("CallSigns", "pairing", "LCallSigns$Pairing;", true)
  | 4 => ("CallSigns", "trail", "LCallSigns$Trail;", true)
  | 5 => ("CallSigns", "orders", "LCallSigns$Orders;", true)
  | 6 => ("CallSigns", "orderTree", "LCallSigns$Tree;", true)
  | 7 => ("CallSigns", "places", "LCallSigns$Places;", true)
  | 8 => ("CallSigns", "silence", "LCallSigns$Silence;", true)
  | 9 => ("CallSigns", "links", "LCallSigns$Links;", true)
  | 10 => ("CallSigns", "keptCalls", "[I", true)
  | 11 => ("CallSigns", "keptBearings", "[I", true)
  | 12 => ("CallSigns", "keptListened", "[I", true)
  | 13 => ("CallSigns", "keptEvents", "[I", true)
  | _ => ("CallSigns", "kept", "I", false)
def tyX11 : Nat → FieldType := fun k => match k with
  | 0 => .object "CallSigns$CallLog"
  | 1 => .object "CallSigns$Book"
  | 2 => .object "CallSigns$Hands"
  | 3 => .object "CallSigns$Pairing"
  | 4 => .object "CallSigns$Trail"
  | 5 => .object "CallSigns$Orders"
  | 6 => .object "CallSigns$Tree"
  | 7 => .object "CallSigns$Places"
  | 8 => .object "CallSigns$Silence"
  | 9 => .object "CallSigns$Links"
  | 10 => .array .int
  | 11 => .array .int
  | 12 => .array .int
  | 13 => .array .int
  | _ => .int
theorem nmX11 : ∀ a, a < 15 → ∀ b, b < 15 → a ≠ b → (TX11 a).2.1 ≠ (TX11 b).2.1 := by decide +kernel
theorem tyX11_ok : ∀ k, k < 15 → parseFieldDescriptor (TX11 k).2.2.1 = some (tyX11 k) := by decide +kernel
theorem inX11 : ∀ w ∈ u_ws RX11 TX11 15, w ∈ lw_good := lw_ps [439, 441, 443, 445, 447, 449, 451, 453, 455, 457, 459, 461, 463, 465, 467] (by decide +kernel) (by decide +kernel)
def RX12 : String := "CallSignsModel"
def TX12 : u_T := fun k => match k with
  | 0 => ("CallSignsModel", "calls", "[I", true)
  | 1 => ("CallSignsModel", "from", "[I", true)
  | 2 => ("CallSignsModel", "to", "[I", true)
  | 3 => ("CallSignsModel", "hour", "[I", true)
  | 4 => ("CallSignsModel", "minutes", "[I", true)
  | 5 => ("CallSignsModel", "wave", "[I", true)
  | 6 => ("CallSignsModel", "pause", "[I", true)
  | 7 => ("CallSignsModel", "bearings", "[I", true)
  | 8 => ("CallSignsModel", "bearing", "[I", true)
  | 9 => ("CallSignsModel", "listens", "[I", true)
  | 10 => ("CallSignsModel", "listened", "[I", true)
  | 11 => ("CallSignsModel", "events", "[I", true)
  | 12 => ("CallSignsModel", "event", "[I", true)
  | 13 => ("CallSignsModel", "kept", "I", false)
  | 14 => ("CallSignsModel", "near", "I", false)
  | 15 => ("CallSignsModel", "within", "I", false)
  | 16 => ("CallSignsModel", "hearX", "[I", true)
  | 17 => ("CallSignsModel", "hearY", "[I", true)
  | 18 => ("CallSignsModel", "length", "I", false)
  | 19 => ("CallSignsModel", "text", "[B", true)
  | 20 => ("CallSignsModel", "items", "I", false)
  | 21 => ("CallSignsModel", "book", "[I", true)
  | 22 => ("CallSignsModel", "read", "I", false)
  | 23 => ("CallSignsModel", "at", "I", false)
  | 24 => ("CallSignsModel", "letter", "[I", true)
  | 25 => ("CallSignsModel", "one", "[I", true)
  | 26 => ("CallSignsModel", "two", "[I", true)
  | 27 => ("CallSignsModel", "three", "[I", true)
  | 28 => ("CallSignsModel", "hand", "[I", true)
  | 29 => ("CallSignsModel", "firsts", "I", false)
  | 30 => ("CallSignsModel", "seconds", "I", false)
  | 31 => ("CallSignsModel", "first", "[I", true)
  | 32 => ("CallSignsModel", "second", "[I", true)
  | 33 => ("CallSignsModel", "likes", "[I", true)
  | 34 => ("CallSignsModel", "best", "[I", true)
  | 35 => ("CallSignsModel", "becomes", "[I", true)
  | 36 => ("CallSignsModel", "nodes", "I", false)
  | 37 => ("CallSignsModel", "node", "[I", true)
  | 38 => ("CallSignsModel", "signs", "[I", true)
  | 39 => ("CallSignsModel", "above", "[I", true)
  | 40 => ("CallSignsModel", "bestAbove", "[I", true)
  | 41 => ("CallSignsModel", "sure", "[I", true)
  | 42 => ("CallSignsModel", "treeSum", "I", false)
  | 43 => ("CallSignsModel", "here", "[Z", true)
  | 44 => ("CallSignsModel", "there", "[Z", true)
  | _ => ("CallSignsModel", "links", "[I", true)
def tyX12 : Nat → FieldType := fun k => match k with
  | 0 => .array .int
  | 1 => .array .int
  | 2 => .array .int
  | 3 => .array .int
  | 4 => .array .int
  | 5 => .array .int
  | 6 => .array .int
  | 7 => .array .int
  | 8 => .array .int
  | 9 => .array .int
  | 10 => .array .int
  | 11 => .array .int
  | 12 => .array .int
  | 13 => .int
  | 14 => .int
  | 15 => .int
  | 16 => .array .int
  | 17 => .array .int
  | 18 => .int
  | 19 => .array .byte
  | 20 => .int
  | 21 => .array .int
  | 22 => .int
  | 23 => .int
  | 24 => .array .int
  | 25 => .array .int
  | 26 => .array .int
  | 27 => .array .int
  | 28 => .array .int
  | 29 => .int
  | 30 => .int
  | 31 => .array .int
  | 32 => .array .int
  | 33 => .array .int
  | 34 => .array .int
  | 35 => .array .int
  | 36 => .int
  | 37 => .array .int
  | 38 => .array .int
  | 39 => .array .int
  | 40 => .array .int
  | 41 => .array .int
  | 42 => .int
  | 43 => .array .boolean
  | 44 => .array .boolean
  | _ => .array .int
theorem nmX12 : ∀ a, a < 46 → ∀ b, b < 46 → a ≠ b → (TX12 a).2.1 ≠ (TX12 b).2.1 := by decide +kernel
theorem tyX12_ok : ∀ k, k < 46 → parseFieldDescriptor (TX12 k).2.2.1 = some (tyX12 k) := by decide +kernel
theorem inX12 : ∀ w ∈ u_ws RX12 TX12 46, w ∈ lw_good := lw_ps [1105, 1107, 1109, 1111, 1113, 1115, 1117, 1119, 1121, 1123, 1125, 1127, 1129, 1131, 1133, 1135, 1137, 1139, 1141, 1143, 1145, 1147, 1149, 1151, 1153, 1155, 1157, 1159, 1161, 1163, 1165, 1167, 1169, 1171, 1173, 1175, 1177, 1179, 1181, 1183, 1185, 1187, 1189, 1191, 1193, 1195] (by decide +kernel) (by decide +kernel)
abbrev jcl : List vw_C := [(RX0, TX0, 13), (RX1, TX1, 7), (RX2, TX2, 3), (RX3, TX3, 2), (RX4, TX4, 2), (RX5, TX5, 8), (RX6, TX6, 11), (RX7, TX7, 5), (RX8, TX8, 8), (RX9, TX9, 1), (RX10, TX10, 8), (RX11, TX11, 15), (RX12, TX12, 46)]
def ClsOk (q : vw_C) : Prop := (∀ w ∈ u_ws q.1 q.2.1 q.2.2, w ∈ lw_good) ∧ (∃ ty : Nat → FieldType, ∀ k, k < q.2.2 → parseFieldDescriptor (q.2.1 k).2.2.1 = some (ty k)) ∧ (∀ a, a < q.2.2 → ∀ b, b < q.2.2 → a ≠ b → (q.2.1 a).2.1 ≠ (q.2.1 b).2.1)
theorem jcl_ok : ∀ (ci : Nat) (q : vw_C), jcl[ci]? = some q → ClsOk q := by
  intro ci q hq
  match ci, hq with
  | 0, hq => cases hq; exact ⟨inX0, ⟨tyX0, tyX0_ok⟩, nmX0⟩
  | 1, hq => cases hq; exact ⟨inX1, ⟨tyX1, tyX1_ok⟩, nmX1⟩
  | 2, hq => cases hq; exact ⟨inX2, ⟨tyX2, tyX2_ok⟩, nmX2⟩
  | 3, hq => cases hq; exact ⟨inX3, ⟨tyX3, tyX3_ok⟩, nmX3⟩
  | 4, hq => cases hq; exact ⟨inX4, ⟨tyX4, tyX4_ok⟩, nmX4⟩
  | 5, hq => cases hq; exact ⟨inX5, ⟨tyX5, tyX5_ok⟩, nmX5⟩
  | 6, hq => cases hq; exact ⟨inX6, ⟨tyX6, tyX6_ok⟩, nmX6⟩
  | 7, hq => cases hq; exact ⟨inX7, ⟨tyX7, tyX7_ok⟩, nmX7⟩
  | 8, hq => cases hq; exact ⟨inX8, ⟨tyX8, tyX8_ok⟩, nmX8⟩
  | 9, hq => cases hq; exact ⟨inX9, ⟨tyX9, tyX9_ok⟩, nmX9⟩
  | 10, hq => cases hq; exact ⟨inX10, ⟨tyX10, tyX10_ok⟩, nmX10⟩
  | 11, hq => cases hq; exact ⟨inX11, ⟨tyX11, tyX11_ok⟩, nmX11⟩
  | 12, hq => cases hq; exact ⟨inX12, ⟨tyX12, tyX12_ok⟩, nmX12⟩
  | ci + 13, hq => simp [jcl] at hq
