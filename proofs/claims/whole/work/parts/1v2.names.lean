/-! NAMES (printed by a program out of the class files) -/
/-- the words that stay -/
def gw : List Cond := lw_tbl.filter goodWord
theorem gw_in : ∀ w ∈ gw, w ∈ lw_tbl := fun w h => (List.mem_filter.mp h).1
theorem mem_pos (ws : List Cond) (ps : List Nat) (h : ps.map (fun i => tables_1[i]?) = ws.map some) (hg : ws.all goodWord = true) : ∀ w ∈ ws, w ∈ gw := by
  intro w hw
  have h1 : some w ∈ ps.map (fun i => tables_1[i]?) := by rw [h]; exact List.mem_map.mpr ⟨w, hw, rfl⟩
  obtain ⟨i, -, hi⟩ := List.mem_map.mp h1
  exact List.mem_filter.mpr ⟨List.mem_append_right _ (List.mem_of_getElem? hi), List.all_eq_true.mp hg w hw⟩
def TC0 : u_T := fun k => match k with
  | 0 => ("java/lang/String", "value", "[B", true)
  | 1 => ("java/lang/String", "coder", "B", true)
  | 2 => ("java/lang/String", "hash", "I", false)
  | _ => ("java/lang/String", "hashIsZero", "Z", false)
def tyC0 : Nat → FieldType := fun k => match k with
  | 0 => .array .byte
  | 1 => .byte
  | 2 => .int
  | _ => .boolean
theorem nmC0 : ∀ a, a < 4 → ∀ b, b < 4 → a ≠ b → (TC0 a).2.1 ≠ (TC0 b).2.1 := by decide +kernel
theorem tyC0_ok : ∀ k, k < 4 → parseFieldDescriptor (TC0 k).2.2.1 = some (tyC0 k) := by decide +kernel
set_option maxRecDepth 100000 in
theorem inC0 : ∀ w ∈ u_ws "java/lang/String" TC0 4, w ∈ gw := mem_pos _ [1427, 1429, 1431, 1433] (by decide +kernel) (by decide +kernel)
def TC1 : u_T := fun k => match k with
  | 0 => ("GatedPile$Code", "orders", "I", false)
  | 1 => ("GatedPile$Code", "number", "[I", true)
  | 2 => ("GatedPile$Code", "operand", "[I", true)
  | 3 => ("GatedPile$Code", "link", "[I", true)
  | 4 => ("GatedPile$Code", "place", "[I", true)
  | 5 => ("GatedPile$Code", "procedures", "I", false)
  | 6 => ("GatedPile$Code", "parameters", "[I", true)
  | 7 => ("GatedPile$Code", "frame", "[I", true)
  | 8 => ("GatedPile$Code", "want", "[I", true)
  | 9 => ("GatedPile$Code", "enter", "[I", true)
  | 10 => ("GatedPile$Code", "conditions", "I", false)
  | 11 => ("GatedPile$Code", "globals", "I", false)
  | 12 => ("GatedPile$Code", "size", "I", false)
  | _ => ("GatedPile$Code", "words", "[I", true)
def tyC1 : Nat → FieldType := fun k => match k with
  | 0 => .int
  | 1 => .array .int
  | 2 => .array .int
  | 3 => .array .int
  | 4 => .array .int
  | 5 => .int
  | 6 => .array .int
  | 7 => .array .int
  | 8 => .array .int
  | 9 => .array .int
  | 10 => .int
  | 11 => .int
  | 12 => .int
  | _ => .array .int
theorem nmC1 : ∀ a, a < 14 → ∀ b, b < 14 → a ≠ b → (TC1 a).2.1 ≠ (TC1 b).2.1 := by decide +kernel
theorem tyC1_ok : ∀ k, k < 14 → parseFieldDescriptor (TC1 k).2.2.1 = some (tyC1 k) := by decide +kernel
set_option maxRecDepth 100000 in
theorem inC1 : ∀ w ∈ u_ws "GatedPile$Code" TC1 14, w ∈ gw := mem_pos _ [448, 450, 452, 454, 456, 458, 460, 462, 464, 466, 468, 470, 472, 474] (by decide +kernel) (by decide +kernel)
def TC2 : u_T := fun k => match k with
  | 0 => ("GatedPile$Grammar", "text", "LGatedPile$Text;", true)
  | _ => ("GatedPile$Grammar", "at", "I", false)
def tyC2 : Nat → FieldType := fun k => match k with
  | 0 => .object "GatedPile$Text"
  | _ => .int
theorem nmC2 : ∀ a, a < 2 → ∀ b, b < 2 → a ≠ b → (TC2 a).2.1 ≠ (TC2 b).2.1 := by decide +kernel
theorem tyC2_ok : ∀ k, k < 2 → parseFieldDescriptor (TC2 k).2.2.1 = some (tyC2 k) := by decide +kernel
set_option maxRecDepth 100000 in
theorem inC2 : ∀ w ∈ u_ws "GatedPile$Grammar" TC2 2, w ∈ gw := mem_pos _ [207, 209] (by decide +kernel) (by decide +kernel)
def TC3 : u_T := fun k => match k with
  | 0 => ("GatedPile$Layer", "tops", "LGatedPile$Tops;", true)
  | 1 => ("GatedPile$Layer", "code", "LGatedPile$Code;", false)
  | 2 => ("GatedPile$Layer", "at", "I", false)
  | 3 => ("GatedPile$Layer", "writing", "Z", false)
  | 4 => ("GatedPile$Layer", "changed", "Z", false)
  | 5 => ("GatedPile$Layer", "current", "I", false)
  | 6 => ("GatedPile$Layer", "parameters", "I", false)
  | 7 => ("GatedPile$Layer", "goes", "I", false)
  | _ => ("GatedPile$Layer", "longer", "[I", true)
def tyC3 : Nat → FieldType := fun k => match k with
  | 0 => .object "GatedPile$Tops"
  | 1 => .object "GatedPile$Code"
  | 2 => .int
  | 3 => .boolean
  | 4 => .boolean
  | 5 => .int
  | 6 => .int
  | 7 => .int
  | _ => .array .int
theorem nmC3 : ∀ a, a < 9 → ∀ b, b < 9 → a ≠ b → (TC3 a).2.1 ≠ (TC3 b).2.1 := by decide +kernel
theorem tyC3_ok : ∀ k, k < 9 → parseFieldDescriptor (TC3 k).2.2.1 = some (tyC3 k) := by decide +kernel
set_option maxRecDepth 100000 in
theorem inC3 : ∀ w ∈ u_ws "GatedPile$Layer" TC3 9, w ∈ gw := mem_pos _ [285, 287, 289, 291, 293, 295, 297, 299, 301] (by decide +kernel) (by decide +kernel)
def TC4 : u_T := fun k => match k with
  | 0 => ("GatedPile$Machine", "cells", "[I", true)
  | 1 => ("GatedPile$Machine", "registers", "[I", true)
  | 2 => ("GatedPile$Machine", "pc", "I", false)
  | 3 => ("GatedPile$Machine", "ir", "I", false)
  | 4 => ("GatedPile$Machine", "mar", "I", false)
  | 5 => ("GatedPile$Machine", "mdr", "I", false)
  | 6 => ("GatedPile$Machine", "state", "I", false)
  | 7 => ("GatedPile$Machine", "received", "[I", true)
  | 8 => ("GatedPile$Machine", "inputs", "I", false)
  | 9 => ("GatedPile$Machine", "taken", "I", false)
  | 10 => ("GatedPile$Machine", "sent", "[I", true)
  | 11 => ("GatedPile$Machine", "outputs", "I", false)
  | 12 => ("GatedPile$Machine", "clocks", "I", false)
  | _ => ("GatedPile$Machine", "spent", "I", false)
def tyC4 : Nat → FieldType := fun k => match k with
  | 0 => .array .int
  | 1 => .array .int
  | 2 => .int
  | 3 => .int
  | 4 => .int
  | 5 => .int
  | 6 => .int
  | 7 => .array .int
  | 8 => .int
  | 9 => .int
  | 10 => .array .int
  | 11 => .int
  | 12 => .int
  | _ => .int
theorem nmC4 : ∀ a, a < 14 → ∀ b, b < 14 → a ≠ b → (TC4 a).2.1 ≠ (TC4 b).2.1 := by decide +kernel
theorem tyC4_ok : ∀ k, k < 14 → parseFieldDescriptor (TC4 k).2.2.1 = some (tyC4 k) := by decide +kernel
set_option maxRecDepth 100000 in
theorem inC4 : ∀ w ∈ u_ws "GatedPile$Machine" TC4 14, w ∈ gw := mem_pos _ [371, 373, 375, 377, 379, 381, 383, 385, 387, 389, 391, 393, 395, 397] (by decide +kernel) (by decide +kernel)
def TC5 : u_T := fun k => match k with
  | 0 => ("GatedPile$Maker", "text", "LGatedPile$Text;", true)
  | 1 => ("GatedPile$Maker", "tops", "LGatedPile$Tops;", true)
  | 2 => ("GatedPile$Maker", "code", "LGatedPile$Code;", false)
  | 3 => ("GatedPile$Maker", "at", "I", false)
  | 4 => ("GatedPile$Maker", "procedure", "I", false)
  | 5 => ("GatedPile$Maker", "handler", "I", false)
  | 6 => ("GatedPile$Maker", "holding", "[I", true)
  | 7 => ("GatedPile$Maker", "locals", "I", false)
  | 8 => ("GatedPile$Maker", "mostLocals", "I", false)
  | 9 => ("GatedPile$Maker", "pushed", "I", false)
  | 10 => ("GatedPile$Maker", "mostPushed", "I", false)
  | 11 => ("GatedPile$Maker", "labels", "[I", true)
  | 12 => ("GatedPile$Maker", "labelCount", "I", false)
  | 13 => ("GatedPile$Maker", "nameFault", "I", false)
  | 14 => ("GatedPile$Maker", "callFault", "I", false)
  | _ => ("GatedPile$Maker", "large", "Z", false)
def tyC5 : Nat → FieldType := fun k => match k with
  | 0 => .object "GatedPile$Text"
  | 1 => .object "GatedPile$Tops"
  | 2 => .object "GatedPile$Code"
  | 3 => .int
  | 4 => .int
  | 5 => .int
  | 6 => .array .int
  | 7 => .int
  | 8 => .int
  | 9 => .int
  | 10 => .int
  | 11 => .array .int
  | 12 => .int
  | 13 => .int
  | 14 => .int
  | _ => .boolean
theorem nmC5 : ∀ a, a < 16 → ∀ b, b < 16 → a ≠ b → (TC5 a).2.1 ≠ (TC5 b).2.1 := by decide +kernel
theorem tyC5_ok : ∀ k, k < 16 → parseFieldDescriptor (TC5 k).2.2.1 = some (tyC5 k) := by decide +kernel
set_option maxRecDepth 100000 in
theorem inC5 : ∀ w ∈ u_ws "GatedPile$Maker" TC5 16, w ∈ gw := mem_pos _ [237, 239, 241, 243, 245, 247, 249, 251, 253, 255, 257, 259, 261, 263, 265, 267] (by decide +kernel) (by decide +kernel)
def TC6 : u_T := fun k => match k with
  | 0 => ("GatedPile$Net", "wires", "I", false)
  | 1 => ("GatedPile$Net", "deepest", "I", false)
  | 2 => ("GatedPile$Net", "left", "[I", true)
  | 3 => ("GatedPile$Net", "right", "[I", true)
  | 4 => ("GatedPile$Net", "depth", "[I", true)
  | 5 => ("GatedPile$Net", "value", "[I", true)
  | 6 => ("GatedPile$Net", "settled", "I", false)
  | _ => ("GatedPile$Net", "carry", "I", false)
def tyC6 : Nat → FieldType := fun k => match k with
  | 0 => .int
  | 1 => .int
  | 2 => .array .int
  | 3 => .array .int
  | 4 => .array .int
  | 5 => .array .int
  | 6 => .int
  | _ => .int
theorem nmC6 : ∀ a, a < 8 → ∀ b, b < 8 → a ≠ b → (TC6 a).2.1 ≠ (TC6 b).2.1 := by decide +kernel
theorem tyC6_ok : ∀ k, k < 8 → parseFieldDescriptor (TC6 k).2.2.1 = some (tyC6 k) := by decide +kernel
set_option maxRecDepth 100000 in
theorem inC6 : ∀ w ∈ u_ws "GatedPile$Net" TC6 8, w ∈ gw := mem_pos _ [324, 326, 328, 330, 332, 334, 336, 338] (by decide +kernel) (by decide +kernel)
def TC7 : u_T := fun k => match k with
  | 0 => ("GatedPile$Text", "tape", "[B", true)
  | 1 => ("GatedPile$Text", "length", "I", false)
  | 2 => ("GatedPile$Text", "kind", "[I", true)
  | 3 => ("GatedPile$Text", "place", "[I", true)
  | 4 => ("GatedPile$Text", "value", "[I", true)
  | 5 => ("GatedPile$Text", "size", "I", false)
  | _ => ("GatedPile$Text", "keys", "[J", true)
def tyC7 : Nat → FieldType := fun k => match k with
  | 0 => .array .byte
  | 1 => .int
  | 2 => .array .int
  | 3 => .array .int
  | 4 => .array .int
  | 5 => .int
  | _ => .array .long
theorem nmC7 : ∀ a, a < 7 → ∀ b, b < 7 → a ≠ b → (TC7 a).2.1 ≠ (TC7 b).2.1 := by decide +kernel
theorem tyC7_ok : ∀ k, k < 7 → parseFieldDescriptor (TC7 k).2.2.1 = some (tyC7 k) := by decide +kernel
set_option maxRecDepth 100000 in
theorem inC7 : ∀ w ∈ u_ws "GatedPile$Text" TC7 7, w ∈ gw := mem_pos _ [114, 116, 118, 120, 122, 124, 126] (by decide +kernel) (by decide +kernel)
def TC8 : u_T := fun k => match k with
  | 0 => ("GatedPile$Tops", "spelled", "[J", true)
  | 1 => ("GatedPile$Tops", "kinds", "[I", true)
  | 2 => ("GatedPile$Tops", "numbers", "[I", true)
  | 3 => ("GatedPile$Tops", "locals", "[I", true)
  | 4 => ("GatedPile$Tops", "names", "I", false)
  | 5 => ("GatedPile$Tops", "vars", "I", false)
  | 6 => ("GatedPile$Tops", "conditions", "I", false)
  | 7 => ("GatedPile$Tops", "procedures", "I", false)
  | 8 => ("GatedPile$Tops", "globals", "I", false)
  | 9 => ("GatedPile$Tops", "offsets", "[I", true)
  | 10 => ("GatedPile$Tops", "lengths", "[I", true)
  | 11 => ("GatedPile$Tops", "parameters", "[I", true)
  | 12 => ("GatedPile$Tops", "raised", "[I", true)
  | 13 => ("GatedPile$Tops", "raisedFrom", "[I", true)
  | 14 => ("GatedPile$Tops", "raisedNames", "I", false)
  | 15 => ("GatedPile$Tops", "fault", "I", false)
  | _ => ("GatedPile$Tops", "large", "Z", false)
def tyC8 : Nat → FieldType := fun k => match k with
  | 0 => .array .long
  | 1 => .array .int
  | 2 => .array .int
  | 3 => .array .int
  | 4 => .int
  | 5 => .int
  | 6 => .int
  | 7 => .int
  | 8 => .int
  | 9 => .array .int
  | 10 => .array .int
  | 11 => .array .int
  | 12 => .array .int
  | 13 => .array .int
  | 14 => .int
  | 15 => .int
  | _ => .boolean
theorem nmC8 : ∀ a, a < 17 → ∀ b, b < 17 → a ≠ b → (TC8 a).2.1 ≠ (TC8 b).2.1 := by decide +kernel
theorem tyC8_ok : ∀ k, k < 17 → parseFieldDescriptor (TC8 k).2.2.1 = some (tyC8 k) := by decide +kernel
set_option maxRecDepth 100000 in
theorem inC8 : ∀ w ∈ u_ws "GatedPile$Tops" TC8 17, w ∈ gw := mem_pos _ [163, 165, 167, 169, 171, 173, 175, 177, 179, 181, 183, 185, 187, 189, 191, 193, 195] (by decide +kernel) (by decide +kernel)
def TC9 : u_T := fun k => match k with
  | 0 => ("GatedPile$Wiring", "net", "LGatedPile$Net;", true)
  | 1 => ("GatedPile$Wiring", "a", "[I", false)
  | 2 => ("GatedPile$Wiring", "b", "[I", false)
  | 3 => ("GatedPile$Wiring", "d", "[I", false)
  | 4 => ("GatedPile$Wiring", "nots", "[I", true)
  | 5 => ("GatedPile$Wiring", "ops", "[I", true)
  | 6 => ("GatedPile$Wiring", "read", "I", false)
  | 7 => ("GatedPile$Wiring", "act", "I", false)
  | 8 => ("GatedPile$Wiring", "take", "I", false)
  | 9 => ("GatedPile$Wiring", "sum", "[I", false)
  | 10 => ("GatedPile$Wiring", "less", "I", false)
  | 11 => ("GatedPile$Wiring", "result", "[I", false)
  | 12 => ("GatedPile$Wiring", "grown", "[I", false)
  | _ => ("GatedPile$Wiring", "next", "[I", false)
def tyC9 : Nat → FieldType := fun k => match k with
  | 0 => .object "GatedPile$Net"
  | 1 => .array .int
  | 2 => .array .int
  | 3 => .array .int
  | 4 => .array .int
  | 5 => .array .int
  | 6 => .int
  | 7 => .int
  | 8 => .int
  | 9 => .array .int
  | 10 => .int
  | 11 => .array .int
  | 12 => .array .int
  | _ => .array .int
theorem nmC9 : ∀ a, a < 14 → ∀ b, b < 14 → a ≠ b → (TC9 a).2.1 ≠ (TC9 b).2.1 := by decide +kernel
theorem tyC9_ok : ∀ k, k < 14 → parseFieldDescriptor (TC9 k).2.2.1 = some (tyC9 k) := by decide +kernel
set_option maxRecDepth 100000 in
theorem inC9 : ∀ w ∈ u_ws "GatedPile$Wiring" TC9 14, w ∈ gw := mem_pos _ [497, 499, 501, 503, 505, 507, 509, 511, 513, 515, 517, 519, 521, 523] (by decide +kernel) (by decide +kernel)
def TC10 : u_T := fun k => match k with
  | 0 => ("GatedPile", "text", "LGatedPile$Text;", true)
  | 1 => ("GatedPile", "tops", "LGatedPile$Tops;", true)
  | 2 => ("GatedPile", "grammar", "LGatedPile$Grammar;", true)
  | 3 => ("GatedPile", "maker", "LGatedPile$Maker;", true)
  | 4 => ("GatedPile", "layer", "LGatedPile$Layer;", true)
  | 5 => ("GatedPile", "circuit", "LGatedPile$Net;", true)
  | 6 => ("GatedPile", "machine", "LGatedPile$Machine;", true)
  | 7 => ("GatedPile", "code", "LGatedPile$Code;", false)
  | 8 => ("GatedPile", "draft", "LGatedPile$Code;", false)
  | 9 => ("GatedPile", "judged", "Z", false)
  | 10 => ("GatedPile", "faultKind", "I", false)
  | _ => ("GatedPile", "faultPlace", "I", false)
def tyC10 : Nat → FieldType := fun k => match k with
  | 0 => .object "GatedPile$Text"
  | 1 => .object "GatedPile$Tops"
  | 2 => .object "GatedPile$Grammar"
  | 3 => .object "GatedPile$Maker"
  | 4 => .object "GatedPile$Layer"
  | 5 => .object "GatedPile$Net"
  | 6 => .object "GatedPile$Machine"
  | 7 => .object "GatedPile$Code"
  | 8 => .object "GatedPile$Code"
  | 9 => .boolean
  | 10 => .int
  | _ => .int
theorem nmC10 : ∀ a, a < 12 → ∀ b, b < 12 → a ≠ b → (TC10 a).2.1 ≠ (TC10 b).2.1 := by decide +kernel
theorem tyC10_ok : ∀ k, k < 12 → parseFieldDescriptor (TC10 k).2.2.1 = some (tyC10 k) := by decide +kernel
set_option maxRecDepth 100000 in
theorem inC10 : ∀ w ∈ u_ws "GatedPile" TC10 12, w ∈ gw := mem_pos _ [644, 646, 648, 650, 652, 654, 656, 658, 660, 662, 664, 666] (by decide +kernel) (by decide +kernel)
def TC11 : u_T := fun k => match k with
  | 0 => ("GatedPileModel", "tape", "[I", true)
  | 1 => ("GatedPileModel", "taped", "I", false)
  | 2 => ("GatedPileModel", "text", "[I", true)
  | 3 => ("GatedPileModel", "length", "I", false)
  | 4 => ("GatedPileModel", "tokens", "I", false)
  | 5 => ("GatedPileModel", "kind", "[I", true)
  | 6 => ("GatedPileModel", "where", "[I", true)
  | 7 => ("GatedPileModel", "value", "[J", true)
  | 8 => ("GatedPileModel", "keys", "[J", true)
  | 9 => ("GatedPileModel", "faultKind", "I", false)
  | 10 => ("GatedPileModel", "faultPlace", "I", false)
  | 11 => ("GatedPileModel", "judged", "Z", false)
  | 12 => ("GatedPileModel", "t", "I", false)
  | 13 => ("GatedPileModel", "deep", "I", false)
  | 14 => ("GatedPileModel", "full", "Z", false)
  | 15 => ("GatedPileModel", "broken", "Z", false)
  | 16 => ("GatedPileModel", "third", "I", false)
  | 17 => ("GatedPileModel", "tops", "I", false)
  | 18 => ("GatedPileModel", "topName", "[J", true)
  | 19 => ("GatedPileModel", "topKind", "[I", true)
  | 20 => ("GatedPileModel", "topIndex", "[I", true)
  | 21 => ("GatedPileModel", "vars", "I", false)
  | 22 => ("GatedPileModel", "varWords", "[I", true)
  | 23 => ("GatedPileModel", "varAt", "[I", true)
  | 24 => ("GatedPileModel", "conditions", "I", false)
  | 25 => ("GatedPileModel", "procs", "I", false)
  | 26 => ("GatedPileModel", "parameters", "[I", true)
  | 27 => ("GatedPileModel", "others", "[I", true)
  | 28 => ("GatedPileModel", "large", "Z", false)
  | 29 => ("GatedPileModel", "topsSeen", "I", false)
  | 30 => ("GatedPileModel", "locals", "I", false)
  | 31 => ("GatedPileModel", "mostLocals", "I", false)
  | 32 => ("GatedPileModel", "localName", "[J", true)
  | 33 => ("GatedPileModel", "proc", "I", false)
  | 34 => ("GatedPileModel", "raisesAt", "[I", true)
  | 35 => ("GatedPileModel", "raisesMany", "[I", true)
  | 36 => ("GatedPileModel", "raises", "I", false)
  | 37 => ("GatedPileModel", "raised", "[I", true)
  | 38 => ("GatedPileModel", "whenCondition", "[I", true)
  | 39 => ("GatedPileModel", "whens", "I", false)
  | 40 => ("GatedPileModel", "whenFrom", "I", false)
  | 41 => ("GatedPileModel", "orders", "I", false)
  | 42 => ("GatedPileModel", "op", "[I", true)
  | 43 => ("GatedPileModel", "arg", "[I", true)
  | 44 => ("GatedPileModel", "target", "[I", true)
  | 45 => ("GatedPileModel", "place", "[I", true)
  | 46 => ("GatedPileModel", "labels", "I", false)
  | 47 => ("GatedPileModel", "labelAt", "[I", true)
  | 48 => ("GatedPileModel", "handler", "I", false)
  | 49 => ("GatedPileModel", "leave", "I", false)
  | 50 => ("GatedPileModel", "enter", "[I", true)
  | 51 => ("GatedPileModel", "want", "[I", true)
  | 52 => ("GatedPileModel", "pushed", "I", false)
  | 53 => ("GatedPileModel", "mostPushed", "I", false)
  | 54 => ("GatedPileModel", "has", "Z", false)
  | 55 => ("GatedPileModel", "nowOrders", "I", false)
  | 56 => ("GatedPileModel", "nowOp", "[I", true)
  | 57 => ("GatedPileModel", "nowArg", "[I", true)
  | 58 => ("GatedPileModel", "nowTarget", "[I", true)
  | 59 => ("GatedPileModel", "nowPlace", "[I", true)
  | 60 => ("GatedPileModel", "nowProcs", "I", false)
  | 61 => ("GatedPileModel", "nowConditions", "I", false)
  | 62 => ("GatedPileModel", "nowParameters", "[I", true)
  | 63 => ("GatedPileModel", "nowSize", "[I", true)
  | 64 => ("GatedPileModel", "nowWant", "[I", true)
  | 65 => ("GatedPileModel", "nowEnter", "[I", true)
  | 66 => ("GatedPileModel", "nowRaises", "[Z", true)
  | 67 => ("GatedPileModel", "nowMain", "I", false)
  | 68 => ("GatedPileModel", "nowWords", "I", false)
  | 69 => ("GatedPileModel", "nowCode", "[I", true)
  | 70 => ("GatedPileModel", "nowGlobals", "I", false)
  | 71 => ("GatedPileModel", "nowVars", "I", false)
  | 72 => ("GatedPileModel", "nowVarWords", "[I", true)
  | 73 => ("GatedPileModel", "code", "[I", true)
  | 74 => ("GatedPileModel", "size", "I", false)
  | 75 => ("GatedPileModel", "globals", "I", false)
  | 76 => ("GatedPileModel", "goes", "I", false)
  | 77 => ("GatedPileModel", "goAt", "[I", true)
  | 78 => ("GatedPileModel", "goTo", "[I", true)
  | 79 => ("GatedPileModel", "goFar", "[Z", true)
  | 80 => ("GatedPileModel", "notes", "I", false)
  | 81 => ("GatedPileModel", "noteAt", "[I", true)
  | 82 => ("GatedPileModel", "noteOf", "[I", true)
  | 83 => ("GatedPileModel", "multiply", "I", false)
  | 84 => ("GatedPileModel", "divide", "I", false)
  | 85 => ("GatedPileModel", "layProc", "I", false)
  | 86 => ("GatedPileModel", "wires", "I", false)
  | 87 => ("GatedPileModel", "left", "[I", true)
  | 88 => ("GatedPileModel", "right", "[I", true)
  | 89 => ("GatedPileModel", "depth", "[I", true)
  | 90 => ("GatedPileModel", "becomes", "[I", true)
  | 91 => ("GatedPileModel", "greatest", "I", false)
  | 92 => ("GatedPileModel", "ops", "[I", true)
  | 93 => ("GatedPileModel", "memory", "[I", true)
  | 94 => ("GatedPileModel", "\x72", "[I", true)
  | 95 => ("GatedPileModel", "pc", "I", false)
  | 96 => ("GatedPileModel", "ir", "I", false)
  | 97 => ("GatedPileModel", "mar", "I", false)
  | 98 => ("GatedPileModel", "mdr", "I", false)
  | 99 => ("GatedPileModel", "s", "I", false)
  | 100 => ("GatedPileModel", "clocks", "I", false)
  | 101 => ("GatedPileModel", "all", "I", false)
  | 102 => ("GatedPileModel", "input", "[I", true)
  | 103 => ("GatedPileModel", "inputs", "I", false)
  | 104 => ("GatedPileModel", "taken", "I", false)
  | 105 => ("GatedPileModel", "output", "[I", true)
  | 106 => ("GatedPileModel", "outputs", "I", false)
  | 107 => ("GatedPileModel", "pile", "[I", true)
  | 108 => ("GatedPileModel", "top", "I", false)
  | 109 => ("GatedPileModel", "frameBase", "[I", true)
  | 110 => ("GatedPileModel", "frameBack", "[I", true)
  | 111 => ("GatedPileModel", "frames", "I", false)
  | 112 => ("GatedPileModel", "vars0", "[I", true)
  | 113 => ("GatedPileModel", "varBegin", "[I", true)
  | 114 => ("GatedPileModel", "meantTaken", "I", false)
  | 115 => ("GatedPileModel", "meantOutputs", "I", false)
  | 116 => ("GatedPileModel", "meant", "[I", true)
  | _ => ("GatedPileModel", "now", "[Z", true)
def tyC11 : Nat → FieldType := fun k => match k with
  | 0 => .array .int
  | 1 => .int
  | 2 => .array .int
  | 3 => .int
  | 4 => .int
  | 5 => .array .int
  | 6 => .array .int
  | 7 => .array .long
  | 8 => .array .long
  | 9 => .int
  | 10 => .int
  | 11 => .boolean
  | 12 => .int
  | 13 => .int
  | 14 => .boolean
  | 15 => .boolean
  | 16 => .int
  | 17 => .int
  | 18 => .array .long
  | 19 => .array .int
  | 20 => .array .int
  | 21 => .int
  | 22 => .array .int
  | 23 => .array .int
  | 24 => .int
  | 25 => .int
  | 26 => .array .int
  | 27 => .array .int
  | 28 => .boolean
  | 29 => .int
  | 30 => .int
  | 31 => .int
  | 32 => .array .long
  | 33 => .int
  | 34 => .array .int
  | 35 => .array .int
  | 36 => .int
  | 37 => .array .int
  | 38 => .array .int
  | 39 => .int
  | 40 => .int
  | 41 => .int
  | 42 => .array .int
  | 43 => .array .int
  | 44 => .array .int
  | 45 => .array .int
  | 46 => .int
  | 47 => .array .int
  | 48 => .int
  | 49 => .int
  | 50 => .array .int
  | 51 => .array .int
  | 52 => .int
  | 53 => .int
  | 54 => .boolean
  | 55 => .int
  | 56 => .array .int
  | 57 => .array .int
  | 58 => .array .int
  | 59 => .array .int
  | 60 => .int
  | 61 => .int
  | 62 => .array .int
  | 63 => .array .int
  | 64 => .array .int
  | 65 => .array .int
  | 66 => .array .boolean
  | 67 => .int
  | 68 => .int
  | 69 => .array .int
  | 70 => .int
  | 71 => .int
  | 72 => .array .int
  | 73 => .array .int
  | 74 => .int
  | 75 => .int
  | 76 => .int
  | 77 => .array .int
  | 78 => .array .int
  | 79 => .array .boolean
  | 80 => .int
  | 81 => .array .int
  | 82 => .array .int
  | 83 => .int
  | 84 => .int
  | 85 => .int
  | 86 => .int
  | 87 => .array .int
  | 88 => .array .int
  | 89 => .array .int
  | 90 => .array .int
  | 91 => .int
  | 92 => .array .int
  | 93 => .array .int
  | 94 => .array .int
  | 95 => .int
  | 96 => .int
  | 97 => .int
  | 98 => .int
  | 99 => .int
  | 100 => .int
  | 101 => .int
  | 102 => .array .int
  | 103 => .int
  | 104 => .int
  | 105 => .array .int
  | 106 => .int
  | 107 => .array .int
  | 108 => .int
  | 109 => .array .int
  | 110 => .array .int
  | 111 => .int
  | 112 => .array .int
  | 113 => .array .int
  | 114 => .int
  | 115 => .int
  | 116 => .array .int
  | _ => .array .boolean
theorem nmC11 : ∀ a, a < 118 → ∀ b, b < 118 → a ≠ b → (TC11 a).2.1 ≠ (TC11 b).2.1 := by decide +kernel
theorem tyC11_ok : ∀ k, k < 118 → parseFieldDescriptor (TC11 k).2.2.1 = some (tyC11 k) := by decide +kernel
set_option maxRecDepth 100000 in
theorem inC11 : ∀ w ∈ u_ws "GatedPileModel" TC11 118, w ∈ gw := mem_pos _ [1656, 1658, 1660, 1662, 1664, 1666, 1668, 1670, 1672, 1674, 1676, 1678, 1680, 1682, 1684, 1686, 1688, 1690, 1692, 1694, 1696, 1698, 1700, 1702, 1704, 1706, 1708, 1710, 1712, 1714, 1716, 1718, 1720, 1722, 1724, 1726, 1728, 1730, 1732, 1734, 1736, 1738, 1740, 1742, 1744, 1746, 1748, 1750, 1752, 1754, 1756, 1758, 1760, 1762, 1764, 1766, 1768, 1770, 1772, 1774, 1776, 1778, 1780, 1782, 1784, 1786, 1788, 1790, 1792, 1794, 1796, 1798, 1800, 1802, 1804, 1806, 1808, 1810, 1812, 1814, 1816, 1818, 1820, 1822, 1824, 1826, 1828, 1830, 1832, 1834, 1836, 1838, 1840, 1842, 1844, 1846, 1848, 1850, 1852, 1854, 1856, 1858, 1860, 1862, 1864, 1866, 1868, 1870, 1872, 1874, 1876, 1878, 1880, 1882, 1884, 1886, 1888, 1890] (by decide +kernel) (by decide +kernel)
abbrev pCl : List vw_C := [("java/lang/String", TC0, 4), ("GatedPile$Code", TC1, 14), ("GatedPile$Grammar", TC2, 2), ("GatedPile$Layer", TC3, 9), ("GatedPile$Machine", TC4, 14), ("GatedPile$Maker", TC5, 16), ("GatedPile$Net", TC6, 8), ("GatedPile$Text", TC7, 7), ("GatedPile$Tops", TC8, 17), ("GatedPile$Wiring", TC9, 14), ("GatedPile", TC10, 12), ("GatedPileModel", TC11, 118)]
def tyC : Nat → Nat → FieldType := fun c => match c with
  | 0 => tyC0
  | 1 => tyC1
  | 2 => tyC2
  | 3 => tyC3
  | 4 => tyC4
  | 5 => tyC5
  | 6 => tyC6
  | 7 => tyC7
  | 8 => tyC8
  | 9 => tyC9
  | 10 => tyC10
  | _ => tyC11
def cnm : List String := ["java/lang/String", "GatedPile$Code", "GatedPile$Grammar", "GatedPile$Layer", "GatedPile$Machine", "GatedPile$Maker", "GatedPile$Net", "GatedPile$Text", "GatedPile$Tops", "GatedPile$Wiring", "GatedPile", "GatedPileModel", "GatedPileLaw", "java/lang/StringLatin1", "java/lang/StringUTF16", "java/lang/Math", "jdk/internal/util/Preconditions", "java/util/Arrays"]
def mc_0 : List (MethodName × ByteArray × Nat × Option FieldType) := [(⟨"java/lang/String", "<init>", "([BB)V"⟩, prog_16_method_151_code, 3, none),
  (⟨"java/lang/String", "length", "()I"⟩, prog_16_method_54_code, 1, some .int),
  (⟨"java/lang/String", "coder", "()B"⟩, prog_16_method_152_code, 1, some .byte),
  (⟨"java/lang/String", "isLatin1", "()Z"⟩, prog_16_method_154_code, 1, some .boolean),
  (⟨"java/lang/String", "charAt", "(I)C"⟩, prog_16_method_56_code, 2, some .char),
  (⟨"java/lang/String", "indexOf", "(I)I"⟩, prog_16_method_79_code, 2, some .int),
  (⟨"java/lang/String", "indexOf", "(II)I"⟩, prog_16_method_80_code, 3, some .int),
  (⟨"java/lang/String", "substring", "(II)Ljava/lang/String;"⟩, prog_16_method_92_code, 5, some (.object "java/lang/String")),
  (⟨"java/lang/String", "checkIndex", "(II)V"⟩, prog_16_method_155_code, 2, none),
  (⟨"java/lang/String", "checkBoundsBeginEnd", "(III)V"⟩, prog_16_method_158_code, 3, none),
  (⟨"GatedPile$Code", "addOrder", "(III)V"⟩, prog_2_method_2_code, 4, none),
  (⟨"GatedPile$Code", "placeOf", "(I)I"⟩, prog_2_method_3_code, 2, some .int),
  (⟨"GatedPile$Code", "enterOf", "(I)I"⟩, prog_2_method_4_code, 2, some .int),
  (⟨"GatedPile$Code", "parametersOf", "(I)I"⟩, prog_2_method_5_code, 2, some .int),
  (⟨"GatedPile$Code", "frameOf", "(I)I"⟩, prog_2_method_6_code, 2, some .int),
  (⟨"GatedPile$Code", "wantOf", "(I)I"⟩, prog_2_method_7_code, 2, some .int),
  (⟨"GatedPile$Code", "<init>", "()V"⟩, prog_2_method_1_code, 1, none),
  (⟨"GatedPile$Grammar", "<init>", "(LGatedPile$Text;)V"⟩, prog_3_method_1_code, 2, none),
  (⟨"GatedPile$Grammar", "holds", "()Z"⟩, prog_3_method_2_code, 2, some .boolean),
  (⟨"GatedPile$Grammar", "here", "()I"⟩, prog_3_method_3_code, 1, some .int),
  (⟨"GatedPile$Grammar", "accept", "(I)Z"⟩, prog_3_method_4_code, 2, some .boolean),
  (⟨"GatedPile$Grammar", "open", "(II)Z"⟩, prog_3_method_5_code, 3, some .boolean),
  (⟨"GatedPile$Grammar", "topPart", "()Z"⟩, prog_3_method_6_code, 1, some .boolean),
  (⟨"GatedPile$Grammar", "names", "()Z"⟩, prog_3_method_7_code, 2, some .boolean),
  (⟨"GatedPile$Grammar", "block", "(I)Z"⟩, prog_3_method_8_code, 4, some .boolean),
  (⟨"GatedPile$Grammar", "statement", "(I)Z"⟩, prog_3_method_9_code, 3, some .boolean),
  (⟨"GatedPile$Grammar", "named", "(I)Z"⟩, prog_3_method_10_code, 2, some .boolean),
  (⟨"GatedPile$Grammar", "attempt", "(I)Z"⟩, prog_3_method_11_code, 3, some .boolean),
  (⟨"GatedPile$Grammar", "when", "(I)Z"⟩, prog_3_method_12_code, 2, some .boolean),
  (⟨"GatedPile$Grammar", "expression", "(I)Z"⟩, prog_3_method_13_code, 2, some .boolean),
  (⟨"GatedPile$Grammar", "sum", "(I)Z"⟩, prog_3_method_14_code, 3, some .boolean),
  (⟨"GatedPile$Grammar", "term", "(I)Z"⟩, prog_3_method_15_code, 3, some .boolean)]
def mc_1 : List (MethodName × ByteArray × Nat × Option FieldType) := [(⟨"GatedPile$Grammar", "factor", "(I)Z"⟩, prog_3_method_16_code, 2, some .boolean),
  (⟨"GatedPile$Grammar", "index", "(I)Z"⟩, prog_3_method_17_code, 2, some .boolean),
  (⟨"GatedPile$Grammar", "arguments", "(I)Z"⟩, prog_3_method_18_code, 3, some .boolean),
  (⟨"GatedPile$Layer", "<init>", "(LGatedPile$Tops;)V"⟩, prog_4_method_1_code, 2, none),
  (⟨"GatedPile$Layer", "lay", "(LGatedPile$Code;)Z"⟩, prog_4_method_2_code, 4, some .boolean),
  (⟨"GatedPile$Layer", "layHead", "()V"⟩, prog_4_method_3_code, 1, none),
  (⟨"GatedPile$Layer", "layTable", "([I)V"⟩, prog_4_method_4_code, 3, none),
  (⟨"GatedPile$Layer", "put", "(IIII)V"⟩, prog_4_method_5_code, 6, none),
  (⟨"GatedPile$Layer", "place", "(II)V"⟩, prog_4_method_6_code, 3, none),
  (⟨"GatedPile$Layer", "constant", "(II)V"⟩, prog_4_method_7_code, 3, none),
  (⟨"GatedPile$Layer", "on", "(I)V"⟩, prog_4_method_8_code, 2, none),
  (⟨"GatedPile$Layer", "off", "(I)V"⟩, prog_4_method_9_code, 2, none),
  (⟨"GatedPile$Layer", "library", "(I)V"⟩, prog_4_method_10_code, 2, none),
  (⟨"GatedPile$Layer", "nextIsLonger", "()Z"⟩, prog_4_method_11_code, 1, some .boolean),
  (⟨"GatedPile$Layer", "goSize", "()I"⟩, prog_4_method_12_code, 1, some .int),
  (⟨"GatedPile$Layer", "go", "()V"⟩, prog_4_method_13_code, 3, none),
  (⟨"GatedPile$Layer", "skipFail", "(I)V"⟩, prog_4_method_14_code, 2, none),
  (⟨"GatedPile$Layer", "goIfRaised", "()V"⟩, prog_4_method_15_code, 1, none),
  (⟨"GatedPile$Layer", "layOrder", "(I)V"⟩, prog_4_method_16_code, 3, none),
  (⟨"GatedPile$Layer", "layPlain", "(II)V"⟩, prog_4_method_17_code, 3, none),
  (⟨"GatedPile$Layer", "inFrame", "(I)I"⟩, prog_4_method_18_code, 2, some .int),
  (⟨"GatedPile$Layer", "placeOfVar", "(I)V"⟩, prog_4_method_19_code, 2, none),
  (⟨"GatedPile$Layer", "layEnter", "(I)V"⟩, prog_4_method_20_code, 2, none),
  (⟨"GatedPile$Layer", "layIndex", "(I)V"⟩, prog_4_method_21_code, 2, none),
  (⟨"GatedPile$Layer", "layAdd", "()V"⟩, prog_4_method_22_code, 1, none),
  (⟨"GatedPile$Layer", "layLessen", "()V"⟩, prog_4_method_23_code, 1, none),
  (⟨"GatedPile$Layer", "layRange", "()V"⟩, prog_4_method_24_code, 1, none),
  (⟨"GatedPile$Layer", "layMultiply", "()V"⟩, prog_4_method_25_code, 1, none),
  (⟨"GatedPile$Layer", "layDivide", "()V"⟩, prog_4_method_26_code, 1, none),
  (⟨"GatedPile$Layer", "layRest", "()V"⟩, prog_4_method_27_code, 1, none),
  (⟨"GatedPile$Layer", "layCompare", "(I)V"⟩, prog_4_method_28_code, 2, none),
  (⟨"GatedPile$Layer", "layIn", "()V"⟩, prog_4_method_29_code, 1, none)]
def mc_2 : List (MethodName × ByteArray × Nat × Option FieldType) := [(⟨"GatedPile$Layer", "layBack", "()V"⟩, prog_4_method_30_code, 1, none),
  (⟨"GatedPile$Layer", "layMatch", "(I)V"⟩, prog_4_method_31_code, 2, none),
  (⟨"GatedPile$Layer", "layLeave", "(I)V"⟩, prog_4_method_32_code, 4, none),
  (⟨"GatedPile$Machine", "signed", "(I)I"⟩, prog_5_method_2_code, 1, some .int),
  (⟨"GatedPile$Machine", "signedBits", "(II)I"⟩, prog_5_method_3_code, 2, some .int),
  (⟨"GatedPile$Machine", "receive", "(I)Z"⟩, prog_5_method_4_code, 2, some .boolean),
  (⟨"GatedPile$Machine", "forgetInput", "()V"⟩, prog_5_method_5_code, 1, none),
  (⟨"GatedPile$Machine", "inputsLeft", "()I"⟩, prog_5_method_6_code, 1, some .int),
  (⟨"GatedPile$Machine", "restart", "(LGatedPile$Code;)V"⟩, prog_5_method_7_code, 2, none),
  (⟨"GatedPile$Machine", "halted", "()Z"⟩, prog_5_method_8_code, 1, some .boolean),
  (⟨"GatedPile$Machine", "advance", "(I)I"⟩, prog_5_method_9_code, 3, some .int),
  (⟨"GatedPile$Machine", "data", "()I"⟩, prog_5_method_10_code, 1, some .int),
  (⟨"GatedPile$Machine", "tick", "()V"⟩, prog_5_method_11_code, 1, none),
  (⟨"GatedPile$Machine", "give", "()V"⟩, prog_5_method_12_code, 1, none),
  (⟨"GatedPile$Machine", "act", "()V"⟩, prog_5_method_13_code, 4, none),
  (⟨"GatedPile$Machine", "leap", "(I)V"⟩, prog_5_method_14_code, 2, none),
  (⟨"GatedPile$Machine", "result", "(IIII)I"⟩, prog_5_method_15_code, 5, some .int),
  (⟨"GatedPile$Machine", "show", "([I)V"⟩, prog_5_method_16_code, 3, none),
  (⟨"GatedPile$Machine", "showBits", "([IIII)V"⟩, prog_5_method_17_code, 5, none),
  (⟨"GatedPile$Machine", "<init>", "()V"⟩, prog_5_method_1_code, 1, none),
  (⟨"GatedPile$Maker", "<init>", "(LGatedPile$Text;LGatedPile$Tops;)V"⟩, prog_6_method_1_code, 3, none),
  (⟨"GatedPile$Maker", "make", "(LGatedPile$Code;)V"⟩, prog_6_method_2_code, 3, none),
  (⟨"GatedPile$Maker", "here", "()I"⟩, prog_6_method_3_code, 1, some .int),
  (⟨"GatedPile$Maker", "newLabel", "()I"⟩, prog_6_method_4_code, 1, some .int),
  (⟨"GatedPile$Maker", "setLabel", "(I)V"⟩, prog_6_method_5_code, 2, none),
  (⟨"GatedPile$Maker", "labelled", "(I)I"⟩, prog_6_method_6_code, 2, some .int),
  (⟨"GatedPile$Maker", "emit", "(III)V"⟩, prog_6_method_7_code, 4, none),
  (⟨"GatedPile$Maker", "blame", "(I)V"⟩, prog_6_method_8_code, 2, none),
  (⟨"GatedPile$Maker", "tellLocal", "(I)V"⟩, prog_6_method_9_code, 3, none),
  (⟨"GatedPile$Maker", "forgetLocals", "(I)V"⟩, prog_6_method_10_code, 2, none),
  (⟨"GatedPile$Maker", "use", "(II)I"⟩, prog_6_method_11_code, 4, some .int),
  (⟨"GatedPile$Maker", "makeProcedure", "()V"⟩, prog_6_method_12_code, 3, none)]
def mc_3 : List (MethodName × ByteArray × Nat × Option FieldType) := [(⟨"GatedPile$Maker", "keepProcedure", "(II)V"⟩, prog_6_method_13_code, 4, none),
  (⟨"GatedPile$Maker", "checkRaises", "()V"⟩, prog_6_method_14_code, 3, none),
  (⟨"GatedPile$Maker", "makeBlock", "(I)V"⟩, prog_6_method_15_code, 4, none),
  (⟨"GatedPile$Maker", "makeStatement", "(I)V"⟩, prog_6_method_16_code, 3, none),
  (⟨"GatedPile$Maker", "makeNamed", "(II)V"⟩, prog_6_method_17_code, 4, none),
  (⟨"GatedPile$Maker", "makeIf", "(I)V"⟩, prog_6_method_18_code, 4, none),
  (⟨"GatedPile$Maker", "makeWhile", "(I)V"⟩, prog_6_method_19_code, 4, none),
  (⟨"GatedPile$Maker", "makeTry", "(I)V"⟩, prog_6_method_20_code, 7, none),
  (⟨"GatedPile$Maker", "makeWhens", "()V"⟩, prog_6_method_21_code, 5, none),
  (⟨"GatedPile$Maker", "makeExpression", "(I)V"⟩, prog_6_method_22_code, 3, none),
  (⟨"GatedPile$Maker", "makeSum", "(I)V"⟩, prog_6_method_23_code, 4, none),
  (⟨"GatedPile$Maker", "makeTerm", "(I)V"⟩, prog_6_method_24_code, 4, none),
  (⟨"GatedPile$Maker", "makeFactor", "(I)V"⟩, prog_6_method_25_code, 3, none),
  (⟨"GatedPile$Maker", "makeInner", "(I)V"⟩, prog_6_method_26_code, 2, none),
  (⟨"GatedPile$Maker", "makeValue", "(II)V"⟩, prog_6_method_27_code, 4, none),
  (⟨"GatedPile$Maker", "makeCall", "(II)V"⟩, prog_6_method_28_code, 6, none),
  (⟨"GatedPile$Net", "settle", "(I)I"⟩, prog_7_method_2_code, 2, some .int),
  (⟨"GatedPile$Net", "gate", "(II)I"⟩, prog_7_method_3_code, 3, some .int),
  (⟨"GatedPile$Net", "not", "(I)I"⟩, prog_7_method_4_code, 2, some .int),
  (⟨"GatedPile$Net", "and", "(II)I"⟩, prog_7_method_5_code, 3, some .int),
  (⟨"GatedPile$Net", "or", "(II)I"⟩, prog_7_method_6_code, 3, some .int),
  (⟨"GatedPile$Net", "xor", "(II)I"⟩, prog_7_method_7_code, 4, some .int),
  (⟨"GatedPile$Net", "mux", "(III)I"⟩, prog_7_method_8_code, 5, some .int),
  (⟨"GatedPile$Net", "full", "(III)I"⟩, prog_7_method_9_code, 8, some .int),
  (⟨"GatedPile$Net", "sums", "([I[II)[I"⟩, prog_7_method_10_code, 6, some (.array .int)),
  (⟨"GatedPile$Net", "muxRow", "(I[I[I)[I"⟩, prog_7_method_11_code, 6, some (.array .int)),
  (⟨"GatedPile$Net", "become", "(II)V"⟩, prog_7_method_12_code, 3, none),
  (⟨"GatedPile$Net", "becomeRow", "(I[I)V"⟩, prog_7_method_13_code, 4, none),
  (⟨"GatedPile$Net", "<init>", "()V"⟩, prog_7_method_1_code, 1, none),
  (⟨"GatedPile$Text", "<init>", "()V"⟩, prog_8_method_1_code, 1, none),
  (⟨"GatedPile$Text", "hasRoomFor", "(I)Z"⟩, prog_8_method_2_code, 2, some .boolean),
  (⟨"GatedPile$Text", "take", "(I)V"⟩, prog_8_method_3_code, 3, none)]
def mc_4 : List (MethodName × ByteArray × Nat × Option FieldType) := [(⟨"GatedPile$Text", "kindOf", "(I)I"⟩, prog_8_method_4_code, 2, some .int),
  (⟨"GatedPile$Text", "placeOf", "(I)I"⟩, prog_8_method_5_code, 2, some .int),
  (⟨"GatedPile$Text", "valueOf", "(I)I"⟩, prog_8_method_6_code, 2, some .int),
  (⟨"GatedPile$Text", "setValue", "(II)V"⟩, prog_8_method_7_code, 3, none),
  (⟨"GatedPile$Text", "behindBlock", "(I)I"⟩, prog_8_method_8_code, 2, some .int),
  (⟨"GatedPile$Text", "comparisonOf", "(I)I"⟩, prog_8_method_9_code, 1, some .int),
  (⟨"GatedPile$Text", "cut", "(LGatedPile$Tops;)V"⟩, prog_8_method_10_code, 4, none),
  (⟨"GatedPile$Text", "byteAt", "(I)I"⟩, prog_8_method_11_code, 2, some .int),
  (⟨"GatedPile$Text", "add", "(III)V"⟩, prog_8_method_12_code, 4, none),
  (⟨"GatedPile$Text", "pastBlanks", "(I)I"⟩, prog_8_method_13_code, 5, some .int),
  (⟨"GatedPile$Text", "cutToken", "(ILGatedPile$Tops;)I"⟩, prog_8_method_14_code, 4, some .int),
  (⟨"GatedPile$Text", "cutWord", "(ILGatedPile$Tops;)I"⟩, prog_8_method_15_code, 7, some .int),
  (⟨"GatedPile$Text", "cutNumber", "(I)I"⟩, prog_8_method_16_code, 4, some .int),
  (⟨"GatedPile$Text", "cutSign", "(I)I"⟩, prog_8_method_17_code, 4, some .int),
  (⟨"GatedPile$Text", "isLetter", "(I)Z"⟩, prog_8_method_18_code, 1, some .boolean),
  (⟨"GatedPile$Text", "isDigit", "(I)Z"⟩, prog_8_method_19_code, 1, some .boolean),
  (⟨"GatedPile$Tops", "spell", "(JI)J"⟩, prog_9_method_2_code, 3, some .long),
  (⟨"GatedPile$Tops", "codeOf", "(Ljava/lang/String;)J"⟩, prog_9_method_3_code, 4, some .long),
  (⟨"GatedPile$Tops", "begin", "()V"⟩, prog_9_method_4_code, 1, none),
  (⟨"GatedPile$Tops", "tellAhead", "(Ljava/lang/String;)V"⟩, prog_9_method_5_code, 3, none),
  (⟨"GatedPile$Tops", "idOf", "(J)I"⟩, prog_9_method_6_code, 4, some .int),
  (⟨"GatedPile$Tops", "kindOf", "(I)I"⟩, prog_9_method_7_code, 2, some .int),
  (⟨"GatedPile$Tops", "numberOf", "(I)I"⟩, prog_9_method_8_code, 2, some .int),
  (⟨"GatedPile$Tops", "localOf", "(I)I"⟩, prog_9_method_9_code, 2, some .int),
  (⟨"GatedPile$Tops", "setLocal", "(II)V"⟩, prog_9_method_10_code, 3, none),
  (⟨"GatedPile$Tops", "parametersOf", "(I)I"⟩, prog_9_method_11_code, 2, some .int),
  (⟨"GatedPile$Tops", "offsetOf", "(I)I"⟩, prog_9_method_12_code, 2, some .int),
  (⟨"GatedPile$Tops", "lengthOf", "(I)I"⟩, prog_9_method_13_code, 2, some .int),
  (⟨"GatedPile$Tops", "mainNumber", "()I"⟩, prog_9_method_14_code, 2, some .int),
  (⟨"GatedPile$Tops", "exceeds", "()Z"⟩, prog_9_method_15_code, 1, some .boolean),
  (⟨"GatedPile$Tops", "gather", "(LGatedPile$Text;)V"⟩, prog_9_method_16_code, 5, none),
  (⟨"GatedPile$Tops", "tell", "(LGatedPile$Text;III)V"⟩, prog_9_method_17_code, 6, none)]
def mc_5 : List (MethodName × ByteArray × Nat × Option FieldType) := [(⟨"GatedPile$Tops", "gatherVar", "(LGatedPile$Text;I)I"⟩, prog_9_method_18_code, 5, some .int),
  (⟨"GatedPile$Tops", "gatherConditions", "(LGatedPile$Text;I)I"⟩, prog_9_method_19_code, 4, some .int),
  (⟨"GatedPile$Tops", "gatherProcedure", "(LGatedPile$Text;I)I"⟩, prog_9_method_20_code, 5, some .int),
  (⟨"GatedPile$Tops", "<init>", "()V"⟩, prog_9_method_1_code, 1, none),
  (⟨"GatedPile$Wiring", "<init>", "(LGatedPile$Net;)V"⟩, prog_10_method_1_code, 2, none),
  (⟨"GatedPile$Wiring", "build", "()V"⟩, prog_10_method_2_code, 1, none),
  (⟨"GatedPile$Wiring", "register", "(II)I"⟩, prog_10_method_3_code, 3, some .int),
  (⟨"GatedPile$Wiring", "port", "(I)[I"⟩, prog_10_method_4_code, 6, some (.array .int)),
  (⟨"GatedPile$Wiring", "wiresFrom", "(I)[I"⟩, prog_10_method_5_code, 3, some (.array .int)),
  (⟨"GatedPile$Wiring", "numberUpTo", "(I)[I"⟩, prog_10_method_6_code, 3, some (.array .int)),
  (⟨"GatedPile$Wiring", "makeOps", "()V"⟩, prog_10_method_7_code, 2, none),
  (⟨"GatedPile$Wiring", "opBit", "(II)I"⟩, prog_10_method_8_code, 3, some .int),
  (⟨"GatedPile$Wiring", "makeStates", "()V"⟩, prog_10_method_9_code, 5, none),
  (⟨"GatedPile$Wiring", "makeSum", "()V"⟩, prog_10_method_10_code, 6, none),
  (⟨"GatedPile$Wiring", "makeResult", "()V"⟩, prog_10_method_11_code, 7, none),
  (⟨"GatedPile$Wiring", "makeNext", "()V"⟩, prog_10_method_12_code, 7, none),
  (⟨"GatedPile$Wiring", "makeFlipFlops", "()V"⟩, prog_10_method_13_code, 4, none),
  (⟨"GatedPile$Wiring", "makeRegisters", "()V"⟩, prog_10_method_14_code, 9, none),
  (⟨"GatedPile", "<init>", "()V"⟩, prog_1_method_1_code, 1, none),
  (⟨"GatedPile", "feed", "(IIIII)I"⟩, prog_1_method_2_code, 6, some .int),
  (⟨"GatedPile", "end", "(I)I"⟩, prog_1_method_3_code, 2, some .int),
  (⟨"GatedPile", "compile", "()I"⟩, prog_1_method_4_code, 2, some .int),
  (⟨"GatedPile", "blame", "(II)V"⟩, prog_1_method_5_code, 3, none),
  (⟨"GatedPile", "fault", "(I)I"⟩, prog_1_method_6_code, 2, some .int),
  (⟨"GatedPile", "count", "(I)I"⟩, prog_1_method_7_code, 2, some .int),
  (⟨"GatedPile", "order", "(II)I"⟩, prog_1_method_8_code, 3, some .int),
  (⟨"GatedPile", "proc", "(II)I"⟩, prog_1_method_9_code, 3, some .int),
  (⟨"GatedPile", "word", "(I)I"⟩, prog_1_method_10_code, 2, some .int),
  (⟨"GatedPile", "net", "(II)I"⟩, prog_1_method_11_code, 3, some .int),
  (⟨"GatedPile", "input", "(I)Z"⟩, prog_1_method_12_code, 2, some .boolean),
  (⟨"GatedPile", "clear", "()V"⟩, prog_1_method_13_code, 1, none),
  (⟨"GatedPile", "reset", "()Z"⟩, prog_1_method_14_code, 1, some .boolean)]
def mc_6 : List (MethodName × ByteArray × Nat × Option FieldType) := [(⟨"GatedPile", "clock", "(I)I"⟩, prog_1_method_15_code, 2, some .int),
  (⟨"GatedPile", "run", "()I"⟩, prog_1_method_16_code, 2, some .int),
  (⟨"GatedPile", "wire", "(I)I"⟩, prog_1_method_17_code, 2, some .int),
  (⟨"GatedPile", "look", "(I)I"⟩, prog_1_method_18_code, 2, some .int),
  (⟨"GatedPile", "memory", "(I)I"⟩, prog_1_method_19_code, 2, some .int),
  (⟨"GatedPile", "output", "(I)I"⟩, prog_1_method_20_code, 2, some .int),
  (⟨"GatedPileModel", "packed", "(Ljava/lang/String;)J"⟩, prog_12_method_1_code, 4, some .long),
  (⟨"GatedPileModel", "symbol", "(I)I"⟩, prog_12_method_2_code, 1, some .int),
  (⟨"GatedPileModel", "isLetter", "(I)Z"⟩, prog_12_method_3_code, 1, some .boolean),
  (⟨"GatedPileModel", "isDigit", "(I)Z"⟩, prog_12_method_4_code, 1, some .boolean),
  (⟨"GatedPileModel", "at", "(I)I"⟩, prog_12_method_5_code, 2, some .int),
  (⟨"GatedPileModel", "token", "(IIJ)V"⟩, prog_12_method_6_code, 5, none),
  (⟨"GatedPileModel", "wordAt", "(I)I"⟩, prog_12_method_7_code, 7, some .int),
  (⟨"GatedPileModel", "numberAt", "(I)I"⟩, prog_12_method_8_code, 4, some .int),
  (⟨"GatedPileModel", "split", "()V"⟩, prog_12_method_9_code, 3, none),
  (⟨"GatedPileModel", "marks", "(II)V"⟩, prog_12_method_10_code, 3, none),
  (⟨"GatedPileModel", "wrong", "()V"⟩, prog_12_method_11_code, 1, none),
  (⟨"GatedPileModel", "is", "(I)Z"⟩, prog_12_method_12_code, 2, some .boolean),
  (⟨"GatedPileModel", "isKey", "(I)Z"⟩, prog_12_method_13_code, 2, some .boolean),
  (⟨"GatedPileModel", "isName", "()Z"⟩, prog_12_method_14_code, 1, some .boolean),
  (⟨"GatedPileModel", "next", "()V"⟩, prog_12_method_15_code, 1, none),
  (⟨"GatedPileModel", "need", "(I)V"⟩, prog_12_method_16_code, 2, none),
  (⟨"GatedPileModel", "needKey", "(I)V"⟩, prog_12_method_17_code, 2, none),
  (⟨"GatedPileModel", "name", "()I"⟩, prog_12_method_18_code, 1, some .int),
  (⟨"GatedPileModel", "deeper", "()V"⟩, prog_12_method_19_code, 1, none),
  (⟨"GatedPileModel", "top", "(J)I"⟩, prog_12_method_20_code, 4, some .int),
  (⟨"GatedPileModel", "tell", "(JII)V"⟩, prog_12_method_21_code, 5, none),
  (⟨"GatedPileModel", "topTold", "(III)V"⟩, prog_12_method_22_code, 4, none),
  (⟨"GatedPileModel", "program", "()V"⟩, prog_12_method_23_code, 1, none),
  (⟨"GatedPileModel", "topVar", "()V"⟩, prog_12_method_24_code, 4, none),
  (⟨"GatedPileModel", "topCond", "()V"⟩, prog_12_method_25_code, 2, none),
  (⟨"GatedPileModel", "local", "(J)I"⟩, prog_12_method_26_code, 4, some .int)]
def mc_7 : List (MethodName × ByteArray × Nat × Option FieldType) := [(⟨"GatedPileModel", "localTold", "(I)V"⟩, prog_12_method_27_code, 2, none),
  (⟨"GatedPileModel", "addLocal", "(I)V"⟩, prog_12_method_28_code, 2, none),
  (⟨"GatedPileModel", "procedure", "()V"⟩, prog_12_method_29_code, 3, none),
  (⟨"GatedPileModel", "parameter", "()V"⟩, prog_12_method_30_code, 2, none),
  (⟨"GatedPileModel", "condition", "(I)I"⟩, prog_12_method_31_code, 3, some .int),
  (⟨"GatedPileModel", "raisesOne", "()V"⟩, prog_12_method_32_code, 4, none),
  (⟨"GatedPileModel", "block", "()V"⟩, prog_12_method_33_code, 2, none),
  (⟨"GatedPileModel", "statement", "()V"⟩, prog_12_method_34_code, 3, none),
  (⟨"GatedPileModel", "named", "()V"⟩, prog_12_method_35_code, 3, none),
  (⟨"GatedPileModel", "branch", "()V"⟩, prog_12_method_36_code, 3, none),
  (⟨"GatedPileModel", "attempt", "()V"⟩, prog_12_method_37_code, 10, none),
  (⟨"GatedPileModel", "behindBlock", "(I)I"⟩, prog_12_method_38_code, 4, some .int),
  (⟨"GatedPileModel", "expression", "()V"⟩, prog_12_method_39_code, 2, none),
  (⟨"GatedPileModel", "sum", "()V"⟩, prog_12_method_40_code, 2, none),
  (⟨"GatedPileModel", "term", "()V"⟩, prog_12_method_41_code, 2, none),
  (⟨"GatedPileModel", "factor", "()V"⟩, prog_12_method_42_code, 3, none),
  (⟨"GatedPileModel", "index", "()V"⟩, prog_12_method_43_code, 1, none),
  (⟨"GatedPileModel", "call", "(I)V"⟩, prog_12_method_44_code, 4, none),
  (⟨"GatedPileModel", "plain", "(I)I"⟩, prog_12_method_45_code, 4, some .int),
  (⟨"GatedPileModel", "array", "(I)I"⟩, prog_12_method_46_code, 3, some .int),
  (⟨"GatedPileModel", "label", "()I"⟩, prog_12_method_47_code, 1, some .int),
  (⟨"GatedPileModel", "stand", "(I)V"⟩, prog_12_method_48_code, 2, none),
  (⟨"GatedPileModel", "emit", "(III)V"⟩, prog_12_method_49_code, 4, none),
  (⟨"GatedPileModel", "beginProc", "()V"⟩, prog_12_method_50_code, 1, none),
  (⟨"GatedPileModel", "endProc", "()V"⟩, prog_12_method_51_code, 1, none),
  (⟨"GatedPileModel", "<init>", "()V"⟩, prog_12_method_52_code, 5, none),
  (⟨"GatedPileModel", "feed", "(IIIII)I"⟩, prog_12_method_53_code, 8, some .int),
  (⟨"GatedPileModel", "end", "(I)I"⟩, prog_12_method_54_code, 2, some .int),
  (⟨"GatedPileModel", "compile", "()I"⟩, prog_12_method_55_code, 2, some .int),
  (⟨"GatedPileModel", "isLarge", "(I)V"⟩, prog_12_method_56_code, 4, none),
  (⟨"GatedPileModel", "sizeOf", "(I)I"⟩, prog_12_method_57_code, 2, some .int),
  (⟨"GatedPileModel", "wantOf", "(I)I"⟩, prog_12_method_58_code, 2, some .int)]
def mc_8 : List (MethodName × ByteArray × Nat × Option FieldType) := [(⟨"GatedPileModel", "keep", "(I)V"⟩, prog_12_method_59_code, 4, none),
  (⟨"GatedPileModel", "w", "(IIIII)V"⟩, prog_12_method_60_code, 6, none),
  (⟨"GatedPileModel", "w3", "(IIII)V"⟩, prog_12_method_61_code, 5, none),
  (⟨"GatedPileModel", "w6", "(IIII)V"⟩, prog_12_method_62_code, 5, none),
  (⟨"GatedPileModel", "w9", "(III)V"⟩, prog_12_method_63_code, 4, none),
  (⟨"GatedPileModel", "li", "(II)V"⟩, prog_12_method_64_code, 3, none),
  (⟨"GatedPileModel", "jz", "(II)V"⟩, prog_12_method_65_code, 3, none),
  (⟨"GatedPileModel", "jn", "(II)V"⟩, prog_12_method_66_code, 3, none),
  (⟨"GatedPileModel", "jump", "(I)V"⟩, prog_12_method_67_code, 2, none),
  (⟨"GatedPileModel", "place", "(II)V"⟩, prog_12_method_68_code, 3, none),
  (⟨"GatedPileModel", "placeOf", "(II)V"⟩, prog_12_method_69_code, 3, none),
  (⟨"GatedPileModel", "constant", "(II)V"⟩, prog_12_method_70_code, 3, none),
  (⟨"GatedPileModel", "on", "(I)V"⟩, prog_12_method_71_code, 2, none),
  (⟨"GatedPileModel", "off", "(I)V"⟩, prog_12_method_72_code, 2, none),
  (⟨"GatedPileModel", "link", "()V"⟩, prog_12_method_73_code, 1, none),
  (⟨"GatedPileModel", "goSize", "()I"⟩, prog_12_method_74_code, 1, some .int),
  (⟨"GatedPileModel", "go", "(I)V"⟩, prog_12_method_75_code, 2, none),
  (⟨"GatedPileModel", "fail", "(II)V"⟩, prog_12_method_76_code, 3, none),
  (⟨"GatedPileModel", "skipFail", "(II)V"⟩, prog_12_method_77_code, 3, none),
  (⟨"GatedPileModel", "passes", "(I)V"⟩, prog_12_method_78_code, 2, none),
  (⟨"GatedPileModel", "lib", "(I)V"⟩, prog_12_method_79_code, 2, none),
  (⟨"GatedPileModel", "back", "(I)V"⟩, prog_12_method_80_code, 2, none),
  (⟨"GatedPileModel", "indexed", "(II)V"⟩, prog_12_method_81_code, 3, none),
  (⟨"GatedPileModel", "lessen", "(I)V"⟩, prog_12_method_82_code, 2, none),
  (⟨"GatedPileModel", "inFrame", "(I)I"⟩, prog_12_method_83_code, 2, some .int),
  (⟨"GatedPileModel", "layOrder", "(I)V"⟩, prog_12_method_84_code, 4, none),
  (⟨"GatedPileModel", "compares", "(I)V"⟩, prog_12_method_85_code, 3, none),
  (⟨"GatedPileModel", "layMore", "(I)V"⟩, prog_12_method_86_code, 4, none),
  (⟨"GatedPileModel", "leaves", "(I)V"⟩, prog_12_method_87_code, 4, none),
  (⟨"GatedPileModel", "layMultiply", "()V"⟩, prog_12_method_88_code, 1, none),
  (⟨"GatedPileModel", "layDivide", "()V"⟩, prog_12_method_89_code, 1, none),
  (⟨"GatedPileModel", "layOnce", "(I)V"⟩, prog_12_method_90_code, 3, none)]
def mc_9 : List (MethodName × ByteArray × Nat × Option FieldType) := [(⟨"GatedPileModel", "reaches", "(II)Z"⟩, prog_12_method_91_code, 3, some .boolean),
  (⟨"GatedPileModel", "layAll", "(I)V"⟩, prog_12_method_92_code, 5, none),
  (⟨"GatedPileModel", "fill", "(II)V"⟩, prog_12_method_93_code, 3, none),
  (⟨"GatedPileModel", "nand", "(II)I"⟩, prog_12_method_94_code, 3, some .int),
  (⟨"GatedPileModel", "not", "(I)I"⟩, prog_12_method_95_code, 2, some .int),
  (⟨"GatedPileModel", "and", "(II)I"⟩, prog_12_method_96_code, 3, some .int),
  (⟨"GatedPileModel", "or", "(II)I"⟩, prog_12_method_97_code, 5, some .int),
  (⟨"GatedPileModel", "xor", "(II)I"⟩, prog_12_method_98_code, 6, some .int),
  (⟨"GatedPileModel", "mux", "(III)I"⟩, prog_12_method_99_code, 7, some .int),
  (⟨"GatedPileModel", "sums", "([I[II)[I"⟩, prog_12_method_100_code, 14, some (.array .int)),
  (⟨"GatedPileModel", "row", "(I)[I"⟩, prog_12_method_101_code, 3, some (.array .int)),
  (⟨"GatedPileModel", "register", "(II)I"⟩, prog_12_method_102_code, 2, some .int),
  (⟨"GatedPileModel", "port", "(III)[I"⟩, prog_12_method_103_code, 12, some (.array .int)),
  (⟨"GatedPileModel", "muxes", "(I[I[I)[I"⟩, prog_12_method_104_code, 6, some (.array .int)),
  (⟨"GatedPileModel", "number", "(I)[I"⟩, prog_12_method_105_code, 3, some (.array .int)),
  (⟨"GatedPileModel", "makeOps", "([I)V"⟩, prog_12_method_106_code, 6, none),
  (⟨"GatedPileModel", "makeNet", "()V"⟩, prog_12_method_107_code, 22, none),
  (⟨"GatedPileModel", "result", "([I[I[I[I[III)[I"⟩, prog_12_method_108_code, 12, some (.array .int)),
  (⟨"GatedPileModel", "makeNext", "([I[I[I[IIIII)V"⟩, prog_12_method_109_code, 33, none),
  (⟨"GatedPileModel", "data", "()I"⟩, prog_12_method_110_code, 1, some .int),
  (⟨"GatedPileModel", "signed", "(I)I"⟩, prog_12_method_111_code, 1, some .int),
  (⟨"GatedPileModel", "isHalted", "()Z"⟩, prog_12_method_112_code, 1, some .boolean),
  (⟨"GatedPileModel", "gives", "(I)V"⟩, prog_12_method_113_code, 2, none),
  (⟨"GatedPileModel", "mayTick", "()Z"⟩, prog_12_method_114_code, 1, some .boolean),
  (⟨"GatedPileModel", "tick", "()V"⟩, prog_12_method_115_code, 2, none),
  (⟨"GatedPileModel", "does", "()V"⟩, prog_12_method_116_code, 9, none),
  (⟨"GatedPileModel", "enters", "(II)V"⟩, prog_12_method_117_code, 4, none),
  (⟨"GatedPileModel", "reckon", "(III)I"⟩, prog_12_method_118_code, 4, some .int),
  (⟨"GatedPileModel", "holds", "(III)Z"⟩, prog_12_method_119_code, 3, some .boolean),
  (⟨"GatedPileModel", "means", "()I"⟩, prog_12_method_120_code, 11, some .int),
  (⟨"GatedPileModel", "fault", "(I)I"⟩, prog_12_method_121_code, 2, some .int),
  (⟨"GatedPileModel", "count", "(I)I"⟩, prog_12_method_122_code, 2, some .int)]
def mc_10 : List (MethodName × ByteArray × Nat × Option FieldType) := [(⟨"GatedPileModel", "order", "(II)I"⟩, prog_12_method_123_code, 3, some .int),
  (⟨"GatedPileModel", "proc", "(II)I"⟩, prog_12_method_124_code, 3, some .int),
  (⟨"GatedPileModel", "word", "(I)I"⟩, prog_12_method_125_code, 2, some .int),
  (⟨"GatedPileModel", "net", "(II)I"⟩, prog_12_method_126_code, 3, some .int),
  (⟨"GatedPileModel", "input", "(I)Z"⟩, prog_12_method_127_code, 2, some .boolean),
  (⟨"GatedPileModel", "clear", "()V"⟩, prog_12_method_128_code, 1, none),
  (⟨"GatedPileModel", "reset", "()Z"⟩, prog_12_method_129_code, 2, some .boolean),
  (⟨"GatedPileModel", "clock", "(I)I"⟩, prog_12_method_130_code, 3, some .int),
  (⟨"GatedPileModel", "run", "()I"⟩, prog_12_method_131_code, 3, some .int),
  (⟨"GatedPileModel", "shows", "(II)V"⟩, prog_12_method_132_code, 4, none),
  (⟨"GatedPileModel", "wire", "(I)I"⟩, prog_12_method_133_code, 3, some .int),
  (⟨"GatedPileModel", "look", "(I)I"⟩, prog_12_method_134_code, 2, some .int),
  (⟨"GatedPileModel", "memory", "(I)I"⟩, prog_12_method_135_code, 2, some .int),
  (⟨"GatedPileModel", "output", "(I)I"⟩, prog_12_method_136_code, 2, some .int),
  (⟨"GatedPileLaw", "law", "([I)Z"⟩, code, 4, some .boolean),
  (⟨"java/lang/StringLatin1", "charAt", "([BI)C"⟩, prog_17_method_2_code, 2, some .char),
  (⟨"java/lang/StringLatin1", "canEncode", "(I)Z"⟩, prog_17_method_4_code, 1, some .boolean),
  (⟨"java/lang/StringLatin1", "indexOf", "([BIII)I"⟩, prog_17_method_22_code, 4, some .int),
  (⟨"java/lang/StringLatin1", "indexOfChar", "([BIII)I"⟩, prog_17_method_23_code, 6, some .int),
  (⟨"java/lang/StringLatin1", "newString", "([BII)Ljava/lang/String;"⟩, prog_17_method_47_code, 3, some (.object "java/lang/String")),
  (⟨"java/lang/StringUTF16", "charAt", "([BI)C"⟩, prog_18_method_83_code, 2, some .char),
  (⟨"java/lang/StringUTF16", "indexOf", "([BIII)I"⟩, prog_18_method_40_code, 4, some .int),
  (⟨"java/lang/StringUTF16", "newString", "([BII)Ljava/lang/String;"⟩, prog_18_method_69_code, 5, some (.object "java/lang/String")),
  (⟨"java/lang/Math", "max", "(II)I"⟩, prog_15_method_65_code, 2, some .int),
  (⟨"java/lang/Math", "min", "(II)I"⟩, prog_15_method_69_code, 2, some .int),
  (⟨"jdk/internal/util/Preconditions", "checkIndex", "(IILjava/util/function/BiFunction;)I"⟩, prog_21_method_11_code, 3, some .int),
  (⟨"jdk/internal/util/Preconditions", "checkFromToIndex", "(IIILjava/util/function/BiFunction;)I"⟩, prog_21_method_12_code, 4, some .int),
  (⟨"java/util/Arrays", "copyOfRange", "([BII)[B"⟩, prog_20_method_132_code, 3, some (.array .byte)),
  (⟨"java/util/Arrays", "copyOfRangeByte", "([BII)[B"⟩, prog_20_method_133_code, 5, some (.array .byte)),
  (⟨"java/util/Arrays", "checkLength", "(II)V"⟩, prog_20_method_131_code, 2, none),
  (⟨"java/util/Arrays", "fill", "([II)V"⟩, prog_20_method_103_code, 4, none)]
def mL : List (MethodName × ByteArray × Nat × Option FieldType) := mc_0 ++ (mc_1 ++ (mc_2 ++ (mc_3 ++ (mc_4 ++ (mc_5 ++ (mc_6 ++ (mc_7 ++ (mc_8 ++ (mc_9 ++ (mc_10))))))))))
def yL : List MethodName := mL.map (fun e => e.1)
def bL : List (ByteArray × Nat × Option FieldType) := mL.map (fun e => e.2)
