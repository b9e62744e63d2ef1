def RX1 : String := "SpanCopier$Book"
def TX1 : u_T := fun k => match k with
  | 0 => ("SpanCopier$Book", "words", "[LSpanCopier$Word;", true)
  | 1 => ("SpanCopier$Book", "units", "[I", true)
  | 2 => ("SpanCopier$Book", "ticks", "[I", true)
  | _ => ("SpanCopier$Book", "many", "I", false)
def tyX1 : Nat → FieldType := fun k => match k with
  | 0 => .array (.object "SpanCopier$Word")
  | 1 => .array .int
  | 2 => .array .int
  | _ => .int
theorem nmX1 : ∀ a, a < 4 → ∀ b, b < 4 → a ≠ b → (TX1 a).2.1 ≠ (TX1 b).2.1 := by decide +kernel
theorem tyX1_ok : ∀ k, k < 4 → parseFieldDescriptor (TX1 k).2.2.1 = some (tyX1 k) := by decide +kernel
def RX2 : String := "SpanCopier$Link"
def TX2 : u_T := fun k => match k with
  | 0 => ("SpanCopier$Link", "rows", "[I", true)
  | 1 => ("SpanCopier$Link", "coming", "[I", true)
  | 2 => ("SpanCopier$Link", "size", "I", false)
  | 3 => ("SpanCopier$Link", "sent", "I", false)
  | _ => ("SpanCopier$Link", "due", "I", false)
def tyX2 : Nat → FieldType := fun k => match k with
  | 0 => .array .int
  | 1 => .array .int
  | 2 => .int
  | 3 => .int
  | _ => .int
theorem nmX2 : ∀ a, a < 5 → ∀ b, b < 5 → a ≠ b → (TX2 a).2.1 ≠ (TX2 b).2.1 := by decide +kernel
theorem tyX2_ok : ∀ k, k < 5 → parseFieldDescriptor (TX2 k).2.2.1 = some (tyX2 k) := by decide +kernel
def RX3 : String := "SpanCopier$Order"
def TX3 : u_T := fun k => match k with
  | 0 => ("SpanCopier$Order", "settings", "[I", true)
  | 1 => ("SpanCopier$Order", "actKinds", "[LSpanCopier$Word;", true)
  | 2 => ("SpanCopier$Order", "actFirsts", "[I", true)
  | 3 => ("SpanCopier$Order", "actSeconds", "[I", true)
  | 4 => ("SpanCopier$Order", "codes", "[J", true)
  | 5 => ("SpanCopier$Order", "to", "I", false)
  | 6 => ("SpanCopier$Order", "names", "I", false)
  | 7 => ("SpanCopier$Order", "acts", "I", false)
  | 8 => ("SpanCopier$Order", "has", "I", false)
  | 9 => ("SpanCopier$Order", "toldOnce", "I", false)
  | _ => ("SpanCopier$Order", "named", "I", false)
def tyX3 : Nat → FieldType := fun k => match k with
  | 0 => .array .int
  | 1 => .array (.object "SpanCopier$Word")
  | 2 => .array .int
  | 3 => .array .int
  | 4 => .array .long
  | 5 => .int
  | 6 => .int
  | 7 => .int
  | 8 => .int
  | 9 => .int
  | _ => .int
theorem nmX3 : ∀ a, a < 11 → ∀ b, b < 11 → a ≠ b → (TX3 a).2.1 ≠ (TX3 b).2.1 := by decide +kernel
theorem tyX3_ok : ∀ k, k < 11 → parseFieldDescriptor (TX3 k).2.2.1 = some (tyX3 k) := by decide +kernel
def RX4 : String := "SpanCopier$Places"
def TX4 : u_T := fun k => match k with
  | 0 => ("SpanCopier$Places", "marks", "[B", true)
  | _ => ("SpanCopier$Places", "marked", "I", false)
def tyX4 : Nat → FieldType := fun k => match k with
  | 0 => .array .byte
  | _ => .int
theorem nmX4 : ∀ a, a < 2 → ∀ b, b < 2 → a ≠ b → (TX4 a).2.1 ≠ (TX4 b).2.1 := by decide +kernel
theorem tyX4_ok : ∀ k, k < 2 → parseFieldDescriptor (TX4 k).2.2.1 = some (tyX4 k) := by decide +kernel
def RX5 : String := "SpanCopier$Sender"
def TX5 : u_T := fun k => match k with
  | 0 => ("SpanCopier$Sender", "resends", "LSpanCopier$Places;", true)
  | 1 => ("SpanCopier$Sender", "state", "I", false)
  | 2 => ("SpanCopier$Sender", "next", "I", false)
  | 3 => ("SpanCopier$Sender", "eofs", "I", false)
  | 4 => ("SpanCopier$Sender", "wait", "I", false)
  | _ => ("SpanCopier$Sender", "patience", "I", false)
def tyX5 : Nat → FieldType := fun k => match k with
  | 0 => .object "SpanCopier$Places"
  | 1 => .int
  | 2 => .int
  | 3 => .int
  | 4 => .int
  | _ => .int
theorem nmX5 : ∀ a, a < 6 → ∀ b, b < 6 → a ≠ b → (TX5 a).2.1 ≠ (TX5 b).2.1 := by decide +kernel
theorem tyX5_ok : ∀ k, k < 6 → parseFieldDescriptor (TX5 k).2.2.1 = some (tyX5 k) := by decide +kernel
def RX6 : String := "SpanCopier$Sentence"
def TX6 : u_T := fun k => match k with
  | 0 => ("SpanCopier$Sentence", "words", "[LSpanCopier$Word;", true)
  | 1 => ("SpanCopier$Sentence", "signs", "[I", true)
  | 2 => ("SpanCopier$Sentence", "numbers", "[I", true)
  | 3 => ("SpanCopier$Sentence", "steps", "I", false)
  | _ => ("SpanCopier$Sentence", "ones", "I", false)
def tyX6 : Nat → FieldType := fun k => match k with
  | 0 => .array (.object "SpanCopier$Word")
  | 1 => .array .int
  | 2 => .array .int
  | 3 => .int
  | _ => .int
theorem nmX6 : ∀ a, a < 5 → ∀ b, b < 5 → a ≠ b → (TX6 a).2.1 ≠ (TX6 b).2.1 := by decide +kernel
theorem tyX6_ok : ∀ k, k < 5 → parseFieldDescriptor (TX6 k).2.2.1 = some (tyX6 k) := by decide +kernel
def RX7 : String := "SpanCopier$Shelf"
def TX7 : u_T := fun k => match k with
  | 0 => ("SpanCopier$Shelf", "journal", "[I", true)
  | 1 => ("SpanCopier$Shelf", "written", "I", false)
  | 2 => ("SpanCopier$Shelf", "store", "I", false)
  | 3 => ("SpanCopier$Shelf", "toIsDone", "Z", false)
  | _ => ("SpanCopier$Shelf", "broken", "Z", false)
def tyX7 : Nat → FieldType := fun k => match k with
  | 0 => .array .int
  | 1 => .int
  | 2 => .int
  | 3 => .boolean
  | _ => .boolean
theorem nmX7 : ∀ a, a < 5 → ∀ b, b < 5 → a ≠ b → (TX7 a).2.1 ≠ (TX7 b).2.1 := by decide +kernel
theorem tyX7_ok : ∀ k, k < 5 → parseFieldDescriptor (TX7 k).2.2.1 = some (tyX7 k) := by decide +kernel
def RX8 : String := "SpanCopier$Taker"
def TX8 : u_T := fun k => match k with
  | 0 => ("SpanCopier$Taker", "gaps", "LSpanCopier$Places;", true)
  | 1 => ("SpanCopier$Taker", "bytes", "[B", true)
  | 2 => ("SpanCopier$Taker", "state", "I", false)
  | 3 => ("SpanCopier$Taker", "end", "I", false)
  | 4 => ("SpanCopier$Taker", "knows", "Z", false)
  | 5 => ("SpanCopier$Taker", "naks", "I", false)
  | 6 => ("SpanCopier$Taker", "fins", "I", false)
  | 7 => ("SpanCopier$Taker", "wait", "I", false)
  | _ => ("SpanCopier$Taker", "code", "I", false)
def tyX8 : Nat → FieldType := fun k => match k with
  | 0 => .object "SpanCopier$Places"
  | 1 => .array .byte
  | 2 => .int
  | 3 => .int
  | 4 => .boolean
  | 5 => .int
  | 6 => .int
  | 7 => .int
  | _ => .int
theorem nmX8 : ∀ a, a < 9 → ∀ b, b < 9 → a ≠ b → (TX8 a).2.1 ≠ (TX8 b).2.1 := by decide +kernel
theorem tyX8_ok : ∀ k, k < 9 → parseFieldDescriptor (TX8 k).2.2.1 = some (tyX8 k) := by decide +kernel
def RX9 : String := "SpanCopier$Tape"
def TX9 : u_T := fun k => match k with
  | 0 => ("SpanCopier$Tape", "bytes", "[B", true)
  | 1 => ("SpanCopier$Tape", "length", "I", false)
  | 2 => ("SpanCopier$Tape", "limit", "I", false)
  | 3 => ("SpanCopier$Tape", "behind", "I", false)
  | 4 => ("SpanCopier$Tape", "kind", "I", false)
  | 5 => ("SpanCopier$Tape", "place", "I", false)
  | 6 => ("SpanCopier$Tape", "number", "I", false)
  | 7 => ("SpanCopier$Tape", "code", "J", false)
  | 8 => ("SpanCopier$Tape", "word", "LSpanCopier$Word;", false)
  | 9 => ("SpanCopier$Tape", "faultKind", "I", false)
  | _ => ("SpanCopier$Tape", "faultPlace", "I", false)
def tyX9 : Nat → FieldType := fun k => match k with
  | 0 => .array .byte
  | 1 => .int
  | 2 => .int
  | 3 => .int
  | 4 => .int
  | 5 => .int
  | 6 => .int
  | 7 => .long
  | 8 => .object "SpanCopier$Word"
  | 9 => .int
  | _ => .int
theorem nmX9 : ∀ a, a < 11 → ∀ b, b < 11 → a ≠ b → (TX9 a).2.1 ≠ (TX9 b).2.1 := by decide +kernel
theorem tyX9_ok : ∀ k, k < 11 → parseFieldDescriptor (TX9 k).2.2.1 = some (tyX9 k) := by decide +kernel
def RX11 : String := "SpanCopier$World"
def TX11 : u_T := fun k => match k with
  | 0 => ("SpanCopier$World", "link", "LSpanCopier$Link;", true)
  | 1 => ("SpanCopier$World", "sender", "LSpanCopier$Sender;", true)
  | 2 => ("SpanCopier$World", "taker", "LSpanCopier$Taker;", true)
  | 3 => ("SpanCopier$World", "saved", "LSpanCopier$Taker;", true)
  | 4 => ("SpanCopier$World", "shelf", "LSpanCopier$Shelf;", true)
  | 5 => ("SpanCopier$World", "order", "LSpanCopier$Order;", false)
  | 6 => ("SpanCopier$World", "sentence", "LSpanCopier$Sentence;", false)
  | 7 => ("SpanCopier$World", "file", "[B", false)
  | 8 => ("SpanCopier$World", "fileSum", "I", false)
  | 9 => ("SpanCopier$World", "tick", "I", false)
  | _ => ("SpanCopier$World", "seed", "I", false)
def tyX11 : Nat → FieldType := fun k => match k with
  | 0 => .object "SpanCopier$Link"
  | 1 => .object "SpanCopier$Sender"
  | 2 => .object "SpanCopier$Taker"
  | 3 => .object "SpanCopier$Taker"
  | 4 => .object "SpanCopier$Shelf"
  | 5 => .object "SpanCopier$Order"
  | 6 => .object "SpanCopier$Sentence"
  | 7 => .array .byte
  | 8 => .int
  | 9 => .int
  | _ => .int
theorem nmX11 : ∀ a, a < 11 → ∀ b, b < 11 → a ≠ b → (TX11 a).2.1 ≠ (TX11 b).2.1 := by decide +kernel
theorem tyX11_ok : ∀ k, k < 11 → parseFieldDescriptor (TX11 k).2.2.1 = some (tyX11 k) := by decide +kernel
def RX12 : String := "SpanCopier"
def TX12 : u_T := fun k => match k with
  | 0 => ("SpanCopier", "tape", "LSpanCopier$Tape;", true)
  | 1 => ("SpanCopier", "lines", "LSpanCopier$Book;", true)
  | 2 => ("SpanCopier", "world", "LSpanCopier$World;", true)
  | 3 => ("SpanCopier", "images", "[LSpanCopier$World;", true)
  | 4 => ("SpanCopier", "kept", "[LSpanCopier$World;", true)
  | 5 => ("SpanCopier", "ends", "[I", true)
  | 6 => ("SpanCopier", "judged", "[I", true)
  | 7 => ("SpanCopier", "looked", "LSpanCopier$World;", false)
  | 8 => ("SpanCopier", "spare", "LSpanCopier$World;", false)
  | 9 => ("SpanCopier", "oldest", "I", false)
  | 10 => ("SpanCopier", "undoable", "I", false)
  | _ => ("SpanCopier", "faultKind", "I", false)
def tyX12 : Nat → FieldType := fun k => match k with
  | 0 => .object "SpanCopier$Tape"
  | 1 => .object "SpanCopier$Book"
  | 2 => .object "SpanCopier$World"
  | 3 => .array (.object "SpanCopier$World")
  | 4 => .array (.object "SpanCopier$World")
  | 5 => .array .int
  | 6 => .array .int
  | 7 => .object "SpanCopier$World"
  | 8 => .object "SpanCopier$World"
  | 9 => .int
  | 10 => .int
  | _ => .int
theorem nmX12 : ∀ a, a < 12 → ∀ b, b < 12 → a ≠ b → (TX12 a).2.1 ≠ (TX12 b).2.1 := by decide +kernel
theorem tyX12_ok : ∀ k, k < 12 → parseFieldDescriptor (TX12 k).2.2.1 = some (tyX12 k) := by decide +kernel
def RX13 : String := "SpanCopierModel"
def TX13 : u_T := fun k => match k with
  | 0 => ("SpanCopierModel", "thrown", "I", false)
  | 1 => ("SpanCopierModel", "tape", "[I", true)
  | 2 => ("SpanCopierModel", "taped", "I", false)
  | 3 => ("SpanCopierModel", "size", "I", false)
  | 4 => ("SpanCopierModel", "limit", "I", false)
  | 5 => ("SpanCopierModel", "to", "I", false)
  | 6 => ("SpanCopierModel", "from", "I", false)
  | 7 => ("SpanCopierModel", "kind", "I", false)
  | 8 => ("SpanCopierModel", "number", "I", false)
  | 9 => ("SpanCopierModel", "sign", "I", false)
  | 10 => ("SpanCopierModel", "fault", "I", false)
  | 11 => ("SpanCopierModel", "place", "I", false)
  | 12 => ("SpanCopierModel", "word", "J", false)
  | 13 => ("SpanCopierModel", "told", "I", false)
  | 14 => ("SpanCopierModel", "now", "[I", true)
  | 15 => ("SpanCopierModel", "read", "[I", true)
  | 16 => ("SpanCopierModel", "kept", "[I", true)
  | 17 => ("SpanCopierModel", "snaps", "[I", true)
  | 18 => ("SpanCopierModel", "aside", "[I", true)
  | 19 => ("SpanCopierModel", "then", "[I", true)
  | 20 => ("SpanCopierModel", "name", "[J", true)
  | 21 => ("SpanCopierModel", "readName", "[J", true)
  | 22 => ("SpanCopierModel", "keptName", "[J", true)
  | 23 => ("SpanCopierModel", "isKept", "[Z", true)
  | 24 => ("SpanCopierModel", "once", "[Z", true)
  | 25 => ("SpanCopierModel", "snapMany", "I", false)
  | 26 => ("SpanCopierModel", "came", "[I", true)
  | 27 => ("SpanCopierModel", "overAs", "[I", true)
  | 28 => ("SpanCopierModel", "hasOver", "Z", false)
  | 29 => ("SpanCopierModel", "seed", "I", false)
  | 30 => ("SpanCopierModel", "line", "[I", true)
  | 31 => ("SpanCopierModel", "written", "[I", true)
  | 32 => ("SpanCopierModel", "lineMany", "I", false)
  | 33 => ("SpanCopierModel", "hasWritten", "Z", false)
  | 34 => ("SpanCopierModel", "node", "[I", true)
  | 35 => ("SpanCopierModel", "nodes", "I", false)
  | 36 => ("SpanCopierModel", "onesMany", "I", false)
  | 37 => ("SpanCopierModel", "within", "I", false)
  | _ => ("SpanCopierModel", "top", "I", false)
def tyX13 : Nat → FieldType := fun k => match k with
  | 0 => .int
  | 1 => .array .int
  | 2 => .int
  | 3 => .int
  | 4 => .int
  | 5 => .int
  | 6 => .int
  | 7 => .int
  | 8 => .int
  | 9 => .int
  | 10 => .int
  | 11 => .int
  | 12 => .long
  | 13 => .int
  | 14 => .array .int
  | 15 => .array .int
  | 16 => .array .int
  | 17 => .array .int
  | 18 => .array .int
  | 19 => .array .int
  | 20 => .array .long
  | 21 => .array .long
  | 22 => .array .long
  | 23 => .array .boolean
  | 24 => .array .boolean
  | 25 => .int
  | 26 => .array .int
  | 27 => .array .int
  | 28 => .boolean
  | 29 => .int
  | 30 => .array .int
  | 31 => .array .int
  | 32 => .int
  | 33 => .boolean
  | 34 => .array .int
  | 35 => .int
  | 36 => .int
  | 37 => .int
  | _ => .int
theorem nmX13 : ∀ a, a < 39 → ∀ b, b < 39 → a ≠ b → (TX13 a).2.1 ≠ (TX13 b).2.1 := by decide +kernel
theorem tyX13_ok : ∀ k, k < 39 → parseFieldDescriptor (TX13 k).2.2.1 = some (tyX13 k) := by decide +kernel
abbrev vwCl : List vw_C := [(RX1, TX1, 4), (RX2, TX2, 5), (RX3, TX3, 11), (RX4, TX4, 2), (RX5, TX5, 6), (RX6, TX6, 5), (RX7, TX7, 5), (RX8, TX8, 9), (RX9, TX9, 11), (RX11, TX11, 11), (RX12, TX12, 12), (RX13, TX13, 39)]
/-- the words that calls hand on -/
def bW : List Cond := lw_tbl.filter goodWord
theorem bW_of {w : Cond} (h : w ∈ lw_tbl) (hg : goodWord w = true) : w ∈ bW := List.mem_filter.mpr ⟨h, hg⟩
theorem b_in0 : ∀ w ∈ u_ws RX1 TX1 4, w ∈ lw_tbl ∧ goodWord w = true := by decide +kernel
theorem b_mk0 : Cond.instantiable RX1 4 ∈ lw_tbl ∧ Cond.initialized RX1 ∈ lw_tbl := by decide +kernel
theorem b_in1 : ∀ w ∈ u_ws RX2 TX2 5, w ∈ lw_tbl ∧ goodWord w = true := by decide +kernel
theorem b_mk1 : Cond.instantiable RX2 5 ∈ lw_tbl ∧ Cond.initialized RX2 ∈ lw_tbl := by decide +kernel
theorem b_in2 : ∀ w ∈ u_ws RX3 TX3 11, w ∈ lw_tbl ∧ goodWord w = true := by decide +kernel
theorem b_mk2 : Cond.instantiable RX3 11 ∈ lw_tbl ∧ Cond.initialized RX3 ∈ lw_tbl := by decide +kernel
theorem b_in3 : ∀ w ∈ u_ws RX4 TX4 2, w ∈ lw_tbl ∧ goodWord w = true := by decide +kernel
theorem b_mk3 : Cond.instantiable RX4 2 ∈ lw_tbl ∧ Cond.initialized RX4 ∈ lw_tbl := by decide +kernel
theorem b_in4 : ∀ w ∈ u_ws RX5 TX5 6, w ∈ lw_tbl ∧ goodWord w = true := by decide +kernel
theorem b_mk4 : Cond.instantiable RX5 6 ∈ lw_tbl ∧ Cond.initialized RX5 ∈ lw_tbl := by decide +kernel
theorem b_in5 : ∀ w ∈ u_ws RX6 TX6 5, w ∈ lw_tbl ∧ goodWord w = true := by decide +kernel
theorem b_mk5 : Cond.instantiable RX6 5 ∈ lw_tbl ∧ Cond.initialized RX6 ∈ lw_tbl := by decide +kernel
theorem b_in6 : ∀ w ∈ u_ws RX7 TX7 5, w ∈ lw_tbl ∧ goodWord w = true := by decide +kernel
theorem b_mk6 : Cond.instantiable RX7 5 ∈ lw_tbl ∧ Cond.initialized RX7 ∈ lw_tbl := by decide +kernel
theorem b_in7 : ∀ w ∈ u_ws RX8 TX8 9, w ∈ lw_tbl ∧ goodWord w = true := by decide +kernel
theorem b_mk7 : Cond.instantiable RX8 9 ∈ lw_tbl ∧ Cond.initialized RX8 ∈ lw_tbl := by decide +kernel
theorem b_in8 : ∀ w ∈ u_ws RX9 TX9 11, w ∈ lw_tbl ∧ goodWord w = true := by decide +kernel
theorem b_mk8 : Cond.instantiable RX9 11 ∈ lw_tbl ∧ Cond.initialized RX9 ∈ lw_tbl := by decide +kernel
theorem b_in9 : ∀ w ∈ u_ws RX11 TX11 11, w ∈ lw_tbl ∧ goodWord w = true := by decide +kernel
theorem b_mk9 : Cond.instantiable RX11 11 ∈ lw_tbl ∧ Cond.initialized RX11 ∈ lw_tbl := by decide +kernel
theorem b_in10 : ∀ w ∈ u_ws RX12 TX12 12, w ∈ lw_tbl ∧ goodWord w = true := by decide +kernel
theorem b_mk10 : Cond.instantiable RX12 12 ∈ lw_tbl ∧ Cond.initialized RX12 ∈ lw_tbl := by decide +kernel
theorem b_in11 : ∀ w ∈ u_ws RX13 TX13 39, w ∈ lw_tbl ∧ goodWord w = true := by decide +kernel
theorem b_mk11 : Cond.instantiable RX13 39 ∈ lw_tbl ∧ Cond.initialized RX13 ∈ lw_tbl := by decide +kernel
/-- what the tables say of a class of the list -/
def bcl (q : vw_C) : Prop := (∀ w ∈ u_ws q.1 q.2.1 q.2.2, w ∈ bW) ∧ (∃ ty0 : Nat → FieldType, ∀ k, k < q.2.2 → parseFieldDescriptor (q.2.1 k).2.2.1 = some (ty0 k)) ∧ (∀ a, a < q.2.2 → ∀ b, b < q.2.2 → a ≠ b → (q.2.1 a).2.1 ≠ (q.2.1 b).2.1) ∧ Cond.instantiable q.1 q.2.2 ∈ bW ∧ Cond.initialized q.1 ∈ bW
theorem bcls : ∀ q ∈ vwCl, bcl q := by
  intro q hq
  simp only [vwCl, List.mem_cons, List.not_mem_nil, or_false] at hq
  rcases hq with rfl | rfl | rfl | rfl | rfl | rfl | rfl | rfl | rfl | rfl | rfl | rfl
  · exact ⟨fun w h => bW_of (b_in0 w h).1 (b_in0 w h).2, ⟨tyX1, tyX1_ok⟩, nmX1, bW_of b_mk0.1 rfl, bW_of b_mk0.2 rfl⟩
  · exact ⟨fun w h => bW_of (b_in1 w h).1 (b_in1 w h).2, ⟨tyX2, tyX2_ok⟩, nmX2, bW_of b_mk1.1 rfl, bW_of b_mk1.2 rfl⟩
  · exact ⟨fun w h => bW_of (b_in2 w h).1 (b_in2 w h).2, ⟨tyX3, tyX3_ok⟩, nmX3, bW_of b_mk2.1 rfl, bW_of b_mk2.2 rfl⟩
  · exact ⟨fun w h => bW_of (b_in3 w h).1 (b_in3 w h).2, ⟨tyX4, tyX4_ok⟩, nmX4, bW_of b_mk3.1 rfl, bW_of b_mk3.2 rfl⟩
  · exact ⟨fun w h => bW_of (b_in4 w h).1 (b_in4 w h).2, ⟨tyX5, tyX5_ok⟩, nmX5, bW_of b_mk4.1 rfl, bW_of b_mk4.2 rfl⟩
  · exact ⟨fun w h => bW_of (b_in5 w h).1 (b_in5 w h).2, ⟨tyX6, tyX6_ok⟩, nmX6, bW_of b_mk5.1 rfl, bW_of b_mk5.2 rfl⟩
  · exact ⟨fun w h => bW_of (b_in6 w h).1 (b_in6 w h).2, ⟨tyX7, tyX7_ok⟩, nmX7, bW_of b_mk6.1 rfl, bW_of b_mk6.2 rfl⟩
  · exact ⟨fun w h => bW_of (b_in7 w h).1 (b_in7 w h).2, ⟨tyX8, tyX8_ok⟩, nmX8, bW_of b_mk7.1 rfl, bW_of b_mk7.2 rfl⟩
  · exact ⟨fun w h => bW_of (b_in8 w h).1 (b_in8 w h).2, ⟨tyX9, tyX9_ok⟩, nmX9, bW_of b_mk8.1 rfl, bW_of b_mk8.2 rfl⟩
  · exact ⟨fun w h => bW_of (b_in9 w h).1 (b_in9 w h).2, ⟨tyX11, tyX11_ok⟩, nmX11, bW_of b_mk9.1 rfl, bW_of b_mk9.2 rfl⟩
  · exact ⟨fun w h => bW_of (b_in10 w h).1 (b_in10 w h).2, ⟨tyX12, tyX12_ok⟩, nmX12, bW_of b_mk10.1 rfl, bW_of b_mk10.2 rfl⟩
  · exact ⟨fun w h => bW_of (b_in11 w h).1 (b_in11 w h).2, ⟨tyX13, tyX13_ok⟩, nmX13, bW_of b_mk11.1 rfl, bW_of b_mk11.2 rfl⟩
def b_sw : List Nat := [0, 1, 2, 10, 11, 12, 3, 4, 5, 6, 7, 8, 9, 27, 28, 0, 0, 29, 30, 31, 32, 33, 34, 35, 25, 26, 24, 13, 14, 15, 16, 17, 18, 19, 20, 21, 22, 23]
/-- constant things: class, name, descriptor -/
def b_sts : List (String × String × String) := [("SpanCopier$Word", "OTHER", "LSpanCopier$Word;"), ("SpanCopier$Word", "CHUNK", "LSpanCopier$Word;"), ("SpanCopier$Word", "POLICY", "LSpanCopier$Word;"), ("SpanCopier$Word", "NOW", "LSpanCopier$Word;"), ("SpanCopier$Word", "END", "LSpanCopier$Word;"), ("SpanCopier$Word", "ASKED", "LSpanCopier$Word;"), ("SpanCopier$Word", "DELAY", "LSpanCopier$Word;"), ("SpanCopier$Word", "WAIT", "LSpanCopier$Word;"), ("SpanCopier$Word", "TRIES", "LSpanCopier$Word;"), ("SpanCopier$Word", "SAVE", "LSpanCopier$Word;"), ("SpanCopier$Word", "TO", "LSpanCopier$Word;"), ("SpanCopier$Word", "HAS", "LSpanCopier$Word;"), ("SpanCopier$Word", "ACT", "LSpanCopier$Word;"), ("SpanCopier$Word", "MAKE", "LSpanCopier$Word;"), ("SpanCopier$Word", "DROP", "LSpanCopier$Word;"), ("SpanCopier$Word", "MOVE", "LSpanCopier$Word;"), ("SpanCopier$Word", "COPY", "LSpanCopier$Word;"), ("SpanCopier$Word", "LOSE", "LSpanCopier$Word;"), ("SpanCopier$Word", "TWICE", "LSpanCopier$Word;"), ("SpanCopier$Word", "LATE", "LSpanCopier$Word;"), ("SpanCopier$Word", "SPOIL", "LSpanCopier$Word;"), ("SpanCopier$Word", "PROMPT", "LSpanCopier$Word;"), ("SpanCopier$Word", "CRASH", "LSpanCopier$Word;"), ("SpanCopier$Word", "TICK", "LSpanCopier$Word;"), ("SpanCopier$Word", "OR", "LSpanCopier$Word;"), ("SpanCopier$Word", "AND", "LSpanCopier$Word;"), ("SpanCopier$Word", "NOT", "LSpanCopier$Word;"), ("SpanCopier$Word", "DATA", "LSpanCopier$Word;"), ("SpanCopier$Word", "EOF", "LSpanCopier$Word;"), ("SpanCopier$Word", "NAK", "LSpanCopier$Word;"), ("SpanCopier$Word", "ACK", "LSpanCopier$Word;"), ("SpanCopier$Word", "FIN", "LSpanCopier$Word;"), ("SpanCopier$Word", "OUT", "LSpanCopier$Word;"), ("SpanCopier$Word", "SPOILT", "LSpanCopier$Word;"), ("SpanCopier$Word", "FROM", "LSpanCopier$Word;"), ("SpanCopier$Word", "MANY", "LSpanCopier$Word;"), ("SpanCopier$Word", "TICKS", "LSpanCopier$Word;"), ("SpanCopier$Word", "NUMBER", "LSpanCopier$Word;"), ("", "", ""), ("", "", ""), ("SpanCopier$Order", "WITHOUT", "[I"), ("SpanCopier$Order", "HIGHEST", "[I"), ("SpanCopier$World", "NO_FILE", "[B"), ("SpanCopier$1", "$SwitchMap$SpanCopier$Word", "[I")]
def b_nm : List String := ["OTHER", "CHUNK", "POLICY", "NOW", "END", "ASKED", "DELAY", "WAIT", "TRIES", "SAVE", "TO", "HAS", "ACT", "MAKE", "DROP", "MOVE", "COPY", "LOSE", "TWICE", "LATE", "SPOIL", "PROMPT", "CRASH", "TICK", "OR", "AND", "NOT", "DATA", "EOF", "NAK", "ACK", "FIN", "OUT", "SPOILT", "FROM", "MANY", "TICKS", "NUMBER"]
