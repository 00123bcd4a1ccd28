def jj_T : List Cond := lw_tbl.filter goodWord
theorem jj_T_good : ∀ w ∈ jj_T, goodWord w = true := fun w hw => (List.mem_filter.mp hw).2
theorem jw {w : Cond} (i : Nat) (h : lw_tbl[i]? = some w) (hg : goodWord w = true) : w ∈ jj_T := List.mem_filter.mpr ⟨List.mem_of_getElem? h, hg⟩
def T_ST : u_T := fun k => match k with
  | 0 => ("SourceTree", "characters", "LSourceTree$IntRow;", true)
  | 1 => ("SourceTree", "spellings", "LSourceTree$Spellings;", true)
  | 2 => ("SourceTree", "tree", "LSourceTree$Table;", true)
  | 3 => ("SourceTree", "scanner", "LSourceTree$Scanner;", true)
  | 4 => ("SourceTree", "grammar", "LSourceTree$Grammar;", true)
  | _ => ("SourceTree", "faultPlace", "I", false)
def t_ST : Nat → FieldType := fun k => match k with
  | 0 => .object "SourceTree$IntRow"
  | 1 => .object "SourceTree$Spellings"
  | 2 => .object "SourceTree$Table"
  | 3 => .object "SourceTree$Scanner"
  | 4 => .object "SourceTree$Grammar"
  | _ => .int
def T_IR : u_T := fun k => match k with
  | 0 => ("SourceTree$IntRow", "cells", "[I", false)
  | _ => ("SourceTree$IntRow", "size", "I", false)
def t_IR : Nat → FieldType := fun k => match k with
  | 0 => .array .int
  | _ => .int
def T_TB : u_T := fun k => match k with
  | 0 => ("SourceTree$Table", "cells", "[I", false)
  | _ => ("SourceTree$Table", "size", "I", false)
def t_TB : Nat → FieldType := fun k => match k with
  | 0 => .array .int
  | _ => .int
def T_SP : u_T := fun k => match k with
  | 0 => ("SourceTree$Spellings", "letters", "LSourceTree$IntRow;", true)
  | 1 => ("SourceTree$Spellings", "starts", "LSourceTree$IntRow;", true)
  | 2 => ("SourceTree$Spellings", "newest", "LSourceTree$IntRow;", true)
  | 3 => ("SourceTree$Spellings", "before", "LSourceTree$IntRow;", true)
  | _ => ("SourceTree$Spellings", "mixed", "I", false)
def t_SP : Nat → FieldType := fun k => match k with
  | 0 => .object "SourceTree$IntRow"
  | 1 => .object "SourceTree$IntRow"
  | 2 => .object "SourceTree$IntRow"
  | 3 => .object "SourceTree$IntRow"
  | _ => .int
def T_SC : u_T := fun k => match k with
  | 0 => ("SourceTree$Scanner", "characters", "LSourceTree$IntRow;", true)
  | 1 => ("SourceTree$Scanner", "spellings", "LSourceTree$Spellings;", true)
  | 2 => ("SourceTree$Scanner", "tokens", "LSourceTree$Table;", true)
  | _ => ("SourceTree$Scanner", "behindName", "I", false)
def t_SC : Nat → FieldType := fun k => match k with
  | 0 => .object "SourceTree$IntRow"
  | 1 => .object "SourceTree$Spellings"
  | 2 => .object "SourceTree$Table"
  | _ => .int
def T_GR : u_T := fun k => match k with
  | 0 => ("SourceTree$Grammar", "characters", "LSourceTree$IntRow;", true)
  | 1 => ("SourceTree$Grammar", "declared", "LSourceTree$IntRow;", true)
  | 2 => ("SourceTree$Grammar", "pending", "LSourceTree$IntRow;", true)
  | 3 => ("SourceTree$Cursor", "kind", "I", false)
  | 4 => ("SourceTree$Cursor", "value", "I", false)
  | 5 => ("SourceTree$Cursor", "place", "I", false)
  | 6 => ("SourceTree$Cursor", "fault", "I", false)
  | 7 => ("SourceTree$Cursor", "faultPlace", "I", false)
  | 8 => ("SourceTree$Cursor", "tokens", "LSourceTree$Table;", true)
  | 9 => ("SourceTree$Cursor", "tree", "LSourceTree$Table;", true)
  | 10 => ("SourceTree$Cursor", "next", "I", false)
  | _ => ("SourceTree$Cursor", "open", "I", false)
def t_GR : Nat → FieldType := fun k => match k with
  | 0 => .object "SourceTree$IntRow"
  | 1 => .object "SourceTree$IntRow"
  | 2 => .object "SourceTree$IntRow"
  | 3 => .int
  | 4 => .int
  | 5 => .int
  | 6 => .int
  | 7 => .int
  | 8 => .object "SourceTree$Table"
  | 9 => .object "SourceTree$Table"
  | 10 => .int
  | _ => .int
def T_MO : u_T := fun k => match k with
  | 0 => ("SourceTreeModel", "thrown", "I", false)
  | 1 => ("SourceTreeModel", "text", "[B", true)
  | 2 => ("SourceTreeModel", "length", "I", false)
  | 3 => ("SourceTreeModel", "wrong", "I", false)
  | 4 => ("SourceTreeModel", "where", "I", false)
  | 5 => ("SourceTreeModel", "kinds", "[I", true)
  | 6 => ("SourceTreeModel", "values", "[I", true)
  | 7 => ("SourceTreeModel", "places", "[I", true)
  | 8 => ("SourceTreeModel", "tokens", "I", false)
  | 9 => ("SourceTreeModel", "letters", "[B", true)
  | 10 => ("SourceTreeModel", "begins", "[I", true)
  | 11 => ("SourceTreeModel", "names", "I", false)
  | 12 => ("SourceTreeModel", "nodeKinds", "[I", true)
  | 13 => ("SourceTreeModel", "nodeValues", "[I", true)
  | 14 => ("SourceTreeModel", "nodeCounts", "[I", true)
  | 15 => ("SourceTreeModel", "size", "I", false)
  | 16 => ("SourceTreeModel", "now", "I", false)
  | 17 => ("SourceTreeModel", "open", "I", false)
  | 18 => ("SourceTreeModel", "group", "[I", true)
  | _ => ("SourceTreeModel", "groupSize", "I", false)
def t_MO : Nat → FieldType := fun k => match k with
  | 0 => .int
  | 1 => .array .byte
  | 2 => .int
  | 3 => .int
  | 4 => .int
  | 5 => .array .int
  | 6 => .array .int
  | 7 => .array .int
  | 8 => .int
  | 9 => .array .byte
  | 10 => .array .int
  | 11 => .int
  | 12 => .array .int
  | 13 => .array .int
  | 14 => .array .int
  | 15 => .int
  | 16 => .int
  | 17 => .int
  | 18 => .array .int
  | _ => .int
abbrev vwCl : List vw_C := [("SourceTree", T_ST, 6), ("SourceTree$IntRow", T_IR, 2), ("SourceTree$Table", T_TB, 2), ("SourceTree$Spellings", T_SP, 5), ("SourceTree$Scanner", T_SC, 4), ("SourceTree$Grammar", T_GR, 12), ("SourceTreeModel", T_MO, 20)]
def jj_nm : List (String × Nat × MethodName × String) := [("SourceTree$Scanner", 57, ⟨"SourceTree", "isLetter", "(I)Z"⟩, "SourceTree"), ("SourceTree$Scanner", 64, ⟨"SourceTree", "isDigit", "(I)Z"⟩, "SourceTree"), ("SourceTree$Scanner", 82, ⟨"SourceTree", "small", "(I)I"⟩, "SourceTree"), ("SourceTree$Scanner", 73, ⟨"SourceTree", "signOf", "(I)I"⟩, "SourceTree"), ("SourceTree", 82, ⟨"SourceTree$Grammar", "one", "(I)I"⟩, "SourceTree"), ("SourceTree$Grammar", 250, ⟨"SourceTree", "signOf", "(I)I"⟩, "SourceTree")]
def jj_hwk : Cond → Bool
  | .declares _ => true
  | .stringRef .. => true
  | .castable .. => true
  | .laysStatic .. => true
  | _ => false
def jj_hw : List Cond := lw_tbl.filter jj_hwk ++ [.isRef (.static Bundle.tN "UNASSIGNED_STACK" Bundle.steD), .isRef (.static Bundle.tN "SUPPRESSED_SENTINEL" Bundle.listD)]
theorem jhw {w : Cond} (i : Nat) (h : lw_tbl[i]? = some w) (hg : jj_hwk w = true) : w ∈ jj_hw := List.mem_append_left _ (List.mem_filter.mpr ⟨List.mem_of_getElem? h, hg⟩)
def jj_nS : Nat := 72
def jj_lS : List Nat := [94, 98, 115, 135, 9, 15, 21, 26, 35, 21, 45, 21, 307, 9, 10, 4, 2, 7, 2, 3, 5, 5, 3, 3, 2, 6, 3, 3, 3, 3, 3, 2, 4, 3, 3, 4, 4, 3, 4, 2, 8, 8, 6, 4, 7, 5, 7, 9, 6, 8, 5, 2, 4, 5, 4, 4, 4, 6, 3, 5, 4, 4, 4, 4, 2, 5, 4, 6, 6, 3, 4, 8]
def jj_bS : List (List Int32) := [[97, 98, 115, 32, 97, 102, 116, 101, 114, 32, 97, 110, 100, 32, 97, 115, 115, 101, 114, 116, 32, 98, 101, 103, 105, 110, 32, 98, 111, 100, 121, 32, 99, 97, 115, 101, 32, 99, 111, 110, 115, 116, 97, 110, 116, 32, 100, 111, 119, 110, 116, 111, 32, 101, 108, 115, 101, 32, 101, 108, 115, 105, 102, 32, 101, 110, 100, 32, 101, 120, 105, 116, 32, 102, 111, 114, 32, 103, 101, 110, 101, 114, 97, 116, 101, 32, 103, 101, 110, 101, 114, 105, 99, 32], [105, 102, 32, 105, 110, 32, 105, 110, 101, 114, 116, 105, 97, 108, 32, 105, 110, 111, 117, 116, 32, 105, 115, 32, 108, 111, 111, 112, 32, 109, 97, 112, 32, 109, 111, 100, 32, 110, 97, 110, 100, 32, 110, 101, 120, 116, 32, 110, 111, 114, 32, 110, 111, 116, 32, 110, 117, 108, 108, 32, 111, 102, 32, 111, 110, 32, 111, 112, 101, 110, 32, 111, 114, 32, 111, 116, 104, 101, 114, 115, 32, 111, 117, 116, 32, 112, 111, 114, 116, 32, 112, 114, 111, 99, 101, 115, 115, 32], [114, 97, 110, 103, 101, 32, 114, 101, 106, 101, 99, 116, 32, 114, 101, 109, 32, 114, 101, 112, 111, 114, 116, 32, 115, 105, 103, 110, 97, 108, 32, 115, 108, 108, 32, 115, 114, 108, 32, 115, 117, 98, 116, 121, 112, 101, 32, 116, 104, 101, 110, 32, 116, 111, 32, 116, 114, 97, 110, 115, 112, 111, 114, 116, 32, 116, 121, 112, 101, 32, 117, 110, 105, 116, 32, 117, 110, 116, 105, 108, 32, 118, 97, 114, 105, 97, 98, 108, 101, 32, 119, 97, 105, 116, 32, 119, 104, 101, 110, 32, 119, 104, 105, 108, 101, 32, 120, 110, 111, 114, 32, 120, 111, 114, 32], [105, 110, 116, 101, 103, 101, 114, 32, 110, 97, 116, 117, 114, 97, 108, 32, 112, 111, 115, 105, 116, 105, 118, 101, 32, 98, 111, 111, 108, 101, 97, 110, 32, 108, 111, 103, 105, 99, 32, 114, 111, 119, 32, 116, 114, 117, 101, 32, 102, 97, 108, 115, 101, 32, 114, 105, 115, 105, 110, 103, 32, 102, 97, 108, 108, 105, 110, 103, 32, 110, 117, 109, 98, 101, 114, 32, 98, 105, 116, 115, 32, 112, 115, 32, 110, 115, 32, 117, 115, 32, 101, 118, 101, 110, 116, 32, 97, 99, 116, 105, 118, 101, 32, 108, 97, 115, 116, 32, 108, 101, 110, 103, 116, 104, 32, 108, 101, 102, 116, 32, 114, 105, 103, 104, 116, 32, 104, 105, 103, 104, 32, 108, 111, 119, 32], [117, 120, 48, 49, 122, 119, 108, 104, 45], [40, 41, 44, 59, 58, 61, 60, 62, 43, 45, 42, 47, 38, 39, 124], [97, 32, 102, 97, 117, 108, 116, 32, 111, 102, 32, 116, 104, 101, 32, 115, 111, 117, 114, 99, 101], [116, 104, 101, 32, 116, 101, 120, 116, 32, 119, 111, 117, 108, 100, 32, 98, 101, 32, 116, 111, 111, 32, 108, 111, 110, 103], [116, 104, 101, 32, 116, 101, 120, 116, 32, 104, 97, 115, 32, 110, 111, 116, 32, 115, 111, 32, 109, 97, 110, 121, 32, 99, 104, 97, 114, 97, 99, 116, 101, 114, 115], [116, 104, 101, 114, 101, 32, 105, 115, 32, 110, 111, 32, 115, 117, 99, 104, 32, 110, 111, 100, 101], [97, 32, 110, 111, 100, 101, 32, 104, 97, 115, 32, 97, 32, 107, 105, 110, 100, 44, 32, 97, 32, 118, 97, 108, 117, 101, 32, 97, 110, 100, 32, 99, 104, 105, 108, 100, 114, 101, 110, 32, 97, 108, 111, 110, 101], [116, 104, 101, 114, 101, 32, 105, 115, 32, 110, 111, 32, 115, 117, 99, 104, 32, 110, 97, 109, 101], [97, 98, 115, 32, 97, 102, 116, 101, 114, 32, 97, 110, 100, 32, 97, 115, 115, 101, 114, 116, 32, 98, 101, 103, 105, 110, 32, 98, 111, 100, 121, 32, 99, 97, 115, 101, 32, 99, 111, 110, 115, 116, 97, 110, 116, 32, 100, 111, 119, 110, 116, 111, 32, 101, 108, 115, 101, 32, 101, 108, 115, 105, 102, 32, 101, 110, 100, 32, 101, 120, 105, 116, 32, 102, 111, 114, 32, 103, 101, 110, 101, 114, 97, 116, 101, 32, 103, 101, 110, 101, 114, 105, 99, 32, 105, 102, 32, 105, 110, 32, 105, 110, 101, 114, 116, 105, 97, 108, 32, 105, 110, 111, 117, 116, 32, 105, 115, 32, 108, 111, 111, 112, 32, 109, 97, 112, 32, 109, 111, 100, 32, 110, 97, 110, 100, 32, 110, 101, 120, 116, 32, 110, 111, 114, 32, 110, 111, 116, 32, 110, 117, 108, 108, 32, 111, 102, 32, 111, 110, 32, 111, 112, 101, 110, 32, 111, 114, 32, 111, 116, 104, 101, 114, 115, 32, 111, 117, 116, 32, 112, 111, 114, 116, 32, 112, 114, 111, 99, 101, 115, 115, 32, 114, 97, 110, 103, 101, 32, 114, 101, 106, 101, 99, 116, 32, 114, 101, 109, 32, 114, 101, 112, 111, 114, 116, 32, 115, 105, 103, 110, 97, 108, 32, 115, 108, 108, 32, 115, 114, 108, 32, 115, 117, 98, 116, 121, 112, 101, 32, 116, 104, 101, 110, 32, 116, 111, 32, 116, 114, 97, 110, 115, 112, 111, 114, 116, 32, 116, 121, 112, 101, 32, 117, 110, 105, 116, 32, 117, 110, 116, 105, 108, 32, 118, 97, 114, 105, 97, 98, 108, 101, 32, 119, 97, 105, 116, 32, 119, 104, 101, 110, 32, 119, 104, 105, 108, 101, 32, 120, 110, 111, 114, 32, 120, 111, 114, 32], [85, 88, 48, 49, 90, 87, 76, 72, 45], [40, 41, 44, 59, 43, 45, 42, 38, 39, 124], [117, 110, 105, 116], [105, 115], [103, 101, 110, 101, 114, 105, 99], [105, 110], [111, 117, 116], [105, 110, 111, 117, 116], [114, 97, 110, 103, 101], [110, 111, 116], [97, 98, 115], [116, 111], [100, 111, 119, 110, 116, 111], [109, 111, 100], [114, 101, 109], [115, 108, 108], [115, 114, 108], [97, 110, 100], [111, 114], [110, 97, 110, 100], [110, 111, 114], [120, 111, 114], [120, 110, 111, 114], [112, 111, 114, 116], [101, 110, 100], [98, 111, 100, 121], [111, 102], [99, 111, 110, 115, 116, 97, 110, 116], [118, 97, 114, 105, 97, 98, 108, 101], [115, 105, 103, 110, 97, 108], [116, 121, 112, 101], [115, 117, 98, 116, 121, 112, 101], [98, 101, 103, 105, 110], [112, 114, 111, 99, 101, 115, 115], [116, 114, 97, 110, 115, 112, 111, 114, 116], [114, 101, 106, 101, 99, 116], [105, 110, 101, 114, 116, 105, 97, 108], [97, 102, 116, 101, 114], [105, 102], [116, 104, 101, 110], [101, 108, 115, 105, 102], [101, 108, 115, 101], [99, 97, 115, 101], [119, 104, 101, 110], [111, 116, 104, 101, 114, 115], [102, 111, 114], [119, 104, 105, 108, 101], [108, 111, 111, 112], [101, 120, 105, 116], [110, 101, 120, 116], [119, 97, 105, 116], [111, 110], [117, 110, 116, 105, 108], [110, 117, 108, 108], [114, 101, 112, 111, 114, 116], [97, 115, 115, 101, 114, 116], [109, 97, 112], [111, 112, 101, 110], [103, 101, 110, 101, 114, 97, 116, 101]]
def jj_str : List (String × Nat × String × Nat) := [("SourceTree$Spellings", 46, "abs after and assert begin body case constant downto else elsif end exit for generate generic ", 0), ("SourceTree$Spellings", 52, "if in inertial inout is loop map mod nand next nor not null of on open or others out port process ", 1), ("SourceTree$Spellings", 54, "range reject rem report signal sll srl subtype then to transport type unit until variable wait when while xnor xor ", 2), ("SourceTree$Spellings", 56, "integer natural positive boolean logic row true false rising falling number bits ps ns us event active last length left right high low ", 3), ("SourceTree", 114, "ux01zwlh-", 4), ("SourceTree$Scanner", 111, "(),;:=<>+-*/&'|", 5), ("SourceTree$Cursor", 66, "a fault of the source", 6), ("SourceTree", 60, "the text would be too long", 7), ("SourceTree", 70, "the text has not so many characters", 8), ("SourceTree", 96, "there is no such node", 9), ("SourceTree", 99, "a node has a kind, a value and children alone", 10), ("SourceTree", 106, "there is no such name", 11), ("SourceTreeModel", 57, "integer natural positive boolean logic row true false rising falling number bits ps ns us event active last length left right high low ", 3), ("SourceTreeModel", 68, "abs after and assert begin body case constant downto else elsif end exit for generate generic if in inertial inout is loop map mod nand next nor not null of on open or others out port process range reject rem report signal sll srl subtype then to transport type unit until variable wait when while xnor xor ", 12), ("SourceTreeModel", 74, "UX01ZWLH-", 13), ("SourceTreeModel", 118, "(),;+-*&'|", 14), ("SourceTreeModel", 178, "unit", 15), ("SourceTreeModel", 186, "is", 16), ("SourceTreeModel", 192, "generic", 17), ("SourceTreeModel", 214, "in", 18), ("SourceTreeModel", 216, "out", 19), ("SourceTreeModel", 218, "inout", 20), ("SourceTreeModel", 233, "range", 21), ("SourceTreeModel", 436, "not", 22), ("SourceTreeModel", 438, "abs", 23), ("SourceTreeModel", 235, "to", 24), ("SourceTreeModel", 237, "downto", 25), ("SourceTreeModel", 432, "mod", 26), ("SourceTreeModel", 434, "rem", 27), ("SourceTreeModel", 416, "sll", 28), ("SourceTreeModel", 418, "srl", 29), ("SourceTreeModel", 398, "and", 30), ("SourceTreeModel", 400, "or", 31), ("SourceTreeModel", 402, "nand", 32), ("SourceTreeModel", 404, "nor", 33), ("SourceTreeModel", 406, "xor", 34), ("SourceTreeModel", 408, "xnor", 35), ("SourceTreeModel", 198, "port", 36), ("SourceTreeModel", 200, "end", 37), ("SourceTreeModel", 182, "body", 38), ("SourceTreeModel", 239, "of", 39), ("SourceTreeModel", 252, "constant", 40), ("SourceTreeModel", 257, "variable", 41), ("SourceTreeModel", 259, "signal", 42), ("SourceTreeModel", 261, "type", 43), ("SourceTreeModel", 265, "subtype", 44), ("SourceTreeModel", 247, "begin", 45), ("SourceTreeModel", 269, "process", 46), ("SourceTreeModel", 315, "transport", 47), ("SourceTreeModel", 317, "reject", 48), ("SourceTreeModel", 322, "inertial", 49), ("SourceTreeModel", 327, "after", 50), ("SourceTreeModel", 287, "if", 51), ("SourceTreeModel", 386, "then", 52), ("SourceTreeModel", 388, "elsif", 53), ("SourceTreeModel", 340, "else", 54), ("SourceTreeModel", 352, "case", 55), ("SourceTreeModel", 338, "when", 56), ("SourceTreeModel", 390, "others", 57), ("SourceTreeModel", 282, "for", 58), ("SourceTreeModel", 357, "while", 59), ("SourceTreeModel", 359, "loop", 60), ("SourceTreeModel", 363, "exit", 61), ("SourceTreeModel", 368, "next", 62), ("SourceTreeModel", 370, "wait", 63), ("SourceTreeModel", 392, "on", 64), ("SourceTreeModel", 393, "until", 65), ("SourceTreeModel", 375, "null", 66), ("SourceTreeModel", 380, "report", 67), ("SourceTreeModel", 384, "assert", 68), ("SourceTreeModel", 301, "map", 69), ("SourceTreeModel", 303, "open", 70), ("SourceTreeModel", 310, "generate", 71)]
def jj_sta : List (String × String × String × Value) := [("java/lang/String", "COMPACT_STRINGS", "Z", .int 1)]
def jj_ncl : List (String × String) := [("java/lang/IllegalArgumentException", "java/lang/IndexOutOfBoundsException")]
