def R_PF : String := "PageFile"
def T_PF : u_T := fun k => match k with
  | 0 => ("PageFile", "registers", "[LPageFile$Box;", true)
  | 1 => ("PageFile", "writer", "LPageFile$PageWriter;", true)
  | 2 => ("PageFile", "out", "LPageFile$Bytes;", true)
  | 3 => ("PageFile", "fonts", "LPageFile$Fonts;", true)
  | 4 => ("PageFile", "innermost", "LPageFile$OpenList;", false)
  | 5 => ("PageFile", "items", "I", false)
  | 6 => ("PageFile", "pages", "I", false)
  | 7 => ("PageFile", "lastPage", "I", false)
  | 8 => ("PageFile", "tallest", "I", false)
  | 9 => ("PageFile", "widest", "I", false)
  | 10 => ("PageFile", "deepest", "I", false)
  | _ => ("PageFile", "ended", "Z", false)
def ty_PF : Nat → FieldType := fun k => match k with
  | 0 => .array (.object "PageFile$Box")
  | 1 => .object "PageFile$PageWriter"
  | 2 => .object "PageFile$Bytes"
  | 3 => .object "PageFile$Fonts"
  | 4 => .object "PageFile$OpenList"
  | 5 => .int
  | 6 => .int
  | 7 => .int
  | 8 => .int
  | 9 => .int
  | 10 => .int
  | _ => .boolean
theorem nm_PF : ∀ a, a < 12 → ∀ b, b < 12 → a ≠ b → (T_PF a).2.1 ≠ (T_PF b).2.1 := by decide +kernel
theorem ok_PF : ∀ k, k < 12 → parseFieldDescriptor (T_PF k).2.2.1 = some (ty_PF k) := by decide +kernel
def R_Box : String := "PageFile$Box"
def T_Box : u_T := fun k => match k with
  | 0 => ("PageFile$Box", "vertical", "Z", true)
  | 1 => ("PageFile$Box", "width", "I", true)
  | 2 => ("PageFile$Box", "height", "I", true)
  | 3 => ("PageFile$Box", "depth", "I", true)
  | 4 => ("PageFile$Box", "first", "LPageFile$Item;", true)
  | 5 => ("PageFile$Box", "items", "I", true)
  | _ => ("PageFile$Box", "nested", "I", true)
def ty_Box : Nat → FieldType := fun k => match k with
  | 0 => .boolean
  | 1 => .int
  | 2 => .int
  | 3 => .int
  | 4 => .object "PageFile$Item"
  | 5 => .int
  | _ => .int
theorem nm_Box : ∀ a, a < 7 → ∀ b, b < 7 → a ≠ b → (T_Box a).2.1 ≠ (T_Box b).2.1 := by decide +kernel
theorem ok_Box : ∀ k, k < 7 → parseFieldDescriptor (T_Box k).2.2.1 = some (ty_Box k) := by decide +kernel
def R_Byt : String := "PageFile$Bytes"
def T_Byt : u_T := fun k => match k with
  | 0 => ("PageFile$Bytes", "row", "[B", false)
  | _ => ("PageFile$Bytes", "length", "I", false)
def ty_Byt : Nat → FieldType := fun k => match k with
  | 0 => .array (.byte)
  | _ => .int
theorem nm_Byt : ∀ a, a < 2 → ∀ b, b < 2 → a ≠ b → (T_Byt a).2.1 ≠ (T_Byt b).2.1 := by decide +kernel
theorem ok_Byt : ∀ k, k < 2 → parseFieldDescriptor (T_Byt k).2.2.1 = some (ty_Byt k) := by decide +kernel
def R_Fon : String := "PageFile$Fonts"
def T_Fon : u_T := fun k => match k with
  | 0 => ("PageFile$Fonts", "sizes", "[I", true)
  | 1 => ("PageFile$Fonts", "designs", "[I", true)
  | _ => ("PageFile$Fonts", "used", "I", false)
def ty_Fon : Nat → FieldType := fun k => match k with
  | 0 => .array (.int)
  | 1 => .array (.int)
  | _ => .int
theorem nm_Fon : ∀ a, a < 3 → ∀ b, b < 3 → a ≠ b → (T_Fon a).2.1 ≠ (T_Fon b).2.1 := by decide +kernel
theorem ok_Fon : ∀ k, k < 3 → parseFieldDescriptor (T_Fon k).2.2.1 = some (ty_Fon k) := by decide +kernel
def R_Fra : String := "PageFile$Frame"
def T_Fra : u_T := fun k => match k with
  | 0 => ("PageFile$Frame", "outer", "LPageFile$Frame;", true)
  | 1 => ("PageFile$Frame", "level", "I", true)
  | 2 => ("PageFile$Frame", "savedAcross", "LPageFile$Track;", true)
  | 3 => ("PageFile$Frame", "savedDown", "LPageFile$Track;", true)
  | 4 => ("PageFile$Frame", "inner", "LPageFile$Frame;", false)
  | 5 => ("PageFile$Frame", "vertical", "Z", false)
  | 6 => ("PageFile$Frame", "width", "I", false)
  | 7 => ("PageFile$Frame", "height", "I", false)
  | 8 => ("PageFile$Frame", "depth", "I", false)
  | 9 => ("PageFile$Frame", "left", "I", false)
  | 10 => ("PageFile$Frame", "base", "I", false)
  | 11 => ("PageFile$Frame", "at", "I", false)
  | _ => ("PageFile$Frame", "next", "LPageFile$Item;", false)
def ty_Fra : Nat → FieldType := fun k => match k with
  | 0 => .object "PageFile$Frame"
  | 1 => .int
  | 2 => .object "PageFile$Track"
  | 3 => .object "PageFile$Track"
  | 4 => .object "PageFile$Frame"
  | 5 => .boolean
  | 6 => .int
  | 7 => .int
  | 8 => .int
  | 9 => .int
  | 10 => .int
  | 11 => .int
  | _ => .object "PageFile$Item"
theorem nm_Fra : ∀ a, a < 13 → ∀ b, b < 13 → a ≠ b → (T_Fra a).2.1 ≠ (T_Fra b).2.1 := by decide +kernel
theorem ok_Fra : ∀ k, k < 13 → parseFieldDescriptor (T_Fra k).2.2.1 = some (ty_Fra k) := by decide +kernel
def R_Itm : String := "PageFile$Item"
def T_Itm : u_T := fun k => match k with
  | 0 => ("PageFile$Item", "kind", "I", true)
  | 1 => ("PageFile$Item", "width", "I", true)
  | 2 => ("PageFile$Item", "height", "I", true)
  | 3 => ("PageFile$Item", "depth", "I", true)
  | 4 => ("PageFile$Item", "font", "I", false)
  | 5 => ("PageFile$Item", "code", "I", false)
  | 6 => ("PageFile$Item", "running", "I", false)
  | 7 => ("PageFile$Item", "shift", "I", false)
  | 8 => ("PageFile$Item", "box", "LPageFile$Box;", false)
  | _ => ("PageFile$Item", "next", "LPageFile$Item;", false)
def ty_Itm : Nat → FieldType := fun k => match k with
  | 0 => .int
  | 1 => .int
  | 2 => .int
  | 3 => .int
  | 4 => .int
  | 5 => .int
  | 6 => .int
  | 7 => .int
  | 8 => .object "PageFile$Box"
  | _ => .object "PageFile$Item"
theorem nm_Itm : ∀ a, a < 10 → ∀ b, b < 10 → a ≠ b → (T_Itm a).2.1 ≠ (T_Itm b).2.1 := by decide +kernel
theorem ok_Itm : ∀ k, k < 10 → parseFieldDescriptor (T_Itm k).2.2.1 = some (ty_Itm k) := by decide +kernel
def R_OpL : String := "PageFile$OpenList"
def T_OpL : u_T := fun k => match k with
  | 0 => ("PageFile$OpenList", "vertical", "Z", true)
  | 1 => ("PageFile$OpenList", "outer", "LPageFile$OpenList;", true)
  | 2 => ("PageFile$OpenList", "level", "I", true)
  | 3 => ("PageFile$OpenList", "first", "LPageFile$Item;", false)
  | 4 => ("PageFile$OpenList", "last", "LPageFile$Item;", false)
  | 5 => ("PageFile$OpenList", "items", "I", false)
  | 6 => ("PageFile$OpenList", "nested", "I", false)
  | 7 => ("PageFile$OpenList", "width", "J", false)
  | 8 => ("PageFile$OpenList", "height", "J", false)
  | _ => ("PageFile$OpenList", "depth", "J", false)
def ty_OpL : Nat → FieldType := fun k => match k with
  | 0 => .boolean
  | 1 => .object "PageFile$OpenList"
  | 2 => .int
  | 3 => .object "PageFile$Item"
  | 4 => .object "PageFile$Item"
  | 5 => .int
  | 6 => .int
  | 7 => .long
  | 8 => .long
  | _ => .long
theorem nm_OpL : ∀ a, a < 10 → ∀ b, b < 10 → a ≠ b → (T_OpL a).2.1 ≠ (T_OpL b).2.1 := by decide +kernel
theorem ok_OpL : ∀ k, k < 10 → parseFieldDescriptor (T_OpL k).2.2.1 = some (ty_OpL k) := by decide +kernel
def R_PgW : String := "PageFile$PageWriter"
def T_PgW : u_T := fun k => match k with
  | 0 => ("PageFile$PageWriter", "out", "LPageFile$Bytes;", true)
  | 1 => ("PageFile$PageWriter", "fonts", "LPageFile$Fonts;", true)
  | 2 => ("PageFile$PageWriter", "across", "LPageFile$Track;", true)
  | 3 => ("PageFile$PageWriter", "down", "LPageFile$Track;", true)
  | 4 => ("PageFile$PageWriter", "outermost", "LPageFile$Frame;", true)
  | 5 => ("PageFile$PageWriter", "lastFont", "I", false)
  | 6 => ("PageFile$PageWriter", "deepest", "I", false)
  | _ => ("PageFile$PageWriter", "failed", "Z", false)
def ty_PgW : Nat → FieldType := fun k => match k with
  | 0 => .object "PageFile$Bytes"
  | 1 => .object "PageFile$Fonts"
  | 2 => .object "PageFile$Track"
  | 3 => .object "PageFile$Track"
  | 4 => .object "PageFile$Frame"
  | 5 => .int
  | 6 => .int
  | _ => .boolean
theorem nm_PgW : ∀ a, a < 8 → ∀ b, b < 8 → a ≠ b → (T_PgW a).2.1 ≠ (T_PgW b).2.1 := by decide +kernel
theorem ok_PgW : ∀ k, k < 8 → parseFieldDescriptor (T_PgW k).2.2.1 = some (ty_PgW k) := by decide +kernel
def R_Trk : String := "PageFile$Track"
def T_Trk : u_T := fun k => match k with
  | 0 => ("PageFile$Track", "command", "I", true)
  | 1 => ("PageFile$Track", "place", "I", false)
  | 2 => ("PageFile$Track", "first", "I", false)
  | 3 => ("PageFile$Track", "second", "I", false)
  | _ => ("PageFile$Track", "secondIsOlder", "Z", false)
def ty_Trk : Nat → FieldType := fun k => match k with
  | 0 => .int
  | 1 => .int
  | 2 => .int
  | 3 => .int
  | _ => .boolean
theorem nm_Trk : ∀ a, a < 5 → ∀ b, b < 5 → a ≠ b → (T_Trk a).2.1 ≠ (T_Trk b).2.1 := by decide +kernel
theorem ok_Trk : ∀ k, k < 5 → parseFieldDescriptor (T_Trk k).2.2.1 = some (ty_Trk k) := by decide +kernel
def R_Mod : String := "PageFileModel"
def T_Mod : u_T := fun k => match k with
  | 0 => ("PageFileModel", "thrown", "I", false)
  | 1 => ("PageFileModel", "kind", "[I", true)
  | 2 => ("PageFileModel", "wide", "[I", true)
  | 3 => ("PageFileModel", "high", "[I", true)
  | 4 => ("PageFileModel", "deep", "[I", true)
  | 5 => ("PageFileModel", "shift", "[I", true)
  | 6 => ("PageFileModel", "code", "[I", true)
  | 7 => ("PageFileModel", "span", "[I", true)
  | 8 => ("PageFileModel", "lists", "I", false)
  | 9 => ("PageFileModel", "begin", "[I", true)
  | 10 => ("PageFileModel", "vertical", "[Z", true)
  | 11 => ("PageFileModel", "end", "I", false)
  | 12 => ("PageFileModel", "size", "[I", true)
  | 13 => ("PageFileModel", "fontSize", "[I", true)
  | 14 => ("PageFileModel", "fontDesign", "[I", true)
  | 15 => ("PageFileModel", "used", "[Z", true)
  | 16 => ("PageFileModel", "usedBefore", "[Z", true)
  | 17 => ("PageFileModel", "file", "[B", true)
  | 18 => ("PageFileModel", "length", "I", false)
  | 19 => ("PageFileModel", "ended", "Z", false)
  | 20 => ("PageFileModel", "pages", "I", false)
  | 21 => ("PageFileModel", "lastPage", "I", false)
  | 22 => ("PageFileModel", "tallest", "J", false)
  | 23 => ("PageFileModel", "broadest", "I", false)
  | 24 => ("PageFileModel", "deepest", "I", false)
  | 25 => ("PageFileModel", "right", "[I", true)
  | 26 => ("PageFileModel", "down", "[I", true)
  | 27 => ("PageFileModel", "open", "I", false)
  | 28 => ("PageFileModel", "until", "[I", true)
  | 29 => ("PageFileModel", "at", "[J", true)
  | 30 => ("PageFileModel", "keep", "[I", true)
  | 31 => ("PageFileModel", "now", "[I", true)
  | 32 => ("PageFileModel", "fontNow", "I", false)
  | _ => ("PageFileModel", "good", "Z", false)
def ty_Mod : Nat → FieldType := fun k => match k with
  | 0 => .int
  | 1 => .array (.int)
  | 2 => .array (.int)
  | 3 => .array (.int)
  | 4 => .array (.int)
  | 5 => .array (.int)
  | 6 => .array (.int)
  | 7 => .array (.int)
  | 8 => .int
  | 9 => .array (.int)
  | 10 => .array (.boolean)
  | 11 => .int
  | 12 => .array (.int)
  | 13 => .array (.int)
  | 14 => .array (.int)
  | 15 => .array (.boolean)
  | 16 => .array (.boolean)
  | 17 => .array (.byte)
  | 18 => .int
  | 19 => .boolean
  | 20 => .int
  | 21 => .int
  | 22 => .long
  | 23 => .int
  | 24 => .int
  | 25 => .array (.int)
  | 26 => .array (.int)
  | 27 => .int
  | 28 => .array (.int)
  | 29 => .array (.long)
  | 30 => .array (.int)
  | 31 => .array (.int)
  | 32 => .int
  | _ => .boolean
theorem nm_Mod : ∀ a, a < 34 → ∀ b, b < 34 → a ≠ b → (T_Mod a).2.1 ≠ (T_Mod b).2.1 := by decide +kernel
theorem ok_Mod : ∀ k, k < 34 → parseFieldDescriptor (T_Mod k).2.2.1 = some (ty_Mod k) := by decide +kernel
def R_Law : String := "PageFileLaw"
/-- the classes whose objects the worlds hold -/
abbrev cls : List vw_C := [(R_PF, T_PF, 12), (R_Box, T_Box, 7), (R_Byt, T_Byt, 2), (R_Fon, T_Fon, 3), (R_Fra, T_Fra, 13), (R_Itm, T_Itm, 10), (R_OpL, T_OpL, 10), (R_PgW, T_PgW, 8), (R_Trk, T_Trk, 5), (R_Mod, T_Mod, 34)]
/-- the words of the tables that last (every method may use them), and the nest mates' links -/
def gw : List Cond := lw_tbl.filter goodWord
def nest_w : Cond → Bool
  | .fieldLinkNest .. => true
  | .methodLinkNest .. => true
  | .arrayOver (.object _) => true
  | _ => false
def nw : List Cond := lw_tbl.filter nest_w
theorem gw_in {w : Cond} (i : Nat) (h : tables_1[i]? = some w) (hg : goodWord w = true) : w ∈ gw := List.mem_filter.mpr ⟨List.mem_append_right _ (List.mem_of_getElem? h), hg⟩
theorem gw_sel {w : Cond} (i : Nat) (h : (k2_sels lw_privs)[i]? = some w) (hg : goodWord w = true) : w ∈ gw := List.mem_filter.mpr ⟨List.mem_append_left _ (List.mem_of_getElem? h), hg⟩
theorem nw_in {w : Cond} (i : Nat) (h : tables_1[i]? = some w) (hg : nest_w w = true) : w ∈ nw := List.mem_filter.mpr ⟨List.mem_append_right _ (List.mem_of_getElem? h), hg⟩
theorem gw_good {w : Cond} (h : w ∈ gw) : (w.onTables && w.keeps) = true ∨ ∃ ty, w = .arrayClass ty := good_of_word (List.mem_filter.mp h).2
theorem gw_tbl {w : Cond} (h : w ∈ gw) : w ∈ lw_tbl := (List.mem_filter.mp h).1
theorem i_PF : ∀ w ∈ u_ws R_PF T_PF 12, w ∈ gw := fun w h => List.mem_filter.mpr ⟨List.mem_append_right _ ((show ∀ w ∈ u_ws R_PF T_PF 12, w ∈ tables_1 by decide +kernel) w h), (show ∀ w ∈ u_ws R_PF T_PF 12, goodWord w = true by decide +kernel) w h⟩
theorem i_Box : ∀ w ∈ u_ws R_Box T_Box 7, w ∈ gw := fun w h => List.mem_filter.mpr ⟨List.mem_append_right _ ((show ∀ w ∈ u_ws R_Box T_Box 7, w ∈ tables_1 by decide +kernel) w h), (show ∀ w ∈ u_ws R_Box T_Box 7, goodWord w = true by decide +kernel) w h⟩
theorem i_Byt : ∀ w ∈ u_ws R_Byt T_Byt 2, w ∈ gw := fun w h => List.mem_filter.mpr ⟨List.mem_append_right _ ((show ∀ w ∈ u_ws R_Byt T_Byt 2, w ∈ tables_1 by decide +kernel) w h), (show ∀ w ∈ u_ws R_Byt T_Byt 2, goodWord w = true by decide +kernel) w h⟩
theorem i_Fon : ∀ w ∈ u_ws R_Fon T_Fon 3, w ∈ gw := fun w h => List.mem_filter.mpr ⟨List.mem_append_right _ ((show ∀ w ∈ u_ws R_Fon T_Fon 3, w ∈ tables_1 by decide +kernel) w h), (show ∀ w ∈ u_ws R_Fon T_Fon 3, goodWord w = true by decide +kernel) w h⟩
theorem i_Fra : ∀ w ∈ u_ws R_Fra T_Fra 13, w ∈ gw := fun w h => List.mem_filter.mpr ⟨List.mem_append_right _ ((show ∀ w ∈ u_ws R_Fra T_Fra 13, w ∈ tables_1 by decide +kernel) w h), (show ∀ w ∈ u_ws R_Fra T_Fra 13, goodWord w = true by decide +kernel) w h⟩
theorem i_Itm : ∀ w ∈ u_ws R_Itm T_Itm 10, w ∈ gw := fun w h => List.mem_filter.mpr ⟨List.mem_append_right _ ((show ∀ w ∈ u_ws R_Itm T_Itm 10, w ∈ tables_1 by decide +kernel) w h), (show ∀ w ∈ u_ws R_Itm T_Itm 10, goodWord w = true by decide +kernel) w h⟩
theorem i_OpL : ∀ w ∈ u_ws R_OpL T_OpL 10, w ∈ gw := fun w h => List.mem_filter.mpr ⟨List.mem_append_right _ ((show ∀ w ∈ u_ws R_OpL T_OpL 10, w ∈ tables_1 by decide +kernel) w h), (show ∀ w ∈ u_ws R_OpL T_OpL 10, goodWord w = true by decide +kernel) w h⟩
theorem i_PgW : ∀ w ∈ u_ws R_PgW T_PgW 8, w ∈ gw := fun w h => List.mem_filter.mpr ⟨List.mem_append_right _ ((show ∀ w ∈ u_ws R_PgW T_PgW 8, w ∈ tables_1 by decide +kernel) w h), (show ∀ w ∈ u_ws R_PgW T_PgW 8, goodWord w = true by decide +kernel) w h⟩
theorem i_Trk : ∀ w ∈ u_ws R_Trk T_Trk 5, w ∈ gw := fun w h => List.mem_filter.mpr ⟨List.mem_append_right _ ((show ∀ w ∈ u_ws R_Trk T_Trk 5, w ∈ tables_1 by decide +kernel) w h), (show ∀ w ∈ u_ws R_Trk T_Trk 5, goodWord w = true by decide +kernel) w h⟩
theorem i_Mod : ∀ w ∈ u_ws R_Mod T_Mod 34, w ∈ gw := fun w h => List.mem_filter.mpr ⟨List.mem_append_right _ ((show ∀ w ∈ u_ws R_Mod T_Mod 34, w ∈ tables_1 by decide +kernel) w h), (show ∀ w ∈ u_ws R_Mod T_Mod 34, goodWord w = true by decide +kernel) w h⟩
