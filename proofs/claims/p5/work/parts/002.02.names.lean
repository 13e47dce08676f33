/-! the tables of the classes: names, fields in the order of the slots, types (printed by wip/gen/names.py) -/
/-- the words that every method may use: those of the tables that stay -/
def q_tbl : List Cond := lw_tbl.filter goodWord
theorem q_in {w : Cond} (h : w ∈ lw_tbl) (g : goodWord w = true) : w ∈ q_tbl := List.mem_filter.mpr ⟨h, g⟩
theorem q_of {w : Cond} (i : Nat) (h : tables_1[i]? = some w) (g : goodWord w = true) : w ∈ q_tbl := q_in (List.mem_append_right _ (List.mem_of_getElem? h)) g
theorem q_of1 {w : Cond} (i : Nat) (h : tables_1_1[i]? = some w) (g : goodWord w = true) : w ∈ q_tbl := q_in (List.mem_append_right _ (tm_1 i h)) g
theorem q_of2 {w : Cond} (i : Nat) (h : tables_1_2[i]? = some w) (g : goodWord w = true) : w ∈ q_tbl := q_in (List.mem_append_right _ (tm_2 i h)) g
theorem q_of3 {w : Cond} (i : Nat) (h : tables_1_3[i]? = some w) (g : goodWord w = true) : w ∈ q_tbl := q_in (List.mem_append_right _ (tm_3 i h)) g
theorem q_of4 {w : Cond} (i : Nat) (h : tables_1_4[i]? = some w) (g : goodWord w = true) : w ∈ q_tbl := q_in (List.mem_append_right _ (tm_4 i h)) g
theorem q_of5 {w : Cond} (i : Nat) (h : tables_1_5[i]? = some w) (g : goodWord w = true) : w ∈ q_tbl := q_in (List.mem_append_right _ (tm_5 i h)) g
theorem q_of6 {w : Cond} (i : Nat) (h : tables_1_6[i]? = some w) (g : goodWord w = true) : w ∈ q_tbl := q_in (List.mem_append_right _ (tm_6 i h)) g
theorem q_of7 {w : Cond} (i : Nat) (h : tables_1_7[i]? = some w) (g : goodWord w = true) : w ∈ q_tbl := q_in (List.mem_append_right _ (tm_7 i h)) g
theorem q_of8 {w : Cond} (i : Nat) (h : tables_1_8[i]? = some w) (g : goodWord w = true) : w ∈ q_tbl := q_in (List.mem_append_right _ (tm_8 i h)) g
theorem q_of9 {w : Cond} (i : Nat) (h : tables_1_9[i]? = some w) (g : goodWord w = true) : w ∈ q_tbl := q_in (List.mem_append_right _ (tm_9 i h)) g
theorem q_of10 {w : Cond} (i : Nat) (h : tables_1_10[i]? = some w) (g : goodWord w = true) : w ∈ q_tbl := q_in (List.mem_append_right _ (tm_10 i h)) g
theorem q_of11 {w : Cond} (i : Nat) (h : tables_1_11[i]? = some w) (g : goodWord w = true) : w ∈ q_tbl := q_in (List.mem_append_right _ (tm_11 i h)) g
theorem q_of12 {w : Cond} (i : Nat) (h : tables_1_12[i]? = some w) (g : goodWord w = true) : w ∈ q_tbl := q_in (List.mem_append_right _ (tm_12 i h)) g
theorem q_of13 {w : Cond} (i : Nat) (h : tables_1_13[i]? = some w) (g : goodWord w = true) : w ∈ q_tbl := q_in (List.mem_append_right _ (tm_13 i h)) g
theorem q_of14 {w : Cond} (i : Nat) (h : tables_1_14[i]? = some w) (g : goodWord w = true) : w ∈ q_tbl := q_in (List.mem_append_right _ (tm_14 i h)) g
theorem q_ofs {w : Cond} (i : Nat) (h : (k2_sels lw_privs)[i]? = some w) (g : goodWord w = true) : w ∈ q_tbl := q_in (List.mem_append_left _ (List.mem_of_getElem? h)) g
theorem q_gi {big : List Cond} (hb : ∀ w ∈ q_tbl, w ∈ big) : GoodIn big q_tbl := fun w h => ⟨hb w h, good_of_word (List.mem_filter.mp h).2⟩
def R_NH : String := "NumberHouse"
def F_NH : u_T := fun k => match k with
  | 0 => ("NumberHouse", "tape", "LNumberHouse$Sheet;", true)
  | 1 => ("NumberHouse", "paper", "LNumberHouse$Sheet;", true)
  | 2 => ("NumberHouse", "wholes", "[LNumberHouse$Big;", true)
  | 3 => ("NumberHouse", "decimals", "[LNumberHouse$Dec;", true)
  | 4 => ("NumberHouse", "wide", "[J", true)
  | 5 => ("NumberHouse", "narrow", "[J", true)
  | 6 => ("NumberHouse", "mill", "LNumberHouse$Mill;", true)
  | 7 => ("NumberHouse", "decimalWork", "LNumberHouse$DecimalWork;", true)
  | 8 => ("NumberHouse", "wideFloats", "LNumberHouse$Floats;", true)
  | 9 => ("NumberHouse", "narrowFloats", "LNumberHouse$Floats;", true)
  | 10 => ("NumberHouse", "digits", "LNumberHouse$Digits;", true)
  | 11 => ("NumberHouse", "reader", "LNumberHouse$Reader;", true)
  | 12 => ("NumberHouse", "writer", "LNumberHouse$Writer;", true)
  | _ => ("NumberHouse", "printer", "LNumberHouse$Printer;", true)
def t_NH : Nat → FieldType := fun k => match k with
  | 0 => .object "NumberHouse$Sheet"
  | 1 => .object "NumberHouse$Sheet"
  | 2 => .array (.object "NumberHouse$Big")
  | 3 => .array (.object "NumberHouse$Dec")
  | 4 => .array .long
  | 5 => .array .long
  | 6 => .object "NumberHouse$Mill"
  | 7 => .object "NumberHouse$DecimalWork"
  | 8 => .object "NumberHouse$Floats"
  | 9 => .object "NumberHouse$Floats"
  | 10 => .object "NumberHouse$Digits"
  | 11 => .object "NumberHouse$Reader"
  | 12 => .object "NumberHouse$Writer"
  | _ => .object "NumberHouse$Printer"
theorem n_NH : ∀ a, a < 14 → ∀ b, b < 14 → a ≠ b → (F_NH a).2.1 ≠ (F_NH b).2.1 := by decide +kernel
theorem o_NH : ∀ k, k < 14 → parseFieldDescriptor (F_NH k).2.2.1 = some (t_NH k) := by decide +kernel
theorem i_NH : ∀ w ∈ u_ws R_NH F_NH 14, w ∈ q_tbl := by decide +kernel
def R_She : String := "NumberHouse$Sheet"
def F_She : u_T := fun k => match k with
  | 0 => ("NumberHouse$Sheet", "cells", "[J", true)
  | 1 => ("NumberHouse$Sheet", "room", "I", true)
  | _ => ("NumberHouse$Sheet", "size", "I", false)
def t_She : Nat → FieldType := fun k => match k with
  | 0 => .array .long
  | 1 => .int
  | _ => .int
theorem n_She : ∀ a, a < 3 → ∀ b, b < 3 → a ≠ b → (F_She a).2.1 ≠ (F_She b).2.1 := by decide +kernel
theorem o_She : ∀ k, k < 3 → parseFieldDescriptor (F_She k).2.2.1 = some (t_She k) := by decide +kernel
theorem i_She : ∀ w ∈ u_ws R_She F_She 3, w ∈ q_tbl := by decide +kernel
def R_Big : String := "NumberHouse$Big"
def F_Big : u_T := fun k => match k with
  | 0 => ("NumberHouse$Big", "limbs", "[I", true)
  | 1 => ("NumberHouse$Big", "size", "I", false)
  | _ => ("NumberHouse$Big", "negative", "Z", false)
def t_Big : Nat → FieldType := fun k => match k with
  | 0 => .array .int
  | 1 => .int
  | _ => .boolean
theorem n_Big : ∀ a, a < 3 → ∀ b, b < 3 → a ≠ b → (F_Big a).2.1 ≠ (F_Big b).2.1 := by decide +kernel
theorem o_Big : ∀ k, k < 3 → parseFieldDescriptor (F_Big k).2.2.1 = some (t_Big k) := by decide +kernel
theorem i_Big : ∀ w ∈ u_ws R_Big F_Big 3, w ∈ q_tbl := by decide +kernel
def R_Dec : String := "NumberHouse$Dec"
def F_Dec : u_T := fun k => match k with
  | 0 => ("NumberHouse$Dec", "number", "LNumberHouse$Big;", true)
  | 1 => ("NumberHouse$Dec", "scale", "I", false)
  | _ => ("NumberHouse$Dec", "figureCount", "I", false)
def t_Dec : Nat → FieldType := fun k => match k with
  | 0 => .object "NumberHouse$Big"
  | 1 => .int
  | _ => .int
theorem n_Dec : ∀ a, a < 3 → ∀ b, b < 3 → a ≠ b → (F_Dec a).2.1 ≠ (F_Dec b).2.1 := by decide +kernel
theorem o_Dec : ∀ k, k < 3 → parseFieldDescriptor (F_Dec k).2.2.1 = some (t_Dec k) := by decide +kernel
theorem i_Dec : ∀ w ∈ u_ws R_Dec F_Dec 3, w ∈ q_tbl := by decide +kernel
def R_Mil : String := "NumberHouse$Mill"
def F_Mil : u_T := fun k => match k with
  | 0 => ("NumberHouse$Mill", "number", "LNumberHouse$Big;", true)
  | 1 => ("NumberHouse$Mill", "quotient", "LNumberHouse$Big;", true)
  | 2 => ("NumberHouse$Mill", "power", "LNumberHouse$Big;", true)
  | 3 => ("NumberHouse$Mill", "root", "LNumberHouse$Big;", true)
  | 4 => ("NumberHouse$Mill", "work", "LNumberHouse$Big;", true)
  | 5 => ("NumberHouse$Mill", "spare", "LNumberHouse$Big;", true)
  | 6 => ("NumberHouse$Mill", "one", "LNumberHouse$Big;", true)
  | 7 => ("NumberHouse$Mill", "two", "LNumberHouse$Big;", true)
  | 8 => ("NumberHouse$Mill", "three", "LNumberHouse$Big;", true)
  | _ => ("NumberHouse$Mill", "four", "LNumberHouse$Big;", true)
def t_Mil : Nat → FieldType := fun k => match k with
  | 0 => .object "NumberHouse$Big"
  | 1 => .object "NumberHouse$Big"
  | 2 => .object "NumberHouse$Big"
  | 3 => .object "NumberHouse$Big"
  | 4 => .object "NumberHouse$Big"
  | 5 => .object "NumberHouse$Big"
  | 6 => .object "NumberHouse$Big"
  | 7 => .object "NumberHouse$Big"
  | 8 => .object "NumberHouse$Big"
  | _ => .object "NumberHouse$Big"
theorem n_Mil : ∀ a, a < 10 → ∀ b, b < 10 → a ≠ b → (F_Mil a).2.1 ≠ (F_Mil b).2.1 := by decide +kernel
theorem o_Mil : ∀ k, k < 10 → parseFieldDescriptor (F_Mil k).2.2.1 = some (t_Mil k) := by decide +kernel
theorem i_Mil : ∀ w ∈ u_ws R_Mil F_Mil 10, w ∈ q_tbl := by decide +kernel
def R_DW : String := "NumberHouse$DecimalWork"
def F_DW : u_T := fun k => match k with
  | 0 => ("NumberHouse$DecimalWork", "one", "LNumberHouse$Dec;", true)
  | 1 => ("NumberHouse$DecimalWork", "scale", "J", false)
  | 2 => ("NumberHouse$DecimalWork", "mill", "LNumberHouse$Mill;", true)
  | _ => ("NumberHouse$DecimalWork", "lost", "Z", false)
def t_DW : Nat → FieldType := fun k => match k with
  | 0 => .object "NumberHouse$Dec"
  | 1 => .long
  | 2 => .object "NumberHouse$Mill"
  | _ => .boolean
theorem n_DW : ∀ a, a < 4 → ∀ b, b < 4 → a ≠ b → (F_DW a).2.1 ≠ (F_DW b).2.1 := by decide +kernel
theorem o_DW : ∀ k, k < 4 → parseFieldDescriptor (F_DW k).2.2.1 = some (t_DW k) := by decide +kernel
theorem i_DW : ∀ w ∈ u_ws R_DW F_DW 4, w ∈ q_tbl := by decide +kernel
def R_Flo : String := "NumberHouse$Floats"
def F_Flo : u_T := fun k => match k with
  | 0 => ("NumberHouse$Floats", "fractionBits", "I", true)
  | 1 => ("NumberHouse$Floats", "bias", "I", true)
  | 2 => ("NumberHouse$Floats", "topExponent", "I", true)
  | 3 => ("NumberHouse$Floats", "shortNumber", "J", false)
  | 4 => ("NumberHouse$Floats", "shortPower", "I", false)
  | 5 => ("NumberHouse$Floats", "mill", "LNumberHouse$Mill;", true)
  | _ => ("NumberHouse$Floats", "estimate", "I", false)
def t_Flo : Nat → FieldType := fun k => match k with
  | 0 => .int
  | 1 => .int
  | 2 => .int
  | 3 => .long
  | 4 => .int
  | 5 => .object "NumberHouse$Mill"
  | _ => .int
theorem n_Flo : ∀ a, a < 7 → ∀ b, b < 7 → a ≠ b → (F_Flo a).2.1 ≠ (F_Flo b).2.1 := by decide +kernel
theorem o_Flo : ∀ k, k < 7 → parseFieldDescriptor (F_Flo k).2.2.1 = some (t_Flo k) := by decide +kernel
theorem i_Flo : ∀ w ∈ u_ws R_Flo F_Flo 7, w ∈ q_tbl := by decide +kernel
def R_Dig : String := "NumberHouse$Digits"
def F_Dig : u_T := fun k => match k with
  | 0 => ("NumberHouse$Digits", "count", "I", false)
  | 1 => ("NumberHouse$Digits", "power", "I", false)
  | _ => ("NumberHouse$Digits", "row", "[B", true)
def t_Dig : Nat → FieldType := fun k => match k with
  | 0 => .int
  | 1 => .int
  | _ => .array .byte
theorem n_Dig : ∀ a, a < 3 → ∀ b, b < 3 → a ≠ b → (F_Dig a).2.1 ≠ (F_Dig b).2.1 := by decide +kernel
theorem o_Dig : ∀ k, k < 3 → parseFieldDescriptor (F_Dig k).2.2.1 = some (t_Dig k) := by decide +kernel
theorem i_Dig : ∀ w ∈ u_ws R_Dig F_Dig 3, w ∈ q_tbl := by decide +kernel
def R_Rea : String := "NumberHouse$Reader"
def F_Rea : u_T := fun k => match k with
  | 0 => ("NumberHouse$Reader", "scale", "J", false)
  | 1 => ("NumberHouse$Reader", "bits", "J", false)
  | 2 => ("NumberHouse$Reader", "tape", "LNumberHouse$Sheet;", true)
  | 3 => ("NumberHouse$Reader", "mill", "LNumberHouse$Mill;", true)
  | 4 => ("NumberHouse$Reader", "place", "I", false)
  | 5 => ("NumberHouse$Reader", "end", "I", false)
  | 6 => ("NumberHouse$Reader", "negative", "Z", false)
  | 7 => ("NumberHouse$Reader", "behindPoint", "I", false)
  | 8 => ("NumberHouse$Reader", "kept", "I", false)
  | 9 => ("NumberHouse$Reader", "dropped", "I", false)
  | 10 => ("NumberHouse$Reader", "droppedSome", "Z", false)
  | _ => ("NumberHouse$Reader", "exponent", "J", false)
def t_Rea : Nat → FieldType := fun k => match k with
  | 0 => .long
  | 1 => .long
  | 2 => .object "NumberHouse$Sheet"
  | 3 => .object "NumberHouse$Mill"
  | 4 => .int
  | 5 => .int
  | 6 => .boolean
  | 7 => .int
  | 8 => .int
  | 9 => .int
  | 10 => .boolean
  | _ => .long
theorem n_Rea : ∀ a, a < 12 → ∀ b, b < 12 → a ≠ b → (F_Rea a).2.1 ≠ (F_Rea b).2.1 := by decide +kernel
theorem o_Rea : ∀ k, k < 12 → parseFieldDescriptor (F_Rea k).2.2.1 = some (t_Rea k) := by decide +kernel
theorem i_Rea : ∀ w ∈ u_ws R_Rea F_Rea 12, w ∈ q_tbl := by decide +kernel
def R_Wri : String := "NumberHouse$Writer"
def F_Wri : u_T := fun k => match k with
  | 0 => ("NumberHouse$Writer", "paper", "LNumberHouse$Sheet;", true)
  | 1 => ("NumberHouse$Writer", "mill", "LNumberHouse$Mill;", true)
  | _ => ("NumberHouse$Writer", "digits", "LNumberHouse$Digits;", true)
def t_Wri : Nat → FieldType := fun k => match k with
  | 0 => .object "NumberHouse$Sheet"
  | 1 => .object "NumberHouse$Mill"
  | _ => .object "NumberHouse$Digits"
theorem n_Wri : ∀ a, a < 3 → ∀ b, b < 3 → a ≠ b → (F_Wri a).2.1 ≠ (F_Wri b).2.1 := by decide +kernel
theorem o_Wri : ∀ k, k < 3 → parseFieldDescriptor (F_Wri k).2.2.1 = some (t_Wri k) := by decide +kernel
theorem i_Wri : ∀ w ∈ u_ws R_Wri F_Wri 3, w ∈ q_tbl := by decide +kernel
def R_Dir : String := "NumberHouse$Directive"
def F_Dir : u_T := fun k => match k with
  | 0 => ("NumberHouse$Directive", "index", "I", false)
  | 1 => ("NumberHouse$Directive", "flags", "I", false)
  | 2 => ("NumberHouse$Directive", "width", "I", false)
  | 3 => ("NumberHouse$Directive", "precision", "I", false)
  | 4 => ("NumberHouse$Directive", "conversion", "I", false)
  | 5 => ("NumberHouse$Directive", "place", "I", false)
  | 6 => ("NumberHouse$Directive", "text", "LNumberHouse$Sheet;", true)
  | _ => ("NumberHouse$Directive", "twice", "Z", false)
def t_Dir : Nat → FieldType := fun k => match k with
  | 0 => .int
  | 1 => .int
  | 2 => .int
  | 3 => .int
  | 4 => .int
  | 5 => .int
  | 6 => .object "NumberHouse$Sheet"
  | _ => .boolean
theorem n_Dir : ∀ a, a < 8 → ∀ b, b < 8 → a ≠ b → (F_Dir a).2.1 ≠ (F_Dir b).2.1 := by decide +kernel
theorem o_Dir : ∀ k, k < 8 → parseFieldDescriptor (F_Dir k).2.2.1 = some (t_Dir k) := by decide +kernel
theorem i_Dir : ∀ w ∈ u_ws R_Dir F_Dir 8, w ∈ q_tbl := by decide +kernel
def R_Pri : String := "NumberHouse$Printer"
def F_Pri : u_T := fun k => match k with
  | 0 => ("NumberHouse$Printer", "count", "I", false)
  | 1 => ("NumberHouse$Printer", "kinds", "[I", true)
  | 2 => ("NumberHouse$Printer", "numbers", "[J", true)
  | 3 => ("NumberHouse$Printer", "scales", "[I", true)
  | 4 => ("NumberHouse$Printer", "texts", "[LNumberHouse$Sheet;", true)
  | 5 => ("NumberHouse$Printer", "tape", "LNumberHouse$Sheet;", true)
  | 6 => ("NumberHouse$Printer", "directive", "LNumberHouse$Directive;", true)
  | 7 => ("NumberHouse$Printer", "digits", "LNumberHouse$Digits;", true)
  | 8 => ("NumberHouse$Printer", "body", "LNumberHouse$Sheet;", true)
  | 9 => ("NumberHouse$Printer", "zerosAt", "I", false)
  | 10 => ("NumberHouse$Printer", "ordinary", "I", false)
  | _ => ("NumberHouse$Printer", "last", "I", false)
def t_Pri : Nat → FieldType := fun k => match k with
  | 0 => .int
  | 1 => .array .int
  | 2 => .array .long
  | 3 => .array .int
  | 4 => .array (.object "NumberHouse$Sheet")
  | 5 => .object "NumberHouse$Sheet"
  | 6 => .object "NumberHouse$Directive"
  | 7 => .object "NumberHouse$Digits"
  | 8 => .object "NumberHouse$Sheet"
  | 9 => .int
  | 10 => .int
  | _ => .int
theorem n_Pri : ∀ a, a < 12 → ∀ b, b < 12 → a ≠ b → (F_Pri a).2.1 ≠ (F_Pri b).2.1 := by decide +kernel
theorem o_Pri : ∀ k, k < 12 → parseFieldDescriptor (F_Pri k).2.2.1 = some (t_Pri k) := by decide +kernel
theorem i_Pri : ∀ w ∈ u_ws R_Pri F_Pri 12, w ∈ q_tbl := by decide +kernel
def R_NM : String := "NumberHouseModel"
def F_NM : u_T := fun k => match k with
  | 0 => ("NumberHouseModel", "thrown", "I", false)
  | 1 => ("NumberHouseModel", "tape", "[I", true)
  | 2 => ("NumberHouseModel", "length", "I", false)
  | 3 => ("NumberHouseModel", "paper", "[I", true)
  | 4 => ("NumberHouseModel", "printed", "I", false)
  | 5 => ("NumberHouseModel", "wholes", "LNumberHouseModel$WholeRows;", true)
  | 6 => ("NumberHouseModel", "decimals", "LNumberHouseModel$DecimalRows;", true)
  | 7 => ("NumberHouseModel", "floats", "LNumberHouseModel$FloatRows;", true)
  | 8 => ("NumberHouseModel", "texts", "LNumberHouseModel$TextRows;", true)
  | 9 => ("NumberHouseModel", "directives", "LNumberHouseModel$DirectiveRows;", true)
  | 10 => ("NumberHouseModel", "bits", "[J", true)
  | _ => ("NumberHouseModel", "value", "[J", true)
def t_NM : Nat → FieldType := fun k => match k with
  | 0 => .int
  | 1 => .array .int
  | 2 => .int
  | 3 => .array .int
  | 4 => .int
  | 5 => .object "NumberHouseModel$WholeRows"
  | 6 => .object "NumberHouseModel$DecimalRows"
  | 7 => .object "NumberHouseModel$FloatRows"
  | 8 => .object "NumberHouseModel$TextRows"
  | 9 => .object "NumberHouseModel$DirectiveRows"
  | 10 => .array .long
  | _ => .array .long
theorem n_NM : ∀ a, a < 12 → ∀ b, b < 12 → a ≠ b → (F_NM a).2.1 ≠ (F_NM b).2.1 := by decide +kernel
theorem o_NM : ∀ k, k < 12 → parseFieldDescriptor (F_NM k).2.2.1 = some (t_NM k) := by decide +kernel
theorem i_NM : ∀ w ∈ u_ws R_NM F_NM 12, w ∈ q_tbl := by decide +kernel
def R_WR : String := "NumberHouseModel$WholeRows"
def F_WR : u_T := fun k => match k with
  | 0 => ("NumberHouseModel$WholeRows", "thrown", "I", false)
  | 1 => ("NumberHouseModel$WholeRows", "fault", "I", false)
  | 2 => ("NumberHouseModel$WholeRows", "draft", "[I", true)
  | 3 => ("NumberHouseModel$WholeRows", "length", "I", false)
  | 4 => ("NumberHouseModel$WholeRows", "kept", "[I", true)
  | 5 => ("NumberHouseModel$WholeRows", "minus", "[Z", true)
  | 6 => ("NumberHouseModel$WholeRows", "row", "[I", true)
  | 7 => ("NumberHouseModel$WholeRows", "below", "Z", false)
  | 8 => ("NumberHouseModel$WholeRows", "other", "[I", true)
  | 9 => ("NumberHouseModel$WholeRows", "product", "[I", true)
  | 10 => ("NumberHouseModel$WholeRows", "rest", "[I", true)
  | 11 => ("NumberHouseModel$WholeRows", "quotient", "[I", true)
  | 12 => ("NumberHouseModel$WholeRows", "one", "[I", true)
  | 13 => ("NumberHouseModel$WholeRows", "two", "[I", true)
  | 14 => ("NumberHouseModel$WholeRows", "first", "[I", true)
  | 15 => ("NumberHouseModel$WholeRows", "second", "[I", true)
  | 16 => ("NumberHouseModel$WholeRows", "firstBelow", "Z", false)
  | 17 => ("NumberHouseModel$WholeRows", "secondBelow", "Z", false)
  | 18 => ("NumberHouseModel$WholeRows", "modulus", "[I", true)
  | 19 => ("NumberHouseModel$WholeRows", "paper", "[I", true)
  | _ => ("NumberHouseModel$WholeRows", "printed", "I", false)
def t_WR : Nat → FieldType := fun k => match k with
  | 0 => .int
  | 1 => .int
  | 2 => .array .int
  | 3 => .int
  | 4 => .array .int
  | 5 => .array .boolean
  | 6 => .array .int
  | 7 => .boolean
  | 8 => .array .int
  | 9 => .array .int
  | 10 => .array .int
  | 11 => .array .int
  | 12 => .array .int
  | 13 => .array .int
  | 14 => .array .int
  | 15 => .array .int
  | 16 => .boolean
  | 17 => .boolean
  | 18 => .array .int
  | 19 => .array .int
  | _ => .int
theorem n_WR : ∀ a, a < 21 → ∀ b, b < 21 → a ≠ b → (F_WR a).2.1 ≠ (F_WR b).2.1 := by decide +kernel
theorem o_WR : ∀ k, k < 21 → parseFieldDescriptor (F_WR k).2.2.1 = some (t_WR k) := by decide +kernel
theorem i_WR : ∀ w ∈ u_ws R_WR F_WR 21, w ∈ q_tbl := by decide +kernel
def R_DR : String := "NumberHouseModel$DecimalRows"
def F_DR : u_T := fun k => match k with
  | 0 => ("NumberHouseModel$DecimalRows", "thrown", "I", false)
  | 1 => ("NumberHouseModel$DecimalRows", "draft", "[I", true)
  | 2 => ("NumberHouseModel$DecimalRows", "length", "I", false)
  | 3 => ("NumberHouseModel$DecimalRows", "kept", "[I", true)
  | 4 => ("NumberHouseModel$DecimalRows", "many", "[I", true)
  | 5 => ("NumberHouseModel$DecimalRows", "minus", "[Z", true)
  | 6 => ("NumberHouseModel$DecimalRows", "scales", "[I", true)
  | 7 => ("NumberHouseModel$DecimalRows", "row", "[I", true)
  | 8 => ("NumberHouseModel$DecimalRows", "size", "I", false)
  | 9 => ("NumberHouseModel$DecimalRows", "scale", "J", false)
  | 10 => ("NumberHouseModel$DecimalRows", "more", "Z", false)
  | 11 => ("NumberHouseModel$DecimalRows", "below", "Z", false)
  | 12 => ("NumberHouseModel$DecimalRows", "top", "[I", true)
  | 13 => ("NumberHouseModel$DecimalRows", "topSize", "I", false)
  | 14 => ("NumberHouseModel$DecimalRows", "under", "[I", true)
  | 15 => ("NumberHouseModel$DecimalRows", "underSize", "I", false)
  | 16 => ("NumberHouseModel$DecimalRows", "left", "[I", true)
  | 17 => ("NumberHouseModel$DecimalRows", "leftSize", "I", false)
  | 18 => ("NumberHouseModel$DecimalRows", "paper", "[I", true)
  | 19 => ("NumberHouseModel$DecimalRows", "printed", "I", false)
  | _ => ("NumberHouseModel$DecimalRows", "fault", "I", false)
def t_DR : Nat → FieldType := fun k => match k with
  | 0 => .int
  | 1 => .array .int
  | 2 => .int
  | 3 => .array .int
  | 4 => .array .int
  | 5 => .array .boolean
  | 6 => .array .int
  | 7 => .array .int
  | 8 => .int
  | 9 => .long
  | 10 => .boolean
  | 11 => .boolean
  | 12 => .array .int
  | 13 => .int
  | 14 => .array .int
  | 15 => .int
  | 16 => .array .int
  | 17 => .int
  | 18 => .array .int
  | 19 => .int
  | _ => .int
theorem n_DR : ∀ a, a < 21 → ∀ b, b < 21 → a ≠ b → (F_DR a).2.1 ≠ (F_DR b).2.1 := by decide +kernel
theorem o_DR : ∀ k, k < 21 → parseFieldDescriptor (F_DR k).2.2.1 = some (t_DR k) := by decide +kernel
theorem i_DR : ∀ w ∈ u_ws R_DR F_DR 21, w ∈ q_tbl := by decide +kernel
def R_FR : String := "NumberHouseModel$FloatRows"
def F_FR : u_T := fun k => match k with
  | 0 => ("NumberHouseModel$FloatRows", "thrown", "I", false)
  | 1 => ("NumberHouseModel$FloatRows", "unit", "[I", true)
  | 2 => ("NumberHouseModel$FloatRows", "limbs", "[I", true)
  | 3 => ("NumberHouseModel$FloatRows", "value", "[I", true)
  | 4 => ("NumberHouseModel$FloatRows", "low", "[I", true)
  | 5 => ("NumberHouseModel$FloatRows", "high", "[I", true)
  | 6 => ("NumberHouseModel$FloatRows", "rounded", "[I", true)
  | 7 => ("NumberHouseModel$FloatRows", "paper", "[I", true)
  | 8 => ("NumberHouseModel$FloatRows", "length", "I", false)
  | 9 => ("NumberHouseModel$FloatRows", "negative", "Z", false)
  | 10 => ("NumberHouseModel$FloatRows", "exponent", "I", false)
  | 11 => ("NumberHouseModel$FloatRows", "fraction", "J", false)
  | 12 => ("NumberHouseModel$FloatRows", "fractionBits", "I", false)
  | 13 => ("NumberHouseModel$FloatRows", "most", "I", false)
  | 14 => ("NumberHouseModel$FloatRows", "size", "J", false)
  | 15 => ("NumberHouseModel$FloatRows", "twos", "I", false)
  | 16 => ("NumberHouseModel$FloatRows", "shortest", "J", false)
  | _ => ("NumberHouseModel$FloatRows", "lastPlace", "I", false)
def t_FR : Nat → FieldType := fun k => match k with
  | 0 => .int
  | 1 => .array .int
  | 2 => .array .int
  | 3 => .array .int
  | 4 => .array .int
  | 5 => .array .int
  | 6 => .array .int
  | 7 => .array .int
  | 8 => .int
  | 9 => .boolean
  | 10 => .int
  | 11 => .long
  | 12 => .int
  | 13 => .int
  | 14 => .long
  | 15 => .int
  | 16 => .long
  | _ => .int
theorem n_FR : ∀ a, a < 18 → ∀ b, b < 18 → a ≠ b → (F_FR a).2.1 ≠ (F_FR b).2.1 := by decide +kernel
theorem o_FR : ∀ k, k < 18 → parseFieldDescriptor (F_FR k).2.2.1 = some (t_FR k) := by decide +kernel
theorem i_FR : ∀ w ∈ u_ws R_FR F_FR 18, w ∈ q_tbl := by decide +kernel
def R_TR : String := "NumberHouseModel$TextRows"
def F_TR : u_T := fun k => match k with
  | 0 => ("NumberHouseModel$TextRows", "thrown", "I", false)
  | 1 => ("NumberHouseModel$TextRows", "text", "[I", true)
  | 2 => ("NumberHouseModel$TextRows", "length", "I", false)
  | 3 => ("NumberHouseModel$TextRows", "kind", "I", false)
  | 4 => ("NumberHouseModel$TextRows", "place", "I", false)
  | 5 => ("NumberHouseModel$TextRows", "below", "Z", false)
  | 6 => ("NumberHouseModel$TextRows", "figures", "[I", true)
  | 7 => ("NumberHouseModel$TextRows", "many", "I", false)
  | 8 => ("NumberHouseModel$TextRows", "point", "I", false)
  | 9 => ("NumberHouseModel$TextRows", "exponent", "J", false)
  | 10 => ("NumberHouseModel$TextRows", "words", "[I", true)
  | 11 => ("NumberHouseModel$TextRows", "from", "I", false)
  | 12 => ("NumberHouseModel$TextRows", "to", "I", false)
  | 13 => ("NumberHouseModel$TextRows", "whole", "J", false)
  | 14 => ("NumberHouseModel$TextRows", "scale", "J", false)
  | 15 => ("NumberHouseModel$TextRows", "rest", "I", false)
  | _ => ("NumberHouseModel$TextRows", "huge", "Z", false)
def t_TR : Nat → FieldType := fun k => match k with
  | 0 => .int
  | 1 => .array .int
  | 2 => .int
  | 3 => .int
  | 4 => .int
  | 5 => .boolean
  | 6 => .array .int
  | 7 => .int
  | 8 => .int
  | 9 => .long
  | 10 => .array .int
  | 11 => .int
  | 12 => .int
  | 13 => .long
  | 14 => .long
  | 15 => .int
  | _ => .boolean
theorem n_TR : ∀ a, a < 17 → ∀ b, b < 17 → a ≠ b → (F_TR a).2.1 ≠ (F_TR b).2.1 := by decide +kernel
theorem o_TR : ∀ k, k < 17 → parseFieldDescriptor (F_TR k).2.2.1 = some (t_TR k) := by decide +kernel
theorem i_TR : ∀ w ∈ u_ws R_TR F_TR 17, w ∈ q_tbl := by decide +kernel
def R_VR : String := "NumberHouseModel$DirectiveRows"
def F_VR : u_T := fun k => match k with
  | 0 => ("NumberHouseModel$DirectiveRows", "thrown", "I", false)
  | 1 => ("NumberHouseModel$DirectiveRows", "format", "[I", true)
  | 2 => ("NumberHouseModel$DirectiveRows", "length", "I", false)
  | 3 => ("NumberHouseModel$DirectiveRows", "arguments", "I", false)
  | 4 => ("NumberHouseModel$DirectiveRows", "kinds", "[I", true)
  | 5 => ("NumberHouseModel$DirectiveRows", "sizes", "[I", true)
  | 6 => ("NumberHouseModel$DirectiveRows", "values", "[J", true)
  | 7 => ("NumberHouseModel$DirectiveRows", "texts", "[I", true)
  | 8 => ("NumberHouseModel$DirectiveRows", "paper", "[I", true)
  | 9 => ("NumberHouseModel$DirectiveRows", "printed", "I", false)
  | 10 => ("NumberHouseModel$DirectiveRows", "draft", "[I", true)
  | 11 => ("NumberHouseModel$DirectiveRows", "drawn", "I", false)
  | 12 => ("NumberHouseModel$DirectiveRows", "fault", "I", false)
  | 13 => ("NumberHouseModel$DirectiveRows", "place", "I", false)
  | 14 => ("NumberHouseModel$DirectiveRows", "at", "I", false)
  | 15 => ("NumberHouseModel$DirectiveRows", "index", "I", false)
  | 16 => ("NumberHouseModel$DirectiveRows", "flags", "I", false)
  | 17 => ("NumberHouseModel$DirectiveRows", "twice", "Z", false)
  | 18 => ("NumberHouseModel$DirectiveRows", "width", "I", false)
  | 19 => ("NumberHouseModel$DirectiveRows", "precision", "I", false)
  | 20 => ("NumberHouseModel$DirectiveRows", "conversion", "I", false)
  | 21 => ("NumberHouseModel$DirectiveRows", "argument", "I", false)
  | 22 => ("NumberHouseModel$DirectiveRows", "next", "I", false)
  | 23 => ("NumberHouseModel$DirectiveRows", "latest", "I", false)
  | 24 => ("NumberHouseModel$DirectiveRows", "piece", "[I", true)
  | 25 => ("NumberHouseModel$DirectiveRows", "size", "I", false)
  | 26 => ("NumberHouseModel$DirectiveRows", "front", "I", false)
  | 27 => ("NumberHouseModel$DirectiveRows", "padded", "Z", false)
  | 28 => ("NumberHouseModel$DirectiveRows", "figures", "[I", true)
  | 29 => ("NumberHouseModel$DirectiveRows", "many", "I", false)
  | _ => ("NumberHouseModel$DirectiveRows", "point", "I", false)
def t_VR : Nat → FieldType := fun k => match k with
  | 0 => .int
  | 1 => .array .int
  | 2 => .int
  | 3 => .int
  | 4 => .array .int
  | 5 => .array .int
  | 6 => .array .long
  | 7 => .array .int
  | 8 => .array .int
  | 9 => .int
  | 10 => .array .int
  | 11 => .int
  | 12 => .int
  | 13 => .int
  | 14 => .int
  | 15 => .int
  | 16 => .int
  | 17 => .boolean
  | 18 => .int
  | 19 => .int
  | 20 => .int
  | 21 => .int
  | 22 => .int
  | 23 => .int
  | 24 => .array .int
  | 25 => .int
  | 26 => .int
  | 27 => .boolean
  | 28 => .array .int
  | 29 => .int
  | _ => .int
theorem n_VR : ∀ a, a < 31 → ∀ b, b < 31 → a ≠ b → (F_VR a).2.1 ≠ (F_VR b).2.1 := by decide +kernel
theorem o_VR : ∀ k, k < 31 → parseFieldDescriptor (F_VR k).2.2.1 = some (t_VR k) := by decide +kernel
theorem i_VR : ∀ w ∈ u_ws R_VR F_VR 31, w ∈ q_tbl := by decide +kernel
/-- the classes whose objects the worlds hold -/
abbrev q_cl : List vw_C := [(R_NH, F_NH, 14), (R_She, F_She, 3), (R_Big, F_Big, 3), (R_Dec, F_Dec, 3), (R_Mil, F_Mil, 10), (R_DW, F_DW, 4), (R_Flo, F_Flo, 7), (R_Dig, F_Dig, 3), (R_Rea, F_Rea, 12), (R_Wri, F_Wri, 3), (R_Dir, F_Dir, 8), (R_Pri, F_Pri, 12), (R_NM, F_NM, 12), (R_WR, F_WR, 21), (R_DR, F_DR, 21), (R_FR, F_FR, 18), (R_TR, F_TR, 17), (R_VR, F_VR, 31)]
/-- the array classes: int, long, byte, boolean, and the three of references -/
abbrev q_ty (g : Nat → ClassId) : List (ClassId × FieldType) := [(g 0, .int), (g 1, .long), (g 2, .byte), (g 3, .boolean), (g 4, .object "NumberHouse$Big"), (g 5, .object "NumberHouse$Dec"), (g 6, .object "NumberHouse$Sheet")]

/-! the String constants of the class: whose, which entry, the text, its bytes -/
def q_ss : List (String × Nat × String × List Int32) := [
  ("NumberHouse$Directive", 61, "-#+0,(< ", [45, 35, 43, 48, 44, 40, 60, 32]),
  ("NumberHouse$Directive", 78, "bBsScCdoxXfeEgG%n", [98, 66, 115, 83, 99, 67, 100, 111, 120, 88, 102, 101, 69, 103, 71, 37, 110]),
  ("NumberHouse$Directive", 84, "cCdoxX%", [99, 67, 100, 111, 120, 88, 37]),
  ("NumberHouse$Directive", 89, "bBsScC%", [98, 66, 115, 83, 99, 67, 37]),
  ("NumberHouse$Directive", 91, "oxX", [111, 120, 88]),
  ("NumberHouse$Directive", 93, "dgG", [100, 103, 71]),
  ("NumberHouse$Directive", 95, "eE", [101, 69]),
  ("NumberHouse$Printer", 131, "%n", [37, 110]),
  ("NumberHouse$Printer", 150, "bBsS", [98, 66, 115, 83]),
  ("NumberHouse$Printer", 152, "cC", [99, 67]),
  ("NumberHouse$Printer", 154, "doxX", [100, 111, 120, 88]),
  ("NumberHouse$Printer", 159, "bB", [98, 66]),
  ("NumberHouse$Printer", 161, "false", [102, 97, 108, 115, 101]),
  ("NumberHouse$Printer", 163, "true", [116, 114, 117, 101]),
  ("NumberHouse$Printer", 172, "sS", [115, 83]),
  ("NumberHouse$Printer", 177, "null", [110, 117, 108, 108]),
  ("NumberHouse$Printer", 179, "oxX", [111, 120, 88]),
  ("NumberHouse$Printer", 208, "0", [48]),
  ("NumberHouse$Printer", 210, "0x", [48, 120]),
  ("NumberHouse$Printer", 214, "0123456789abcdefghijklmnopqrstuvwxyz", [48, 49, 50, 51, 52, 53, 54, 55, 56, 57, 97, 98, 99, 100, 101, 102, 103, 104, 105, 106, 107, 108, 109, 110, 111, 112, 113, 114, 115, 116, 117, 118, 119, 120, 121, 122]),
  ("NumberHouse$Reader", 89, "NaN", [78, 97, 78]),
  ("NumberHouse$Reader", 108, "Infinity", [73, 110, 102, 105, 110, 105, 116, 121]),
  ("NumberHouse$Writer", 54, "0123456789abcdefghijklmnopqrstuvwxyz", [48, 49, 50, 51, 52, 53, 54, 55, 56, 57, 97, 98, 99, 100, 101, 102, 103, 104, 105, 106, 107, 108, 109, 110, 111, 112, 113, 114, 115, 116, 117, 118, 119, 120, 121, 122]),
  ("NumberHouse$Writer", 127, "NaN", [78, 97, 78]),
  ("NumberHouse$Writer", 136, "Infinity", [73, 110, 102, 105, 110, 105, 116, 121]),
  ("NumberHouse$Writer", 141, "0x0.0p0", [48, 120, 48, 46, 48, 112, 48]),
  ("NumberHouse$Writer", 143, "0.0", [48, 46, 48]),
  ("NumberHouse$Writer", 177, "0x1.", [48, 120, 49, 46]),
  ("NumberHouse$Writer", 179, "0x0.", [48, 120, 48, 46])]

/-! the form of all contracts here: ONE list of cells ws, whole, before and behind a method; places in it by lookups -/
/-- the classes, the array classes and their names -/
def q_K (D : va_G) (g : Nat → ClassId) (U : State) : Prop := va_K D q_cl (q_ty g) U ∧ U.vm.findClass "[I" = some (g 0) ∧ U.vm.findClass "[J" = some (g 1) ∧ U.vm.findClass "[B" = some (g 2) ∧ U.vm.findClass "[Z" = some (g 3) ∧ U.vm.findClass "[LNumberHouse$Big;" = some (g 4) ∧ U.vm.findClass "[LNumberHouse$Dec;" = some (g 5) ∧ U.vm.findClass "[LNumberHouse$Sheet;" = some (g 6)
theorem q_K.moved {D : va_G} {g : Nat → ClassId} {u U : State} (hvm : u.vm.Alike U.vm) (h : q_K D g u) : q_K D g U := by
  obtain ⟨h0, h1, h2, h3, h4, h5, h6, h7⟩ := h
  exact ⟨h0.moved hvm, by rw [hvm.findClass]; exact h1, by rw [hvm.findClass]; exact h2, by rw [hvm.findClass]; exact h3, by rw [hvm.findClass]; exact h4, by rw [hvm.findClass]; exact h5, by rw [hvm.findClass]; exact h6, by rw [hvm.findClass]; exact h7⟩
/-- ten to the j, five to the j, as the tables of Big hold them -/
def q_ten (j : Nat) : Value := .int (Int32.ofNat (10 ^ j))
def q_five (j : Nat) : Value := .int (Int32.ofNat (5 ^ j))
/-- words of the tables that stay, but not by the kit's own list -/
def q_isOdd : Cond → Bool
  | .declares _ => true
  | .castable _ _ => true
  | .methodLinkNest _ _ _ _ => true
  | .fieldLinkNest _ _ _ _ _ _ => true
  | .stringRef _ _ _ => true
  | .arrayOver (.object _) => true
  | _ => false
def q_odd : List Cond := lw_tbl.filter q_isOdd
theorem q_oo {w : Cond} (i : Nat) (h : tables_1[i]? = some w) (g : q_isOdd w = true) : w ∈ q_odd := List.mem_filter.mpr ⟨List.mem_append_right _ (List.mem_of_getElem? h), g⟩
theorem q_oo1 {w : Cond} (i : Nat) (h : tables_1_1[i]? = some w) (g : q_isOdd w = true) : w ∈ q_odd := List.mem_filter.mpr ⟨List.mem_append_right _ (tm_1 i h), g⟩
theorem q_oo2 {w : Cond} (i : Nat) (h : tables_1_2[i]? = some w) (g : q_isOdd w = true) : w ∈ q_odd := List.mem_filter.mpr ⟨List.mem_append_right _ (tm_2 i h), g⟩
theorem q_oo3 {w : Cond} (i : Nat) (h : tables_1_3[i]? = some w) (g : q_isOdd w = true) : w ∈ q_odd := List.mem_filter.mpr ⟨List.mem_append_right _ (tm_3 i h), g⟩
theorem q_oo4 {w : Cond} (i : Nat) (h : tables_1_4[i]? = some w) (g : q_isOdd w = true) : w ∈ q_odd := List.mem_filter.mpr ⟨List.mem_append_right _ (tm_4 i h), g⟩
theorem q_oo5 {w : Cond} (i : Nat) (h : tables_1_5[i]? = some w) (g : q_isOdd w = true) : w ∈ q_odd := List.mem_filter.mpr ⟨List.mem_append_right _ (tm_5 i h), g⟩
theorem q_oo6 {w : Cond} (i : Nat) (h : tables_1_6[i]? = some w) (g : q_isOdd w = true) : w ∈ q_odd := List.mem_filter.mpr ⟨List.mem_append_right _ (tm_6 i h), g⟩
theorem q_oo7 {w : Cond} (i : Nat) (h : tables_1_7[i]? = some w) (g : q_isOdd w = true) : w ∈ q_odd := List.mem_filter.mpr ⟨List.mem_append_right _ (tm_7 i h), g⟩
theorem q_oo8 {w : Cond} (i : Nat) (h : tables_1_8[i]? = some w) (g : q_isOdd w = true) : w ∈ q_odd := List.mem_filter.mpr ⟨List.mem_append_right _ (tm_8 i h), g⟩
theorem q_oo9 {w : Cond} (i : Nat) (h : tables_1_9[i]? = some w) (g : q_isOdd w = true) : w ∈ q_odd := List.mem_filter.mpr ⟨List.mem_append_right _ (tm_9 i h), g⟩
theorem q_oo10 {w : Cond} (i : Nat) (h : tables_1_10[i]? = some w) (g : q_isOdd w = true) : w ∈ q_odd := List.mem_filter.mpr ⟨List.mem_append_right _ (tm_10 i h), g⟩
theorem q_oo11 {w : Cond} (i : Nat) (h : tables_1_11[i]? = some w) (g : q_isOdd w = true) : w ∈ q_odd := List.mem_filter.mpr ⟨List.mem_append_right _ (tm_11 i h), g⟩
theorem q_oo12 {w : Cond} (i : Nat) (h : tables_1_12[i]? = some w) (g : q_isOdd w = true) : w ∈ q_odd := List.mem_filter.mpr ⟨List.mem_append_right _ (tm_12 i h), g⟩
theorem q_oo13 {w : Cond} (i : Nat) (h : tables_1_13[i]? = some w) (g : q_isOdd w = true) : w ∈ q_odd := List.mem_filter.mpr ⟨List.mem_append_right _ (tm_13 i h), g⟩
theorem q_oo14 {w : Cond} (i : Nat) (h : tables_1_14[i]? = some w) (g : q_isOdd w = true) : w ∈ q_odd := List.mem_filter.mpr ⟨List.mem_append_right _ (tm_14 i h), g⟩
def q_T (U : State) : Prop := ∀ w ∈ q_odd, va_Nw w U
theorem q_sref {own tx : String} {k : Nat} {s U : State} (hW : s.WarmedH U.vm) (h : va_Nw (.stringRef own k tx) s) : va_Nw (.stringRef own k tx) U := by
  have hcur : ∃ cur, s.vm.findClass own = some cur := by
    have h1 : (Cond.stringRef own k tx).before #[] s = true := h
    simp only [Cond.before, Cond.holds, Cond.value] at h1
    cases hc : s.vm.findClass own with
    | none => simp [hc] at h1
    | some cur => exact ⟨cur, rfl⟩
  obtain ⟨cur, hcur⟩ := hcur
  obtain ⟨k9, cf, i9, a, -, -, -, -, -, hev⟩ := Cond.stringRef_spec hcur h
  exact (vk_R.warm hW ⟨h, hev⟩).1
theorem q_T.warm {s U : State} (hW : s.WarmedH U.vm) (h : q_T s) : q_T U := fun w hw => by
  have h1 := h w hw
  have h2 : q_isOdd w = true := (List.mem_filter.mp hw).2
  cases w with
  | arrayOver t =>
    cases t with
    | object C => exact va_AO.moved hW.alike h1
    | _ => exact absurd h2 (by simp [q_isOdd])
  | _ => first | exact va_Nw.warmD hW h1 | exact va_Nw.warmC hW h1 | exact va_Nw.warmM hW h1 | exact va_Nw.warmF hW h1 | exact q_sref hW h1 | (exact absurd h2 (by simp [q_isOdd]))
/-- a static field that holds a reference or null, and the cell that it lies in -/
def q_Sr (C n d : String) (A : Nat → Prop) (U : State) (H : Heap) : Prop := ∃ (c : ClassId) (k : Class) (i : Nat) (f : Field) (a : Nat) (cell : Cell) (v : Value), U.vm.findClass C = some c ∧ U.fieldFound? C n d = some (c, k, i, f) ∧ f.isStatic = true ∧ k.statics = some a ∧ H[a]? = some cell ∧ cell.vm.isStatics = true ∧ cell.cls = c ∧ f.slot < cell.slots.size ∧ k.staticTypes[f.slot]? = some f.type ∧ cell.slots[f.slot]? = some v ∧ (v = .null ∨ ∃ z, v = .ref z) ∧ ¬ A a
theorem q_Sr.moved {C n d : String} {A : Nat → Prop} {u U : State} {H : Heap} (hvm : u.vm.Alike U.vm) (h : q_Sr C n d A u H) : q_Sr C n d A U H := by
  obtain ⟨c, k, i, f, a, cell, v, h1, h2, h3, h4, h5, h6, h7, h8, h9, h10, h11, h12⟩ := h
  obtain ⟨k', hi', he⟩ := State.fieldFound?_setVm hvm h2
  exact ⟨c, k', i, f, a, cell, v, by rw [hvm.findClass]; exact h1, hi', h3, by rw [he]; exact h4, h5, h6, h7, h8, by rw [he]; exact h9, h10, h11, h12⟩
theorem q_Sr.kept {C n d : String} {A : Nat → Prop} {U : State} {H H1 : Heap} (h : q_Sr C n d A U H) (hq : ∀ a : Nat, a < H.size → ¬ A a → H1[a]? = H[a]?) : q_Sr C n d A U H1 := by
  obtain ⟨c, k, i, f, a, cell, v, h1, h2, h3, h4, h5, h6, h7, h8, h9, h10, h11, h12⟩ := h
  exact ⟨c, k, i, f, a, cell, v, h1, h2, h3, h4, by rw [hq a (Array.getElem?_eq_some_iff.mp h5).1 h12]; exact h5, h6, h7, h8, h9, h10, h11, h12⟩
theorem q_Sr.narrow {C n d : String} {A B : Nat → Prop} {U : State} {H : Heap} (h : q_Sr C n d A U H) (hAB : ∀ q, B q → A q) : q_Sr C n d B U H := by
  obtain ⟨c, k, i, f, a, cell, v, h1, h2, h3, h4, h5, h6, h7, h8, h9, h10, h11, h12⟩ := h
  exact ⟨c, k, i, f, a, cell, v, h1, h2, h3, h4, h5, h6, h7, h8, h9, h10, h11, fun z => h12 (hAB a z)⟩
theorem q_Sr.lays {C n d : String} {A : Nat → Prop} {U : State} {args : Array Value} (h : q_Sr C n d A U U.heap) : (Cond.laysStatic C n d).before args U = true := by
  obtain ⟨c, k, i, f, a, cell, v, h1, h2, h3, h4, h5, h6, h7, h8, h9, h10, h11, h12⟩ := h
  simp [Cond.before, Cond.holds, Cond.value, h1, h2, h3, h4, h5, h6, h7, h8, h9]
theorem q_Sr.ref {C n d : String} {A : Nat → Prop} {U : State} {args : Array Value} (h : q_Sr C n d A U U.heap) : (Cond.isRef (.static C n d)).before args U = true := by
  obtain ⟨c, k, i, f, a, cell, v, h1, h2, h3, h4, h5, h6, h7, h8, h9, h10, h11, h12⟩ := h
  have he : (Term.static C n d).eval args U none [] U = cell.slots[f.slot]? := by
    simp [Term.eval, State.fieldNamed?, h2, h3, h4, h5, h6]
  rcases h11 with rfl | ⟨z, rfl⟩ <;> simp [Cond.before, Cond.holds, Cond.value, he, h10]
abbrev q_tU : String := "[Ljava/lang/StackTraceElement;"
abbrev q_tS : String := "Ljava/util/List;"
/-- the statics: the two tables of Big, Throwable's two; and the words of the tables that stay in their own way -/
def q_Z0 (A : Nat → Prop) (U : State) (H : Heap) : Prop :=
  (∃ t : Nat, va_Z "NumberHouse$Big" "TENS" "[I" (.ref t) A U H ∧ va_T .int t 10 q_ten A U H) ∧ (∃ t : Nat, va_Z "NumberHouse$Big" "FIVES" "[I" (.ref t) A U H ∧ va_T .int t 14 q_five A U H) ∧ q_Sr "java/lang/Throwable" "UNASSIGNED_STACK" q_tU A U H ∧ q_Sr "java/lang/Throwable" "SUPPRESSED_SENTINEL" q_tS A U H ∧ q_T U
theorem q_Z0.warm {A : Nat → Prop} {u U : State} {H : Heap} (hW : u.WarmedH U.vm) (h : q_Z0 A u H) : q_Z0 A U H := by
  obtain ⟨⟨t, h1, h2⟩, ⟨t', h3, h4⟩, h5, h6, h7⟩ := h
  have hvm := hW.alike
  exact ⟨⟨t, h1.moved hvm, h2.moved hvm⟩, ⟨t', h3.moved hvm, h4.moved hvm⟩, h5.moved hvm, h6.moved hvm, h7.warm hW⟩
theorem q_Z0.kept {A : Nat → Prop} {U : State} {H H1 : Heap} (h : q_Z0 A U H) (hq : ∀ a : Nat, a < H.size → ¬ A a → H1[a]? = H[a]?) : q_Z0 A U H1 := by
  obtain ⟨⟨t, h1, h2⟩, ⟨t', h3, h4⟩, h5, h6, h7⟩ := h
  exact ⟨⟨t, h1.kept hq, h2.kept hq⟩, ⟨t', h3.kept hq, h4.kept hq⟩, h5.kept hq, h6.kept hq, h7⟩
theorem q_Z0.narrow {A B : Nat → Prop} {U : State} {H : Heap} (h : q_Z0 A U H) (hAB : ∀ q, B q → A q) : q_Z0 B U H := by
  obtain ⟨⟨t, h1, h2⟩, ⟨t', h3, h4⟩, h5, h6, h7⟩ := h
  exact ⟨⟨t, h1.narrow hAB, h2.narrow hAB⟩, ⟨t', h3.narrow hAB, h4.narrow hAB⟩, h5.narrow hAB, h6.narrow hAB, h7⟩
/-- the three kinds of exception are apart -/
def q_Nc (U : State) : Prop := va_Nc "java/lang/ArithmeticException" "java/lang/IllegalArgumentException" U ∧ va_Nc "java/lang/IllegalStateException" "java/lang/IllegalArgumentException" U ∧ va_Nc "java/lang/IllegalStateException" "java/lang/ArithmeticException" U
theorem q_Nc.moved {u U : State} (hvm : u.vm.Alike U.vm) (h : q_Nc u) : q_Nc U := ⟨h.1.moved hvm, h.2.1.moved hvm, h.2.2.moved hvm⟩
/-- a String constant: its object, its bytes; they lie where g says -/
def q_Ss (g : Nat → ClassId) (i : Nat) (o : String) (k : Nat) (x : String) (b : List Int32) (A : Nat → Prop) (U : State) (H : Heap) : Prop :=
  vk_R o k x (g (8 + 2 * i)) U ∧ va_O "java/lang/String" (g (8 + 2 * i)) A U H ∧ va_OF "java/lang/String" "coder" "B" (.int 0) (g (8 + 2 * i)) A U H ∧ va_OF "java/lang/String" "value" "[B" (.ref (g (9 + 2 * i))) (g (8 + 2 * i)) A U H ∧ va_T .byte (g (9 + 2 * i)) b.length (fun j => .int (b.getD j 0)) A U H
def q_St (g : Nat → ClassId) (A : Nat → Prop) (U : State) (H : Heap) : Prop :=
  (va_Z "java/lang/String" "COMPACT_STRINGS" "Z" (.int 1) A U H ∧ va_Zq "jdk/internal/util/Preconditions" "SIOOBE_FORMATTER" "Ljava/util/function/BiFunction;" A U H ∧ q_Nc U) ∧ ∀ i o k x b, q_ss[i]? = some (o, k, x, b) → q_Ss g i o k x b A U H
theorem q_St.warm {g : Nat → ClassId} {A : Nat → Prop} {u U : State} {H : Heap} (hW : u.WarmedH U.vm) (h : q_St g A u H) : q_St g A U H :=
  ⟨⟨h.1.1.moved hW.alike, h.1.2.1.moved hW.alike, h.1.2.2.moved hW.alike⟩, fun i o k x b e => by
    obtain ⟨h1, h2, h3, h4, h5⟩ := h.2 i o k x b e
    exact ⟨vk_R.warm hW h1, h2.moved hW.alike, h3.moved hW.alike, h4.moved hW.alike, h5.moved hW.alike⟩⟩
theorem q_St.kept {g : Nat → ClassId} {A : Nat → Prop} {U : State} {H H1 : Heap} (h : q_St g A U H) (hq : ∀ a : Nat, a < H.size → ¬ A a → H1[a]? = H[a]?) : q_St g A U H1 :=
  ⟨⟨h.1.1.kept hq, h.1.2.1.kept hq, h.1.2.2⟩, fun i o k x b e => by
    obtain ⟨h1, h2, h3, h4, h5⟩ := h.2 i o k x b e
    exact ⟨h1, h2.kept hq, h3.kept hq, h4.kept hq, h5.kept hq⟩⟩
theorem q_St.narrow {g : Nat → ClassId} {A B : Nat → Prop} {U : State} {H : Heap} (h : q_St g A U H) (hAB : ∀ q, B q → A q) : q_St g B U H :=
  ⟨⟨h.1.1.narrow hAB, h.1.2.1.narrow hAB, h.1.2.2⟩, fun i o k x b e => by
    obtain ⟨h1, h2, h3, h4, h5⟩ := h.2 i o k x b e
    exact ⟨h1, h2.narrow hAB, h3.narrow hAB, h4.narrow hAB, h5.narrow hAB⟩⟩
def q_Z (g : Nat → ClassId) (A : Nat → Prop) (U : State) (H : Heap) : Prop := q_Z0 A U H ∧ q_St g A U H
theorem q_Z.warm {g : Nat → ClassId} {A : Nat → Prop} {u U : State} {H : Heap} (hW : u.WarmedH U.vm) (h : q_Z g A u H) : q_Z g A U H := ⟨h.1.warm hW, h.2.warm hW⟩
theorem q_Z.kept {g : Nat → ClassId} {A : Nat → Prop} {U : State} {H H1 : Heap} (h : q_Z g A U H) (hq : ∀ a : Nat, a < H.size → ¬ A a → H1[a]? = H[a]?) : q_Z g A U H1 := ⟨h.1.kept hq, h.2.kept hq⟩
theorem q_Z.narrow {g : Nat → ClassId} {A B : Nat → Prop} {U : State} {H : Heap} (h : q_Z g A U H) (hAB : ∀ q, B q → A q) : q_Z g B U H := ⟨h.1.narrow hAB, h.2.narrow hAB⟩
/-- what a method finds: its arguments, a heap of sz cells that holds the world ws, the classes, the statics -/
def q_P (D : va_G) (g : Nat → ClassId) (av : List Value) (ws : va_W) (sz : Nat) : Array Value → State → Prop :=
  va_Pc av (fun U => U.heap.size = sz ∧ va_P D q_cl ws U.heap ∧ q_K D g U ∧ va_D (fun _ => True) ws ∧ q_Z g (va_A ws sz) U U.heap)
/-- and what it leaves -/
def q_B (D : va_G) (g : Nat → ClassId) (A : Nat → Prop) (ws : va_W) (t : State) : Prop := va_P D q_cl ws t.heap ∧ q_K D g t ∧ va_D A ws
abbrev q_w (y : MethodName) (b : ByteArray) (n : Nat) (r : Option FieldType) : List Cond := Cond.code y b n r :: q_tbl
abbrev q_rm (d mc ms : Nat) : Room := { frames := d, cells := mc, slots := ms, locals := 64 * d }
def q_mV (l : Launch) (y : MethodName) (b : ByteArray) (n d mc ms : Nat) (D : va_G) (g : Nat → ClassId) (av : List Value) (ws : va_W) (post : va_W → Prop) : Prop :=
  ∀ sz, Met l y (q_w y b n none) (q_rm d mc ms) (q_P D g av ws sz) (va_Qv post (q_B D g (va_A ws sz)) (va_A ws sz)) mc ms (va_A ws sz)
def q_mI (l : Launch) (y : MethodName) (b : ByteArray) (n : Nat) (r : FieldType) (d mc ms : Nat) (D : va_G) (g : Nat → ClassId) (av : List Value) (ws : va_W) (post : Int32 → va_W → Prop) : Prop :=
  ∀ sz, Met l y (q_w y b n (some r)) (q_rm d mc ms) (q_P D g av ws sz) (va_Qi post (q_B D g (va_A ws sz)) (va_A ws sz)) mc ms (va_A ws sz)
def q_mL (l : Launch) (y : MethodName) (b : ByteArray) (n d mc ms : Nat) (D : va_G) (g : Nat → ClassId) (av : List Value) (ws : va_W) (post : Int64 → va_W → Prop) : Prop :=
  ∀ sz, Met l y (q_w y b n (some .long)) (q_rm d mc ms) (q_P D g av ws sz) (va_Ql post (q_B D g (va_A ws sz)) (va_A ws sz)) mc ms (va_A ws sz)
/-- a reference: the world and the address -/
def q_mR (l : Launch) (y : MethodName) (b : ByteArray) (n : Nat) (r : FieldType) (d mc ms : Nat) (D : va_G) (g : Nat → ClassId) (av : List Value) (ws : va_W) (post : Nat → va_W → Prop) : Prop :=
  ∀ sz, Met l y (q_w y b n (some r)) (q_rm d mc ms) (q_P D g av ws sz) (va_Qr (fun u : Nat × va_W => post u.1 u.2) (fun u a t => a = u.1 ∧ q_B D g (va_A ws sz) u.2 t) (va_A ws sz)) mc ms (va_A ws sz)
/-- the machine inside a method -/
def q_At (p : Program) (s : State) (m : MethodId) (args : Array Value) (meth : Method) (c : Code) (y : MethodName) (b : ByteArray) (n : Nat) (r : Option FieldType) : Prop :=
  p.tables.exec = Jvm.exec ∧ c.code = b ∧ meth.sig.returnType = r ∧ c.maxLocals = n ∧ s.vm.findClass y.cls = some m.cls ∧ (∀ w ∈ q_tbl, w.before args s = true) ∧ meth.locks = false ∧ meth.name = y.name
/-- the world inside a method: all that stands of it at a heap H -/
def q_Wd (D : va_G) (g : Nat → ClassId) (A : Nat → Prop) (s : State) (ws : va_W) (H : Heap) (locs : List Loc) : Prop :=
  va_P D q_cl ws H ∧ va_D A ws ∧ va_S A s.heap H locs ∧ q_K D g s ∧ q_Z g A s s.heap ∧ ∀ q, s.heap.size ≤ q → A q
section QE
variable {l : Launch} {D : va_G} {g : Nat → ClassId}
theorem q_into {y : MethodName} {b : ByteArray} {n : Nat} {r : Option FieldType} {d mc ms : Nat} {av : List Value} {ws : va_W} {sz : Nat} {Qc : Array Value → State → Outcome → State → Prop} (hy : plainName y.cls = true) (hn : (lg_sl av).length ≤ n)
    (body : ∀ (p : Program) (e : Env) (s : State) (m : MethodId) (below : List Frame) (meth : Method) (c : Code) (ls : Array Slot), s.heap.size = sz → q_At p s m av.toArray meth c y b n r → q_Wd D g (va_A ws sz) s ws s.heap [] → lv_has ls n (lv_args 0 av) →
      W p l e (q_rm d mc ms) s m av.toArray below meth c s.heap [] 0 0 (MQ below Qc av.toArray s mc ms (va_A ws sz)) (F0 m 0 ls [])) :
    Met l y (q_w y b n r) (q_rm d mc ms) (q_P D g av ws sz) Qc mc ms (va_A ws sz) := by
  refine Met.ofW (cc := b) (maxL := n) (ret := r) hy rfl ?_
  intro p e s m args below meth c s₁ B hml hv
  obtain ⟨rfl, hsz, hP, hK, hD, hZ⟩ := hv
  have hts := atoms_spec (ws := q_w y b n r) B.pre
  have hl := lv_entry av (n := n) hn
  rw [lg_entry_eq]
  exact body p e s m below meth c _ hsz ⟨B.exec, B.bytes, B.returns, hml, findClass_of_methodNamed B.named, fun w h => hts w (List.mem_cons_of_mem _ h), B.notSynchronized, (name_of_methodNamed B.named B.method).1⟩
    ⟨hP, hD.self, va_S.rf, hK, hZ, fun q h => Or.inr (by rw [← hsz]; exact h)⟩ hl
end QE
section QR
variable {p : Program} {l : Launch} {e : Env} {R : Room} {s : State} {m : MethodId} {args : Array Value} {below : List Frame} {meth : Method} {c : Code} {H : Heap} {locs : List Loc} {cells slots : Nat} {Q : State → Prop}
variable {D : va_G} {g : Nat → ClassId} {A : Nat → Prop} {ws : va_W} {y0 : MethodName} {b0 : ByteArray} {n0 : Nat} {r0 : Option FieldType} {pc : Nat} {ls : Array Slot} {rest : List Value}
theorem q_ti {x v : Int32} (h : x = v) (k : W p l e R s m args below meth c H locs cells slots Q (F0 m pc ls (.int v :: rest))) : W p l e R s m args below meth c H locs cells slots Q (F0 m pc ls (.int x :: rest)) := h ▸ k
theorem q_tl {x v : Int64} (h : x = v) (k : W p l e R s m args below meth c H locs cells slots Q (F0 m pc ls (.long v :: rest))) : W p l e R s m args below meth c H locs cells slots Q (F0 m pc ls (.long x :: rest)) := h ▸ k
theorem q_retv {post : va_W → Prop} (C : q_At p s m args meth c y0 b0 n0 none) (V : q_Wd D g A s ws H locs) (hp : post ws) (hdg : decode b0 pc = .ok (.return_, 1)) :
    W p l e R s m args below meth c H locs cells slots (MQ below (va_Qv post (q_B D g A) A) args s cells slots A) (F0 m pc ls []) :=
  W.vret C.1 C.2.1 C.2.2.1 (fun t ht hW => ⟨⟨ws, rfl, hp, by rw [ht]; exact V.1, V.2.2.2.1.moved hW.alike, V.2.1⟩, V.2.2.1.F ht⟩) V.2.2.1.2.2 hdg C.2.2.2.2.2.2.1
theorem q_reti {post : Int32 → va_W → Prop} {v : Int32} (C : q_At p s m args meth c y0 b0 n0 (some .int)) (V : q_Wd D g A s ws H locs) (hp : post v ws) (hdg : decode b0 pc = .ok (.ireturn, 1)) :
    W p l e R s m args below meth c H locs cells slots (MQ below (va_Qi post (q_B D g A) A) args s cells slots A) (F0 m pc ls [.int v]) :=
  W.iret C.1 C.2.1 C.2.2.1 (fun t ht hW => ⟨⟨v, ws, rfl, hp, by rw [ht]; exact V.1, V.2.2.2.1.moved hW.alike, V.2.1⟩, V.2.2.1.F ht⟩) V.2.2.1.2.2 hdg C.2.2.2.2.2.2.1
theorem q_retz {post : Int32 → va_W → Prop} {v : Int32} (C : q_At p s m args meth c y0 b0 n0 (some .boolean)) (V : q_Wd D g A s ws H locs) (hn : narrow .boolean (.int v) = .int v) (hp : post v ws) (hdg : decode b0 pc = .ok (.ireturn, 1)) :
    W p l e R s m args below meth c H locs cells slots (MQ below (va_Qi post (q_B D g A) A) args s cells slots A) (F0 m pc ls [.int v]) :=
  W.zret C.1 C.2.1 C.2.2.1 hn (fun t ht hW => ⟨⟨v, ws, rfl, hp, by rw [ht]; exact V.1, V.2.2.2.1.moved hW.alike, V.2.1⟩, V.2.2.1.F ht⟩) V.2.2.1.2.2 hdg C.2.2.2.2.2.2.1
theorem q_retl {post : Int64 → va_W → Prop} {v : Int64} (C : q_At p s m args meth c y0 b0 n0 (some .long)) (V : q_Wd D g A s ws H locs) (hp : post v ws) (hdg : decode b0 pc = .ok (.lreturn, 1)) :
    W p l e R s m args below meth c H locs cells slots (MQ below (va_Ql post (q_B D g A) A) args s cells slots A) (F0 m pc ls [.long v]) :=
  W.lret C.1 C.2.1 C.2.2.1 (fun t ht hW => ⟨⟨v, ws, rfl, hp, by rw [ht]; exact V.1, V.2.2.2.1.moved hW.alike, V.2.1⟩, V.2.2.1.F ht⟩) V.2.2.1.2.2 hdg C.2.2.2.2.2.2.1
theorem q_retr {post : Nat → va_W → Prop} {v : Nat} {rt : FieldType} (C : q_At p s m args meth c y0 b0 n0 (some rt)) (V : q_Wd D g A s ws H locs) (hk : (∃ n, rt = .object n) ∨ ∃ t, rt = .array t) (hp : post v ws) (hdg : decode b0 pc = .ok (.areturn, 1)) :
    W p l e R s m args below meth c H locs cells slots (MQ below (va_Qr (fun u : Nat × va_W => post u.1 u.2) (fun u a t => a = u.1 ∧ q_B D g A u.2 t) A) args s cells slots A) (F0 m pc ls [.ref v]) :=
  W.aret C.1 C.2.1 C.2.2.1 hk (Or.inr ⟨v, rfl⟩) (fun t ht hW => ⟨⟨(v, ws), v, rfl, hp, rfl, by rw [ht]; exact V.1, V.2.2.2.1.moved hW.alike, V.2.1⟩, V.2.2.1.F ht⟩) V.2.2.1.2.2 hdg C.2.2.2.2.2.2.1
/-- lookups behind a write, behind a new cell -/
theorem q_ne {ws : va_W} {j k : Nat} {e f : Nat × va_E} (h : ws[j]? = some e) (n : j ≠ k) : (ws.set k f)[j]? = some e := by
  rw [List.getElem?_set_ne (Ne.symm n)]; exact h
theorem q_se {ws : va_W} {k : Nat} {e f : Nat × va_E} (h : ws[k]? = some e) : (ws.set k f)[k]? = some f := by
  have h1 := (List.getElem?_eq_some_iff.mp h).1
  simp [h1]
theorem q_pu {ws : va_W} {k : Nat} {e : Nat × va_E} {w2 : va_W} (h : ws[k]? = some e) : (ws ++ w2)[k]? = some e := by
  rw [List.getElem?_append_left (List.getElem?_eq_some_iff.mp h).1]; exact h
theorem q_df {ws : va_W} {j k : Nat} {a b : Nat} {x : ClassId × vp_A} {z : Nat × List Value} (h : ws[j]? = some (a, .inl x)) (h2 : ws[k]? = some (b, .inr z)) : j ≠ k := fun e => by
  subst e; rw [h] at h2; cases h2
theorem q_dc {ws : va_W} {j k : Nat} {a b : Nat} {x z : Nat × List Value} (h : ws[j]? = some (a, .inr x)) (h2 : ws[k]? = some (b, .inr z)) (n : x.1 ≠ z.1) : j ≠ k := fun e => by
  subst e; rw [h] at h2; cases h2; exact n rfl
theorem q_fr {A0 : Nat → Prop} {ws : va_W} {H0 H : Heap} {locs : List Loc} (hD : va_D A0 ws) (hS : va_S A0 H0 H locs) (hA : ∀ q, H0.size ≤ q → A0 q) : ∀ q, va_A ws H.size q → A0 q := by
  intro q h
  rcases h with ⟨k, e, hk⟩ | h
  · exact hD.2 k (q, e) hk
  · exact hA q (Nat.le_trans hS.1 h)
/-- all but the places ks are as they were -/
def q_un (ws u : va_W) (ks : List Nat) : Prop := ∀ i, i ∉ ks → u[i]? = ws[i]?
theorem q_u0 {ws : va_W} {ks : List Nat} : q_un ws ws ks := fun _ _ => rfl
theorem q_us {ws u u2 : va_W} {ks : List Nat} {k : Nat} (h : q_un ws u ks) (hu : ∀ i, i ≠ k → u2[i]? = u[i]?) (hk : k ∈ ks) : q_un ws u2 ks := fun j hj => (hu j (fun e => hj (e ▸ hk))).trans (h j hj)
theorem q_uc {ws u u2 : va_W} {ks k2 : List Nat} (h : q_un ws u ks) (hu : q_un u u2 k2) (hk : ∀ k, k ∈ k2 → k ∈ ks) : q_un ws u2 ks := fun j hj => (hu j (fun e => hj (hk j e))).trans (h j hj)
/-- a field is read; an own field is written -/
theorem q_get {C : String} {T : u_T} {N ci index : Nat} {own : String} {a : Nat} {fs : List Value} {v : Value} {k j : Nat} (C0 : q_At p s m args meth c y0 b0 n0 r0) (V : q_Wd D g A s ws H locs) (hin : ∀ w ∈ u_ws C T N, w ∈ q_tbl) (ho : y0.cls = own) (hc : q_cl[ci]? = some (C, T, N)) (he : ws[k]? = some (a, .inr (ci, fs))) (hj : j < N) (hw : Cond.fieldLink own index (T j).1 (T j).2.1 (T j).2.2.1 ∈ q_tbl) (hv : fs[j]? = some v) (hdg : decode b0 pc = .ok (.getfield index, 3))
    (kk : W p l e R s m args below meth c H locs cells slots Q (F0 m (pc + 3) ls (v :: rest))) : W p l e R s m args below meth c H locs cells slots Q (F0 m pc ls (.ref a :: rest)) :=
  va_get C0.1 C0.2.1 C0.2.2.2.2.2.1 hin (by rw [← ho]; exact C0.2.2.2.2.1) V.2.2.2.1.1 V.1 k he hc j hj (C0.2.2.2.2.2.1 _ hw) (fun _ h => h) hv hdg kk
theorem q_put {C : String} {T : u_T} {N ci index : Nat} {own : String} {a : Nat} {fs : List Value} {v : Value} {k j : Nat} {t : Nat → FieldType} {ty : FieldType} (C0 : q_At p s m args meth c y0 b0 n0 r0) (V : q_Wd D g A s ws H locs) (hin : ∀ w ∈ u_ws C T N, w ∈ q_tbl) (ht : ∀ k, k < N → parseFieldDescriptor (T k).2.2.1 = some (t k)) (hnm : ∀ a, a < N → ∀ b, b < N → a ≠ b → (T a).2.1 ≠ (T b).2.1) (ho : y0.cls = own) (hc : q_cl[ci]? = some (C, T, N)) (he : ws[k]? = some (a, .inr (ci, fs))) (hj : j < N) (hw : Cond.fieldLink own index (T j).1 (T j).2.1 (T j).2.2.1 ∈ q_tbl) (hfin : (T j).2.2.2 = false) (hty : t j = ty) (hn : narrow ty v = v) (hf : fits ty v = true) (hl : j < fs.length) (hdg : decode b0 pc = .ok (.putfield index, 3))
    (kk : ∀ (H1 : Heap) (locs1 : List Loc) (u : va_W), (∀ i, i ≠ k → u[i]? = ws[i]?) → u[k]? = some (a, .inr (ci, fs.set j v)) → q_Wd D g A s u H1 locs1 → W p l e R s m args below meth c H1 locs1 cells slots Q (F0 m (pc + 3) ls rest)) : W p l e R s m args below meth c H locs cells slots Q (F0 m pc ls (v :: .ref a :: rest)) :=
  va_put C0.1 C0.2.1 C0.2.2.2.2.2.1 hin t ht hnm (by rw [← ho]; exact C0.2.2.2.2.1) V.2.2.2.1.1 V.1 V.2.1 V.2.2.1 k he hc j hj (C0.2.2.2.2.2.1 _ hw) (fun _ h => h) hfin (by rw [← hty]; exact ht j hj) hn hf hl hdg
    (fun H1 locs1 h1 h2 h3 => kk H1 locs1 _ (fun i hi => List.getElem?_set_ne (Ne.symm hi)) (q_se he) ⟨h1, h2, h3, V.2.2.2.1, V.2.2.2.2.1, V.2.2.2.2.2⟩)
theorem q_putF {C : String} {T : u_T} {N ci index : Nat} {own : String} {a : Nat} {fs : List Value} {v : Value} {k j : Nat} {t : Nat → FieldType} {ty : FieldType} (C0 : q_At p s m args meth c y0 b0 n0 r0) (V : q_Wd D g A s ws H locs) (hin : ∀ w ∈ u_ws C T N, w ∈ q_tbl) (ht : ∀ k, k < N → parseFieldDescriptor (T k).2.2.1 = some (t k)) (hnm : ∀ a, a < N → ∀ b, b < N → a ≠ b → (T a).2.1 ≠ (T b).2.1) (ho : y0.cls = own) (hi : y0.name = "<init>") (hoT : (T j).1 = own) (hfin : (T j).2.2.2 = true) (hc : q_cl[ci]? = some (C, T, N)) (he : ws[k]? = some (a, .inr (ci, fs))) (hj : j < N) (hw : Cond.fieldLink own index (T j).1 (T j).2.1 (T j).2.2.1 ∈ q_tbl) (hty : t j = ty) (hn : narrow ty v = v) (hf : fits ty v = true) (hl : j < fs.length) (hdg : decode b0 pc = .ok (.putfield index, 3))
    (kk : ∀ (H1 : Heap) (locs1 : List Loc) (u : va_W), (∀ i, i ≠ k → u[i]? = ws[i]?) → u[k]? = some (a, .inr (ci, fs.set j v)) → q_Wd D g A s u H1 locs1 → W p l e R s m args below meth c H1 locs1 cells slots Q (F0 m (pc + 3) ls rest)) : W p l e R s m args below meth c H locs cells slots Q (F0 m pc ls (v :: .ref a :: rest)) :=
  va_putF C0.1 C0.2.1 C0.2.2.2.2.2.1 hin t ht hnm (by rw [← ho]; exact C0.2.2.2.2.1) V.2.2.2.1.1 V.1 V.2.1 V.2.2.1 k he hc j hj (C0.2.2.2.2.2.1 _ hw) (fun _ h => h) hfin (C0.2.2.2.2.2.2.2.trans hi) hoT (by rw [← hty]; exact ht j hj) hn hf hl hdg
    (fun H1 locs1 h1 h2 h3 => kk H1 locs1 _ (fun i hi => List.getElem?_set_ne (Ne.symm hi)) (q_se he) ⟨h1, h2, h3, V.2.2.2.1, V.2.2.2.2.1, V.2.2.2.2.2⟩)
end QR

/-! calls: the links of a class, the run of a callee, what goes on behind it -/
def q_LV (own : String) (index : Nat) (y : MethodName) (b : ByteArray) (n : Nat) (r : Option FieldType) (k : Nat) : Prop :=
  Cond.code y b n r ∈ q_tbl ∧ Cond.initialized y.cls ∈ q_tbl ∧ Cond.methodLink own index y ∈ q_tbl ∧ Cond.instanceMethod y ∈ q_tbl ∧ Cond.selects y.cls y y ∈ q_tbl ∧ (y.cls ≠ "java/lang/invoke/MethodHandle" ∧ y.cls ≠ "java/lang/invoke/VarHandle" ∧ (parseMethodDescriptor y.desc).map (fun d => d.parameters.length) = some k)
def q_LS (own : String) (index : Nat) (y : MethodName) (b : ByteArray) (n : Nat) (r : Option FieldType) (k : Nat) : Prop :=
  Cond.code y b n r ∈ q_tbl ∧ Cond.initialized y.cls ∈ q_tbl ∧ Cond.methodLink own index y ∈ q_tbl ∧ Cond.static y ∈ q_tbl ∧ (y.cls ≠ "java/lang/invoke/MethodHandle" ∧ y.cls ≠ "java/lang/invoke/VarHandle" ∧ (parseMethodDescriptor y.desc).map (fun d => d.parameters.length) = some k)
def q_LI (own : String) (index : Nat) (y : MethodName) (b : ByteArray) (n : Nat) (k : Nat) : Prop :=
  Cond.code y b n none ∈ q_tbl ∧ Cond.initialized y.cls ∈ q_tbl ∧ Cond.methodLink own index y ∈ q_tbl ∧ Cond.instanceMethod y ∈ q_tbl ∧ y.name = "<init>" ∧ (y.cls ≠ "java/lang/invoke/MethodHandle" ∧ y.cls ≠ "java/lang/invoke/VarHandle" ∧ (parseMethodDescriptor y.desc).map (fun d => d.parameters.length) = some k)
theorem q_gw {y : MethodName} {b : ByteArray} {n : Nat} {r : Option FieldType} (h : Cond.code y b n r ∈ q_tbl) : GoodIn q_tbl (q_w y b n r) := fun w hw => by
  rcases List.mem_cons.mp hw with rfl | hw
  · exact q_gi (fun _ h => h) _ h
  · exact q_gi (fun _ h => h) _ hw
theorem q_blind {D : va_G} {g : Nat → ClassId} {av : List Value} {ws : va_W} {sz : Nat} : FrameBlind (q_P D g av ws sz) := fun a U f mk h => by
  obtain ⟨h1, h2, h3, h4, h5, h6⟩ := h
  exact ⟨h1, h2, h3, q_K.moved (u := U) (U := U.calling f mk a) (Vm.Alike.refl U.vm) h4, h5, q_Z.warm (u := U) (U := U.calling f mk a) (State.WarmedH.refl U) h6⟩
theorem q_nc {a b : Nat} {l : List Nat} (h : a ≠ b) (hl : a ∉ l) : a ∉ b :: l := fun q => by
  rcases List.mem_cons.mp q with q | q
  · exact h q
  · exact hl q
theorem q_sc {b : Nat} {l ks : List Nat} (h : b ∈ ks) (hl : ∀ k, k ∈ l → k ∈ ks) : ∀ k, k ∈ b :: l → k ∈ ks := fun k q => by
  rcases List.mem_cons.mp q with q | q
  · exact q ▸ h
  · exact hl k q
section QC
variable {p : Program} {l : Launch} {e : Env} {R : Room} {s : State} {m : MethodId} {args : Array Value} {below : List Frame} {meth : Method} {c : Code} {H : Heap} {locs : List Loc} {cells slots : Nat} {Q : State → Prop}
variable {D : va_G} {g : Nat → ClassId} {A : Nat → Prop} {ws : va_W} {y0 : MethodName} {b0 : ByteArray} {n0 : Nat} {r0 : Option FieldType} {pc : Nat} {ls : Array Slot} {rest st0 As : List Value}
variable {own : String} {index : Nat} {y : MethodName} {b : ByteArray} {n k d mc ms : Nat} {r : Option FieldType} {Qc : Array Value → State → Outcome → State → Prop}
theorem q_pre {av : List Value} (V : q_Wd D g A s ws H locs) (U : State) (hU : U.heap = H) (hW : s.WarmedH U.vm) : q_P D g av ws H.size av.toArray U := by
  obtain ⟨hP, hD, hS, hK, hZ, hA⟩ := V
  refine ⟨rfl, by rw [hU], by rw [hU]; exact hP, hK.moved hW.alike, hD.weaken (fun _ _ _ _ => trivial), ?_⟩
  rw [hU]
  exact ((hZ.kept hS.2.1).narrow (q_fr hD hS hA)).warm hW
theorem q_callB (C0 : q_At p s m args meth c y0 b0 n0 r0) (h1 : Cond.code y b n r ∈ q_tbl) (h2 : Cond.initialized y.cls ∈ q_tbl) (h3 : Cond.methodLink own index y ∈ q_tbl) (hd : y.cls ≠ "java/lang/invoke/MethodHandle" ∧ y.cls ≠ "java/lang/invoke/VarHandle" ∧ (parseMethodDescriptor y.desc).map (fun d => d.parameters.length) = some k) (hR : d + 1 ≤ R.frames ∧ 8 + (n + 11) + 64 * d ≤ R.locals) :
    CallB R s args own index y b n r (q_w y b n r) (q_rm d mc ms) mc ms k :=
  callB_of k C0.2.2.2.2.2.1 (q_gw h1) rfl rfl rfl (C0.2.2.2.2.2.1 _ h2) (C0.2.2.2.2.2.1 _ h3) hd hR
theorem q_runV {a j ci : Nat} {fs : List Value} {q : vw_C} (C0 : q_At p s m args meth c y0 b0 n0 r0) (V : q_Wd D g A s ws H locs) (ho : y0.cls = own) (L : q_LV own index y b n r k) (hM : Met l y (q_w y b n r) (q_rm d mc ms) (q_P D g (.ref a :: As) ws H.size) Qc mc ms (va_A ws H.size)) (hc : q_cl[ci]? = some q) (hq : q.1 = y.cls) (he : ws[j]? = some (a, .inr (ci, fs))) (hn : As.length = k) (hsz : ls.size = n0) (hst : st0 = As.reverse ++ .ref a :: rest) (hcat : (rest.map fun v => v.category).sum ≤ 8) (hR : d + 1 ≤ R.frames ∧ 8 + (n + 11) + 64 * d ≤ R.locals) (hf : cells + mc ≤ R.cells ∧ slots + ms ≤ R.slots) (hdg : decode b0 pc = .ok (.invokevirtual index, 3)) :
    va_Run p l e R s m args below meth c H locs cells slots mc ms (F0 m pc ls st0) rest (Qc (Value.ref a :: As).toArray) (va_A ws H.size) :=
  va_runV (As := As) (rest := rest) (C := y.cls) ⟨C0.1, C0.2.1, C0.2.2.2.1, by rw [← ho]; exact C0.2.2.2.2.1, C0.2.2.2.2.2.1⟩ hM ⟨q_callB C0 L.1 L.2.1 L.2.2.1 L.2.2.2.2.2 hR, C0.2.2.2.2.2.1 _ L.2.2.2.1, C0.2.2.2.2.2.1 _ L.2.2.2.2.1⟩
    ⟨q_blind, by rw [← hq]; exact va_recv V.2.2.2.1.1 V.1 hc he, fun U hU hW => q_pre V U hU hW⟩ rfl hn hsz hst (lv_room hcat) hdg hf
theorem q_runS (C0 : q_At p s m args meth c y0 b0 n0 r0) (V : q_Wd D g A s ws H locs) (ho : y0.cls = own) (L : q_LS own index y b n r k) (hM : Met l y (q_w y b n r) (q_rm d mc ms) (q_P D g As ws H.size) Qc mc ms (va_A ws H.size)) (hn : As.length = k) (hsz : ls.size = n0) (hst : st0 = As.reverse ++ rest) (hcat : (rest.map fun v => v.category).sum ≤ 8) (hR : d + 1 ≤ R.frames ∧ 8 + (n + 11) + 64 * d ≤ R.locals) (hf : cells + mc ≤ R.cells ∧ slots + ms ≤ R.slots) (hdg : decode b0 pc = .ok (.invokestatic index, 3)) :
    va_Run p l e R s m args below meth c H locs cells slots mc ms (F0 m pc ls st0) rest (Qc As.toArray) (va_A ws H.size) :=
  va_runS (As := As) (rest := rest) ⟨C0.1, C0.2.1, C0.2.2.2.1, by rw [← ho]; exact C0.2.2.2.2.1, C0.2.2.2.2.2.1⟩ hM ⟨q_callB C0 L.1 L.2.1 L.2.2.1 L.2.2.2.2 hR, C0.2.2.2.2.2.1 _ L.2.2.2.1⟩
    ⟨q_blind, fun U hU hW => q_pre V U hU hW⟩ rfl hn hsz hst (lv_room hcat) hdg hf
theorem q_runI {a : Nat} (C0 : q_At p s m args meth c y0 b0 n0 r0) (V : q_Wd D g A s ws H locs) (ho : y0.cls = own) (L : q_LI own index y b n k) (hM : Met l y (q_w y b n none) (q_rm d mc ms) (q_P D g (.ref a :: As) ws H.size) Qc mc ms (va_A ws H.size)) (hn : As.length = k) (hsz : ls.size = n0) (hst : st0 = As.reverse ++ .ref a :: rest) (hcat : (rest.map fun v => v.category).sum ≤ 8) (hR : d + 1 ≤ R.frames ∧ 8 + (n + 11) + 64 * d ≤ R.locals) (hf : cells + mc ≤ R.cells ∧ slots + ms ≤ R.slots) (hdg : decode b0 pc = .ok (.invokespecial index, 3)) :
    va_Run p l e R s m args below meth c H locs cells slots mc ms (F0 m pc ls st0) rest (Qc (Value.ref a :: As).toArray) (va_A ws H.size) :=
  va_runI (As := As) (rest := rest) ⟨C0.1, C0.2.1, C0.2.2.2.1, by rw [← ho]; exact C0.2.2.2.2.1, C0.2.2.2.2.2.1⟩ hM ⟨q_callB C0 L.1 L.2.1 L.2.2.1 L.2.2.2.2.2 hR, L.2.2.2.2.1, C0.2.2.2.2.2.1 _ L.2.2.2.1⟩
    ⟨q_blind, fun U hU hW => q_pre V U hU hW⟩ rfl hn hsz hst (lv_room hcat) hdg hf
theorem q_gov {a : Array Value} {post : va_W → Prop} (V : q_Wd D g A s ws H locs) (hr : va_Run p l e R s m args below meth c H locs cells slots mc ms (F0 m pc ls st0) rest (va_Qv post (q_B D g (va_A ws H.size)) (va_A ws H.size) a) (va_A ws H.size))
    (kk : ∀ (ws1 : va_W) (H1 : Heap) (locs1 : List Loc), post ws1 → q_Wd D g A s ws1 H1 locs1 → W p l e R s m args below meth c H1 locs1 (cells + mc) (slots + ms) Q (F0 m (pc + 3) ls rest)) : W p l e R s m args below meth c H locs cells slots Q (F0 m pc ls st0) :=
  va_callv hr V.2.2.1 (fun q _ h => q_fr V.2.1 V.2.2.1 V.2.2.2.2.2 q h) (q_fr V.2.1 V.2.2.1 V.2.2.2.2.2) (fun u t H1 locs1 ht hvm hp hB hz hk hS => kk u H1 locs1 hp ⟨by rw [← ht]; exact hB.1, hB.2.2.weaken (fun _ q _ h => q_fr V.2.1 V.2.2.1 V.2.2.2.2.2 q.1 h), hS, V.2.2.2.1, V.2.2.2.2.1, V.2.2.2.2.2⟩)
theorem q_goi {a : Array Value} {post : Int32 → va_W → Prop} (V : q_Wd D g A s ws H locs) (hr : va_Run p l e R s m args below meth c H locs cells slots mc ms (F0 m pc ls st0) rest (va_Qi post (q_B D g (va_A ws H.size)) (va_A ws H.size) a) (va_A ws H.size))
    (kk : ∀ (v : Int32) (ws1 : va_W) (H1 : Heap) (locs1 : List Loc), post v ws1 → q_Wd D g A s ws1 H1 locs1 → W p l e R s m args below meth c H1 locs1 (cells + mc) (slots + ms) Q (F0 m (pc + 3) ls (.int v :: rest))) : W p l e R s m args below meth c H locs cells slots Q (F0 m pc ls st0) :=
  va_calli hr V.2.2.1 (fun q _ h => q_fr V.2.1 V.2.2.1 V.2.2.2.2.2 q h) (q_fr V.2.1 V.2.2.1 V.2.2.2.2.2) (fun v u t H1 locs1 ht hvm hp hB hz hk hS => kk v u H1 locs1 hp ⟨by rw [← ht]; exact hB.1, hB.2.2.weaken (fun _ q _ h => q_fr V.2.1 V.2.2.1 V.2.2.2.2.2 q.1 h), hS, V.2.2.2.1, V.2.2.2.2.1, V.2.2.2.2.2⟩)
theorem q_gol {a : Array Value} {post : Int64 → va_W → Prop} (V : q_Wd D g A s ws H locs) (hr : va_Run p l e R s m args below meth c H locs cells slots mc ms (F0 m pc ls st0) rest (va_Ql post (q_B D g (va_A ws H.size)) (va_A ws H.size) a) (va_A ws H.size))
    (kk : ∀ (v : Int64) (ws1 : va_W) (H1 : Heap) (locs1 : List Loc), post v ws1 → q_Wd D g A s ws1 H1 locs1 → W p l e R s m args below meth c H1 locs1 (cells + mc) (slots + ms) Q (F0 m (pc + 3) ls (.long v :: rest))) : W p l e R s m args below meth c H locs cells slots Q (F0 m pc ls st0) :=
  va_calll hr V.2.2.1 (fun q _ h => q_fr V.2.1 V.2.2.1 V.2.2.2.2.2 q h) (q_fr V.2.1 V.2.2.1 V.2.2.2.2.2) (fun v u t H1 locs1 ht hvm hp hB hz hk hS => kk v u H1 locs1 hp ⟨by rw [← ht]; exact hB.1, hB.2.2.weaken (fun _ q _ h => q_fr V.2.1 V.2.2.1 V.2.2.2.2.2 q.1 h), hS, V.2.2.2.1, V.2.2.2.2.1, V.2.2.2.2.2⟩)
end QC

/-! rows of single instructions over the one-list world -/
section QI
variable {p : Program} {l : Launch} {e : Env} {R : Room} {s : State} {m : MethodId} {args : Array Value} {below : List Frame} {meth : Method} {c : Code} {H : Heap} {locs : List Loc} {cells slots : Nat} {Q : State → Prop}
variable {D : va_G} {g : Nat → ClassId} {A : Nat → Prop} {ws : va_W} {y0 : MethodName} {b0 : ByteArray} {n0 : Nat} {r0 : Option FieldType} {pc : Nat} {ls : Array Slot} {rest : List Value} {a k n : Nat} {i : Int32} {own : String} {index : Nat}
theorem q_iald {f : Nat → Int32} (C0 : q_At p s m args meth c y0 b0 n0 r0) (V : q_Wd D g A s ws H locs) (he : ws[k]? = some (a, .inl (g 0, n, .inl f))) (hin : vp_in i n) (hdg : decode b0 pc = .ok (.iaload, 1))
    (kk : W p l e R s m args below meth c H locs cells slots Q (F0 m (pc + 1) ls (.int (f i.toNatClampNeg) :: rest))) : W p l e R s m args below meth c H locs cells slots Q (F0 m pc ls (.int i :: .ref a :: rest)) :=
  va_iald C0.1 C0.2.1 V.2.2.2.1.1 V.1 k 0 he rfl hin hdg kk
theorem q_bald {f : Nat → Int32} (C0 : q_At p s m args meth c y0 b0 n0 r0) (V : q_Wd D g A s ws H locs) (he : ws[k]? = some (a, .inl (g 2, n, .inl f))) (hin : vp_in i n) (hdg : decode b0 pc = .ok (.baload, 1))
    (kk : W p l e R s m args below meth c H locs cells slots Q (F0 m (pc + 1) ls (.int (f i.toNatClampNeg) :: rest))) : W p l e R s m args below meth c H locs cells slots Q (F0 m pc ls (.int i :: .ref a :: rest)) :=
  va_bald C0.1 C0.2.1 V.2.2.2.1.1 V.1 k 2 he rfl hin hdg kk
theorem q_zald {f : Nat → Int32} (C0 : q_At p s m args meth c y0 b0 n0 r0) (V : q_Wd D g A s ws H locs) (he : ws[k]? = some (a, .inl (g 3, n, .inl f))) (hin : vp_in i n) (hdg : decode b0 pc = .ok (.baload, 1))
    (kk : W p l e R s m args below meth c H locs cells slots Q (F0 m (pc + 1) ls (.int (f i.toNatClampNeg) :: rest))) : W p l e R s m args below meth c H locs cells slots Q (F0 m pc ls (.int i :: .ref a :: rest)) :=
  va_zald C0.1 C0.2.1 V.2.2.2.1.1 V.1 k 3 he rfl hin hdg kk
theorem q_lald {f : Nat → Int64} (C0 : q_At p s m args meth c y0 b0 n0 r0) (V : q_Wd D g A s ws H locs) (he : ws[k]? = some (a, .inl (g 1, n, .inr (.inl f)))) (hin : vp_in i n) (hdg : decode b0 pc = .ok (.laload, 1))
    (kk : W p l e R s m args below meth c H locs cells slots Q (F0 m (pc + 1) ls (.long (f i.toNatClampNeg) :: rest))) : W p l e R s m args below meth c H locs cells slots Q (F0 m pc ls (.int i :: .ref a :: rest)) :=
  va_lald C0.1 C0.2.1 V.2.2.2.1.1 V.1 k 1 he rfl hin hdg kk
/-- a reference out of an array of them: Big (4), Dec (5), Sheet (6) -/
theorem q_aald {t : Nat} {E : String} {f : Nat → Option Nat} {q : Nat} (C0 : q_At p s m args meth c y0 b0 n0 r0) (V : q_Wd D g A s ws H locs) (he : ws[k]? = some (a, .inl (g t, n, .inr (.inr (.inr (.inr f)))))) (ht : (q_ty g)[t]? = some (g t, .object E)) (hin : vp_in i n) (hq : f i.toNatClampNeg = some q) (hdg : decode b0 pc = .ok (.aaload, 1))
    (kk : W p l e R s m args below meth c H locs cells slots Q (F0 m (pc + 1) ls (.ref q :: rest))) : W p l e R s m args below meth c H locs cells slots Q (F0 m pc ls (.int i :: .ref a :: rest)) :=
  va_aldq C0.1 C0.2.1 V.2.2.2.1.1 V.1 k t he ht hin hdg (by rw [hq]; exact kk)
theorem q_iast {f : Nat → Int32} {x : Int32} (C0 : q_At p s m args meth c y0 b0 n0 r0) (V : q_Wd D g A s ws H locs) (he : ws[k]? = some (a, .inl (g 0, n, .inl f))) (hin : vp_in i n) (hdg : decode b0 pc = .ok (.iastore, 1))
    (kk : ∀ (H1 : Heap) (locs1 : List Loc) (u : va_W), (∀ i, i ≠ k → u[i]? = ws[i]?) → u[k]? = some (a, .inl (g 0, n, .inl (upd f i.toNatClampNeg x))) → q_Wd D g A s u H1 locs1 → W p l e R s m args below meth c H1 locs1 cells slots Q (F0 m (pc + 1) ls rest)) : W p l e R s m args below meth c H locs cells slots Q (F0 m pc ls (.int x :: .int i :: .ref a :: rest)) :=
  va_iast C0.1 C0.2.1 V.2.2.2.1.1 V.1 V.2.1 V.2.2.1 k 0 he rfl hin hdg (fun H1 locs1 h1 h2 h3 => kk H1 locs1 _ (fun i hi => List.getElem?_set_ne (Ne.symm hi)) (q_se he) ⟨h1, h2, h3, V.2.2.2.1, V.2.2.2.2.1, V.2.2.2.2.2⟩)
theorem q_bast {f : Nat → Int32} {x : Int32} (C0 : q_At p s m args meth c y0 b0 n0 r0) (V : q_Wd D g A s ws H locs) (he : ws[k]? = some (a, .inl (g 2, n, .inl f))) (hin : vp_in i n) (hdg : decode b0 pc = .ok (.bastore, 1))
    (kk : ∀ (H1 : Heap) (locs1 : List Loc) (u : va_W), (∀ i, i ≠ k → u[i]? = ws[i]?) → u[k]? = some (a, .inl (g 2, n, .inl (upd f i.toNatClampNeg (vp_nar .byte x)))) → q_Wd D g A s u H1 locs1 → W p l e R s m args below meth c H1 locs1 cells slots Q (F0 m (pc + 1) ls rest)) : W p l e R s m args below meth c H locs cells slots Q (F0 m pc ls (.int x :: .int i :: .ref a :: rest)) :=
  va_bast C0.1 C0.2.1 V.2.2.2.1.1 V.1 V.2.1 V.2.2.1 k 2 he rfl hin hdg (fun H1 locs1 h1 h2 h3 => kk H1 locs1 _ (fun i hi => List.getElem?_set_ne (Ne.symm hi)) (q_se he) ⟨h1, h2, h3, V.2.2.2.1, V.2.2.2.2.1, V.2.2.2.2.2⟩)
theorem q_last {f : Nat → Int64} {x : Int64} (C0 : q_At p s m args meth c y0 b0 n0 r0) (V : q_Wd D g A s ws H locs) (he : ws[k]? = some (a, .inl (g 1, n, .inr (.inl f)))) (hin : vp_in i n) (hdg : decode b0 pc = .ok (.lastore, 1))
    (kk : ∀ (H1 : Heap) (locs1 : List Loc) (u : va_W), (∀ i, i ≠ k → u[i]? = ws[i]?) → u[k]? = some (a, .inl (g 1, n, .inr (.inl (vp_updL f i.toNatClampNeg x)))) → q_Wd D g A s u H1 locs1 → W p l e R s m args below meth c H1 locs1 cells slots Q (F0 m (pc + 1) ls rest)) : W p l e R s m args below meth c H locs cells slots Q (F0 m pc ls (.long x :: .int i :: .ref a :: rest)) :=
  va_last C0.1 C0.2.1 V.2.2.2.1.1 V.1 V.2.1 V.2.2.1 k 1 he rfl hin hdg (fun H1 locs1 h1 h2 h3 => kk H1 locs1 _ (fun i hi => List.getElem?_set_ne (Ne.symm hi)) (q_se he) ⟨h1, h2, h3, V.2.2.2.1, V.2.2.2.2.1, V.2.2.2.2.2⟩)
theorem q_alen {t : Nat} {ty : FieldType} {x : vp_A} {v : Int32} (C0 : q_At p s m args meth c y0 b0 n0 r0) (V : q_Wd D g A s ws H locs) (he : ws[k]? = some (a, .inl (g t, x))) (ht : (q_ty g)[t]? = some (g t, ty)) (hv : Int32.ofNat x.1 = v) (hdg : decode b0 pc = .ok (.arraylength, 1))
    (kk : W p l e R s m args below meth c H locs cells slots Q (F0 m (pc + 1) ls (.int v :: rest))) : W p l e R s m args below meth c H locs cells slots Q (F0 m pc ls (.ref a :: rest)) :=
  va_alen C0.1 C0.2.1 V.2.2.2.1.1 V.1 k t he ht hv hdg kk
/-- the numbers that the tables of constants hold -/
theorem q_ldc2 {v : Int64} (C0 : q_At p s m args meth c y0 b0 n0 r0) (ho : y0.cls = own) (hw : Cond.constantLong own index v ∈ q_tbl) (hdg : decode b0 pc = .ok (.ldc2_w index, 3))
    (kk : W p l e R s m args below meth c H locs cells slots Q (F0 m (pc + 3) ls (.long v :: rest))) : W p l e R s m args below meth c H locs cells slots Q (F0 m pc ls rest) :=
  lv_ldc2 C0.1 C0.2.1 (by rw [← ho]; exact C0.2.2.2.2.1) (C0.2.2.2.2.2.1 _ hw) hdg kk
theorem q_ldc {v : Int32} (C0 : q_At p s m args meth c y0 b0 n0 r0) (ho : y0.cls = own) (hw : Cond.constant own index v ∈ q_tbl) (hdg : decode b0 pc = .ok (.ldc index, 2))
    (kk : W p l e R s m args below meth c H locs cells slots Q (F0 m (pc + 2) ls (.int v :: rest))) : W p l e R s m args below meth c H locs cells slots Q (F0 m pc ls rest) :=
  lv_ldc C0.1 C0.2.1 (by rw [← ho]; exact C0.2.2.2.2.1) (C0.2.2.2.2.2.1 _ hw) hdg kk
/-- Math's own methods -/
theorem q_max {x y : Int32} (C0 : q_At p s m args meth c y0 b0 n0 r0) (hsz : ls.size = n0) (ho : y0.cls = own) (h1 : Cond.methodLink own index Lib.Math.max.name ∈ q_tbl) (h2 : Cond.static Lib.Math.max.name ∈ q_tbl) (h3 : Cond.initialized "java/lang/Math" ∈ q_tbl) (h4 : Cond.code Lib.Math.max.name Lib.Math.max.code 2 (some .int) ∈ q_tbl) (hR : 1 ≤ R.frames ∧ (rest.map fun v => v.category).sum + 13 ≤ R.locals) (hf : cells ≤ R.cells ∧ slots ≤ R.slots) (hdg : decode b0 pc = .ok (.invokestatic index, 3))
    (kk : W p l e R s m args below meth c H locs cells slots Q (F0 m (pc + 3) ls (.int (if x < y then y else x) :: rest))) : W p l e R s m args below meth c H locs cells slots Q (F0 m pc ls (.int y :: .int x :: rest)) :=
  va_mmax C0.1 C0.2.1 (by rw [hsz]; exact C0.2.2.2.1) (by rw [← ho]; exact C0.2.2.2.2.1) (C0.2.2.2.2.2.1 _ h1) (C0.2.2.2.2.2.1 _ h2) (C0.2.2.2.2.2.1 _ h3) (C0.2.2.2.2.2.1 _ h4) hR.1 hR.2 hf.1 hf.2 hdg kk
theorem q_min {x y : Int32} (C0 : q_At p s m args meth c y0 b0 n0 r0) (hsz : ls.size = n0) (ho : y0.cls = own) (h1 : Cond.methodLink own index Lib.Math.min.name ∈ q_tbl) (h2 : Cond.static Lib.Math.min.name ∈ q_tbl) (h3 : Cond.initialized "java/lang/Math" ∈ q_tbl) (h4 : Cond.code Lib.Math.min.name Lib.Math.min.code 2 (some .int) ∈ q_tbl) (hR : 1 ≤ R.frames ∧ (rest.map fun v => v.category).sum + 13 ≤ R.locals) (hf : cells ≤ R.cells ∧ slots ≤ R.slots) (hdg : decode b0 pc = .ok (.invokestatic index, 3))
    (kk : W p l e R s m args below meth c H locs cells slots Q (F0 m (pc + 3) ls (.int (if y < x then y else x) :: rest))) : W p l e R s m args below meth c H locs cells slots Q (F0 m pc ls (.int y :: .int x :: rest)) :=
  va_mmin C0.1 C0.2.1 (by rw [hsz]; exact C0.2.2.2.1) (by rw [← ho]; exact C0.2.2.2.2.1) (C0.2.2.2.2.2.1 _ h1) (C0.2.2.2.2.2.1 _ h2) (C0.2.2.2.2.2.1 _ h3) (C0.2.2.2.2.2.1 _ h4) hR.1 hR.2 hf.1 hf.2 hdg kk
theorem q_absl {x : Int64} (C0 : q_At p s m args meth c y0 b0 n0 r0) (hsz : ls.size = n0) (ho : y0.cls = own) (h1 : Cond.methodLink own index Lib.MathLoose.abs_long.x ∈ q_tbl) (h2 : Cond.static Lib.MathLoose.abs_long.x ∈ q_tbl) (h3 : Cond.initialized "java/lang/Math" ∈ q_tbl) (h4 : Cond.code Lib.MathLoose.abs_long.x Lib.MathLoose.abs_long.code 2 (some .long) ∈ q_tbl) (hR : 1 ≤ R.frames ∧ (rest.map fun v => v.category).sum + 13 ≤ R.locals) (hf : cells ≤ R.cells ∧ slots ≤ R.slots) (hdg : decode b0 pc = .ok (.invokestatic index, 3))
    (kk : W p l e R s m args below meth c H locs cells slots Q (F0 m (pc + 3) ls (.long (if 0 < x then x else -x) :: rest))) : W p l e R s m args below meth c H locs cells slots Q (F0 m pc ls (.long x :: rest)) :=
  va_mabs_long C0.1 C0.2.1 (by rw [hsz]; exact C0.2.2.2.1) (by rw [← ho]; exact C0.2.2.2.2.1) (C0.2.2.2.2.2.1 _ h1) (C0.2.2.2.2.2.1 _ h2) (C0.2.2.2.2.2.1 _ h3) (C0.2.2.2.2.2.1 _ h4) hR.1 hR.2 hf.1 hf.2 hdg kk
theorem q_obj (C0 : q_At p s m args meth c y0 b0 n0 r0) (hsz : ls.size = n0) (ho : y0.cls = own) (h1 : Cond.methodLink own index Lib.objectInit ∈ q_tbl) (h2 : Cond.instanceMethod Lib.objectInit ∈ q_tbl) (h3 : Cond.code Lib.objectInit ⟨#[0xb1]⟩ 1 none ∈ q_tbl) (hR : 1 ≤ R.frames ∧ (rest.map fun v => v.category).sum + 12 ≤ R.locals) (hdg : decode b0 pc = .ok (.invokespecial index, 3))
    (kk : W p l e R s m args below meth c H locs cells slots Q (F0 m (pc + 3) ls rest)) : W p l e R s m args below meth c H locs cells slots Q (F0 m pc ls (.ref a :: rest)) :=
  W.objInit C0.1 C0.2.1 (by rw [← ho]; exact C0.2.2.2.2.1) (C0.2.2.2.2.2.1 _ h1) (C0.2.2.2.2.2.1 _ h2) (C0.2.2.2.2.2.1 _ h3) rfl (by rw [C0.2.2.2.1]; exact hsz) rfl hdg hR.1 (by show 2 * 0 + _ + 12 ≤ _; omega) kk
end QI

/-! methods that may throw: the form of their contracts, their calls, the way out, the catch -/
/-- an exception q of the class E has left the method; u is the world behind it -/
def q_thr (D : va_G) (g : Nat → ClassId) (A : Nat → Prop) (px : String → va_W → Prop) (mc ms : Nat) (st : State) (o : Outcome) (t : State) : Prop :=
  ∃ (q : Nat) (E : String) (ce : Cell) (u : va_W) (L : List Loc), o = .threw q ∧ px E u ∧ q_B D g A u t ∧ va_F A st t ∧ t.heap[q]? = some ce ∧ ce.vm = .none ∧ st.vm.findClass E = some ce.cls ∧ st.WarmedH t.vm ∧ st.sameButNew ({ t with vm := st.vm } : State) L mc ms ∧ ∀ z ∈ L, A z.base
def q_or (Qc : Array Value → State → Outcome → State → Prop) (D : va_G) (g : Nat → ClassId) (A : Nat → Prop) (px : String → va_W → Prop) (mc ms : Nat) : Array Value → State → Outcome → State → Prop := fun a st o t =>
  (Qc a st o t ∧ ∃ L, FrameEnd st o t L mc ms ∧ ∀ q ∈ L, A q.base) ∨ q_thr D g A px mc ms st o t
/-- a contract with two ends -/
def q_Mx (l : Launch) (y : MethodName) (b : ByteArray) (n : Nat) (r : Option FieldType) (d mc ms : Nat) (D : va_G) (g : Nat → ClassId) (av : List Value) (ws : va_W) (sz : Nat) (Qc : Array Value → State → Outcome → State → Prop) (px : String → va_W → Prop) : Prop :=
  MetFree l y (headSpec (q_w y b n r) (q_rm d mc ms)) (q_P D g av ws sz) (fun _ _ _ _ _ => True) (q_or Qc D g (va_A ws sz) px mc ms)
def q_xV (l : Launch) (y : MethodName) (b : ByteArray) (n d mc ms : Nat) (D : va_G) (g : Nat → ClassId) (av : List Value) (ws : va_W) (post : va_W → Prop) (px : String → va_W → Prop) : Prop :=
  ∀ sz, q_Mx l y b n none d mc ms D g av ws sz (va_Qv post (q_B D g (va_A ws sz)) (va_A ws sz)) px
def q_xI (l : Launch) (y : MethodName) (b : ByteArray) (n : Nat) (r : FieldType) (d mc ms : Nat) (D : va_G) (g : Nat → ClassId) (av : List Value) (ws : va_W) (post : Int32 → va_W → Prop) (px : String → va_W → Prop) : Prop :=
  ∀ sz, q_Mx l y b n (some r) d mc ms D g av ws sz (va_Qi post (q_B D g (va_A ws sz)) (va_A ws sz)) px
def q_xL (l : Launch) (y : MethodName) (b : ByteArray) (n d mc ms : Nat) (D : va_G) (g : Nat → ClassId) (av : List Value) (ws : va_W) (post : Int64 → va_W → Prop) (px : String → va_W → Prop) : Prop :=
  ∀ sz, q_Mx l y b n (some .long) d mc ms D g av ws sz (va_Ql post (q_B D g (va_A ws sz)) (va_A ws sz)) px
/-- what a body owes at its end -/
def q_MQX (below : List Frame) (Qc : Array Value → State → Outcome → State → Prop) (D : va_G) (g : Nat → ClassId) (A : Nat → Prop) (px : String → va_W → Prop) (a : Array Value) (s : State) (mc ms : Nat) : State → Prop := fun t =>
  ∃ o, t.status = .running ∧ Ended t below o ∧ q_or Qc D g A px mc ms a s o t
section QXE
variable {l : Launch} {D : va_G} {g : Nat → ClassId}
theorem q_intoX {y : MethodName} {b : ByteArray} {n : Nat} {r : Option FieldType} {d mc ms : Nat} {av : List Value} {ws : va_W} {sz : Nat} {Qc : Array Value → State → Outcome → State → Prop} {px : String → va_W → Prop} (hy : plainName y.cls = true) (hn : (lg_sl av).length ≤ n)
    (body : ∀ (p : Program) (e : Env) (s : State) (m : MethodId) (below : List Frame) (meth : Method) (c : Code) (ls : Array Slot), s.heap.size = sz → q_At p s m av.toArray meth c y b n r → q_Wd D g (va_A ws sz) s ws s.heap [] → c.exceptionTable.isEmpty = true → lv_has ls n (lv_args 0 av) →
      W p l e (q_rm d mc ms) s m av.toArray below meth c s.heap [] 0 0 (q_MQX below Qc D g (va_A ws sz) px av.toArray s mc ms) (F0 m 0 ls [])) :
    q_Mx l y b n r d mc ms D g av ws sz Qc px := by
  refine MetFree.of_bodyS (code := b) (maxLocals := n) (ret := r) hy ?_ ?_
  · intro args s m h hnm
    obtain ⟨meth, c, h1, h2, h3, h4, h5, h6, -, -⟩ := Cond.code_spec hnm (atoms_spec (ws := q_w y b n r) h _ List.mem_cons_self)
    exact ⟨meth, c, h1, h2, h3, h4, h5, h6⟩
  · intro p e s m args below meth c s₁ B hml hv _
    obtain ⟨rfl, hsz, hP, hK, hD, hZ⟩ := hv
    have hts := atoms_spec (ws := q_w y b n r) B.pre
    have hh0 : s₁.heap = s.heap := by rw [B.state]; rfl
    have hl := lv_entry av (n := n) hn
    have K := body p e s m below meth c _ hsz ⟨B.exec, B.bytes, B.returns, hml, findClass_of_methodNamed B.named, fun w h => hts w (List.mem_cons_of_mem _ h), B.notSynchronized, (name_of_methodNamed B.named B.method).1⟩
      ⟨hP, hD.self, va_S.rf, hK, hZ, fun q h => Or.inr (by rw [← hsz]; exact h)⟩ (B.noHandlers (hts _ List.mem_cons_self)) hl
    rw [← lg_entry_eq] at K
    obtain ⟨t, a1, o, b1, b2, b3⟩ := K s₁ hh0 (Stand.of_body B)
    exact ⟨t, o, a1, b1, b2, b3⟩
end QXE
section QX
variable {p : Program} {l : Launch} {e : Env} {R : Room} {s : State} {m : MethodId} {args : Array Value} {below : List Frame} {meth : Method} {c : Code} {H : Heap} {locs : List Loc} {cells slots : Nat} {Q : State → Prop}
variable {D : va_G} {g : Nat → ClassId} {A : Nat → Prop} {ws : va_W} {y0 : MethodName} {b0 : ByteArray} {n0 : Nat} {r0 : Option FieldType} {pc : Nat} {ls : Array Slot} {rest st0 As : List Value}
variable {own : String} {index : Nat} {y : MethodName} {b : ByteArray} {n k d mc ms : Nat} {r : Option FieldType} {Qc : Array Value → State → Outcome → State → Prop} {px : String → va_W → Prop}
/-- the frame f, and q thrown over it -/
def q_WT (p : Program) (l : Launch) (e : Env) (R : Room) (s : State) (m : MethodId) (args : Array Value) (below : List Frame) (meth : Method) (c : Code) (H : Heap) (locs : List Loc) (cells slots : Nat) (Q : State → Prop) (f : JFrame) (q : Nat) : Prop :=
  ∀ T : State, T.heap = H → Stand p l e R s m args below meth c T locs cells slots → ∃ t, Steps p.tables e below ((T.setTop f).pushFrame (.throwing q)) t ∧ Q t
/-- a return, where a throw might have been -/
theorem q_retX {f : JFrame} (h : W p l e R s m args below meth c H locs cells slots (MQ below Qc args s mc ms A) f) : W p l e R s m args below meth c H locs cells slots (q_MQX below Qc D g A px args s mc ms) f := fun T hT X => by
  obtain ⟨t, a1, o, b1, b2, b3⟩ := h T hT X
  exact ⟨t, a1, o, b1, b2, Or.inl b3⟩
/-- nothing catches it here -/
theorem q_outT {E : String} {ce : Cell} {q : Nat} (hno : c.exceptionTable.isEmpty = true) (C0 : q_At p s m args meth c y0 b0 n0 r0) (V : q_Wd D g A s ws H locs) (hp : px E ws) (hcell : H[q]? = some ce) (hv : ce.vm = .none) (hcl : s.vm.findClass E = some ce.cls) (hc : cells ≤ mc) (hs : slots ≤ ms) :
    q_WT p l e R s m args below meth c H locs cells slots (q_MQX below Qc D g A px args s mc ms) (F0 m pc ls rest) q := by
  intro T hT X
  have hnil : c.exceptionTable.toList = [] := by
    have := Array.isEmpty_iff.mp hno
    rw [this]
  obtain ⟨st1, hrun, hend, hW, hsm⟩ := X.leaveThrown q (g := F0 m pc ls rest) rfl rfl rfl (by rw [hnil]; intro x hx; cases hx) C0.2.2.2.2.2.2.1
  have hh : (T.setFrames (.throwing q :: below)).heap = H := hT
  exact ⟨_, st1, .threw q, hrun, hend, Or.inr ⟨q, E, ce, ws, locs, rfl, hp, ⟨by rw [hh]; exact V.1, V.2.2.2.1.moved hW.alike, V.2.1⟩, V.2.2.1.F hh, by rw [hh]; exact hcell, hv, hcl, hW, hsm.mono hc hs, V.2.2.1.2.2⟩⟩
/-- a callee that may throw, from the invoking step on -/
theorem q_core {av : List Value} {U : State} {f : JFrame} {ig : Instr} {mk : MethodId} (hM : q_Mx l y b n r d mc ms D g av ws H.size Qc px) (X : Stand p l e R s m args below meth c U locs cells slots) (hg : f.method = m) (hsize : f.locals.size = c.maxLocals) (hdg : decode c.code f.pc = .ok (ig, 3)) (hW8 : 2 * f.monitorRoom + (f.stack.map fun v => v.category).sum ≤ 8) (hn : U.methodNamed? y = some mk)
    (hws : ∀ w ∈ q_w y b n r, w.before av.toArray U = true) (hini : (Cond.initialized y.cls).before av.toArray U = true) (hP : q_P D g av ws H.size av.toArray U) (hR : d + 1 ≤ R.frames ∧ 8 + (n + 11) + 64 * d ≤ R.locals) (hf : cells + mc ≤ R.cells ∧ slots + ms ≤ R.slots) :
    (∃ (v : Option Value) (t T' : State) (L : List Loc), Stand p l e R s m args below meth c T' (locs ++ L) (cells + mc) (slots + ms) ∧ T'.heap = t.heap ∧ T'.vm = t.vm ∧ Qc av.toArray (U.calling f mk av.toArray) (.returned v) t ∧ (∀ q ∈ L, va_A ws H.size q.base) ∧
      Steps p.tables e below (doInvoke e (U.setTop f) [] mk av.toArray).1 (T'.setTop { f with pc := f.pc + 3, stack := v.toList ++ f.stack })) ∨
    (∃ (q : Nat) (E : String) (ce : Cell) (u : va_W) (t T' : State) (L : List Loc), Stand p l e R s m args below meth c T' (locs ++ L) (cells + mc) (slots + ms) ∧ T'.heap = t.heap ∧ T'.vm = t.vm ∧ px E u ∧ q_B D g (va_A ws H.size) u t ∧ va_F (va_A ws H.size) (U.calling f mk av.toArray) t ∧ t.heap[q]? = some ce ∧ ce.vm = .none ∧ U.vm.findClass E = some ce.cls ∧ (∀ q ∈ L, va_A ws H.size q.base) ∧
      Steps p.tables e below (doInvoke e (U.setTop f) [] mk av.toArray).1 ((T'.setTop f).pushFrame (.throwing q))) := by
  have hcode : (Cond.code y b n r).before av.toArray U = true := hws _ List.mem_cons_self
  obtain ⟨methY, cY, hmY, hcY, -, hlY, -, -, -, -⟩ := Cond.code_spec hn hcode
  obtain ⟨kY, hkY, -⟩ := className_of_methodNamed hn
  have hinitY : kY.init = .initialized := Cond.initialized_spec (findClass_of_methodNamed hn) hkY hini
  have h : At U f.method c below := by rw [hg]; exact X.here
  have happ : (headSpec (q_w y b n r) (q_rm d mc ms)).appliesLoose y e.platform (U.calling f mk av.toArray) = true :=
    Spec.appliesLoose_calling (g := f) h hdg hn hkY hinitY
      (X.room_calling (g := f) (R' := q_rm d mc ms) hsize hmY hcY hR.1 (by rw [hlY]; have := hR.2; show _ + (n + 11) + 64 * d ≤ _; omega) hf.1 hf.2) (atoms_intro hws)
  obtain ⟨mid, hmid⟩ := h.above
  have hfr : (U.setTop f).frames = (.java f :: mid) ++ below := by rw [State.frames_setTop' f h.top, hmid]; rfl
  obtain ⟨o, s₂, hsteps, -, hend, hq⟩ := Steps.callFree hM p X.admits X.cas X.clock (acts := []) hfr happ (q_blind _ _ f mk hP) trivial
  have hft : (U.setTop f).frames = .java f :: below := by rw [State.frames_setTop' f h.top, X.tail]
  rw [hft] at hend
  rcases hq with ⟨hqc, L, hfe, hL⟩ | ⟨q, E, ce, u, L, rfl, hp, hB, hF, hce, hcv, hcl, hW₂, hsm, hL⟩
  · obtain ⟨⟨v, rfl⟩, hW₂, hsm⟩ := hfe
    obtain ⟨T', X', hW', hS', rfl⟩ := X.outOf hg hdg hend hW₂ hsm
    exact Or.inl ⟨v, T'.setTop { f with pc := f.pc + 3, stack := v.toList ++ f.stack }, T', L, X', rfl, rfl, hqc, hL, hsteps⟩
  · obtain ⟨T', X', hW', hS', rfl⟩ := X.outOfThrown hg hend hW₂ hsm
    exact Or.inr ⟨q, E, ce, u, (T'.setTop f).pushFrame (.throwing q), T', L, X', rfl, rfl, hp, hB, hF, hce, hcv, hcl, hL, hsteps⟩
/-- the run of a callee that may throw -/
def q_RunX (p : Program) (l : Launch) (e : Env) (R : Room) (s : State) (m : MethodId) (args : Array Value) (below : List Frame) (meth : Method) (c : Code) (H : Heap) (locs : List Loc) (cells slots mc ms : Nat) (f : JFrame) (rest : List Value) (Qa : State → Outcome → State → Prop) (D : va_G) (g : Nat → ClassId) (A : Nat → Prop) (px : String → va_W → Prop) : Prop :=
  ∀ T : State, T.heap = H → Stand p l e R s m args below meth c T locs cells slots →
    (∃ (v : Option Value) (st t T' : State) (L : List Loc), st.heap = H ∧ Stand p l e R s m args below meth c T' (locs ++ L) (cells + mc) (slots + ms) ∧ (∀ q ∈ L, A q.base) ∧ T'.heap = t.heap ∧ T'.vm = t.vm ∧ Qa st (.returned v) t ∧
      ∀ tg, Steps p.tables e below (T'.setTop { f with pc := f.pc + 3, stack := v.toList ++ rest }) tg → Steps p.tables e below (T.setTop f) tg) ∨
    (∃ (q : Nat) (E : String) (ce : Cell) (u : va_W) (st t T' : State) (L : List Loc), st.heap = H ∧ Stand p l e R s m args below meth c T' (locs ++ L) (cells + mc) (slots + ms) ∧ (∀ z ∈ L, A z.base) ∧ T'.heap = t.heap ∧ T'.vm = t.vm ∧ px E u ∧ q_B D g A u t ∧ va_F A st t ∧ t.heap[q]? = some ce ∧ ce.vm = .none ∧ s.vm.findClass E = some ce.cls ∧
      ∀ tg, Steps p.tables e below ((T'.setTop { f with stack := rest }).pushFrame (.throwing q)) tg → Steps p.tables e below (T.setTop f) tg)
theorem q_words (C0 : q_At p s m args meth c y0 b0 n0 r0) (h1 : Cond.code y b n r ∈ q_tbl) {U : State} (hW : s.WarmedH U.vm) {a' : Array Value} : ∀ w ∈ q_w y b n r, w.before a' U = true := fun w hw => pay_in C0.2.2.2.2.2.1 (q_gw h1) w hw a' U hW
theorem q_runSX (C0 : q_At p s m args meth c y0 b0 n0 r0) (V : q_Wd D g A s ws H locs) (ho : y0.cls = own) (L : q_LS own index y b n r k) (hM : q_Mx l y b n r d mc ms D g As ws H.size Qc px) (hn : As.length = k) (hsz : ls.size = n0) (hst : st0 = As.reverse ++ rest) (hcat : (rest.map fun v => v.category).sum ≤ 8) (hR : d + 1 ≤ R.frames ∧ 8 + (n + 11) + 64 * d ≤ R.locals) (hf : cells + mc ≤ R.cells ∧ slots + ms ≤ R.slots) (hdg : decode b0 pc = .ok (.invokestatic index, 3)) :
    q_RunX p l e R s m args below meth c H locs cells slots mc ms (F0 m pc ls st0) rest (Qc As.toArray) D g (va_A ws H.size) px := by
  intro T hT X
  have hts := C0.2.2.2.2.2.1
  have hown : s.vm.findClass own = some m.cls := by rw [← ho]; exact C0.2.2.2.2.1
  have hcode := hts _ L.1
  obtain ⟨mk, hnamed⟩ := Cond.code_named hcode
  obtain ⟨methM, cM, hmethM, -, -, -, -, -, -, hsigM⟩ := Cond.code_spec hnamed hcode
  have hstatic : methM.isStatic = true := Cond.static_spec hnamed hmethM (hts _ L.2.2.2.1)
  obtain ⟨kP, hkP, -⟩ := className_of_methodNamed hnamed
  have hinitP : kP.init = .initialized := Cond.initialized_spec (findClass_of_methodNamed hnamed) hkP (hts _ L.2.1)
  have hlen : As.length = methM.sig.parameters.length := by
    have h2 := L.2.2.2.2.2.2
    rw [hsigM] at h2
    rw [hn]
    exact (Option.some.inj h2).symm
  obtain ⟨vm₁, X₁, st1⟩ := X.invokestatic C0.1 hown (hts _ L.2.2.1) hnamed hmethM hstatic hkP hinitP ⟨L.2.2.2.2.1, L.2.2.2.2.2.1⟩ (g := F0 m pc ls st0) rfl (argsL := As) (rest := rest) hlen hst (by rw [C0.2.1]; exact hdg)
  have hini : (Cond.initialized y.cls).before As.toArray (T.setVm vm₁) = true := q_words C0 L.1 X₁.warmed _ (List.mem_cons_of_mem _ L.2.1)
  rcases q_core hM X₁ (f := F0 m pc ls rest) rfl (hsz.trans C0.2.2.2.1.symm) (by rw [C0.2.1]; exact hdg) (lv_room hcat) (X₁.named hnamed) (q_words C0 L.1 X₁.warmed) hini (q_pre V (T.setVm vm₁) hT X₁.warmed) hR hf with ⟨v, t, T', L', X', e1, e2, hq, hL, st⟩ | ⟨q, E, ce, u, t, T', L', X', e1, e2, hp, hB, hF, hce, hcv, hcl, hL, st⟩
  · exact Or.inl ⟨v, (T.setVm vm₁).calling (F0 m pc ls rest) mk As.toArray, t, T', L', hT, X', hL, e1, e2, hq, fun tg h => st1 _ fun acts => by rw [doInvoke_state]; exact st.trans h⟩
  · have hcl' : s.vm.findClass E = some ce.cls := by
      rw [X₁.warmed.alike.findClass] at hcl
      exact hcl
    exact Or.inr ⟨q, E, ce, u, (T.setVm vm₁).calling (F0 m pc ls rest) mk As.toArray, t, T', L', hT, X', hL, e1, e2, hp, hB, hF, hce, hcv, hcl', fun tg h => st1 _ fun acts => by rw [doInvoke_state]; exact st.trans h⟩
theorem q_runVX {a j ci : Nat} {fs : List Value} {q : vw_C} (C0 : q_At p s m args meth c y0 b0 n0 r0) (V : q_Wd D g A s ws H locs) (ho : y0.cls = own) (L : q_LV own index y b n r k) (hM : q_Mx l y b n r d mc ms D g (.ref a :: As) ws H.size Qc px) (hc : q_cl[ci]? = some q) (hq : q.1 = y.cls) (he : ws[j]? = some (a, .inr (ci, fs))) (hn : As.length = k) (hsz : ls.size = n0) (hst : st0 = As.reverse ++ .ref a :: rest) (hcat : (rest.map fun v => v.category).sum ≤ 8) (hR : d + 1 ≤ R.frames ∧ 8 + (n + 11) + 64 * d ≤ R.locals) (hf : cells + mc ≤ R.cells ∧ slots + ms ≤ R.slots) (hdg : decode b0 pc = .ok (.invokevirtual index, 3)) :
    q_RunX p l e R s m args below meth c H locs cells slots mc ms (F0 m pc ls st0) rest (Qc (Value.ref a :: As).toArray) D g (va_A ws H.size) px := by
  intro T hT X
  have hts := C0.2.2.2.2.2.1
  have hown : s.vm.findClass own = some m.cls := by rw [← ho]; exact C0.2.2.2.2.1
  have hcode := hts _ L.1
  have hy : y.cls ≠ "java/lang/invoke/MethodHandle" ∧ y.cls ≠ "java/lang/invoke/VarHandle" := ⟨L.2.2.2.2.2.1, L.2.2.2.2.2.2.1⟩
  obtain ⟨cellB, hcB, hoB, hclB⟩ := va_recv V.2.2.2.1.1 V.1 hc he
  rw [hq] at hclB
  obtain ⟨mk, methM, hnamed, hmethM, hstM, habM⟩ := Cond.instanceMethod_spec (hts _ L.2.2.2.1)
  obtain ⟨methM', cM, hmethM', -, -, -, -, -, -, hsigM⟩ := Cond.code_spec hnamed hcode
  cases hmethM.symm.trans hmethM'
  obtain ⟨c2, r2, m2, q1, q2, q3, q4, kP, hkP, hkPi⟩ := Cond.selects_spec (hts _ L.2.2.2.2.1)
  cases hclB.symm.trans q1
  cases (State.methodFound?_of_named hnamed hy).symm.trans q2
  cases hnamed.symm.trans q3
  have hselP : selectMethod e.platform s.vm cellB.cls mk = .method mk := by rw [Launch.admits_selectMethod X.admits]; exact q4
  have hlen : As.length = methM.sig.parameters.length := by
    have h2 := L.2.2.2.2.2.2.2
    rw [hsigM] at h2
    rw [hn]
    exact (Option.some.inj h2).symm
  obtain ⟨vm₁, X₁, st1⟩ := X.invokevirtual C0.1 hown (hts _ L.2.2.1) hnamed hmethM hstM hkP hkPi hy (a := a) (cell := cellB) (by rw [hT]; exact hcB)
    (fun z h => by rw [h] at hoB; cases hoB) hselP hmethM habM hkP hkPi (g := F0 m pc ls st0) rfl (argsL := As) (rest := rest) hlen hst (by rw [C0.2.1]; exact hdg)
  have hini : (Cond.initialized y.cls).before (Value.ref a :: As).toArray (T.setVm vm₁) = true := q_words C0 L.1 X₁.warmed _ (List.mem_cons_of_mem _ L.2.1)
  rcases q_core hM X₁ (f := F0 m pc ls rest) rfl (hsz.trans C0.2.2.2.1.symm) (by rw [C0.2.1]; exact hdg) (lv_room hcat) (X₁.named hnamed) (q_words C0 L.1 X₁.warmed) hini (q_pre V (T.setVm vm₁) hT X₁.warmed) hR hf with ⟨v, t, T', L', X', e1, e2, hq', hL, st⟩ | ⟨q', E, ce, u, t, T', L', X', e1, e2, hp, hB, hF, hce, hcv, hcl, hL, st⟩
  · exact Or.inl ⟨v, (T.setVm vm₁).calling (F0 m pc ls rest) mk (Value.ref a :: As).toArray, t, T', L', hT, X', hL, e1, e2, hq', fun tg h => st1 _ fun acts => by rw [doInvoke_state]; exact st.trans h⟩
  · have hcl' : s.vm.findClass E = some ce.cls := by
      rw [X₁.warmed.alike.findClass] at hcl
      exact hcl
    exact Or.inr ⟨q', E, ce, u, (T.setVm vm₁).calling (F0 m pc ls rest) mk (Value.ref a :: As).toArray, t, T', L', hT, X', hL, e1, e2, hp, hB, hF, hce, hcv, hcl', fun tg h => st1 _ fun acts => by rw [doInvoke_state]; exact st.trans h⟩
/-- behind it: the two roads -/
theorem q_frS {A1 : Nat → Prop} {st t T' : State} {L : List Loc} (V : q_Wd D g A s ws H locs) (hA : ∀ q, A1 q → A q) (h0 : st.heap = H) (e1 : T'.heap = t.heap) (hL : ∀ q ∈ L, A1 q.base) (hF : va_F A1 st t) : va_S A s.heap T'.heap (locs ++ L) := by
  obtain ⟨hz, hk⟩ := hF
  rw [h0] at hz hk
  obtain ⟨hP, hD, hS, hK, hZ, hA0⟩ := V
  refine ⟨Nat.le_trans hS.1 (by rw [e1]; exact hz), fun q h1 h2 => ?_, fun q hq => ?_⟩
  · rw [e1, hk q (Nat.lt_of_lt_of_le h1 hS.1) (fun z => h2 (hA q z))]
    exact hS.2.1 q h1 h2
  · rcases List.mem_append.mp hq with h | h
    · exact hS.2.2 q h
    · exact hA _ (hL q h)
theorem q_goxT {f : JFrame} {Qa : State → Outcome → State → Prop} (V : q_Wd D g A s ws H locs) (hr : q_RunX p l e R s m args below meth c H locs cells slots mc ms f rest Qa D g (va_A ws H.size) px)
    (kn : ∀ (v : Option Value) (st t T' : State) (L : List Loc), st.heap = H → Stand p l e R s m args below meth c T' (locs ++ L) (cells + mc) (slots + ms) → (∀ q ∈ L, va_A ws H.size q.base) → T'.heap = t.heap → T'.vm = t.vm → Qa st (.returned v) t → ∃ tg, Steps p.tables e below (T'.setTop { f with pc := f.pc + 3, stack := v.toList ++ rest }) tg ∧ Q tg)
    (kx : ∀ (q : Nat) (E : String) (ce : Cell) (u : va_W) (H1 : Heap) (locs1 : List Loc), px E u → q_Wd D g A s u H1 locs1 → H1[q]? = some ce → ce.vm = .none → s.vm.findClass E = some ce.cls → q_WT p l e R s m args below meth c H1 locs1 (cells + mc) (slots + ms) Q { f with stack := rest } q) :
    W p l e R s m args below meth c H locs cells slots Q f := by
  intro T hT X
  have hA := q_fr V.2.1 V.2.2.1 V.2.2.2.2.2
  rcases hr T hT X with ⟨v, st, t, T', L, h0, X', hL, e1, e2, hq, stp⟩ | ⟨q, E, ce, u, st, t, T', L, h0, X', hL, e1, e2, hp, hB, hF, hce, hcv, hcl, stp⟩
  · obtain ⟨tg, a1, b1⟩ := kn v st t T' L h0 X' hL e1 e2 hq
    exact ⟨tg, stp tg a1, b1⟩
  · obtain ⟨tg, a1, b1⟩ := kx q E ce u T'.heap (locs ++ L) hp ⟨by rw [e1]; exact hB.1, hB.2.2.weaken (fun _ z _ h => hA z.1 h), q_frS V hA h0 e1 hL hF, V.2.2.2.1, V.2.2.2.2.1, V.2.2.2.2.2⟩ (by rw [e1]; exact hce) hcv hcl T' rfl X'
    exact ⟨tg, stp tg a1, b1⟩
theorem q_goxv {a : Array Value} {post : va_W → Prop} (V : q_Wd D g A s ws H locs) (hr : q_RunX p l e R s m args below meth c H locs cells slots mc ms (F0 m pc ls st0) rest (va_Qv post (q_B D g (va_A ws H.size)) (va_A ws H.size) a) D g (va_A ws H.size) px)
    (kx : ∀ (q : Nat) (E : String) (ce : Cell) (u : va_W) (H1 : Heap) (locs1 : List Loc), px E u → q_Wd D g A s u H1 locs1 → H1[q]? = some ce → ce.vm = .none → s.vm.findClass E = some ce.cls → q_WT p l e R s m args below meth c H1 locs1 (cells + mc) (slots + ms) Q (F0 m pc ls rest) q)
    (kk : ∀ (ws1 : va_W) (H1 : Heap) (locs1 : List Loc), post ws1 → q_Wd D g A s ws1 H1 locs1 → W p l e R s m args below meth c H1 locs1 (cells + mc) (slots + ms) Q (F0 m (pc + 3) ls rest)) : W p l e R s m args below meth c H locs cells slots Q (F0 m pc ls st0) := by
  have hA := q_fr V.2.1 V.2.2.1 V.2.2.2.2.2
  refine q_goxT V hr (fun v st t T' L h0 X' hL e1 e2 hq => ?_) kx
  obtain ⟨⟨u, hv, hp, hB⟩, hF⟩ := hq
  cases hv
  exact kk u T'.heap (locs ++ L) hp ⟨by rw [e1]; exact hB.1, hB.2.2.weaken (fun _ z _ h => hA z.1 h), q_frS V hA h0 e1 hL hF, V.2.2.2.1, V.2.2.2.2.1, V.2.2.2.2.2⟩ T' rfl X'
theorem q_goxi {a : Array Value} {post : Int32 → va_W → Prop} (V : q_Wd D g A s ws H locs) (hr : q_RunX p l e R s m args below meth c H locs cells slots mc ms (F0 m pc ls st0) rest (va_Qi post (q_B D g (va_A ws H.size)) (va_A ws H.size) a) D g (va_A ws H.size) px)
    (kx : ∀ (q : Nat) (E : String) (ce : Cell) (u : va_W) (H1 : Heap) (locs1 : List Loc), px E u → q_Wd D g A s u H1 locs1 → H1[q]? = some ce → ce.vm = .none → s.vm.findClass E = some ce.cls → q_WT p l e R s m args below meth c H1 locs1 (cells + mc) (slots + ms) Q (F0 m pc ls rest) q)
    (kk : ∀ (v : Int32) (ws1 : va_W) (H1 : Heap) (locs1 : List Loc), post v ws1 → q_Wd D g A s ws1 H1 locs1 → W p l e R s m args below meth c H1 locs1 (cells + mc) (slots + ms) Q (F0 m (pc + 3) ls (.int v :: rest))) : W p l e R s m args below meth c H locs cells slots Q (F0 m pc ls st0) := by
  have hA := q_fr V.2.1 V.2.2.1 V.2.2.2.2.2
  refine q_goxT V hr (fun v st t T' L h0 X' hL e1 e2 hq => ?_) kx
  obtain ⟨⟨r, u, hv, hp, hB⟩, hF⟩ := hq
  cases hv
  exact kk r u T'.heap (locs ++ L) hp ⟨by rw [e1]; exact hB.1, hB.2.2.weaken (fun _ z _ h => hA z.1 h), q_frS V hA h0 e1 hL hF, V.2.2.2.1, V.2.2.2.2.1, V.2.2.2.2.2⟩ T' rfl X'
theorem q_goxl {a : Array Value} {post : Int64 → va_W → Prop} (V : q_Wd D g A s ws H locs) (hr : q_RunX p l e R s m args below meth c H locs cells slots mc ms (F0 m pc ls st0) rest (va_Ql post (q_B D g (va_A ws H.size)) (va_A ws H.size) a) D g (va_A ws H.size) px)
    (kx : ∀ (q : Nat) (E : String) (ce : Cell) (u : va_W) (H1 : Heap) (locs1 : List Loc), px E u → q_Wd D g A s u H1 locs1 → H1[q]? = some ce → ce.vm = .none → s.vm.findClass E = some ce.cls → q_WT p l e R s m args below meth c H1 locs1 (cells + mc) (slots + ms) Q (F0 m pc ls rest) q)
    (kk : ∀ (v : Int64) (ws1 : va_W) (H1 : Heap) (locs1 : List Loc), post v ws1 → q_Wd D g A s ws1 H1 locs1 → W p l e R s m args below meth c H1 locs1 (cells + mc) (slots + ms) Q (F0 m (pc + 3) ls (.long v :: rest))) : W p l e R s m args below meth c H locs cells slots Q (F0 m pc ls st0) := by
  have hA := q_fr V.2.1 V.2.2.1 V.2.2.2.2.2
  refine q_goxT V hr (fun v st t T' L h0 X' hL e1 e2 hq => ?_) kx
  obtain ⟨⟨r, u, hv, hp, hB⟩, hF⟩ := hq
  cases hv
  exact kk r u T'.heap (locs ++ L) hp ⟨by rw [e1]; exact hB.1, hB.2.2.weaken (fun _ z _ h => hA z.1 h), q_frS V hA h0 e1 hL hF, V.2.2.2.1, V.2.2.2.2.1, V.2.2.2.2.2⟩ T' rfl X'
end QX

/-! 'throw new E("text")' as a method's first act; the catch -/
/-- nothing old is written: the old cells are as they were -/
theorem q_same {s U : State} {k n : Nat} (h : s.sameButNew ({ U with vm := s.vm } : State) [] k n) : s.heap.size ≤ U.heap.size ∧ ∀ q : Nat, q < s.heap.size → U.heap[q]? = s.heap[q]? := by
  obtain ⟨-, h2, -, -, -, h6⟩ := h
  refine ⟨h2, fun q hq => ?_⟩
  obtain ⟨c9, e1, e2, -, e4⟩ := h6 q _ (Array.getElem?_eq_getElem hq)
  have hs : c9.slots = (s.heap[q]).slots := Array.ext_getElem? fun i => e4 i (by simp)
  rw [hs] at e2
  rw [Array.getElem?_eq_getElem hq]
  exact e1.trans (congrArg some e2)
def q_four : List Cond := [.isRef (.static "java/lang/Throwable" "UNASSIGNED_STACK" q_tU), .isRef (.static "java/lang/Throwable" "SUPPRESSED_SENTINEL" q_tS), .laysStatic "java/lang/Throwable" "UNASSIGNED_STACK" q_tU, .laysStatic "java/lang/Throwable" "SUPPRESSED_SENTINEL" q_tS]
section QTW
variable {p : Program} {l : Launch} {e : Env} {R : Room} {s : State} {m : MethodId} {args : Array Value} {below : List Frame} {meth : Method} {c : Code} {H : Heap} {locs : List Loc} {cells slots : Nat} {Q : State → Prop}
variable {D : va_G} {g : Nat → ClassId} {A : Nat → Prop} {ws : va_W} {y0 : MethodName} {b0 : ByteArray} {n0 : Nat} {r0 : Option FieldType} {pc : Nat} {ls : Array Slot} {rest : List Value}
variable {Qc : Array Value → State → Outcome → State → Prop} {px : String → va_W → Prop}
theorem q_throwW {own cls text : String} {names : List String} {ik is ic : Nat} (C0 : q_At p s m args meth c y0 b0 n0 r0) (V : q_Wd D g A s ws s.heap []) (hl : l.stackTraces = false) (hno : c.exceptionTable.isEmpty = true) (ho : y0.cls = own) (hsz : ls.size = n0) (hfit : Bundle.fit cls = true) (hfn : ∀ n ∈ names, Bundle.fit n = true)
    (hk : Cond.classLink own ik cls ∈ q_tbl) (hini : Cond.initialized cls ∈ q_tbl) (hstr : Cond.stringRef own is text ∈ q_odd) (hins : Cond.instantiable cls 6 ∈ q_tbl)
    (hat : ∀ w ∈ Bundle.ownAtoms own ic cls names, w ∈ q_tbl ∨ (w ∈ q_odd ∧ w.onTables = true) ∨ w ∈ q_four)
    (d0 : decode b0 pc = .ok (.new ik, 3)) (d3 : decode b0 (pc + 3) = .ok (.dup, 1)) (d4 : decode b0 (pc + 4) = .ok (.ldc_w is, 3)) (d7 : decode b0 (pc + 7) = .ok (.invokespecial ic, 3)) (d10 : decode b0 (pc + 10) = .ok (.athrow, 1))
    (hR1 : names.length + 3 < R.frames) (hR2 : (rest.map fun v => v.category).sum + (13 * (names.length + 1) + 43) ≤ R.locals) (hR3 : 1 ≤ R.cells) (hR4 : 6 ≤ R.slots) (hp : px cls ws) :
    W p l e R s m args below meth c s.heap [] 0 0 (q_MQX below Qc D g A px args s 1 6) (F0 m pc ls rest) := by
  intro T hT X
  obtain ⟨hx, hb, hr, hml, hown, hts, hlocks, -⟩ := C0
  obtain ⟨hP, hD, hS, hK, hZ, hA⟩ := V
  rw [ho] at hown
  have htr : e.platform.stackTraces = false := (show e.platform.stackTraces = l.stackTraces by rw [X.admits.platform]).trans hl
  obtain ⟨-, -, hU, hN, hT7⟩ := hZ.1
  have h : ∀ w ∈ Bundle.ownAtoms own ic cls names, w.before args s = true := fun w hw => by
    rcases hat w hw with h1 | ⟨h1, h2⟩ | h1
    · exact hts w h1
    · exact va_Nw.use h2 (hT7 w h1)
    · simp only [q_four, List.mem_cons, List.not_mem_nil, or_false] at h1
      rcases h1 with rfl | rfl | rfl | rfl
      · exact hU.ref
      · exact hN.ref
      · exact hU.lays
      · exact hN.lays
  obtain ⟨vm₁, cX, kX, hfX, hkX, -, -, X₁, st1⟩ := X.newCold hx (own := own) (C := cls) (index := ik) (n := 6) hown (hts _ hk) (hts _ hins) (hts _ hini)
    (g := F0 m pc ls rest) rfl (by rw [hb]; exact d0) (by omega) (by omega)
  generalize hT1 : (T.setVm vm₁).pushCell { cls := cX, slots := kX.instanceTypes.map defaultValue, vm := .none } = T1 at X₁ st1
  have hcellA : T1.heap[T.heap.size]? = some (freshCell cX kX) := by rw [← hT1]; exact State.heap_pushCell_size _ _
  have hsr : (Cond.stringRef own is text).before #[] s = true := hT7 _ hstr
  obtain ⟨k9, cf9, i9, sa, -, -, -, -, -, hev⟩ := Cond.stringRef_spec hown (args := args) (first := s) (o := none) (idx := []) hsr
  have hnil : c.exceptionTable.toList = [] := by
    have := Array.isEmpty_iff.mp hno
    rw [this]
  obtain ⟨U, hsteps, hrun, hend, hW, hsame, ce, hce, hO⟩ := X₁.ctorThrowS hx htr (own := own) (cls := cls) (names := names) (ic := ic) hown hfit hfn h (fun x hx => nomatch hx) hfX hkX hcellA (by rw [hT]; exact Nat.le_refl _) (msg := .ref sa) rfl
    (g := F0 m (pc + 7) ls (.ref sa :: .ref T.heap.size :: .ref T.heap.size :: rest)) rfl (hsz.trans hml.symm) rfl rfl (rest := rest) rfl
    (by rw [hb]; exact d7) (by rw [hb]; exact d10) (by rw [hnil]; intro x hx; cases hx) hR1 (by
      have : (Value.ref T.heap.size).category = 1 := rfl
      simp only [List.map_cons, List.sum_cons, this]
      show 2 * 0 + _ + _ ≤ _
      omega) hlocks
  obtain ⟨f1, f2⟩ := q_same hsame
  refine ⟨U, ?_, .threw T.heap.size, hrun, hend, Or.inr ⟨T.heap.size, cls, ce, ws, [], rfl, hp, ⟨hP.kept (fun k q hk => f2 q.1 ((hP k q hk).lt)), hK.moved hW.alike, hD⟩, ⟨f1, fun q hq _ => f2 q hq⟩, hce, hO.vm, hO.cls, hW, hsame, fun z hz => nomatch hz⟩⟩
  refine st1 _ ?_
  have d3' : decode c.code (pc + 3) = .ok (.dup, 1) := by rw [hb]; exact d3
  show Steps p.tables e below (T1.setTop (F0 m (pc + 3) ls (.ref T.heap.size :: rest))) _
  jvm_step X₁.here [X₁.here.top, hx, d3', Value.category]
  exact X₁.ldcStringW hx (own := own) (text := text) (index := is) (a := sa) hown hsr hev
    (g := F0 m (pc + 4) ls (.ref T.heap.size :: .ref T.heap.size :: rest)) rfl (by rw [hb]; exact d4) _ hsteps
end QTW

/-! the catch: a handler's class may be linked for the first time -/
section QCA
variable {e : Env} {f : JFrame} {a : Nat}
theorem q_goCls {Q : Handler → Pre} {E : CtlPost} {d : Bool} {acts : List Action} {S : State} {x : ExceptionTableEntry} {t : List ExceptionTableEntry} {c : ClassId} {cell : Cell} (hx : covers x f.pc = true) (h0 : x.catchType ≠ 0) (hl : S.vm.ClassLinks e.platform f.method.cls x.catchType c) (hcell : S.heap[a]? = some cell) (hobj : ∀ k, cell.vm ≠ .statics k)
    (hk : ∃ k, S.vm.classes[cell.cls]? = some k) (hc : ∃ k, S.vm.classes[c]? = some k) :
    wp (findHandler.go f a (x :: t)) Q E e d acts S ↔ if S.vm.assignable cell.cls c = true then Q (.found x.handlerPc) d acts (S.setVm (S.vm.noted f.method.cls x.catchType (.cls c))) else wp (findHandler.go f a t) Q E e d acts (S.setVm (S.vm.noted f.method.cls x.catchType (.cls c))) := by
  have hal : S.vm.Alike (S.vm.noted f.method.cls x.catchType (.cls c)) := (Vm.Alike.refl S.vm).noted _ _ _
  obtain ⟨k1, hk1⟩ := hk
  obtain ⟨k2, hk2⟩ := hc
  obtain ⟨j1, hj1, -⟩ := hal.2.2 _ _ hk1
  obtain ⟨j2, hj2, -⟩ := hal.2.2 _ _ hk2
  obtain ⟨g1, g2⟩ := (resolveClass_links e.toSetting hl).op (op := VmOp.resolveClass f.method.cls x.catchType) rfl
  rw [← hal.assignable]
  simp only [covers] at hx
  cases hfit : (S.vm.noted f.method.cls x.catchType (.cls c)).assignable cell.cls c <;>
    simp [findHandler.go, hx, h0, g1, g2, hcell, hobj, hj1, hj2, hfit, VmOp.dirties, VmOp.acts]
/-- the rows of a table, for an object of the class k thrown at pc: those that don't cover it or name another class are passed; the handler is h -/
def q_hit (pl : Platform) (s0 : State) (d : ClassId) (pc : Nat) (k : ClassId) (h : Nat) : List ExceptionTableEntry → Prop
  | [] => False
  | x :: t => (covers x pc = false ∧ q_hit pl s0 d pc k h t) ∨ (covers x pc = true ∧ x.catchType ≠ 0 ∧ ∃ c, s0.vm.ClassLinks pl d x.catchType c ∧ ((s0.vm.assignable k c = true ∧ x.handlerPc = h) ∨ (s0.vm.assignable k c = false ∧ q_hit pl s0 d pc k h t)))
theorem q_goes {s0 : State} {h : Nat} {cell : Cell} (hobj : ∀ k, cell.vm ≠ .statics k) (hk0 : ∃ k, s0.vm.classes[cell.cls]? = some k) : ∀ (t : List ExceptionTableEntry) (S : State), q_hit e.platform s0 f.method.cls f.pc cell.cls h t → s0.WarmedH S.vm → S.heap[a]? = some cell →
    ∃ vm', s0.WarmedH vm' ∧ ∀ (Q : Handler → Pre) (E : CtlPost) (d : Bool) (acts : List Action), wp (findHandler.go f a t) Q E e d acts S ↔ Q (.found h) d acts (S.setVm vm')
  | [], _, hh, _, _ => hh.elim
  | x :: t, S, hh, hW, hcell => by
    obtain ⟨k0, hk0'⟩ := hk0
    obtain ⟨k1, hk1, -⟩ := hW.alike.2.2 _ _ hk0'
    rcases hh with ⟨hx, hh⟩ | ⟨hx, h0, c, hl, hh⟩
    · obtain ⟨vm', w1, w2⟩ := q_goes hobj ⟨k0, hk0'⟩ t S hh hW hcell
      exact ⟨vm', w1, fun Q E d acts => (W.findHandler_go_skip hx).trans (w2 Q E d acts)⟩
    · obtain ⟨dk, -, -, kt, hd, -, -, -, -, hkt, -, hopen⟩ := hl.here
      obtain ⟨k2, hk2, -⟩ := hW.alike.2.2 _ _ hkt
      have hN := hW.noted hd hopen (State.rightAt_cls hl)
      have key := fun (Q : Handler → Pre) (E : CtlPost) (d : Bool) (acts : List Action) => q_goCls (e := e) (f := f) (a := a) (t := t) (Q := Q) (E := E) (d := d) (acts := acts) hx h0 (hW.classLinks hl) hcell hobj ⟨k1, hk1⟩ ⟨k2, hk2⟩
      have has : S.vm.assignable cell.cls c = s0.vm.assignable cell.cls c := by rw [hW.alike.assignable]
      rcases hh with ⟨h1, rfl⟩ | ⟨h1, hh⟩
      · refine ⟨_, hN, fun Q E d acts => (key Q E d acts).trans ?_⟩
        rw [has, h1, if_pos rfl]
      · obtain ⟨vm', w1, w2⟩ := q_goes hobj ⟨k0, hk0'⟩ t (S.setVm (S.vm.noted f.method.cls x.catchType (.cls c))) hh hN hcell
        refine ⟨vm', w1, fun Q E d acts => (key Q E d acts).trans ?_⟩
        rw [has, h1, if_neg (by decide)]
        exact w2 Q E d acts
end QCA
section QCB
variable {p : Program} {l : Launch} {e : Env} {R : Room} {s : State} {m : MethodId} {args : Array Value} {below : List Frame} {meth : Method} {c : Code} {H : Heap} {locs : List Loc} {cells slots : Nat} {Q : State → Prop} {pc : Nat} {ls : Array Slot} {rest : List Value}
theorem q_catch {ce : Cell} {q h : Nat} {E : String} (hcell : H[q]? = some ce) (hv : ce.vm = .none) (hcl : s.vm.findClass E = some ce.cls) (hh : ∀ pl : Platform, pl.magicAccessors = ({} : Platform).magicAccessors → q_hit pl s m.cls pc ce.cls h c.exceptionTable.toList)
    (kk : W p l e R s m args below meth c H locs cells slots Q (F0 m h ls [.ref q])) : q_WT p l e R s m args below meth c H locs cells slots Q (F0 m pc ls rest) q := by
  intro T hT X
  have hpl : e.platform.magicAccessors = ({} : Platform).magicAccessors := by rw [X.admits.platform]
  have hobj : ∀ k, ce.vm ≠ .statics k := fun k h9 => by rw [hv] at h9; cases h9
  have hk0 : ∃ k, s.vm.classes[ce.cls]? = some k := by obtain ⟨k9, h9, -⟩ := Vm.findClass_spec hcl; exact ⟨k9, h9⟩
  obtain ⟨vm', hW', hq⟩ := q_goes (e := e) (f := F0 m pc ls rest) (a := q) (h := h) hobj hk0 c.exceptionTable.toList ((T.setTop (F0 m pc ls rest)).pushFrame (.throwing q)) (hh _ hpl) X.warmed (by show T.heap[q]? = _; rw [hT]; exact hcell)
  obtain ⟨t, a1, b1⟩ := kk (T.setVm vm') hT (X.noted hW')
  refine ⟨t, ?_, b1⟩
  have hAt : At T (F0 m pc ls rest).method c below := X.here
  obtain ⟨hgo, hw⟩ := hAt.throwing q
  refine Steps.head hgo hw ?_
  have hfind : ∀ (Q : Handler → Pre) (E : CtlPost) (d : Bool) (acts : List Action), wp (findHandler (F0 m pc ls rest) q) Q E e d acts ((T.setTop (F0 m pc ls rest)).pushFrame (.throwing q)) ↔ Q (.found h) d acts (((T.setTop (F0 m pc ls rest)).pushFrame (.throwing q)).setVm vm') :=
    fun Q E d acts => (W.findHandler_eq X.method' X.code).trans (hq Q E d acts)
  have hst : (stepThrowing e ((T.setTop (F0 m pc ls rest)).pushFrame (.throwing q)) q (.java (F0 m pc ls rest) :: T.frames.tail)).Is ((((T.setTop (F0 m pc ls rest)).pushFrame (.throwing q)).setVm vm').setFrames (.java (F0 m h ls [.ref q]) :: T.frames.tail)) [] := by
    simp only [stepThrowing, searchFrame, vmDo]
    generalize hr : Sem.go _ e false [] ((T.setTop (F0 m pc ls rest)).pushFrame (.throwing q)) = res
    obtain ⟨as, rfl, ha⟩ := Sem.eq_ok_of hr (a := Handler.found h) (s' := ((T.setTop (F0 m pc ls rest)).pushFrame (.throwing q)).setVm vm') (acts' := []) (by simp [hfind _ _ _ _])
    exact ⟨rfl, ha⟩
  rw [stepThread_throwing (frames_entered hAt.top _), hst.1]
  obtain ⟨g₀, hr⟩ := X.frames_eq
  have hr' : (T.setVm vm').frames = .java g₀ :: below := hr
  rw [State.setTop_of_frames _ hr'] at a1
  rw [hr, List.tail_cons, State.pushFrame, State.setTop_of_frames _ hr]
  have e1 : (((T.setFrames (.java (F0 m pc ls rest) :: below)).setFrames (.throwing q :: (T.setFrames (.java (F0 m pc ls rest) :: below)).frames)).setVm vm').setFrames (.java (F0 m h ls [.ref q]) :: below) = (T.setVm vm').setFrames (.java (F0 m h ls [.ref q]) :: below) := by
    rw [State.setFrames_setFrames]
    show (((T.setVm vm').setFrames _).setFrames _) = _
    rw [State.setFrames_setFrames]
  rw [e1]
  exact a1
end QCB

/-! new cells: the world's list grows at its end -/
theorem q_len1 {ws u : va_W} {k : Nat} {e1 e0 : Nat × va_E} (hu : ∀ i, i ≠ k → u[i]? = ws[i]?) (h1 : u[k]? = some e1) (h0 : ws[k]? = some e0) : u.length = ws.length := by
  have a1 := (List.getElem?_eq_some_iff.mp h1).1
  have a0 := (List.getElem?_eq_some_iff.mp h0).1
  have key : ∀ i, i < u.length ↔ i < ws.length := fun i => by
    by_cases hi : i = k
    · subst hi; exact ⟨fun _ => a0, fun _ => a1⟩
    · have h := hu i hi
      constructor
      · intro q
        rw [List.getElem?_eq_getElem q] at h
        exact (List.getElem?_eq_some_iff.mp h.symm).1
      · intro q
        rw [List.getElem?_eq_getElem q] at h
        exact (List.getElem?_eq_some_iff.mp h).1
  rcases Nat.lt_trichotomy u.length ws.length with h | h | h
  · exact absurd ((key u.length).mpr h) (Nat.lt_irrefl _)
  · exact h
  · exact absurd ((key ws.length).mp h) (Nat.lt_irrefl _)
theorem q_lenN {ws u : va_W} {ks : List Nat} (hu : q_un ws u ks) (h1 : ∀ k ∈ ks, k < u.length) (h0 : ∀ k ∈ ks, k < ws.length) : u.length = ws.length := by
  have key : ∀ i, i < u.length ↔ i < ws.length := fun i => by
    by_cases hi : i ∈ ks
    · exact ⟨fun _ => h0 i hi, fun _ => h1 i hi⟩
    · have h := hu i hi
      constructor
      · intro q
        rw [List.getElem?_eq_getElem q] at h
        exact (List.getElem?_eq_some_iff.mp h.symm).1
      · intro q
        rw [List.getElem?_eq_getElem q] at h
        exact (List.getElem?_eq_some_iff.mp h).1
  rcases Nat.lt_trichotomy u.length ws.length with h | h | h
  · exact absurd ((key u.length).mpr h) (Nat.lt_irrefl _)
  · exact h
  · exact absurd ((key ws.length).mp h) (Nat.lt_irrefl _)
theorem q_app {ws : va_W} {N : Nat} {x : Nat × va_E} (hN : ws.length = N) : (∀ i, i ≠ N → (ws ++ [x])[i]? = ws[i]?) ∧ (ws ++ [x])[N]? = some x ∧ (ws ++ [x]).length = N + 1 := by
  subst hN
  refine ⟨fun i hi => ?_, by simp, by simp⟩
  rcases Nat.lt_or_ge i ws.length with h | h
  · rw [List.getElem?_append_left h]
  · have h2 : ws.length < i := Nat.lt_of_le_of_ne h (Ne.symm hi)
    rw [List.getElem?_eq_none (by simp; omega), List.getElem?_eq_none h]
/-- a place beyond the end is none of the places in use -/
theorem q_lt {ws : va_W} {N k : Nat} {x : Nat × va_E} (hN : ws.length = N) (h : ws[k]? = some x) : k ≠ N := by
  have := (List.getElem?_eq_some_iff.mp h).1
  omega
theorem q_ltN {ws : va_W} {N k : Nat} {x : Nat × va_E} (hN : ws.length = N) (h : ws[k]? = some x) : k < N := by
  have := (List.getElem?_eq_some_iff.mp h).1
  omega
theorem q_lk {ws : va_W} {k : Nat} {x : Nat × va_E} (h : ws[k]? = some x) : k < ws.length := (List.getElem?_eq_some_iff.mp h).1
theorem q_al {a n : Nat} {l : List Nat} (ha : a < n) (hl : ∀ k, k ∈ l → k < n) : ∀ k, k ∈ a :: l → k < n := fun k q => by
  rcases List.mem_cons.mp q with q | q
  · exact q ▸ ha
  · exact hl k q
theorem q_pd (a b : Nat) (h : Nat.beq a b = false) : a ≠ b := fun e => by
  subst e
  rw [Nat.beq_refl] at h
  cases h
theorem q_p0 {k N i : Nat} (h : k < N) : k ≠ N + i := by omega
theorem q_p1 {k N : Nat} (h : k < N) : k ≠ N := by omega
theorem q_p2 {N i j : Nat} (h : i ≠ j) : N + i ≠ N + j := by omega
theorem q_p3 {N j : Nat} (h : 0 < j) : N ≠ N + j := by omega
theorem q_p4 {N j : Nat} (h : 0 < j) : N + j ≠ N := by omega
theorem q_ub {w0 w1 wF : va_W} {K : List Nat} {k : Nat} (h : ∀ i, i ≠ k → w1[i]? = w0[i]?) (R : q_un w1 wF K) : q_un w0 wF (k :: K) := fun i hi => (R i (fun q => hi (List.mem_cons_of_mem _ q))).trans (h i (fun q => hi (q ▸ List.mem_cons_self)))
theorem q_ubc {w0 w1 wF : va_W} {K ks : List Nat} (h : q_un w0 w1 ks) (R : q_un w1 wF K) : q_un w0 wF (ks ++ K) := fun i hi => (R i (fun q => hi (List.mem_append_right _ q))).trans (h i (fun q => hi (List.mem_append_left _ q)))
/-- from the place o on the world holds the cells l -/
def q_fl (u : va_W) (o : Nat) (l : va_W) : Prop := ∀ (i : Nat) (x : Nat × va_E), l[i]? = some x → u[o + i]? = some x
theorem q_fn {u : va_W} {o : Nat} : q_fl u o [] := fun i x h => by simp at h
theorem q_fc {u : va_W} {o : Nat} {x : Nat × va_E} {l : va_W} (h : u[o]? = some x) (t : q_fl u (o + 1) l) : q_fl u o (x :: l) := fun i y hi => by
  cases i with
  | zero => simp at hi; subst hi; exact h
  | succ i => simp at hi; have := t i y hi; rw [show o + (i + 1) = o + 1 + i by omega]; exact this
section QG
variable {p : Program} {l : Launch} {e : Env} {R : Room} {s : State} {m : MethodId} {args : Array Value} {below : List Frame} {meth : Method} {c : Code} {H : Heap} {locs : List Loc} {cells slots : Nat} {Q : State → Prop}
variable {D : va_G} {g : Nat → ClassId} {A : Nat → Prop} {ws : va_W} {y0 : MethodName} {b0 : ByteArray} {n0 : Nat} {r0 : Option FieldType} {pc : Nat} {ls : Array Slot} {rest : List Value} {N : Nat} {own : String} {index : Nat}
theorem q_new {C : String} {T : u_T} {F ci : Nat} {t : Nat → FieldType} {fs : List Value} (C0 : q_At p s m args meth c y0 b0 n0 r0) (V : q_Wd D g A s ws H locs) (hN : ws.length = N) (hin : ∀ w ∈ u_ws C T F, w ∈ q_tbl) (ht : ∀ k, k < F → parseFieldDescriptor (T k).2.2.1 = some (t k)) (ho : y0.cls = own) (h1 : Cond.classLink own index C ∈ q_tbl) (h2 : Cond.instantiable C F ∈ q_tbl) (h3 : Cond.initialized C ∈ q_tbl) (hc : q_cl[ci]? = some (C, T, F)) (hfs : ∀ j, j < F → defaultValue (t j) = vp_V fs j) (hf1 : cells + 1 ≤ R.cells) (hf2 : slots + F ≤ R.slots) (hdg : decode b0 pc = .ok (.new index, 3))
    (kk : ∀ (q : Nat) (H1 : Heap) (u : va_W), (∀ i, i ≠ N → u[i]? = ws[i]?) → u[N]? = some (q, .inr (ci, fs)) → u.length = N + 1 → q_Wd D g A s u H1 locs → W p l e R s m args below meth c H1 locs (cells + 1) (slots + F) Q (F0 m (pc + 3) ls (.ref q :: rest))) : W p l e R s m args below meth c H locs cells slots Q (F0 m pc ls rest) :=
  va_new C0.1 C0.2.1 C0.2.2.2.2.2.1 hin t ht (by rw [← ho]; exact C0.2.2.2.2.1) (C0.2.2.2.2.2.1 _ h1) (C0.2.2.2.2.2.1 _ h2) (C0.2.2.2.2.2.1 _ h3) V.2.2.2.1.1 V.1 V.2.1 V.2.2.1 V.2.2.2.2.2 hc hfs hf1 hf2 hdg
    (fun q H1 a1 a2 a3 => by obtain ⟨b1, b2, b3⟩ := q_app (x := (q, .inr (ci, fs))) hN; exact kk q H1 _ b1 b2 b3 ⟨a1, a2, a3, V.2.2.2.1, V.2.2.2.2.1, V.2.2.2.2.2⟩)
theorem q_newI {n : Int32} {N' : Nat} (C0 : q_At p s m args meth c y0 b0 n0 r0) (V : q_Wd D g A s ws H locs) (hN : ws.length = N) (h1 : Cond.arrayClass .int ∈ q_tbl) (hn : ¬ n < 0) (hN' : n.toNatClampNeg = N') (hby : N' * 4 ≤ 536870912) (hf1 : cells + 1 ≤ R.cells) (hf2 : slots + N' ≤ R.slots) (hdg : decode b0 pc = .ok (.newarray .int, 2))
    (kk : ∀ (q : Nat) (H1 : Heap) (u : va_W), (∀ i, i ≠ N → u[i]? = ws[i]?) → u[N]? = some (q, .inl (g 0, N', .inl (fun _ => 0))) → u.length = N + 1 → q_Wd D g A s u H1 locs → W p l e R s m args below meth c H1 locs (cells + 1) (slots + N') Q (F0 m (pc + 2) ls (.ref q :: rest))) : W p l e R s m args below meth c H locs cells slots Q (F0 m pc ls (.int n :: rest)) :=
  va_newa (atype := .int) (ty := .int) C0.1 C0.2.1 (C0.2.2.2.2.2.1 _ h1) rfl V.2.2.2.1.1 V.1 V.2.1 V.2.2.1 V.2.2.2.2.2 (a0 := (N', .inl (fun _ => 0))) (fun _ => rfl) hn hN' hby hf1 hf2 hdg (fun q cA H1 a0 a1 a2 a3 => by
    have e1 : s.vm.findClass "[I" = some cA := (a0.2 7 (cA, .int) rfl).2
    have e2 : cA = g 0 := Option.some.inj (e1.symm.trans V.2.2.2.1.2.1)
    subst e2
    obtain ⟨b1, b2, b3⟩ := q_app (x := (q, .inl (g 0, N', .inl (fun _ => 0)))) hN; exact kk q H1 _ b1 b2 b3 ⟨a1, a2, a3, V.2.2.2.1, V.2.2.2.2.1, V.2.2.2.2.2⟩)
theorem q_newL {n : Int32} {N' : Nat} (C0 : q_At p s m args meth c y0 b0 n0 r0) (V : q_Wd D g A s ws H locs) (hN : ws.length = N) (h1 : Cond.arrayClass .long ∈ q_tbl) (hn : ¬ n < 0) (hN' : n.toNatClampNeg = N') (hby : N' * 8 ≤ 536870912) (hf1 : cells + 1 ≤ R.cells) (hf2 : slots + N' ≤ R.slots) (hdg : decode b0 pc = .ok (.newarray .long, 2))
    (kk : ∀ (q : Nat) (H1 : Heap) (u : va_W), (∀ i, i ≠ N → u[i]? = ws[i]?) → u[N]? = some (q, .inl (g 1, N', .inr (.inl (fun _ => 0)))) → u.length = N + 1 → q_Wd D g A s u H1 locs → W p l e R s m args below meth c H1 locs (cells + 1) (slots + N') Q (F0 m (pc + 2) ls (.ref q :: rest))) : W p l e R s m args below meth c H locs cells slots Q (F0 m pc ls (.int n :: rest)) :=
  va_newa (atype := .long) (ty := .long) C0.1 C0.2.1 (C0.2.2.2.2.2.1 _ h1) rfl V.2.2.2.1.1 V.1 V.2.1 V.2.2.1 V.2.2.2.2.2 (a0 := (N', .inr (.inl (fun _ => 0)))) (fun _ => rfl) hn hN' hby hf1 hf2 hdg (fun q cA H1 a0 a1 a2 a3 => by
    have e1 : s.vm.findClass "[J" = some cA := (a0.2 7 (cA, .long) rfl).2
    have e2 : cA = g 1 := Option.some.inj (e1.symm.trans V.2.2.2.1.2.2.1)
    subst e2
    obtain ⟨b1, b2, b3⟩ := q_app (x := (q, .inl (g 1, N', .inr (.inl (fun _ => 0))))) hN; exact kk q H1 _ b1 b2 b3 ⟨a1, a2, a3, V.2.2.2.1, V.2.2.2.2.1, V.2.2.2.2.2⟩)
theorem q_newB {n : Int32} {N' : Nat} (C0 : q_At p s m args meth c y0 b0 n0 r0) (V : q_Wd D g A s ws H locs) (hN : ws.length = N) (h1 : Cond.arrayClass .byte ∈ q_tbl) (hn : ¬ n < 0) (hN' : n.toNatClampNeg = N') (hby : N' * 1 ≤ 536870912) (hf1 : cells + 1 ≤ R.cells) (hf2 : slots + N' ≤ R.slots) (hdg : decode b0 pc = .ok (.newarray .byte, 2))
    (kk : ∀ (q : Nat) (H1 : Heap) (u : va_W), (∀ i, i ≠ N → u[i]? = ws[i]?) → u[N]? = some (q, .inl (g 2, N', .inl (fun _ => 0))) → u.length = N + 1 → q_Wd D g A s u H1 locs → W p l e R s m args below meth c H1 locs (cells + 1) (slots + N') Q (F0 m (pc + 2) ls (.ref q :: rest))) : W p l e R s m args below meth c H locs cells slots Q (F0 m pc ls (.int n :: rest)) :=
  va_newa (atype := .byte) (ty := .byte) C0.1 C0.2.1 (C0.2.2.2.2.2.1 _ h1) rfl V.2.2.2.1.1 V.1 V.2.1 V.2.2.1 V.2.2.2.2.2 (a0 := (N', .inl (fun _ => 0))) (fun _ => rfl) hn hN' hby hf1 hf2 hdg (fun q cA H1 a0 a1 a2 a3 => by
    have e1 : s.vm.findClass "[B" = some cA := (a0.2 7 (cA, .byte) rfl).2
    have e2 : cA = g 2 := Option.some.inj (e1.symm.trans V.2.2.2.1.2.2.2.1)
    subst e2
    obtain ⟨b1, b2, b3⟩ := q_app (x := (q, .inl (g 2, N', .inl (fun _ => 0)))) hN; exact kk q H1 _ b1 b2 b3 ⟨a1, a2, a3, V.2.2.2.1, V.2.2.2.2.1, V.2.2.2.2.2⟩)
theorem q_newZ {n : Int32} {N' : Nat} (C0 : q_At p s m args meth c y0 b0 n0 r0) (V : q_Wd D g A s ws H locs) (hN : ws.length = N) (h1 : Cond.arrayClass .boolean ∈ q_tbl) (hn : ¬ n < 0) (hN' : n.toNatClampNeg = N') (hby : N' * 1 ≤ 536870912) (hf1 : cells + 1 ≤ R.cells) (hf2 : slots + N' ≤ R.slots) (hdg : decode b0 pc = .ok (.newarray .boolean, 2))
    (kk : ∀ (q : Nat) (H1 : Heap) (u : va_W), (∀ i, i ≠ N → u[i]? = ws[i]?) → u[N]? = some (q, .inl (g 3, N', .inl (fun _ => 0))) → u.length = N + 1 → q_Wd D g A s u H1 locs → W p l e R s m args below meth c H1 locs (cells + 1) (slots + N') Q (F0 m (pc + 2) ls (.ref q :: rest))) : W p l e R s m args below meth c H locs cells slots Q (F0 m pc ls (.int n :: rest)) :=
  va_newa (atype := .boolean) (ty := .boolean) C0.1 C0.2.1 (C0.2.2.2.2.2.1 _ h1) rfl V.2.2.2.1.1 V.1 V.2.1 V.2.2.1 V.2.2.2.2.2 (a0 := (N', .inl (fun _ => 0))) (fun _ => rfl) hn hN' hby hf1 hf2 hdg (fun q cA H1 a0 a1 a2 a3 => by
    have e1 : s.vm.findClass "[Z" = some cA := (a0.2 7 (cA, .boolean) rfl).2
    have e2 : cA = g 3 := Option.some.inj (e1.symm.trans V.2.2.2.1.2.2.2.2.1)
    subst e2
    obtain ⟨b1, b2, b3⟩ := q_app (x := (q, .inl (g 3, N', .inl (fun _ => 0)))) hN; exact kk q H1 _ b1 b2 b3 ⟨a1, a2, a3, V.2.2.2.1, V.2.2.2.2.1, V.2.2.2.2.2⟩)
theorem q_newQ {n : Int32} {N' t : Nat} {E : String} (C0 : q_At p s m args meth c y0 b0 n0 r0) (V : q_Wd D g A s ws H locs) (hN : ws.length = N) (ho : y0.cls = own) (h1 : Cond.classLink own index E ∈ q_tbl) (h2 : Cond.arrayOver (.object E) ∈ q_odd) (ht : (q_ty g)[t]? = some (g t, .object E)) (hn : ¬ n < 0) (hN' : n.toNatClampNeg = N') (hby : N' * 4 ≤ 536870912) (hf1 : cells + 1 ≤ R.cells) (hf2 : slots + N' ≤ R.slots) (hdg : decode b0 pc = .ok (.anewarray index, 3))
    (kk : ∀ (q : Nat) (H1 : Heap) (u : va_W), (∀ i, i ≠ N → u[i]? = ws[i]?) → u[N]? = some (q, .inl (g t, N', .inr (.inr (.inr (.inr (fun _ => none)))))) → u.length = N + 1 → q_Wd D g A s u H1 locs → W p l e R s m args below meth c H1 locs (cells + 1) (slots + N') Q (F0 m (pc + 3) ls (.ref q :: rest))) : W p l e R s m args below meth c H locs cells slots Q (F0 m pc ls (.int n :: rest)) :=
  va_newq C0.1 C0.2.1 (by rw [← ho]; exact C0.2.2.2.2.1) (C0.2.2.2.2.2.1 _ h1) (V.2.2.2.2.1.1.2.2.2.2 _ h2) V.2.2.2.1.1 V.1 V.2.1 V.2.2.1 V.2.2.2.2.2 hn hN' hby hf1 hf2 hdg (fun q cA H1 a0 a1 a2 a3 => by
    obtain ⟨-, -, -, -, -, e1⟩ := (a0.2 7 (cA, .object E) rfl).2
    obtain ⟨-, -, -, -, -, e2⟩ := (V.2.2.2.1.1.2 t (g t, .object E) ht).2
    have e3 : cA = g t := Option.some.inj (e1.symm.trans e2)
    subst e3
    obtain ⟨b1, b2, b3⟩ := q_app (x := (q, .inl (g t, N', .inr (.inr (.inr (.inr (fun _ => none))))))) hN; exact kk q H1 _ b1 b2 b3 ⟨a1, a2, a3, V.2.2.2.1, V.2.2.2.2.1, V.2.2.2.2.2⟩)
/-- a reference into an array of them -/
theorem q_aast {t ci i9 : Nat} {r : vw_C} {f : Nat → Option Nat} {a k n v kv : Nat} {vs : List Value} {i : Int32} (C0 : q_At p s m args meth c y0 b0 n0 r0) (V : q_Wd D g A s ws H locs) (he : ws[k]? = some (a, .inl (g t, n, .inr (.inr (.inr (.inr f)))))) (ht : (q_ty g)[t]? = some (g t, .object r.1)) (hv : ws[kv]? = some (v, .inr (ci, vs))) (hc : q_cl[ci]? = some r) (hi : i.toNatClampNeg = i9) (hin : vp_in i n) (hdg : decode b0 pc = .ok (.aastore, 1))
    (kk : ∀ (H1 : Heap) (locs1 : List Loc) (u : va_W), (∀ i, i ≠ k → u[i]? = ws[i]?) → u[k]? = some (a, .inl (g t, n, .inr (.inr (.inr (.inr (va_up f i9 (some v))))))) → q_Wd D g A s u H1 locs1 → W p l e R s m args below meth c H1 locs1 cells slots Q (F0 m (pc + 1) ls rest)) : W p l e R s m args below meth c H locs cells slots Q (F0 m pc ls (.ref v :: .int i :: .ref a :: rest)) :=
  va_astq C0.1 C0.2.1 V.2.2.2.1.1 V.1 V.2.1 V.2.2.1 k t kv ci he ht hv hc hin hdg (fun H1 locs1 h1 h2 h3 => by
    rw [hi] at h1 h2
    exact kk H1 locs1 _ (fun i hi => List.getElem?_set_ne (Ne.symm hi)) (q_se he) ⟨h1, h2, h3, V.2.2.2.1, V.2.2.2.2.1, V.2.2.2.2.2⟩)
end QG
def q_LN (own : String) (index : Nat) (y : MethodName) (b : ByteArray) (n : Nat) (k : Nat) (host : String) : Prop :=
  Cond.code y b n none ∈ q_tbl ∧ Cond.initialized y.cls ∈ q_tbl ∧ Cond.methodLinkNest own index y host ∈ q_odd ∧ Cond.instanceMethod y ∈ q_tbl ∧ y.name = "<init>" ∧ (y.cls ≠ "java/lang/invoke/MethodHandle" ∧ y.cls ≠ "java/lang/invoke/VarHandle" ∧ (parseMethodDescriptor y.desc).map (fun d => d.parameters.length) = some k)
section QGN
variable {p : Program} {l : Launch} {e : Env} {R : Room} {s : State} {m : MethodId} {args : Array Value} {below : List Frame} {meth : Method} {c : Code} {H : Heap} {locs : List Loc} {cells slots : Nat} {Q : State → Prop}
variable {D : va_G} {g : Nat → ClassId} {A : Nat → Prop} {ws : va_W} {y0 : MethodName} {b0 : ByteArray} {n0 : Nat} {r0 : Option FieldType} {pc : Nat} {ls : Array Slot} {rest st0 As : List Value}
variable {own host : String} {index : Nat} {y : MethodName} {b : ByteArray} {n k d mc ms : Nat} {r : Option FieldType} {Qc : Array Value → State → Outcome → State → Prop}
theorem q_runN {a : Nat} (C0 : q_At p s m args meth c y0 b0 n0 r0) (V : q_Wd D g A s ws H locs) (ho : y0.cls = own) (L : q_LN own index y b n k host) (hM : Met l y (q_w y b n none) (q_rm d mc ms) (q_P D g (.ref a :: As) ws H.size) Qc mc ms (va_A ws H.size)) (hn : As.length = k) (hsz : ls.size = n0) (hst : st0 = As.reverse ++ .ref a :: rest) (hcat : (rest.map fun v => v.category).sum ≤ 8) (hR : d + 1 ≤ R.frames ∧ 8 + (n + 11) + 64 * d ≤ R.locals) (hf : cells + mc ≤ R.cells ∧ slots + ms ≤ R.slots) (hdg : decode b0 pc = .ok (.invokespecial index, 3)) :
    va_Run p l e R s m args below meth c H locs cells slots mc ms (F0 m pc ls st0) rest (Qc (Value.ref a :: As).toArray) (va_A ws H.size) :=
  va_runIN (As := As) (rest := rest) (host := host) ⟨C0.1, C0.2.1, C0.2.2.2.1, by rw [← ho]; exact C0.2.2.2.2.1, C0.2.2.2.2.2.1⟩ hM
    ⟨va_cnB k C0.2.2.2.2.2.1 (q_gw L.1) rfl rfl rfl (V.2.2.2.2.1.1.2.2.2.2 _ L.2.2.1) (C0.2.2.2.2.2.1 _ L.2.1) L.2.2.2.2.2 hR, L.2.2.2.2.1, C0.2.2.2.2.2.1 _ L.2.2.2.1⟩
    ⟨q_blind, fun U hU hW => q_pre V U hU hW⟩ rfl hn hsz hst (lv_room hcat) hdg hf
end QGN

/-! loops; numbers of 32 bits as integers; rows of zeros; fields of nested classes; tables; arraycopy -/
section QL
variable {p : Program} {l : Launch} {e : Env} {R : Room} {s : State} {m : MethodId} {args : Array Value} {below : List Frame} {meth : Method} {c : Code} {H : Heap} {locs : List Loc} {cells slots : Nat} {Q : State → Prop}
variable {D : va_G} {g : Nat → ClassId} {A : Nat → Prop} {ws : va_W} {y0 : MethodName} {b0 : ByteArray} {n0 : Nat} {r0 : Option FieldType} {pc : Nat} {ls : Array Slot} {rest : List Value} {own : String} {index : Nat}
/-- a loop: I stands at its head, the measure falls -/
theorem q_loop {X : Type} (I : X → Heap → List Loc → Array Slot → va_W → Prop) (μ : X → Nat)
    (body : ∀ (x : X) (H : Heap) (locs : List Loc) (ls : Array Slot) (u : va_W), I x H locs ls u → (∀ (x' : X) (H' : Heap) (locs' : List Loc) (ls' : Array Slot) (u' : va_W), μ x' < μ x → I x' H' locs' ls' u' → W p l e R s m args below meth c H' locs' cells slots Q (F0 m pc ls' rest)) → W p l e R s m args below meth c H locs cells slots Q (F0 m pc ls rest))
    (x0 : X) (H0 : Heap) (locs0 : List Loc) (ls0 : Array Slot) (u0 : va_W) (h0 : I x0 H0 locs0 ls0 u0) : W p l e R s m args below meth c H0 locs0 cells slots Q (F0 m pc ls0 rest) := by
  have key : ∀ (n : Nat) (x : X) (H : Heap) (locs : List Loc) (ls : Array Slot) (u : va_W), μ x < n → I x H locs ls u → W p l e R s m args below meth c H locs cells slots Q (F0 m pc ls rest) := by
    intro n
    induction n with
    | zero => intro x H locs ls u h; omega
    | succ n ih => intro x H locs ls u h hI; exact body x H locs ls u hI (fun x' H' locs' ls' u' h' hI' => ih x' H' locs' ls' u' (by omega) hI')
  exact key (μ x0 + 1) x0 H0 locs0 ls0 u0 (by omega) h0
end QL
theorem q_lw {ls : Array Slot} {n : Nat} {l l' : List (Nat × Value)} (h : lv_has ls n l) (hs : ∀ q ∈ l', q ∈ l) : lv_has ls n l' := ⟨h.1, h.2.1, fun q hq => h.2.2 q (hs q hq)⟩
theorem q_lw0 {l : List (Nat × Value)} : ∀ q ∈ ([] : List (Nat × Value)), q ∈ l := fun _ h => absurd h List.not_mem_nil
theorem q_lw1 {l l' : List (Nat × Value)} {x : Nat × Value} (i : Nat) (h : l[i]? = some x) (t : ∀ q ∈ l', q ∈ l) : ∀ q ∈ x :: l', q ∈ l := fun q hq => by
  rcases List.mem_cons.mp hq with e | e
  · exact e ▸ List.mem_of_getElem? h
  · exact t q e
/-! 32 bits as integers -/
theorem q_ltI {a b : Int32} (h : a < b) : a.toInt < b.toInt := Int32.lt_iff_toInt_lt.mp h
theorem q_leI {a b : Int32} (h : a ≤ b) : a.toInt ≤ b.toInt := Int32.le_iff_toInt_le.mp h
theorem q_nltI {a b : Int32} (h : ¬ a < b) : b.toInt ≤ a.toInt := Int32.le_iff_toInt_le.mp (Int32.not_lt.mp h)
theorem q_nleI {a b : Int32} (h : ¬ a ≤ b) : b.toInt < a.toInt := Int32.lt_iff_toInt_lt.mp (Int32.not_le.mp h)
theorem q_eqI {a b : Int32} (h : a = b) : a.toInt = b.toInt := congrArg Int32.toInt h
theorem q_neI {a b : Int32} (h : ¬ a = b) : a.toInt ≠ b.toInt := fun q => h (Int32.toInt_inj.mp q)
theorem q_Ilt {a b : Int32} {x y : Int} (ha : a.toInt = x) (hb : b.toInt = y) (h : x < y) : a < b := Int32.lt_iff_toInt_lt.mpr (by omega)
theorem q_Ile {a b : Int32} {x y : Int} (ha : a.toInt = x) (hb : b.toInt = y) (h : x ≤ y) : a ≤ b := Int32.le_iff_toInt_le.mpr (by omega)
theorem q_Ieq {a b : Int32} {x y : Int} (ha : a.toInt = x) (hb : b.toInt = y) (h : x = y) : a = b := Int32.toInt_inj.mp (by omega)
theorem q_Ine {a b : Int32} {x y : Int} (ha : a.toInt = x) (hb : b.toInt = y) (h : x ≠ y) : ¬ a = b := fun q => h (by rw [← ha, ← hb, q])
theorem q_bm {x : Int} (h1 : -2147483648 ≤ x) (h2 : x ≤ 2147483647) : x.bmod (2 ^ 32) = x := by
  have : ((2 ^ 32 : Nat) : Int) = 4294967296 := rfl
  rw [Int.bmod_def, this]
  split <;> omega
theorem q_addI {a b : Int32} {x y : Int} (ha : a.toInt = x) (hb : b.toInt = y) (h1 : -2147483648 ≤ x + y) (h2 : x + y ≤ 2147483647) : (a + b).toInt = x + y := by
  rw [Int32.toInt_add, ha, hb]; exact q_bm h1 h2
theorem q_subI {a b : Int32} {x y : Int} (ha : a.toInt = x) (hb : b.toInt = y) (h1 : -2147483648 ≤ x - y) (h2 : x - y ≤ 2147483647) : (a - b).toInt = x - y := by
  rw [Int32.toInt_sub, ha, hb]; exact q_bm h1 h2
theorem q_mulI {a b : Int32} {x y : Int} (ha : a.toInt = x) (hb : b.toInt = y) (h1 : -2147483648 ≤ x * y) (h2 : x * y ≤ 2147483647) : (a * b).toInt = x * y := by
  rw [Int32.toInt_mul, ha, hb]; exact q_bm h1 h2
theorem q_clI {i : Int32} {x : Int} (h : i.toInt = x) (h0 : 0 ≤ x) : ((i.toNatClampNeg : Nat) : Int) = x := by
  have : i.toNatClampNeg = i.toInt.toNat := rfl
  rw [this, h]; omega
theorem q_ix {i : Int32} {n : Nat} {x : Int} (h : i.toInt = x) (h0 : 0 ≤ x) (h1 : x < n) : vp_in i n := by
  have h2 := q_clI h h0
  unfold vp_in
  rintro (h3 | h3)
  · have h4 : i.toInt < 0 := Int32.lt_iff_toInt_lt.mp h3
    omega
  · omega
theorem q_upd0 {i : Nat} : upd (fun _ => 0) i 0 = fun _ => 0 := by
  funext j; unfold upd; split <;> rfl
theorem q_updL0 {i : Nat} : vp_updL (fun _ => 0) i 0 = fun _ => 0 := by
  funext j; unfold vp_updL; split <;> rfl
/-- a cell's content in another form -/
theorem q_re {ws : va_W} {k : Nat} {x y : Nat × va_E} (h : ws[k]? = some x) (e : x = y) : ws[k]? = some y := e ▸ h
section QN
variable {p : Program} {l : Launch} {e : Env} {R : Room} {s : State} {m : MethodId} {args : Array Value} {below : List Frame} {meth : Method} {c : Code} {H : Heap} {locs : List Loc} {cells slots : Nat} {Q : State → Prop}
variable {D : va_G} {g : Nat → ClassId} {A : Nat → Prop} {ws : va_W} {y0 : MethodName} {b0 : ByteArray} {n0 : Nat} {r0 : Option FieldType} {pc : Nat} {ls : Array Slot} {rest st0 As : List Value} {a k n : Nat} {i : Int32} {own : String} {index : Nat}
theorem q_getN {C host : String} {T : u_T} {N ci : Nat} {fs : List Value} {v : Value} {j : Nat} (C0 : q_At p s m args meth c y0 b0 n0 r0) (V : q_Wd D g A s ws H locs) (hin : ∀ w ∈ u_ws C T N, w ∈ q_tbl) (ho : y0.cls = own) (hc : q_cl[ci]? = some (C, T, N)) (he : ws[k]? = some (a, .inr (ci, fs))) (hj : j < N) (hw : Cond.fieldLinkNest own index (T j).1 (T j).2.1 (T j).2.2.1 host ∈ q_odd) (hv : fs[j]? = some v) (hdg : decode b0 pc = .ok (.getfield index, 3))
    (kk : W p l e R s m args below meth c H locs cells slots Q (F0 m (pc + 3) ls (v :: rest))) : W p l e R s m args below meth c H locs cells slots Q (F0 m pc ls (.ref a :: rest)) :=
  va_getN (host := host) C0.1 C0.2.1 C0.2.2.2.2.2.1 hin (by rw [← ho]; exact C0.2.2.2.2.1) V.2.2.2.1.1 V.1 k he hc j hj (va_Nw.use rfl (V.2.2.2.2.1.1.2.2.2.2 _ hw)) (fun _ h => h) hv hdg kk
theorem q_putN {C host : String} {T : u_T} {N ci : Nat} {fs : List Value} {v : Value} {j : Nat} {t : Nat → FieldType} {ty : FieldType} (C0 : q_At p s m args meth c y0 b0 n0 r0) (V : q_Wd D g A s ws H locs) (hin : ∀ w ∈ u_ws C T N, w ∈ q_tbl) (ht : ∀ k, k < N → parseFieldDescriptor (T k).2.2.1 = some (t k)) (hnm : ∀ a, a < N → ∀ b, b < N → a ≠ b → (T a).2.1 ≠ (T b).2.1) (ho : y0.cls = own) (hc : q_cl[ci]? = some (C, T, N)) (he : ws[k]? = some (a, .inr (ci, fs))) (hj : j < N) (hw : Cond.fieldLinkNest own index (T j).1 (T j).2.1 (T j).2.2.1 host ∈ q_odd) (hfin : (T j).2.2.2 = false) (hty : t j = ty) (hn : narrow ty v = v) (hf : fits ty v = true) (hl : j < fs.length) (hdg : decode b0 pc = .ok (.putfield index, 3))
    (kk : ∀ (H1 : Heap) (locs1 : List Loc) (u : va_W), (∀ i, i ≠ k → u[i]? = ws[i]?) → u[k]? = some (a, .inr (ci, fs.set j v)) → q_Wd D g A s u H1 locs1 → W p l e R s m args below meth c H1 locs1 cells slots Q (F0 m (pc + 3) ls rest)) : W p l e R s m args below meth c H locs cells slots Q (F0 m pc ls (v :: .ref a :: rest)) :=
  va_putN (host := host) C0.1 C0.2.1 C0.2.2.2.2.2.1 hin t ht hnm (by rw [← ho]; exact C0.2.2.2.2.1) V.2.2.2.1.1 V.1 V.2.1 V.2.2.1 k he hc j hj (va_Nw.use rfl (V.2.2.2.2.1.1.2.2.2.2 _ hw)) (fun _ h => h) hfin (by rw [← hty]; exact ht j hj) hn hf hl hdg
    (fun H1 locs1 h1 h2 h3 => kk H1 locs1 _ (fun i hi => List.getElem?_set_ne (Ne.symm hi)) (q_se he) ⟨h1, h2, h3, V.2.2.2.1, V.2.2.2.2.1, V.2.2.2.2.2⟩)
theorem q_zast {f : Nat → Int32} {x : Int32} (C0 : q_At p s m args meth c y0 b0 n0 r0) (V : q_Wd D g A s ws H locs) (he : ws[k]? = some (a, .inl (g 3, n, .inl f))) (hin : vp_in i n) (hdg : decode b0 pc = .ok (.bastore, 1))
    (kk : ∀ (H1 : Heap) (locs1 : List Loc) (u : va_W), (∀ i, i ≠ k → u[i]? = ws[i]?) → u[k]? = some (a, .inl (g 3, n, .inl (upd f i.toNatClampNeg (vp_nar .boolean x)))) → q_Wd D g A s u H1 locs1 → W p l e R s m args below meth c H1 locs1 cells slots Q (F0 m (pc + 1) ls rest)) : W p l e R s m args below meth c H locs cells slots Q (F0 m pc ls (.int x :: .int i :: .ref a :: rest)) :=
  va_zast C0.1 C0.2.1 V.2.2.2.1.1 V.1 V.2.1 V.2.2.1 k 3 he rfl hin hdg (fun H1 locs1 h1 h2 h3 => kk H1 locs1 _ (fun i hi => List.getElem?_set_ne (Ne.symm hi)) (q_se he) ⟨h1, h2, h3, V.2.2.2.1, V.2.2.2.2.1, V.2.2.2.2.2⟩)
/-- the tables of Big: their row, and a place in it -/
theorem q_tens (C0 : q_At p s m args meth c y0 b0 n0 r0) (V : q_Wd D g A s ws H locs) (ho : y0.cls = own) (hw : Cond.fieldLink own index "NumberHouse$Big" "TENS" "[I" ∈ q_tbl) (hdg : decode b0 pc = .ok (.getstatic index, 3))
    (kk : ∀ t : Nat, va_T .int t 10 q_ten A s s.heap → W p l e R s m args below meth c H locs cells slots Q (F0 m (pc + 3) ls (.ref t :: rest))) : W p l e R s m args below meth c H locs cells slots Q (F0 m pc ls rest) := by
  obtain ⟨⟨t, h1, h2⟩, -⟩ := V.2.2.2.2.1.1
  exact va_gets C0.1 C0.2.1 h1 V.2.2.1 (by rw [← ho]; exact C0.2.2.2.2.1) (C0.2.2.2.2.2.1 _ hw) (fun _ h => h) hdg (kk t h2)
theorem q_fives (C0 : q_At p s m args meth c y0 b0 n0 r0) (V : q_Wd D g A s ws H locs) (ho : y0.cls = own) (hw : Cond.fieldLink own index "NumberHouse$Big" "FIVES" "[I" ∈ q_tbl) (hdg : decode b0 pc = .ok (.getstatic index, 3))
    (kk : ∀ t : Nat, va_T .int t 14 q_five A s s.heap → W p l e R s m args below meth c H locs cells slots Q (F0 m (pc + 3) ls (.ref t :: rest))) : W p l e R s m args below meth c H locs cells slots Q (F0 m pc ls rest) := by
  obtain ⟨-, ⟨t, h1, h2⟩, -⟩ := V.2.2.2.2.1.1
  exact va_gets C0.1 C0.2.1 h1 V.2.2.1 (by rw [← ho]; exact C0.2.2.2.2.1) (C0.2.2.2.2.2.1 _ hw) (fun _ h => h) hdg (kk t h2)
theorem q_tald {t N : Nat} {f : Nat → Value} {v : Value} (C0 : q_At p s m args meth c y0 b0 n0 r0) (V : q_Wd D g A s ws H locs) (hT : va_T .int t N f A s s.heap) (hin : vp_in i N) (hv : f i.toNatClampNeg = v) (hdg : decode b0 pc = .ok (.iaload, 1))
    (kk : W p l e R s m args below meth c H locs cells slots Q (F0 m (pc + 1) ls (v :: rest))) : W p l e R s m args below meth c H locs cells slots Q (F0 m pc ls (.int i :: .ref t :: rest)) :=
  va_ti C0.1 C0.2.1 hT V.2.2.1 hin hv hdg kk
/-- System.arraycopy between two rows of int -/
theorem q_copy {k1 a1 n1 : Nat} {f f1 : Nat → Int32} {sp dp z : Int32} (C0 : q_At p s m args meth c y0 b0 n0 r0) (V : q_Wd D g A s ws H locs) (hsz : ls.size = n0) (ho : y0.cls = own) (w1 : Cond.methodLink own index arraycopyName ∈ q_tbl) (w2 : Cond.native arraycopyName ∈ q_tbl) (w3 : Cond.static arraycopyName ∈ q_tbl) (w4 : Cond.initialized "java/lang/System" ∈ q_tbl) (he : ws[k]? = some (a, .inl (g 0, n, .inl f))) (he1 : ws[k1]? = some (a1, .inl (g 0, n1, .inl f1))) (h1 : ¬ sp < 0) (h2 : ¬ dp < 0) (h3 : ¬ z < 0) (h4 : sp.toNatClampNeg + z.toNatClampNeg ≤ n) (h5 : dp.toNatClampNeg + z.toNatClampNeg ≤ n1) (hR : 1 ≤ R.frames ∧ (rest.map fun v => v.category).sum + (nativeFrameWords "java/lang/System" "arraycopy" 5 + 11) ≤ R.locals) (hdg : decode b0 pc = .ok (.invokestatic index, 3))
    (kk : ∀ (H1 : Heap) (locs1 : List Loc) (u : va_W), (∀ i, i ≠ k1 → u[i]? = ws[i]?) → u[k1]? = some (a1, .inl (g 0, n1, .inl (va_cpy f f1 sp.toNatClampNeg dp.toNatClampNeg z.toNatClampNeg))) → q_Wd D g A s u H1 locs1 → W p l e R s m args below meth c H1 locs1 cells slots Q (F0 m (pc + 3) ls rest)) : W p l e R s m args below meth c H locs cells slots Q (F0 m pc ls (.int z :: .int dp :: .ref a1 :: .int sp :: .ref a :: rest)) :=
  va_copyi C0.1 C0.2.1 (by rw [hsz]; exact C0.2.2.2.1) (by rw [← ho]; exact C0.2.2.2.2.1) (C0.2.2.2.2.2.1 _ w1) (C0.2.2.2.2.2.1 _ w2) (C0.2.2.2.2.2.1 _ w3) (C0.2.2.2.2.2.1 _ w4) V.2.2.2.1.1 V.1 V.2.1 V.2.2.1 k k1 0 0 he he1 rfl rfl rfl h1 h2 h3 h4 h5 (fun _ _ => rfl) hR.1 hR.2 hdg
    (fun H1 locs1 x1 x2 x3 => kk H1 locs1 _ (fun i hi => List.getElem?_set_ne (Ne.symm hi)) (q_se he1) ⟨x1, x2, x3, V.2.2.2.1, V.2.2.2.2.1, V.2.2.2.2.2⟩)
theorem q_cpy0 {α : Type} {f f1 : Nat → α} {a b : Nat} : va_cpy f f1 a b 0 = f1 := by
  funext k; unfold va_cpy; rw [if_neg (by omega)]
theorem q_gor {mc ms : Nat} {aa : Array Value} {post : Nat → va_W → Prop} (V : q_Wd D g A s ws H locs) (hr : va_Run p l e R s m args below meth c H locs cells slots mc ms (F0 m pc ls st0) rest (va_Qr (fun u : Nat × va_W => post u.1 u.2) (fun u x t => x = u.1 ∧ q_B D g (va_A ws H.size) u.2 t) (va_A ws H.size) aa) (va_A ws H.size))
    (kk : ∀ (v : Nat) (ws1 : va_W) (H1 : Heap) (locs1 : List Loc), post v ws1 → q_Wd D g A s ws1 H1 locs1 → W p l e R s m args below meth c H1 locs1 (cells + mc) (slots + ms) Q (F0 m (pc + 3) ls (.ref v :: rest))) : W p l e R s m args below meth c H locs cells slots Q (F0 m pc ls st0) :=
  va_callr hr V.2.2.1 (fun q _ h => q_fr V.2.1 V.2.2.1 V.2.2.2.2.2 q h) (q_fr V.2.1 V.2.2.1 V.2.2.2.2.2) (fun u ra t H1 locs1 ht hvm hp hB hz hk hS => by
    obtain ⟨e1, hB⟩ := hB
    subst e1
    exact kk u.1 u.2 H1 locs1 hp ⟨by rw [← ht]; exact hB.1, hB.2.2.weaken (fun _ q _ h => q_fr V.2.1 V.2.2.1 V.2.2.2.2.2 q.1 h), hS, V.2.2.2.1, V.2.2.2.2.1, V.2.2.2.2.2⟩)
end QN
/-- from the place B on all is as it was -/
def q_ge (B : Nat) (ws u : va_W) : Prop := ∀ i, B ≤ i → u[i]? = ws[i]?
theorem q_g0 {B : Nat} {ws : va_W} : q_ge B ws ws := fun _ _ => rfl
theorem q_gs {B k : Nat} {ws u u2 : va_W} (h : q_ge B ws u) (hu : ∀ i, i ≠ k → u2[i]? = u[i]?) (hk : k < B) : q_ge B ws u2 := fun i hi => (hu i (by omega)).trans (h i hi)
theorem q_gc {B : Nat} {ws u u2 : va_W} {ks : List Nat} (h : q_ge B ws u) (hu : q_un u u2 ks) (hk : ∀ k, k ∈ ks → k < B) : q_ge B ws u2 := fun i hi => (hu i (fun q => absurd (hk i q) (by omega))).trans (h i hi)
theorem q_gt {B : Nat} {ws u u2 : va_W} (h : q_ge B ws u) (h2 : q_ge B u u2) : q_ge B ws u2 := fun i hi => (h2 i hi).trans (h i hi)
theorem q_f5 {a i c : Nat} (h : Nat.ble a c = false) : a + 5 * i ≠ c := fun e => by
  have h1 : ¬ a ≤ c := fun q => by rw [Nat.ble_eq_true_of_le q] at h; cases h
  omega
theorem q_r10 {i : Int32} {x : Int} (h : i.toInt = x) (h0 : 0 ≤ x) (h1 : x < 10) : i.toNatClampNeg < 10 := by
  have h2 := q_clI h h0
  omega
theorem q_ldcw {p : Program} {l : Launch} {e : Env} {R : Room} {s : State} {m : MethodId} {args : Array Value} {below : List Frame} {meth : Method} {c : Code} {H : Heap} {locs : List Loc} {cells slots : Nat} {Q : State → Prop} {y0 : MethodName} {b0 : ByteArray} {n0 : Nat} {r0 : Option FieldType} {pc : Nat} {ls : Array Slot} {rest : List Value} {own : String} {index : Nat} {v : Int32} (C0 : q_At p s m args meth c y0 b0 n0 r0) (ho : y0.cls = own) (hw : Cond.constant own index v ∈ q_tbl) (hdg : decode b0 pc = .ok (.ldc_w index, 3))
    (kk : W p l e R s m args below meth c H locs cells slots Q (F0 m (pc + 3) ls (.int v :: rest))) : W p l e R s m args below meth c H locs cells slots Q (F0 m pc ls rest) :=
  lv_ldcw C0.1 C0.2.1 (by rw [← ho]; exact C0.2.2.2.2.1) (C0.2.2.2.2.2.1 _ hw) hdg kk
theorem q_cpyz {a b n : Nat} : va_cpy (fun _ => (0 : Int32)) (fun _ => 0) a b n = fun _ => 0 := by
  funext k; unfold va_cpy; split <;> rfl
/-! 64 bits as integers -/
theorem q_lo32 {x : Int32} : -2147483648 ≤ x.toInt := Int32.le_toInt x
theorem q_hi32 {x : Int32} : x.toInt < 2147483648 := Int32.toInt_lt x
theorem q_i2l {a : Int32} {x : Int} (h : a.toInt = x) : a.toInt64.toInt = x := by rw [Int32.toInt_toInt64, h]
theorem q_bmL {x : Int} (h1 : -9223372036854775808 ≤ x) (h2 : x ≤ 9223372036854775807) : x.bmod (2 ^ 64) = x := by
  have : ((2 ^ 64 : Nat) : Int) = 18446744073709551616 := rfl
  rw [Int.bmod_def, this]
  split <;> omega
theorem q_addL {a b : Int64} {x y : Int} (ha : a.toInt = x) (hb : b.toInt = y) (h1 : -9223372036854775808 ≤ x + y) (h2 : x + y ≤ 9223372036854775807) : (a + b).toInt = x + y := by
  rw [Int64.toInt_add, ha, hb]; exact q_bmL h1 h2
theorem q_subL {a b : Int64} {x y : Int} (ha : a.toInt = x) (hb : b.toInt = y) (h1 : -9223372036854775808 ≤ x - y) (h2 : x - y ≤ 9223372036854775807) : (a - b).toInt = x - y := by
  rw [Int64.toInt_sub, ha, hb]; exact q_bmL h1 h2
theorem q_mulL {a b : Int64} {x y : Int} (ha : a.toInt = x) (hb : b.toInt = y) (h1 : -9223372036854775808 ≤ x * y) (h2 : x * y ≤ 9223372036854775807) : (a * b).toInt = x * y := by
  rw [Int64.toInt_mul, ha, hb]; exact q_bmL h1 h2
theorem q_cmL {a b : Int64} {x y : Int} (ha : a.toInt = x) (hb : b.toInt = y) (h : x < y) : lg_cmp a b = -1 := by
  have h2 : ¬ a > b := fun q => by have := Int64.lt_iff_toInt_lt.mp q; omega
  have h3 : ¬ a = b := fun q => by subst q; omega
  unfold lg_cmp
  rw [if_neg h2, if_neg h3]
theorem q_cmG {a b : Int64} {x y : Int} (ha : a.toInt = x) (hb : b.toInt = y) (h : y < x) : lg_cmp a b = 1 := by
  have h1 : a > b := Int64.lt_iff_toInt_lt.mpr (by omega)
  unfold lg_cmp
  rw [if_pos h1]
theorem q_cmE {a b : Int64} {x y : Int} (ha : a.toInt = x) (hb : b.toInt = y) (h : x = y) : lg_cmp a b = 0 := by
  have h1 : a = b := Int64.toInt_inj.mp (by omega)
  subst h1
  have h2 : ¬ a > a := fun q => by have := Int64.lt_iff_toInt_lt.mp q; omega
  unfold lg_cmp
  rw [if_neg h2, if_pos rfl]
theorem q_cm3 (a b : Int64) : (a.toInt < b.toInt ∧ lg_cmp a b = -1) ∨ (a.toInt = b.toInt ∧ lg_cmp a b = 0) ∨ (b.toInt < a.toInt ∧ lg_cmp a b = 1) := by
  rcases Int.lt_trichotomy a.toInt b.toInt with h | h | h
  · exact Or.inl ⟨h, q_cmL rfl rfl h⟩
  · exact Or.inr (Or.inl ⟨h, q_cmE rfl rfl h⟩)
  · exact Or.inr (Or.inr ⟨h, q_cmG rfl rfl h⟩)
theorem q_k1 {a b : Int64} (h : lg_cmp a b < 0) : a.toInt < b.toInt := by
  rcases q_cm3 a b with ⟨q, e⟩ | ⟨q, e⟩ | ⟨q, e⟩ <;> first | exact q | (rw [e] at h; exact absurd h (by decide))
theorem q_k2 {a b : Int64} (h : ¬ lg_cmp a b < 0) : b.toInt ≤ a.toInt := by
  rcases q_cm3 a b with ⟨q, e⟩ | ⟨q, e⟩ | ⟨q, e⟩ <;> first | omega | (rw [e] at h; exact absurd h (by decide))
theorem q_k3 {a b : Int64} (h : 0 < lg_cmp a b) : b.toInt < a.toInt := by
  rcases q_cm3 a b with ⟨q, e⟩ | ⟨q, e⟩ | ⟨q, e⟩ <;> first | exact q | (rw [e] at h; exact absurd h (by decide))
theorem q_k4 {a b : Int64} (h : ¬ 0 < lg_cmp a b) : a.toInt ≤ b.toInt := by
  rcases q_cm3 a b with ⟨q, e⟩ | ⟨q, e⟩ | ⟨q, e⟩ <;> first | omega | (rw [e] at h; exact absurd h (by decide))
theorem q_k5 {a b : Int64} (h : lg_cmp a b ≤ 0) : a.toInt ≤ b.toInt := by
  rcases q_cm3 a b with ⟨q, e⟩ | ⟨q, e⟩ | ⟨q, e⟩ <;> first | omega | (rw [e] at h; exact absurd h (by decide))
theorem q_k6 {a b : Int64} (h : ¬ lg_cmp a b ≤ 0) : b.toInt < a.toInt := by
  rcases q_cm3 a b with ⟨q, e⟩ | ⟨q, e⟩ | ⟨q, e⟩ <;> first | exact q | (rw [e] at h; exact absurd h (by decide))
theorem q_k7 {a b : Int64} (h : 0 ≤ lg_cmp a b) : b.toInt ≤ a.toInt := by
  rcases q_cm3 a b with ⟨q, e⟩ | ⟨q, e⟩ | ⟨q, e⟩ <;> first | omega | (rw [e] at h; exact absurd h (by decide))
theorem q_k8 {a b : Int64} (h : ¬ 0 ≤ lg_cmp a b) : a.toInt < b.toInt := by
  rcases q_cm3 a b with ⟨q, e⟩ | ⟨q, e⟩ | ⟨q, e⟩ <;> first | exact q | (rw [e] at h; exact absurd h (by decide))
theorem q_k9 {a b : Int64} (h : lg_cmp a b = 0) : a.toInt = b.toInt := by
  rcases q_cm3 a b with ⟨q, e⟩ | ⟨q, e⟩ | ⟨q, e⟩ <;> first | exact q | (rw [e] at h; exact absurd h (by decide))
theorem q_k10 {a b : Int64} (h : ¬ lg_cmp a b = 0) : a.toInt ≠ b.toInt := by
  rcases q_cm3 a b with ⟨q, e⟩ | ⟨q, e⟩ | ⟨q, e⟩ <;> first | omega | (rw [e] at h; exact absurd h (by decide))
theorem q_negI {a : Int32} {x : Int} (ha : a.toInt = x) (h : -2147483647 ≤ x) : (-a).toInt = -x := by
  have hb := q_hi32 (x := a)
  rw [ha] at hb
  rw [Int32.toInt_neg, ha]; exact q_bm (by omega) (by omega)
theorem q_cpy1 {f f1 : Nat → Int32} : va_cpy f f1 (0 : Int32).toNatClampNeg (0 : Int32).toNatClampNeg (1 : Int32).toNatClampNeg = upd f1 0 (f 0) := by
  funext k; show va_cpy f f1 0 0 1 k = _; unfold va_cpy upd
  by_cases h : k = 0
  · subst h; rfl
  · rw [if_neg (by omega), if_neg h]
theorem q_cpy2 {f f1 : Nat → Int32} : va_cpy f f1 (0 : Int32).toNatClampNeg (0 : Int32).toNatClampNeg (2 : Int32).toNatClampNeg = upd (upd f1 0 (f 0)) 1 (f 1) := by
  funext k; show va_cpy f f1 0 0 2 k = _; unfold va_cpy upd
  by_cases h : k = 0
  · subst h; rfl
  · by_cases h1 : k = 1
    · subst h1; rfl
    · rw [if_neg (by omega), if_neg h1, if_neg h]
theorem q_cpy3 {f f1 : Nat → Int32} : va_cpy f f1 (0 : Int32).toNatClampNeg (0 : Int32).toNatClampNeg (3 : Int32).toNatClampNeg = upd (upd (upd f1 0 (f 0)) 1 (f 1)) 2 (f 2) := by
  funext k; show va_cpy f f1 0 0 3 k = _; unfold va_cpy upd
  by_cases h : k = 0
  · subst h; rfl
  · by_cases h1 : k = 1
    · subst h1; rfl
    · by_cases h2 : k = 2
      · subst h2; rfl
      · rw [if_neg (by omega), if_neg h2, if_neg h1, if_neg h]
theorem q_a63 {a : Int32} : (a &&& 63).toInt = ((a.toBitVec.toNat &&& 63 : Nat) : Int) := by
  have h1 : (a &&& 63).toBitVec.toNat = a.toBitVec.toNat &&& 63 := by
    rw [Int32.toBitVec_and, BitVec.toNat_and]; rfl
  have h2 : a.toBitVec.toNat &&& 63 ≤ 63 := Nat.and_le_right
  show (a &&& 63).toBitVec.toInt = _
  rw [BitVec.toInt_eq_toNat_of_lt (by rw [h1]; omega), h1]
theorem q_a63l {a : Int32} : 0 ≤ a &&& 63 := Int32.le_iff_toInt_le.mpr (by rw [q_a63]; show (0 : Int) ≤ _; omega)
theorem q_a63h {a : Int32} : a &&& 63 ≤ 63 := Int32.le_iff_toInt_le.mpr (by
  rw [q_a63]; show _ ≤ (63 : Int)
  have h2 : a.toBitVec.toNat &&& 63 ≤ 63 := Nat.and_le_right
  omega)
theorem q_ups {f : Nat → Int32} {i : Nat} {x : Int32} (h : f i = x) : upd f i x = f := by
  funext k; unfold upd; split
  · subst_vars; rfl
  · rfl
theorem q_shr3 {x : Int32} (h0 : 0 ≤ x.toInt) (h1 : x.toInt < 11008) : vp_in (x >>> (3 &&& 31)) 1376 := by
  have e : (x >>> (3 &&& 31)).toInt = x.toInt / 8 := by
    show (x >>> (3 &&& 31)).toBitVec.toInt = _
    rw [Int32.toBitVec_shiftRight]
    have e1 : (BitVec.smod (3 &&& 31 : Int32).toBitVec 32) = 3#32 := by decide
    rw [e1, BitVec.toInt_sshiftRight']
    show x.toInt >>> 3 = _
    rw [Int.shiftRight_eq_div_pow]; rfl
  exact q_ix (x := x.toInt / 8) e (by omega) (by omega)
theorem q_cnt {a : Int32} {x : Int} (h : a.toInt = x) (h0 : -1 ≤ x) (h1 : x ≤ 200) : 1 ≤ ((a.toInt64 * 301029995) / 1000000000).toInt32 + 1 ∧ ((a.toInt64 * 301029995) / 1000000000).toInt32 + 1 ≤ 62 := by
  have e1 : (a.toInt64 * 301029995).toInt = x * 301029995 := q_mulL (q_i2l h) (by decide) (by omega) (by omega)
  have e2 : ((a.toInt64 * 301029995) / 1000000000).toInt = (x * 301029995).tdiv 1000000000 := by
    rw [Int64.toInt_div, e1, show (1000000000 : Int64).toInt = 1000000000 by decide]
    apply q_bmL
    · have : -1 ≤ (x * 301029995).tdiv 1000000000 := by
        rcases Int.lt_or_le x 0 with q | q
        · have : x = -1 := by omega
          subst this; decide
        · have := Int.tdiv_nonneg (a := x * 301029995) (b := 1000000000) (by omega) (by omega); omega
      omega
    · have : (x * 301029995).tdiv 1000000000 ≤ 61 := by
        rcases Int.lt_or_le x 0 with q | q
        · have : x = -1 := by omega
          subst this; decide
        · rw [Int.tdiv_eq_ediv_of_nonneg (by omega)]; omega
      omega
  have e3 : 0 ≤ (x * 301029995).tdiv 1000000000 ∧ (x * 301029995).tdiv 1000000000 ≤ 61 := by
    rcases Int.lt_or_le x 0 with q | q
    · have : x = -1 := by omega
      subst this; decide
    · rw [Int.tdiv_eq_ediv_of_nonneg (by omega)]; omega
  have e4 : ((a.toInt64 * 301029995) / 1000000000).toInt32.toInt = (x * 301029995).tdiv 1000000000 := by
    rw [Int64.toInt_toInt32, e2]; exact q_bm (by omega) (by omega)
  have e5 := q_addI (b := 1) (y := 1) e4 (by decide) (by omega) (by omega)
  exact ⟨q_Ile (x := 1) (by decide) e5 (by omega), q_Ile (y := 62) e5 (by decide) (by omega)⟩
theorem q_eI {a n : Nat} {c : ClassId} {f f1 : Nat → Int32} (h : f = f1) : ((a, .inl (c, n, .inl f)) : Nat × va_E) = (a, .inl (c, n, .inl f1)) := by rw [h]
theorem q_eL {a n : Nat} {c : ClassId} {f f1 : Nat → Int64} (h : f = f1) : ((a, .inl (c, n, .inr (.inl f))) : Nat × va_E) = (a, .inl (c, n, .inr (.inl f1))) := by rw [h]
theorem q_divI {a b : Int32} {x y : Int} (ha : a.toInt = x) (hb : b.toInt = y) (h0 : 0 ≤ x) (h1 : 0 < y) : (a / b).toInt = x / y := by
  have h2 := q_hi32 (x := a)
  rw [ha] at h2
  have h3 : x / y ≤ x := Int.ediv_le_self y h0
  have h4 : 0 ≤ x / y := Int.ediv_nonneg h0 (by omega)
  rw [Int32.toInt_div, ha, hb, Int.tdiv_eq_ediv_of_nonneg h0]
  exact q_bm (by omega) (by omega)
theorem q_zishr {b : Int32} : (0 : Int32) >>> (b &&& 31) = 0 := by
  apply Int32.toBitVec_inj.mp
  rw [Int32.toBitVec_shiftRight]
  apply BitVec.eq_of_toInt_eq
  rw [BitVec.toInt_sshiftRight']
  show (0 : Int) >>> _ = 0
  simp
/-! rows read and copied by a running place -/
theorem q_upn {f : Nat → Int32} {v i : Int32} {n : Nat} {x : Int} (h : i.toInt = x) (h0 : 0 ≤ x) (h1 : x ≠ n) : upd f n v i.toNatClampNeg = f i.toNatClampNeg := by
  have h2 := q_clI h h0
  unfold upd
  rw [if_neg (by omega)]
theorem q_upnL {f : Nat → Int64} {v : Int64} {i : Int32} {n : Nat} {x : Int} (h : i.toInt = x) (h0 : 0 ≤ x) (h1 : x ≠ n) : vp_updL f n v i.toNatClampNeg = f i.toNatClampNeg := by
  have h2 := q_clI h h0
  unfold vp_updL
  rw [if_neg (by omega)]
def q_mix (f g : Nat → Int32) (k : Int32) (j : Nat) : Int32 := if j < k.toNatClampNeg then f j else g j
theorem q_mx0 {f g : Nat → Int32} : g = q_mix f g 0 := by
  funext j; unfold q_mix; rw [if_neg (by show ¬ j < (0 : Int32).toNatClampNeg; have : (0 : Int32).toNatClampNeg = 0 := rfl; omega)]
theorem q_mxs {f g : Nat → Int32} {x y v : Int32} (hv : v = f x.toNatClampNeg) (h0 : 0 ≤ x.toInt) (hy : y.toInt = x.toInt + 1) : upd (q_mix f g x) x.toNatClampNeg v = q_mix f g y := by
  have h1 := q_clI (i := x) rfl h0
  have h2 := q_clI (i := y) rfl (by omega)
  funext j; unfold q_mix upd
  by_cases h : j = x.toNatClampNeg
  · rw [if_pos h, if_pos (by omega), h, hv]
  · rw [if_neg h]
    show (if j < x.toNatClampNeg then f j else g j) = _
    by_cases h3 : j < x.toNatClampNeg
    · rw [if_pos h3, if_pos (by omega)]
    · rw [if_neg h3, if_neg (by omega)]
theorem q_mxe {f g : Nat → Int32} {x : Int32} {n : Nat} (h : (n : Int) ≤ x.toInt) (hfg : ∀ j, n ≤ j → f j = g j) : q_mix f g x = f := by
  have h1 := q_clI (i := x) rfl (by omega)
  funext j; unfold q_mix
  by_cases h3 : j < x.toNatClampNeg
  · rw [if_pos h3]
  · rw [if_neg h3, hfg j (by omega)]
/-- a row that is filled with v from lo up to a running place -/
def q_fil (f : Nat → Int32) (lo : Nat) (v : Int32) (k : Int32) (j : Nat) : Int32 := if lo ≤ j ∧ j < k.toNatClampNeg then v else f j
theorem q_fl0 {f : Nat → Int32} {lo : Nat} {v k : Int32} (h : k.toNatClampNeg = lo := by rfl) : f = q_fil f lo v k := by
  funext j; unfold q_fil; rw [if_neg (by omega)]
theorem q_fls {f : Nat → Int32} {lo : Nat} {v x y : Int32} (h0 : (lo : Int) ≤ x.toInt) (hy : y.toInt = x.toInt + 1) : upd (q_fil f lo v x) x.toNatClampNeg v = q_fil f lo v y := by
  have h1 := q_clI (i := x) rfl (by omega)
  have h2 := q_clI (i := y) rfl (by omega)
  funext j; unfold q_fil upd
  by_cases h : j = x.toNatClampNeg
  · rw [if_pos h, if_pos (by omega)]
  · rw [if_neg h]
    show (if lo ≤ j ∧ j < x.toNatClampNeg then v else f j) = _
    by_cases h3 : lo ≤ j ∧ j < x.toNatClampNeg
    · rw [if_pos h3, if_pos (by omega)]
    · rw [if_neg h3, if_neg (by omega)]
theorem q_flr {f : Nat → Int32} {lo n : Nat} {v i k : Int32} {x : Int} (h : i.toInt = x) (hk : k.toNatClampNeg = n) (h0 : (lo : Int) ≤ x) (h1 : x < n) : q_fil f lo v k i.toNatClampNeg = v := by
  have h2 := q_clI h (by omega)
  unfold q_fil; rw [if_pos (by omega)]

/-! String constants: their rows, and calls of String's own methods on them -/
section QSTR
variable {p : Program} {l : Launch} {e : Env} {R : Room} {s : State} {m : MethodId} {args : Array Value} {below : List Frame} {meth : Method} {c : Code} {H : Heap} {locs : List Loc} {cells slots : Nat} {Q : State → Prop}
variable {D : va_G} {g : Nat → ClassId} {A : Nat → Prop} {ws : va_W} {y0 : MethodName} {b0 : ByteArray} {n0 : Nat} {r0 : Option FieldType} {pc : Nat} {ls : Array Slot} {rest st0 As : List Value} {own : String} {index : Nat}
variable {y : MethodName} {b : ByteArray} {n k d mc ms : Nat} {r : Option FieldType} {Qc : Array Value → State → Outcome → State → Prop}
theorem q_ldcs {i : Nat} {tx : String} {by_ : List Int32} (C0 : q_At p s m args meth c y0 b0 n0 r0) (V : q_Wd D g A s ws H locs) (ho : y0.cls = own) (hs : q_ss[i]? = some (own, index, tx, by_)) (hdg : decode b0 pc = .ok (.ldc index, 2))
    (kk : W p l e R s m args below meth c H locs cells slots Q (F0 m (pc + 2) ls (.ref (g (8 + 2 * i)) :: rest))) : W p l e R s m args below meth c H locs cells slots Q (F0 m pc ls rest) :=
  va_ldcS C0.1 C0.2.1 (by rw [← ho]; exact C0.2.2.2.2.1) (V.2.2.2.2.1.2.2 i own index tx by_ hs).1 hdg kk
theorem q_scod {i k9 : Nat} {o tx : String} {by_ : List Int32} (C0 : q_At p s m args meth c y0 b0 n0 r0) (V : q_Wd D g A s ws H locs) (ho : y0.cls = own) (hs : q_ss[i]? = some (o, k9, tx, by_)) (hw : Cond.fieldLink own index "java/lang/String" "coder" "B" ∈ q_tbl) (hdg : decode b0 pc = .ok (.getfield index, 3))
    (kk : W p l e R s m args below meth c H locs cells slots Q (F0 m (pc + 3) ls (.int 0 :: rest))) : W p l e R s m args below meth c H locs cells slots Q (F0 m pc ls (.ref (g (8 + 2 * i)) :: rest)) :=
  vk_getf C0.1 C0.2.1 (V.2.2.2.2.1.2.2 i o k9 tx by_ hs).2.2.1 V.2.2.1 (by rw [← ho]; exact C0.2.2.2.2.1) (C0.2.2.2.2.2.1 _ hw) (fun _ h => h) hdg kk
theorem q_sval {i k9 : Nat} {o tx : String} {by_ : List Int32} (C0 : q_At p s m args meth c y0 b0 n0 r0) (V : q_Wd D g A s ws H locs) (ho : y0.cls = own) (hs : q_ss[i]? = some (o, k9, tx, by_)) (hw : Cond.fieldLink own index "java/lang/String" "value" "[B" ∈ q_tbl) (hdg : decode b0 pc = .ok (.getfield index, 3))
    (kk : W p l e R s m args below meth c H locs cells slots Q (F0 m (pc + 3) ls (.ref (g (9 + 2 * i)) :: rest))) : W p l e R s m args below meth c H locs cells slots Q (F0 m pc ls (.ref (g (8 + 2 * i)) :: rest)) :=
  vk_getf C0.1 C0.2.1 (V.2.2.2.2.1.2.2 i o k9 tx by_ hs).2.2.2.1 V.2.2.1 (by rw [← ho]; exact C0.2.2.2.2.1) (C0.2.2.2.2.2.1 _ hw) (fun _ h => h) hdg kk
theorem q_slen {i k9 : Nat} {o tx : String} {by_ : List Int32} {v : Int32} (C0 : q_At p s m args meth c y0 b0 n0 r0) (V : q_Wd D g A s ws H locs) (hs : q_ss[i]? = some (o, k9, tx, by_)) (hv : Int32.ofNat by_.length = v) (hdg : decode b0 pc = .ok (.arraylength, 1))
    (kk : W p l e R s m args below meth c H locs cells slots Q (F0 m (pc + 1) ls (.int v :: rest))) : W p l e R s m args below meth c H locs cells slots Q (F0 m pc ls (.ref (g (9 + 2 * i)) :: rest)) :=
  va_tlen C0.1 C0.2.1 (V.2.2.2.2.1.2.2 i o k9 tx by_ hs).2.2.2.2 V.2.2.1 hv hdg kk
theorem q_sbal {i k9 : Nat} {o tx : String} {by_ : List Int32} {j v : Int32} (C0 : q_At p s m args meth c y0 b0 n0 r0) (V : q_Wd D g A s ws H locs) (hs : q_ss[i]? = some (o, k9, tx, by_)) (hin : vp_in j by_.length) (hv : by_.getD j.toNatClampNeg 0 = v) (hdg : decode b0 pc = .ok (.baload, 1))
    (kk : W p l e R s m args below meth c H locs cells slots Q (F0 m (pc + 1) ls (.int v :: rest))) : W p l e R s m args below meth c H locs cells slots Q (F0 m pc ls (.int j :: .ref (g (9 + 2 * i)) :: rest)) :=
  va_tb C0.1 C0.2.1 (V.2.2.2.2.1.2.2 i o k9 tx by_ hs).2.2.2.2 V.2.2.1 hin (by rw [hv]) hdg kk
theorem q_scmp (C0 : q_At p s m args meth c y0 b0 n0 r0) (V : q_Wd D g A s ws H locs) (ho : y0.cls = own) (hw : Cond.fieldLink own index "java/lang/String" "COMPACT_STRINGS" "Z" ∈ q_tbl) (hdg : decode b0 pc = .ok (.getstatic index, 3))
    (kk : W p l e R s m args below meth c H locs cells slots Q (F0 m (pc + 3) ls (.int 1 :: rest))) : W p l e R s m args below meth c H locs cells slots Q (F0 m pc ls rest) :=
  va_gets C0.1 C0.2.1 V.2.2.2.2.1.2.1.1 V.2.2.1 (by rw [← ho]; exact C0.2.2.2.2.1) (C0.2.2.2.2.2.1 _ hw) (fun _ h => h) hdg kk
/-- a formatter, or null: nobody asks -/
theorem q_sfmt (C0 : q_At p s m args meth c y0 b0 n0 r0) (V : q_Wd D g A s ws H locs) (ho : y0.cls = own) (hw : Cond.fieldLink own index "jdk/internal/util/Preconditions" "SIOOBE_FORMATTER" "Ljava/util/function/BiFunction;" ∈ q_tbl) (hdg : decode b0 pc = .ok (.getstatic index, 3))
    (k0 : W p l e R s m args below meth c H locs cells slots Q (F0 m (pc + 3) ls (.null :: rest))) (k1 : ∀ t : Nat, W p l e R s m args below meth c H locs cells slots Q (F0 m (pc + 3) ls (.ref t :: rest))) : W p l e R s m args below meth c H locs cells slots Q (F0 m pc ls rest) := by
  rcases V.2.2.2.2.1.2.1.2.1 with h | ⟨t, h⟩
  · exact va_gets C0.1 C0.2.1 h V.2.2.1 (by rw [← ho]; exact C0.2.2.2.2.1) (C0.2.2.2.2.2.1 _ hw) (fun _ h => h) hdg k0
  · exact va_gets C0.1 C0.2.1 h V.2.2.1 (by rw [← ho]; exact C0.2.2.2.2.1) (C0.2.2.2.2.2.1 _ hw) (fun _ h => h) hdg (k1 t)
/-- a call on a String constant -/
theorem q_runVs {i k9 : Nat} {o tx : String} {by_ : List Int32} (C0 : q_At p s m args meth c y0 b0 n0 r0) (V : q_Wd D g A s ws H locs) (ho : y0.cls = own) (L : q_LV own index y b n r k) (hM : Met l y (q_w y b n r) (q_rm d mc ms) (q_P D g (.ref (g (8 + 2 * i)) :: As) ws H.size) Qc mc ms (va_A ws H.size)) (hq : "java/lang/String" = y.cls) (hs : q_ss[i]? = some (o, k9, tx, by_)) (hn : As.length = k) (hsz : ls.size = n0) (hst : st0 = As.reverse ++ .ref (g (8 + 2 * i)) :: rest) (hcat : (rest.map fun v => v.category).sum ≤ 8) (hR : d + 1 ≤ R.frames ∧ 8 + (n + 11) + 64 * d ≤ R.locals) (hf : cells + mc ≤ R.cells ∧ slots + ms ≤ R.slots) (hdg : decode b0 pc = .ok (.invokevirtual index, 3)) :
    va_Run p l e R s m args below meth c H locs cells slots mc ms (F0 m pc ls st0) rest (Qc (Value.ref (g (8 + 2 * i)) :: As).toArray) (va_A ws H.size) :=
  va_runV (As := As) (rest := rest) (C := y.cls) ⟨C0.1, C0.2.1, C0.2.2.2.1, by rw [← ho]; exact C0.2.2.2.2.1, C0.2.2.2.2.2.1⟩ hM ⟨q_callB C0 L.1 L.2.1 L.2.2.1 L.2.2.2.2.2 hR, C0.2.2.2.2.2.1 _ L.2.2.2.1, C0.2.2.2.2.2.1 _ L.2.2.2.2.1⟩
    ⟨q_blind, by
      rw [← hq]
      obtain ⟨cell, h1, h2, h3, -⟩ := (V.2.2.2.2.1.2.2 i o k9 tx by_ hs).2.1.kept V.2.2.1.2.1
      exact ⟨cell, h1, h2, h3⟩, fun U hU hW => q_pre V U hU hW⟩ rfl hn hsz hst (lv_room hcat) hdg hf
theorem q_retn {post : Int32 → va_W → Prop} {v : Int32} {ty : FieldType} (C : q_At p s m args meth c y0 b0 n0 (some ty)) (V : q_Wd D g A s ws H locs) (hn : narrow ty (.int v) = .int v) (hp : post v ws) (hdg : decode b0 pc = .ok (.ireturn, 1)) :
    W p l e R s m args below meth c H locs cells slots (MQ below (va_Qi post (q_B D g A) A) args s cells slots A) (F0 m pc ls [.int v]) :=
  W.zret C.1 C.2.1 C.2.2.1 hn (fun t ht hW => ⟨⟨v, ws, rfl, hp, by rw [ht]; exact V.1, V.2.2.2.1.moved hW.alike, V.2.1⟩, V.2.2.1.F ht⟩) V.2.2.1.2.2 hdg C.2.2.2.2.2.2.1
end QSTR

/-! Big: the small methods -/
theorem d_2_2_0 : decode prog_2_method_2_code 0 = .ok (.aload_n 0, 1) := by decide +kernel
theorem d_2_2_1 : decode prog_2_method_2_code 1 = .ok (.iconst 0, 1) := by decide +kernel
theorem d_2_2_2 : decode prog_2_method_2_code 2 = .ok (.putfield 13, 3) := by decide +kernel
set_option maxRecDepth 100000 in
theorem w_85 : (Cond.fieldLink "NumberHouse$Big" (13 : Nat) "NumberHouse$Big" "size" "I") ∈ q_tbl := q_of1 85 rfl (by decide +kernel)
theorem d_2_2_5 : decode prog_2_method_2_code 5 = .ok (.aload_n 0, 1) := by decide +kernel
theorem d_2_2_6 : decode prog_2_method_2_code 6 = .ok (.iconst 0, 1) := by decide +kernel
theorem d_2_2_7 : decode prog_2_method_2_code 7 = .ok (.putfield 17, 3) := by decide +kernel
set_option maxRecDepth 100000 in
theorem w_94 : (Cond.fieldLink "NumberHouse$Big" (17 : Nat) "NumberHouse$Big" "negative" "Z") ∈ q_tbl := q_of1 94 rfl (by decide +kernel)
theorem d_2_2_10 : decode prog_2_method_2_code 10 = .ok (.return_, 1) := by decide +kernel
def y_Big_clear : MethodName := ⟨"NumberHouse$Big", "clear", "()V"⟩
set_option maxRecDepth 100000 in
set_option maxHeartbeats 4000000 in
/-- clear(): size 0, not negative -/
theorem c_Big_clear (l : Launch) (D : va_G) (g : Nat → ClassId) (ws : va_W) (kO0 qO0 qA1 : Nat) (y1 : Int32) (y2 : Int32) (hO0 : ws[kO0]? = (some (qO0, .inr (2, [.ref qA1, .int y1, .int y2])) : Option (Nat × va_E))) : q_mV l y_Big_clear prog_2_method_2_code 1 1 0 0 D g [.ref qO0] ws (fun u => q_un ws u [kO0] ∧ u[kO0]? = (some (qO0, .inr (2, [.ref qA1, .int 0, .int 0])) : Option (Nat × va_E))) := by
  intro sz
  refine q_into (by decide) (Nat.le_of_ble_eq_true rfl) ?_
  intro p e s m below meth c ls hsz C0 V hl
  have hx := C0.1
  have hb := C0.2.1
  have hl : lv_has ls 1 [(0, .ref qO0)] := hl
  have hF : q_un ws ws [kO0] := q_u0
  refine lv_aload_n hx hb d_2_2_0 rfl (lv_at hl 0 rfl) ?_
  refine lv_iconst (v := 0) hx hb d_2_2_1 (by decide) ?_
  refine q_put (ci := 2) (j := 1) (v := .int 0) (ty := .int) C0 V i_Big o_Big n_Big rfl rfl hO0 (by decide) w_85 rfl rfl rfl rfl (Nat.le_of_ble_eq_true rfl) d_2_2_2 (fun H locs w1 hu2 hO0 V => ?_)
  replace hO0 : w1[kO0]? = (some (qO0, .inr (2, [.ref qA1, .int 0, .int y2])) : Option (Nat × va_E)) := hO0
  replace hF := q_us hF hu2 (.head _)
  refine lv_aload_n hx hb d_2_2_5 rfl (lv_at hl 0 rfl) ?_
  refine lv_iconst (v := 0) hx hb d_2_2_6 (by decide) ?_
  refine q_put (ci := 2) (j := 2) (v := .int 0) (ty := .boolean) C0 V i_Big o_Big n_Big rfl rfl hO0 (by decide) w_94 rfl rfl rfl rfl (Nat.le_of_ble_eq_true rfl) d_2_2_7 (fun H locs w3 hu4 hO0 V => ?_)
  replace hO0 : w3[kO0]? = (some (qO0, .inr (2, [.ref qA1, .int 0, .int 0])) : Option (Nat × va_E)) := hO0
  replace hF := q_us hF hu4 (.head _)
  exact q_retv C0 V (⟨hF, hO0⟩) d_2_2_10
theorem d_2_8_0 : decode prog_2_method_8_code 0 = .ok (.aload_n 0, 1) := by decide +kernel
theorem d_2_8_1 : decode prog_2_method_8_code 1 = .ok (.getfield 13, 3) := by decide +kernel
theorem d_2_8_4 : decode prog_2_method_8_code 4 = .ok (.ifCond .ne 7, 3) := by decide +kernel
theorem d_2_8_11 : decode prog_2_method_8_code 11 = .ok (.aload_n 0, 1) := by decide +kernel
theorem d_2_8_12 : decode prog_2_method_8_code 12 = .ok (.getfield 17, 3) := by decide +kernel
theorem d_2_8_15 : decode prog_2_method_8_code 15 = .ok (.ifCond .eq 7, 3) := by decide +kernel
theorem d_2_8_22 : decode prog_2_method_8_code 22 = .ok (.iconst 1, 1) := by decide +kernel
theorem d_2_8_23 : decode prog_2_method_8_code 23 = .ok (.ireturn, 1) := by decide +kernel
theorem d_2_8_18 : decode prog_2_method_8_code 18 = .ok (.iconst (-1), 1) := by decide +kernel
theorem d_2_8_19 : decode prog_2_method_8_code 19 = .ok (.goto 4, 3) := by decide +kernel
theorem d_2_8_7 : decode prog_2_method_8_code 7 = .ok (.iconst 0, 1) := by decide +kernel
theorem d_2_8_8 : decode prog_2_method_8_code 8 = .ok (.goto 15, 3) := by decide +kernel
def y_Big_sign : MethodName := ⟨"NumberHouse$Big", "sign", "()I"⟩
set_option maxRecDepth 100000 in
set_option maxHeartbeats 4000000 in
/-- sign() -/
theorem c_Big_sign (l : Launch) (D : va_G) (g : Nat → ClassId) (ws : va_W) (kO0 qO0 qA1 : Nat) (y1 : Int32) (y2 : Int32) (hO0 : ws[kO0]? = (some (qO0, .inr (2, [.ref qA1, .int y1, .int y2])) : Option (Nat × va_E))) : q_mI l y_Big_sign prog_2_method_8_code 1 (.int) 1 0 0 D g [.ref qO0] ws (fun r u => (¬ y1 = 0 ∧ y2 = 0 ∧ 1 = r ∧ ws = u) ∨ (¬ y1 = 0 ∧ ¬ y2 = 0 ∧ (-1) = r ∧ ws = u) ∨ (y1 = 0 ∧ 0 = r ∧ ws = u)) := by
  intro sz
  refine q_into (by decide) (Nat.le_of_ble_eq_true rfl) ?_
  intro p e s m below meth c ls hsz C0 V hl
  have hx := C0.1
  have hb := C0.2.1
  have hl : lv_has ls 1 [(0, .ref qO0)] := hl
  refine lv_aload_n hx hb d_2_8_0 rfl (lv_at hl 0 rfl) ?_
  refine q_get (ci := 2) (j := 1) (v := .int y1) C0 V i_Big rfl rfl hO0 (by decide) w_85 rfl d_2_8_1 ?_
  refine lv_if_ne (tgt := 11) hx hb d_2_8_4 (by decide) (fun c1 => ?_) (fun c1 => ?_)
  ·
    refine lv_aload_n hx hb d_2_8_11 rfl (lv_at hl 0 rfl) ?_
    refine q_get (ci := 2) (j := 2) (v := .int y2) C0 V i_Big rfl rfl hO0 (by decide) w_94 rfl d_2_8_12 ?_
    refine lv_if_eq (tgt := 22) hx hb d_2_8_15 (by decide) (fun c2 => ?_) (fun c2 => ?_)
    ·
      refine lv_iconst (v := 1) hx hb d_2_8_22 (by decide) ?_
      exact q_reti C0 V (Or.inl ⟨c1, c2, rfl, rfl⟩) d_2_8_23
    ·
      refine lv_iconst (v := (-1)) hx hb d_2_8_18 (by decide) ?_
      refine lv_goto (tgt := 23) hx hb d_2_8_19 (by decide) ?_
      exact q_reti C0 V (Or.inr (Or.inl ⟨c1, c2, rfl, rfl⟩)) d_2_8_23
  ·
    refine lv_iconst (v := 0) hx hb d_2_8_7 (by decide) ?_
    refine lv_goto (tgt := 23) hx hb d_2_8_8 (by decide) ?_
    exact q_reti C0 V (Or.inr (Or.inr (⟨c1, rfl, rfl⟩))) d_2_8_23
set_option maxRecDepth 100000 in
set_option maxHeartbeats 4000000 in
/-- sign of a zero -/
theorem c_Big_sign_2 (l : Launch) (D : va_G) (g : Nat → ClassId) (ws : va_W) (kO0 qO0 qA1 : Nat) (hO0 : ws[kO0]? = (some (qO0, .inr (2, [.ref qA1, .int 0, .int 0])) : Option (Nat × va_E))) : q_mI l y_Big_sign prog_2_method_8_code 1 (.int) 1 0 0 D g [.ref qO0] ws (fun r u => 0 = r ∧ ws = u) := by
  intro sz
  refine q_into (by decide) (Nat.le_of_ble_eq_true rfl) ?_
  intro p e s m below meth c ls hsz C0 V hl
  have hx := C0.1
  have hb := C0.2.1
  have hl : lv_has ls 1 [(0, .ref qO0)] := hl
  refine lv_aload_n hx hb d_2_8_0 rfl (lv_at hl 0 rfl) ?_
  refine q_get (ci := 2) (j := 1) (v := .int 0) C0 V i_Big rfl rfl hO0 (by decide) w_85 rfl d_2_8_1 ?_
  refine lv_if_ne (tgt := 11) hx hb d_2_8_4 (by decide) (fun c1 => absurd (by decide) c1) (fun c1 => ?_)
  refine lv_iconst (v := 0) hx hb d_2_8_7 (by decide) ?_
  refine lv_goto (tgt := 23) hx hb d_2_8_8 (by decide) ?_
  exact q_reti C0 V (⟨rfl, rfl⟩) d_2_8_23
theorem d_2_7_0 : decode prog_2_method_7_code 0 = .ok (.aload_n 0, 1) := by decide +kernel
theorem d_2_7_1 : decode prog_2_method_7_code 1 = .ok (.getfield 13, 3) := by decide +kernel
theorem d_2_7_4 : decode prog_2_method_7_code 4 = .ok (.istore_n 1, 1) := by decide +kernel
theorem d_2_7_5 : decode prog_2_method_7_code 5 = .ok (.iload_n 1, 1) := by decide +kernel
theorem d_2_7_6 : decode prog_2_method_7_code 6 = .ok (.ifCond .le 20, 3) := by decide +kernel
theorem d_2_7_26 : decode prog_2_method_7_code 26 = .ok (.aload_n 0, 1) := by decide +kernel
theorem d_2_7_27 : decode prog_2_method_7_code 27 = .ok (.iload_n 1, 1) := by decide +kernel
theorem d_2_7_28 : decode prog_2_method_7_code 28 = .ok (.putfield 13, 3) := by decide +kernel
theorem d_2_7_31 : decode prog_2_method_7_code 31 = .ok (.aload_n 0, 1) := by decide +kernel
theorem d_2_7_32 : decode prog_2_method_7_code 32 = .ok (.aload_n 0, 1) := by decide +kernel
theorem d_2_7_33 : decode prog_2_method_7_code 33 = .ok (.getfield 17, 3) := by decide +kernel
theorem d_2_7_36 : decode prog_2_method_7_code 36 = .ok (.ifCond .eq 11, 3) := by decide +kernel
theorem d_2_7_47 : decode prog_2_method_7_code 47 = .ok (.iconst 0, 1) := by decide +kernel
theorem d_2_7_48 : decode prog_2_method_7_code 48 = .ok (.putfield 17, 3) := by decide +kernel
theorem d_2_7_51 : decode prog_2_method_7_code 51 = .ok (.return_, 1) := by decide +kernel
def y_Big_trim : MethodName := ⟨"NumberHouse$Big", "trim", "()V"⟩
set_option maxRecDepth 100000 in
set_option maxHeartbeats 4000000 in
/-- trim of a zero -/
theorem c_Big_trim (l : Launch) (D : va_G) (g : Nat → ClassId) (ws : va_W) (kO0 qO0 qA1 : Nat) (hO0 : ws[kO0]? = (some (qO0, .inr (2, [.ref qA1, .int 0, .int 0])) : Option (Nat × va_E))) : q_mV l y_Big_trim prog_2_method_7_code 2 1 0 0 D g [.ref qO0] ws (fun u => q_un ws u [kO0] ∧ u[kO0]? = (some (qO0, .inr (2, [.ref qA1, .int 0, .int 0])) : Option (Nat × va_E))) := by
  intro sz
  refine q_into (by decide) (Nat.le_of_ble_eq_true rfl) ?_
  intro p e s m below meth c ls hsz C0 V hl
  have hx := C0.1
  have hb := C0.2.1
  have hl : lv_has ls 2 [(0, .ref qO0)] := hl
  have hF : q_un ws ws [kO0] := q_u0
  refine lv_aload_n hx hb d_2_7_0 rfl (lv_at hl 0 rfl) ?_
  refine q_get (ci := 2) (j := 1) (v := .int 0) C0 V i_Big rfl rfl hO0 (by decide) w_85 rfl d_2_7_1 ?_
  refine lv_istore_n (lv' := [(1, .int 0), (0, .ref qO0)]) hx hb d_2_7_4 rfl hl (by decide) rfl (fun ls hl => ?_)
  refine lv_iload_n hx hb d_2_7_5 rfl (lv_at hl 0 rfl) ?_
  refine lv_if_le (tgt := 26) hx hb d_2_7_6 (by decide) (fun c1 => ?_) (fun c1 => absurd (by decide) c1)
  refine lv_aload_n hx hb d_2_7_26 rfl (lv_at hl 1 rfl) ?_
  refine lv_iload_n hx hb d_2_7_27 rfl (lv_at hl 0 rfl) ?_
  refine q_put (ci := 2) (j := 1) (v := .int 0) (ty := .int) C0 V i_Big o_Big n_Big rfl rfl hO0 (by decide) w_85 rfl rfl rfl rfl (Nat.le_of_ble_eq_true rfl) d_2_7_28 (fun H locs w2 hu3 hO0 V => ?_)
  replace hO0 : w2[kO0]? = (some (qO0, .inr (2, [.ref qA1, .int 0, .int 0])) : Option (Nat × va_E)) := hO0
  replace hF := q_us hF hu3 (.head _)
  refine lv_aload_n hx hb d_2_7_31 rfl (lv_at hl 1 rfl) ?_
  refine lv_aload_n hx hb d_2_7_32 rfl (lv_at hl 1 rfl) ?_
  refine q_get (ci := 2) (j := 2) (v := .int 0) C0 V i_Big rfl rfl hO0 (by decide) w_94 rfl d_2_7_33 ?_
  refine lv_if_eq (tgt := 47) hx hb d_2_7_36 (by decide) (fun c4 => ?_) (fun c4 => absurd (by decide) c4)
  refine lv_iconst (v := 0) hx hb d_2_7_47 (by decide) ?_
  refine q_put (ci := 2) (j := 2) (v := .int 0) (ty := .boolean) C0 V i_Big o_Big n_Big rfl rfl hO0 (by decide) w_94 rfl rfl rfl rfl (Nat.le_of_ble_eq_true rfl) d_2_7_48 (fun H locs w5 hu6 hO0 V => ?_)
  replace hO0 : w5[kO0]? = (some (qO0, .inr (2, [.ref qA1, .int 0, .int 0])) : Option (Nat × va_E)) := hO0
  replace hF := q_us hF hu6 (.head _)
  exact q_retv C0 V (⟨hF, hO0⟩) d_2_7_51
theorem d_2_9_0 : decode prog_2_method_9_code 0 = .ok (.aload_n 0, 1) := by decide +kernel
theorem d_2_9_1 : decode prog_2_method_9_code 1 = .ok (.getfield 13, 3) := by decide +kernel
theorem d_2_9_4 : decode prog_2_method_9_code 4 = .ok (.iconst 1, 1) := by decide +kernel
theorem d_2_9_5 : decode prog_2_method_9_code 5 = .ok (.if_icmp .ne 24, 3) := by decide +kernel
theorem d_2_9_29 : decode prog_2_method_9_code 29 = .ok (.iconst 0, 1) := by decide +kernel
theorem d_2_9_30 : decode prog_2_method_9_code 30 = .ok (.ireturn, 1) := by decide +kernel
def y_Big_isOne : MethodName := ⟨"NumberHouse$Big", "isOne", "()Z"⟩
set_option maxRecDepth 100000 in
set_option maxHeartbeats 4000000 in
/-- isOne of a zero -/
theorem c_Big_isOne (l : Launch) (D : va_G) (g : Nat → ClassId) (ws : va_W) (kO0 qO0 qA1 : Nat) (hO0 : ws[kO0]? = (some (qO0, .inr (2, [.ref qA1, .int 0, .int 0])) : Option (Nat × va_E))) : q_mI l y_Big_isOne prog_2_method_9_code 1 (.boolean) 1 0 0 D g [.ref qO0] ws (fun r u => 0 = r ∧ ws = u) := by
  intro sz
  refine q_into (by decide) (Nat.le_of_ble_eq_true rfl) ?_
  intro p e s m below meth c ls hsz C0 V hl
  have hx := C0.1
  have hb := C0.2.1
  have hl : lv_has ls 1 [(0, .ref qO0)] := hl
  refine lv_aload_n hx hb d_2_9_0 rfl (lv_at hl 0 rfl) ?_
  refine q_get (ci := 2) (j := 1) (v := .int 0) C0 V i_Big rfl rfl hO0 (by decide) w_85 rfl d_2_9_1 ?_
  refine lv_iconst (v := 1) hx hb d_2_9_4 (by decide) ?_
  refine lv_icmp_ne (tgt := 29) hx hb d_2_9_5 (by decide) (fun c1 => ?_) (fun c1 => absurd c1 (by decide))
  refine lv_iconst (v := 0) hx hb d_2_9_29 (by decide) ?_
  exact q_retz C0 V (rfl) (⟨rfl, rfl⟩) d_2_9_30
theorem d_2_12_0 : decode prog_2_method_12_code 0 = .ok (.aload_n 0, 1) := by decide +kernel
theorem d_2_12_1 : decode prog_2_method_12_code 1 = .ok (.getfield 13, 3) := by decide +kernel
theorem d_2_12_4 : decode prog_2_method_12_code 4 = .ok (.ifCond .ne 7, 3) := by decide +kernel
theorem d_2_12_7 : decode prog_2_method_12_code 7 = .ok (.iconst 0, 1) := by decide +kernel
theorem d_2_12_8 : decode prog_2_method_12_code 8 = .ok (.goto 27, 3) := by decide +kernel
theorem d_2_12_35 : decode prog_2_method_12_code 35 = .ok (.ireturn, 1) := by decide +kernel
def y_Big_bitLength : MethodName := ⟨"NumberHouse$Big", "bitLength", "()I"⟩
set_option maxRecDepth 100000 in
set_option maxHeartbeats 4000000 in
/-- bitLength of a zero -/
theorem c_Big_bitLength (l : Launch) (D : va_G) (g : Nat → ClassId) (ws : va_W) (kO0 qO0 qA1 : Nat) (hO0 : ws[kO0]? = (some (qO0, .inr (2, [.ref qA1, .int 0, .int 0])) : Option (Nat × va_E))) : q_mI l y_Big_bitLength prog_2_method_12_code 1 (.int) 1 0 0 D g [.ref qO0] ws (fun r u => 0 = r ∧ ws = u) := by
  intro sz
  refine q_into (by decide) (Nat.le_of_ble_eq_true rfl) ?_
  intro p e s m below meth c ls hsz C0 V hl
  have hx := C0.1
  have hb := C0.2.1
  have hl : lv_has ls 1 [(0, .ref qO0)] := hl
  refine lv_aload_n hx hb d_2_12_0 rfl (lv_at hl 0 rfl) ?_
  refine q_get (ci := 2) (j := 1) (v := .int 0) C0 V i_Big rfl rfl hO0 (by decide) w_85 rfl d_2_12_1 ?_
  refine lv_if_ne (tgt := 11) hx hb d_2_12_4 (by decide) (fun c1 => absurd (by decide) c1) (fun c1 => ?_)
  refine lv_iconst (v := 0) hx hb d_2_12_7 (by decide) ?_
  refine lv_goto (tgt := 35) hx hb d_2_12_8 (by decide) ?_
  exact q_reti C0 V (⟨rfl, rfl⟩) d_2_12_35
theorem d_2_14_0 : decode prog_2_method_14_code 0 = .ok (.aload_n 0, 1) := by decide +kernel
theorem d_2_14_1 : decode prog_2_method_14_code 1 = .ok (.invokevirtual 65, 3) := by decide +kernel
set_option maxRecDepth 100000 in
theorem w_610 : (Cond.code ({ cls := "NumberHouse$Big", name := "bitLength", desc := "()I" } : MethodName) prog_2_method_12_code (1 : Nat) (some .int)) ∈ q_tbl := q_of3 130 rfl (by decide +kernel)
set_option maxRecDepth 100000 in
theorem w_4 : (Cond.initialized "NumberHouse$Big") ∈ q_tbl := q_of1 4 rfl (by decide +kernel)
set_option maxRecDepth 100000 in
theorem w_1127 : (Cond.methodLink "NumberHouse$Big" (65 : Nat) ({ cls := "NumberHouse$Big", name := "bitLength", desc := "()I" } : MethodName)) ∈ q_tbl := q_of5 167 rfl (by decide +kernel)
set_option maxRecDepth 100000 in
theorem w_608 : (Cond.instanceMethod ({ cls := "NumberHouse$Big", name := "bitLength", desc := "()I" } : MethodName)) ∈ q_tbl := q_of3 128 rfl (by decide +kernel)
set_option maxRecDepth 100000 in
theorem w_609 : (Cond.selects "NumberHouse$Big" ({ cls := "NumberHouse$Big", name := "bitLength", desc := "()I" } : MethodName) ({ cls := "NumberHouse$Big", name := "bitLength", desc := "()I" } : MethodName)) ∈ q_tbl := q_of3 129 rfl (by decide +kernel)
theorem LV_Big_65 : q_LV "NumberHouse$Big" 65 y_Big_bitLength prog_2_method_12_code 1 (some .int) 0 := ⟨w_610, w_4, w_1127, w_608, w_609, ⟨by decide, by decide, by decide +kernel⟩⟩
theorem d_2_14_4 : decode prog_2_method_14_code 4 = .ok (.istore_n 1, 1) := by decide +kernel
theorem d_2_14_5 : decode prog_2_method_14_code 5 = .ok (.aload_n 0, 1) := by decide +kernel
theorem d_2_14_6 : decode prog_2_method_14_code 6 = .ok (.getfield 17, 3) := by decide +kernel
theorem d_2_14_9 : decode prog_2_method_14_code 9 = .ok (.ifCond .eq 19, 3) := by decide +kernel
theorem d_2_14_28 : decode prog_2_method_14_code 28 = .ok (.iload_n 1, 1) := by decide +kernel
theorem d_2_14_29 : decode prog_2_method_14_code 29 = .ok (.ireturn, 1) := by decide +kernel
def y_Big_lengthInBits : MethodName := ⟨"NumberHouse$Big", "lengthInBits", "()I"⟩
set_option maxRecDepth 100000 in
set_option maxHeartbeats 4000000 in
/-- lengthInBits of a zero -/
theorem c_Big_lengthInBits (l : Launch) (D : va_G) (g : Nat → ClassId) (ws : va_W) (kO0 qO0 qA1 : Nat) (hO0 : ws[kO0]? = (some (qO0, .inr (2, [.ref qA1, .int 0, .int 0])) : Option (Nat × va_E))) : q_mI l y_Big_lengthInBits prog_2_method_14_code 2 (.int) 2 0 0 D g [.ref qO0] ws (fun r u => 0 = r ∧ ws = u) := by
  intro sz
  refine q_into (by decide) (Nat.le_of_ble_eq_true rfl) ?_
  intro p e s m below meth c ls hsz C0 V hl
  have hx := C0.1
  have hb := C0.2.1
  have hl : lv_has ls 2 [(0, .ref qO0)] := hl
  refine lv_aload_n hx hb d_2_14_0 rfl (lv_at hl 0 rfl) ?_
  refine q_goi V (q_runV (As := []) (rest := []) (d := 1) (mc := 0) (ms := 0) (ci := 2) C0 V rfl LV_Big_65 (c_Big_bitLength l D g ws kO0 qO0 qA1 hO0 _) rfl rfl hO0 rfl hl.1 rfl (Nat.le_of_ble_eq_true rfl) ⟨by decide, by decide⟩ ⟨Nat.le_of_ble_eq_true rfl, Nat.le_of_ble_eq_true rfl⟩ d_2_14_1) (fun v3 u2 H locs hp1 V => ?_)
  obtain ⟨rfl, rfl⟩ := hp1
  refine lv_istore_n (lv' := [(1, .int 0), (0, .ref qO0)]) hx hb d_2_14_4 rfl hl (by decide) rfl (fun ls hl => ?_)
  refine lv_aload_n hx hb d_2_14_5 rfl (lv_at hl 1 rfl) ?_
  refine q_get (ci := 2) (j := 2) (v := .int 0) C0 V i_Big rfl rfl hO0 (by decide) w_94 rfl d_2_14_6 ?_
  refine lv_if_eq (tgt := 28) hx hb d_2_14_9 (by decide) (fun c5 => ?_) (fun c5 => absurd (by decide) c5)
  refine lv_iload_n hx hb d_2_14_28 rfl (lv_at hl 0 rfl) ?_
  exact q_reti C0 V (⟨rfl, rfl⟩) d_2_14_29
theorem d_2_15_0 : decode prog_2_method_15_code 0 = .ok (.iconst 0, 1) := by decide +kernel
theorem d_2_15_1 : decode prog_2_method_15_code 1 = .ok (.istore_n 1, 1) := by decide +kernel
theorem d_2_15_2 : decode prog_2_method_15_code 2 = .ok (.iload_n 1, 1) := by decide +kernel
theorem d_2_15_3 : decode prog_2_method_15_code 3 = .ok (.aload_n 0, 1) := by decide +kernel
theorem d_2_15_4 : decode prog_2_method_15_code 4 = .ok (.getfield 13, 3) := by decide +kernel
theorem d_2_15_7 : decode prog_2_method_15_code 7 = .ok (.if_icmp .ge 43, 3) := by decide +kernel
theorem d_2_15_50 : decode prog_2_method_15_code 50 = .ok (.iconst 0, 1) := by decide +kernel
theorem d_2_15_51 : decode prog_2_method_15_code 51 = .ok (.ireturn, 1) := by decide +kernel
def y_Big_lowestOne : MethodName := ⟨"NumberHouse$Big", "lowestOne", "()I"⟩
set_option maxRecDepth 100000 in
set_option maxHeartbeats 4000000 in
/-- lowestOne of a zero -/
theorem c_Big_lowestOne (l : Launch) (D : va_G) (g : Nat → ClassId) (ws : va_W) (kO0 qO0 qA1 : Nat) (hO0 : ws[kO0]? = (some (qO0, .inr (2, [.ref qA1, .int 0, .int 0])) : Option (Nat × va_E))) : q_mI l y_Big_lowestOne prog_2_method_15_code 2 (.int) 1 0 0 D g [.ref qO0] ws (fun r u => 0 = r ∧ ws = u) := by
  intro sz
  refine q_into (by decide) (Nat.le_of_ble_eq_true rfl) ?_
  intro p e s m below meth c ls hsz C0 V hl
  have hx := C0.1
  have hb := C0.2.1
  have hl : lv_has ls 2 [(0, .ref qO0)] := hl
  refine lv_iconst (v := 0) hx hb d_2_15_0 (by decide) ?_
  refine lv_istore_n (lv' := [(1, .int 0), (0, .ref qO0)]) hx hb d_2_15_1 rfl hl (by decide) rfl (fun ls hl => ?_)
  refine lv_iload_n hx hb d_2_15_2 rfl (lv_at hl 0 rfl) ?_
  refine lv_aload_n hx hb d_2_15_3 rfl (lv_at hl 1 rfl) ?_
  refine q_get (ci := 2) (j := 1) (v := .int 0) C0 V i_Big rfl rfl hO0 (by decide) w_85 rfl d_2_15_4 ?_
  refine lv_icmp_ge (tgt := 50) hx hb d_2_15_7 (by decide) (fun c1 => ?_) (fun c1 => absurd (by decide) c1)
  refine lv_iconst (v := 0) hx hb d_2_15_50 (by decide) ?_
  exact q_reti C0 V (⟨rfl, rfl⟩) d_2_15_51
theorem d_2_16_0 : decode prog_2_method_16_code 0 = .ok (.iconst 0, 1) := by decide +kernel
theorem d_2_16_1 : decode prog_2_method_16_code 1 = .ok (.istore_n 1, 1) := by decide +kernel
theorem d_2_16_2 : decode prog_2_method_16_code 2 = .ok (.iconst 0, 1) := by decide +kernel
theorem d_2_16_3 : decode prog_2_method_16_code 3 = .ok (.istore_n 2, 1) := by decide +kernel
theorem d_2_16_4 : decode prog_2_method_16_code 4 = .ok (.iload_n 2, 1) := by decide +kernel
theorem d_2_16_5 : decode prog_2_method_16_code 5 = .ok (.aload_n 0, 1) := by decide +kernel
theorem d_2_16_6 : decode prog_2_method_16_code 6 = .ok (.getfield 13, 3) := by decide +kernel
theorem d_2_16_9 : decode prog_2_method_16_code 9 = .ok (.if_icmp .ge 21, 3) := by decide +kernel
theorem d_2_16_30 : decode prog_2_method_16_code 30 = .ok (.aload_n 0, 1) := by decide +kernel
theorem d_2_16_31 : decode prog_2_method_16_code 31 = .ok (.getfield 17, 3) := by decide +kernel
theorem d_2_16_34 : decode prog_2_method_16_code 34 = .ok (.ifCond .eq 14, 3) := by decide +kernel
theorem d_2_16_48 : decode prog_2_method_16_code 48 = .ok (.iload_n 1, 1) := by decide +kernel
theorem d_2_16_49 : decode prog_2_method_16_code 49 = .ok (.ireturn, 1) := by decide +kernel
def y_Big_otherBits : MethodName := ⟨"NumberHouse$Big", "otherBits", "()I"⟩
set_option maxRecDepth 100000 in
set_option maxHeartbeats 4000000 in
/-- otherBits of a zero -/
theorem c_Big_otherBits (l : Launch) (D : va_G) (g : Nat → ClassId) (ws : va_W) (kO0 qO0 qA1 : Nat) (hO0 : ws[kO0]? = (some (qO0, .inr (2, [.ref qA1, .int 0, .int 0])) : Option (Nat × va_E))) : q_mI l y_Big_otherBits prog_2_method_16_code 3 (.int) 1 0 0 D g [.ref qO0] ws (fun r u => 0 = r ∧ ws = u) := by
  intro sz
  refine q_into (by decide) (Nat.le_of_ble_eq_true rfl) ?_
  intro p e s m below meth c ls hsz C0 V hl
  have hx := C0.1
  have hb := C0.2.1
  have hl : lv_has ls 3 [(0, .ref qO0)] := hl
  refine lv_iconst (v := 0) hx hb d_2_16_0 (by decide) ?_
  refine lv_istore_n (lv' := [(1, .int 0), (0, .ref qO0)]) hx hb d_2_16_1 rfl hl (by decide) rfl (fun ls hl => ?_)
  refine lv_iconst (v := 0) hx hb d_2_16_2 (by decide) ?_
  refine lv_istore_n (lv' := [(2, .int 0), (1, .int 0), (0, .ref qO0)]) hx hb d_2_16_3 rfl hl (by decide) rfl (fun ls hl => ?_)
  refine lv_iload_n hx hb d_2_16_4 rfl (lv_at hl 0 rfl) ?_
  refine lv_aload_n hx hb d_2_16_5 rfl (lv_at hl 2 rfl) ?_
  refine q_get (ci := 2) (j := 1) (v := .int 0) C0 V i_Big rfl rfl hO0 (by decide) w_85 rfl d_2_16_6 ?_
  refine lv_icmp_ge (tgt := 30) hx hb d_2_16_9 (by decide) (fun c1 => ?_) (fun c1 => absurd (by decide) c1)
  refine lv_aload_n hx hb d_2_16_30 rfl (lv_at hl 2 rfl) ?_
  refine q_get (ci := 2) (j := 2) (v := .int 0) C0 V i_Big rfl rfl hO0 (by decide) w_94 rfl d_2_16_31 ?_
  refine lv_if_eq (tgt := 48) hx hb d_2_16_34 (by decide) (fun c2 => ?_) (fun c2 => absurd (by decide) c2)
  refine lv_iload_n hx hb d_2_16_48 rfl (lv_at hl 1 rfl) ?_
  exact q_reti C0 V (⟨rfl, rfl⟩) d_2_16_49
theorem d_2_18_0 : decode prog_2_method_18_code 0 = .ok (.iconst 0, 1) := by decide +kernel
theorem d_2_18_1 : decode prog_2_method_18_code 1 = .ok (.istore_n 1, 1) := by decide +kernel
theorem d_2_18_2 : decode prog_2_method_18_code 2 = .ok (.iload_n 1, 1) := by decide +kernel
theorem d_2_18_3 : decode prog_2_method_18_code 3 = .ok (.aload_n 0, 1) := by decide +kernel
theorem d_2_18_4 : decode prog_2_method_18_code 4 = .ok (.getfield 13, 3) := by decide +kernel
theorem d_2_18_7 : decode prog_2_method_18_code 7 = .ok (.if_icmp .ge 18, 3) := by decide +kernel
theorem d_2_18_25 : decode prog_2_method_18_code 25 = .ok (.iload_n 1, 1) := by decide +kernel
theorem d_2_18_26 : decode prog_2_method_18_code 26 = .ok (.ireturn, 1) := by decide +kernel
def y_Big_lowestLimb : MethodName := ⟨"NumberHouse$Big", "lowestLimb", "()I"⟩
set_option maxRecDepth 100000 in
set_option maxHeartbeats 4000000 in
/-- lowestLimb of a zero -/
theorem c_Big_lowestLimb (l : Launch) (D : va_G) (g : Nat → ClassId) (ws : va_W) (kO0 qO0 qA1 : Nat) (hO0 : ws[kO0]? = (some (qO0, .inr (2, [.ref qA1, .int 0, .int 0])) : Option (Nat × va_E))) : q_mI l y_Big_lowestLimb prog_2_method_18_code 2 (.int) 1 0 0 D g [.ref qO0] ws (fun r u => 0 = r ∧ ws = u) := by
  intro sz
  refine q_into (by decide) (Nat.le_of_ble_eq_true rfl) ?_
  intro p e s m below meth c ls hsz C0 V hl
  have hx := C0.1
  have hb := C0.2.1
  have hl : lv_has ls 2 [(0, .ref qO0)] := hl
  refine lv_iconst (v := 0) hx hb d_2_18_0 (by decide) ?_
  refine lv_istore_n (lv' := [(1, .int 0), (0, .ref qO0)]) hx hb d_2_18_1 rfl hl (by decide) rfl (fun ls hl => ?_)
  refine lv_iload_n hx hb d_2_18_2 rfl (lv_at hl 0 rfl) ?_
  refine lv_aload_n hx hb d_2_18_3 rfl (lv_at hl 1 rfl) ?_
  refine q_get (ci := 2) (j := 1) (v := .int 0) C0 V i_Big rfl rfl hO0 (by decide) w_85 rfl d_2_18_4 ?_
  refine lv_icmp_ge (tgt := 25) hx hb d_2_18_7 (by decide) (fun c1 => ?_) (fun c1 => absurd (by decide) c1)
  refine lv_iload_n hx hb d_2_18_25 rfl (lv_at hl 0 rfl) ?_
  exact q_reti C0 V (⟨rfl, rfl⟩) d_2_18_26
theorem d_2_11_0 : decode prog_2_method_11_code 0 = .ok (.aload_n 0, 1) := by decide +kernel
theorem d_2_11_1 : decode prog_2_method_11_code 1 = .ok (.invokevirtual 53, 3) := by decide +kernel
set_option maxRecDepth 100000 in
theorem w_1126 : (Cond.code ({ cls := "NumberHouse$Big", name := "lengthInBits", desc := "()I" } : MethodName) prog_2_method_14_code (2 : Nat) (some .int)) ∈ q_tbl := q_of5 166 rfl (by decide +kernel)
set_option maxRecDepth 100000 in
theorem w_1682 : (Cond.methodLink "NumberHouse$Big" (53 : Nat) ({ cls := "NumberHouse$Big", name := "lengthInBits", desc := "()I" } : MethodName)) ∈ q_tbl := q_of8 2 rfl (by decide +kernel)
set_option maxRecDepth 100000 in
theorem w_1124 : (Cond.instanceMethod ({ cls := "NumberHouse$Big", name := "lengthInBits", desc := "()I" } : MethodName)) ∈ q_tbl := q_of5 164 rfl (by decide +kernel)
set_option maxRecDepth 100000 in
theorem w_1125 : (Cond.selects "NumberHouse$Big" ({ cls := "NumberHouse$Big", name := "lengthInBits", desc := "()I" } : MethodName) ({ cls := "NumberHouse$Big", name := "lengthInBits", desc := "()I" } : MethodName)) ∈ q_tbl := q_of5 165 rfl (by decide +kernel)
theorem LV_Big_53 : q_LV "NumberHouse$Big" 53 y_Big_lengthInBits prog_2_method_14_code 2 (some .int) 0 := ⟨w_1126, w_4, w_1682, w_1124, w_1125, ⟨by decide, by decide, by decide +kernel⟩⟩
theorem d_2_11_4 : decode prog_2_method_11_code 4 = .ok (.bipush 63, 2) := by decide +kernel
theorem d_2_11_6 : decode prog_2_method_11_code 6 = .ok (.if_icmp .gt 7, 3) := by decide +kernel
theorem d_2_11_9 : decode prog_2_method_11_code 9 = .ok (.iconst 1, 1) := by decide +kernel
theorem d_2_11_10 : decode prog_2_method_11_code 10 = .ok (.goto 4, 3) := by decide +kernel
theorem d_2_11_14 : decode prog_2_method_11_code 14 = .ok (.ireturn, 1) := by decide +kernel
def y_Big_fitsLong : MethodName := ⟨"NumberHouse$Big", "fitsLong", "()Z"⟩
set_option maxRecDepth 100000 in
set_option maxHeartbeats 4000000 in
/-- fitsLong of a zero -/
theorem c_Big_fitsLong (l : Launch) (D : va_G) (g : Nat → ClassId) (ws : va_W) (kO0 qO0 qA1 : Nat) (hO0 : ws[kO0]? = (some (qO0, .inr (2, [.ref qA1, .int 0, .int 0])) : Option (Nat × va_E))) : q_mI l y_Big_fitsLong prog_2_method_11_code 1 (.boolean) 3 0 0 D g [.ref qO0] ws (fun r u => 1 = r ∧ ws = u) := by
  intro sz
  refine q_into (by decide) (Nat.le_of_ble_eq_true rfl) ?_
  intro p e s m below meth c ls hsz C0 V hl
  have hx := C0.1
  have hb := C0.2.1
  have hl : lv_has ls 1 [(0, .ref qO0)] := hl
  refine lv_aload_n hx hb d_2_11_0 rfl (lv_at hl 0 rfl) ?_
  refine q_goi V (q_runV (As := []) (rest := []) (d := 2) (mc := 0) (ms := 0) (ci := 2) C0 V rfl LV_Big_53 (c_Big_lengthInBits l D g ws kO0 qO0 qA1 hO0 _) rfl rfl hO0 rfl hl.1 rfl (Nat.le_of_ble_eq_true rfl) ⟨by decide, by decide⟩ ⟨Nat.le_of_ble_eq_true rfl, Nat.le_of_ble_eq_true rfl⟩ d_2_11_1) (fun v3 u2 H locs hp1 V => ?_)
  obtain ⟨rfl, rfl⟩ := hp1
  refine lv_bipush (v := 63) hx hb d_2_11_4 (by decide) ?_
  refine lv_icmp_gt (tgt := 13) hx hb d_2_11_6 (by decide) (fun c5 => absurd c5 (by decide)) (fun c5 => ?_)
  refine lv_iconst (v := 1) hx hb d_2_11_9 (by decide) ?_
  refine lv_goto (tgt := 14) hx hb d_2_11_10 (by decide) ?_
  exact q_retz C0 V (rfl) (⟨rfl, rfl⟩) d_2_11_14
theorem d_2_5_0 : decode prog_2_method_5_code 0 = .ok (.iload_n 1, 1) := by decide +kernel
theorem d_2_5_1 : decode prog_2_method_5_code 1 = .ok (.ifCond .lt 20, 3) := by decide +kernel
theorem d_2_5_4 : decode prog_2_method_5_code 4 = .ok (.iload_n 1, 1) := by decide +kernel
theorem d_2_5_5 : decode prog_2_method_5_code 5 = .ok (.aload_n 0, 1) := by decide +kernel
theorem d_2_5_6 : decode prog_2_method_5_code 6 = .ok (.getfield 13, 3) := by decide +kernel
theorem d_2_5_9 : decode prog_2_method_5_code 9 = .ok (.if_icmp .ge 12, 3) := by decide +kernel
theorem d_2_5_21 : decode prog_2_method_5_code 21 = .ok (.iconst 0, 1) := by decide +kernel
theorem d_2_5_22 : decode prog_2_method_5_code 22 = .ok (.ireturn, 1) := by decide +kernel
def y_Big_limb : MethodName := ⟨"NumberHouse$Big", "limb", "(I)I"⟩
set_option maxRecDepth 100000 in
set_option maxHeartbeats 4000000 in
theorem c_Big_limb (l : Launch) (D : va_G) (g : Nat → ClassId) (ws : va_W) (kO0 qO0 qA1 : Nat) (hO0 : ws[kO0]? = (some (qO0, .inr (2, [.ref qA1, .int 0, .int 0])) : Option (Nat × va_E))) : q_mI l y_Big_limb prog_2_method_5_code 2 (.int) 1 0 0 D g [.ref qO0, .int 0] ws (fun r u => 0 = r ∧ ws = u) := by
  intro sz
  refine q_into (by decide) (Nat.le_of_ble_eq_true rfl) ?_
  intro p e s m below meth c ls hsz C0 V hl
  have hx := C0.1
  have hb := C0.2.1
  have hl : lv_has ls 2 [(0, .ref qO0), (1, .int 0)] := hl
  refine lv_iload_n hx hb d_2_5_0 rfl (lv_at hl 1 rfl) ?_
  refine lv_if_lt (tgt := 21) hx hb d_2_5_1 (by decide) (fun c1 => absurd c1 (by decide)) (fun c1 => ?_)
  refine lv_iload_n hx hb d_2_5_4 rfl (lv_at hl 1 rfl) ?_
  refine lv_aload_n hx hb d_2_5_5 rfl (lv_at hl 0 rfl) ?_
  refine q_get (ci := 2) (j := 1) (v := .int 0) C0 V i_Big rfl rfl hO0 (by decide) w_85 rfl d_2_5_6 ?_
  refine lv_icmp_ge (tgt := 21) hx hb d_2_5_9 (by decide) (fun c2 => ?_) (fun c2 => absurd (by decide) c2)
  refine lv_iconst (v := 0) hx hb d_2_5_21 (by decide) ?_
  exact q_reti C0 V (⟨rfl, rfl⟩) d_2_5_22
set_option maxRecDepth 100000 in
set_option maxHeartbeats 4000000 in
theorem c_Big_limb_2 (l : Launch) (D : va_G) (g : Nat → ClassId) (ws : va_W) (kO0 qO0 qA1 : Nat) (hO0 : ws[kO0]? = (some (qO0, .inr (2, [.ref qA1, .int 0, .int 0])) : Option (Nat × va_E))) : q_mI l y_Big_limb prog_2_method_5_code 2 (.int) 1 0 0 D g [.ref qO0, .int 1] ws (fun r u => 0 = r ∧ ws = u) := by
  intro sz
  refine q_into (by decide) (Nat.le_of_ble_eq_true rfl) ?_
  intro p e s m below meth c ls hsz C0 V hl
  have hx := C0.1
  have hb := C0.2.1
  have hl : lv_has ls 2 [(0, .ref qO0), (1, .int 1)] := hl
  refine lv_iload_n hx hb d_2_5_0 rfl (lv_at hl 1 rfl) ?_
  refine lv_if_lt (tgt := 21) hx hb d_2_5_1 (by decide) (fun c1 => absurd c1 (by decide)) (fun c1 => ?_)
  refine lv_iload_n hx hb d_2_5_4 rfl (lv_at hl 1 rfl) ?_
  refine lv_aload_n hx hb d_2_5_5 rfl (lv_at hl 0 rfl) ?_
  refine q_get (ci := 2) (j := 1) (v := .int 0) C0 V i_Big rfl rfl hO0 (by decide) w_85 rfl d_2_5_6 ?_
  refine lv_icmp_ge (tgt := 21) hx hb d_2_5_9 (by decide) (fun c2 => ?_) (fun c2 => absurd (by decide) c2)
  refine lv_iconst (v := 0) hx hb d_2_5_21 (by decide) ?_
  exact q_reti C0 V (⟨rfl, rfl⟩) d_2_5_22
set_option maxRecDepth 100000 in
set_option maxHeartbeats 4000000 in
theorem c_Big_limb_3 (l : Launch) (D : va_G) (g : Nat → ClassId) (ws : va_W) (kO0 qO0 qA1 : Nat) (hO0 : ws[kO0]? = (some (qO0, .inr (2, [.ref qA1, .int 0, .int 0])) : Option (Nat × va_E))) : q_mI l y_Big_limb prog_2_method_5_code 2 (.int) 1 0 0 D g [.ref qO0, .int 2] ws (fun r u => 0 = r ∧ ws = u) := by
  intro sz
  refine q_into (by decide) (Nat.le_of_ble_eq_true rfl) ?_
  intro p e s m below meth c ls hsz C0 V hl
  have hx := C0.1
  have hb := C0.2.1
  have hl : lv_has ls 2 [(0, .ref qO0), (1, .int 2)] := hl
  refine lv_iload_n hx hb d_2_5_0 rfl (lv_at hl 1 rfl) ?_
  refine lv_if_lt (tgt := 21) hx hb d_2_5_1 (by decide) (fun c1 => absurd c1 (by decide)) (fun c1 => ?_)
  refine lv_iload_n hx hb d_2_5_4 rfl (lv_at hl 1 rfl) ?_
  refine lv_aload_n hx hb d_2_5_5 rfl (lv_at hl 0 rfl) ?_
  refine q_get (ci := 2) (j := 1) (v := .int 0) C0 V i_Big rfl rfl hO0 (by decide) w_85 rfl d_2_5_6 ?_
  refine lv_icmp_ge (tgt := 21) hx hb d_2_5_9 (by decide) (fun c2 => ?_) (fun c2 => absurd (by decide) c2)
  refine lv_iconst (v := 0) hx hb d_2_5_21 (by decide) ?_
  exact q_reti C0 V (⟨rfl, rfl⟩) d_2_5_22
theorem d_2_10_0 : decode prog_2_method_10_code 0 = .ok (.aload_n 0, 1) := by decide +kernel
theorem d_2_10_1 : decode prog_2_method_10_code 1 = .ok (.iconst 0, 1) := by decide +kernel
theorem d_2_10_2 : decode prog_2_method_10_code 2 = .ok (.invokevirtual 49, 3) := by decide +kernel
set_option maxRecDepth 100000 in
theorem w_750 : (Cond.code ({ cls := "NumberHouse$Big", name := "limb", desc := "(I)I" } : MethodName) prog_2_method_5_code (2 : Nat) (some .int)) ∈ q_tbl := q_of4 30 rfl (by decide +kernel)
set_option maxRecDepth 100000 in
theorem w_747 : (Cond.methodLink "NumberHouse$Big" (49 : Nat) ({ cls := "NumberHouse$Big", name := "limb", desc := "(I)I" } : MethodName)) ∈ q_tbl := q_of4 27 rfl (by decide +kernel)
set_option maxRecDepth 100000 in
theorem w_748 : (Cond.instanceMethod ({ cls := "NumberHouse$Big", name := "limb", desc := "(I)I" } : MethodName)) ∈ q_tbl := q_of4 28 rfl (by decide +kernel)
set_option maxRecDepth 100000 in
theorem w_749 : (Cond.selects "NumberHouse$Big" ({ cls := "NumberHouse$Big", name := "limb", desc := "(I)I" } : MethodName) ({ cls := "NumberHouse$Big", name := "limb", desc := "(I)I" } : MethodName)) ∈ q_tbl := q_of4 29 rfl (by decide +kernel)
theorem LV_Big_49 : q_LV "NumberHouse$Big" 49 y_Big_limb prog_2_method_5_code 2 (some .int) 1 := ⟨w_750, w_4, w_747, w_748, w_749, ⟨by decide, by decide, by decide +kernel⟩⟩
theorem d_2_10_5 : decode prog_2_method_10_code 5 = .ok (.i2l, 1) := by decide +kernel
theorem d_2_10_6 : decode prog_2_method_10_code 6 = .ok (.aload_n 0, 1) := by decide +kernel
theorem d_2_10_7 : decode prog_2_method_10_code 7 = .ok (.iconst 1, 1) := by decide +kernel
theorem d_2_10_8 : decode prog_2_method_10_code 8 = .ok (.invokevirtual 49, 3) := by decide +kernel
theorem d_2_10_11 : decode prog_2_method_10_code 11 = .ok (.i2l, 1) := by decide +kernel
theorem d_2_10_12 : decode prog_2_method_10_code 12 = .ok (.bipush 31, 2) := by decide +kernel
theorem d_2_10_14 : decode prog_2_method_10_code 14 = .ok (.lshl, 1) := by decide +kernel
theorem d_2_10_15 : decode prog_2_method_10_code 15 = .ok (.lor, 1) := by decide +kernel
theorem d_2_10_16 : decode prog_2_method_10_code 16 = .ok (.aload_n 0, 1) := by decide +kernel
theorem d_2_10_17 : decode prog_2_method_10_code 17 = .ok (.iconst 2, 1) := by decide +kernel
theorem d_2_10_18 : decode prog_2_method_10_code 18 = .ok (.invokevirtual 49, 3) := by decide +kernel
theorem d_2_10_21 : decode prog_2_method_10_code 21 = .ok (.i2l, 1) := by decide +kernel
theorem d_2_10_22 : decode prog_2_method_10_code 22 = .ok (.bipush 62, 2) := by decide +kernel
theorem d_2_10_24 : decode prog_2_method_10_code 24 = .ok (.lshl, 1) := by decide +kernel
theorem d_2_10_25 : decode prog_2_method_10_code 25 = .ok (.lor, 1) := by decide +kernel
theorem d_2_10_26 : decode prog_2_method_10_code 26 = .ok (.lstore_n 1, 1) := by decide +kernel
theorem d_2_10_27 : decode prog_2_method_10_code 27 = .ok (.aload_n 0, 1) := by decide +kernel
theorem d_2_10_28 : decode prog_2_method_10_code 28 = .ok (.getfield 17, 3) := by decide +kernel
theorem d_2_10_31 : decode prog_2_method_10_code 31 = .ok (.ifCond .eq 8, 3) := by decide +kernel
theorem d_2_10_39 : decode prog_2_method_10_code 39 = .ok (.lload_n 1, 1) := by decide +kernel
theorem d_2_10_40 : decode prog_2_method_10_code 40 = .ok (.lreturn, 1) := by decide +kernel
def y_Big_toLong : MethodName := ⟨"NumberHouse$Big", "toLong", "()J"⟩
set_option maxRecDepth 100000 in
set_option maxHeartbeats 4000000 in
/-- toLong of a zero -/
theorem c_Big_toLong (l : Launch) (D : va_G) (g : Nat → ClassId) (ws : va_W) (kO0 qO0 qA1 : Nat) (hO0 : ws[kO0]? = (some (qO0, .inr (2, [.ref qA1, .int 0, .int 0])) : Option (Nat × va_E))) : q_mL l y_Big_toLong prog_2_method_10_code 3 2 0 0 D g [.ref qO0] ws (fun r u => 0 = r ∧ ws = u) := by
  intro sz
  refine q_into (by decide) (Nat.le_of_ble_eq_true rfl) ?_
  intro p e s m below meth c ls hsz C0 V hl
  have hx := C0.1
  have hb := C0.2.1
  have hl : lv_has ls 3 [(0, .ref qO0)] := hl
  refine lv_aload_n hx hb d_2_10_0 rfl (lv_at hl 0 rfl) ?_
  refine lv_iconst (v := 0) hx hb d_2_10_1 (by decide) ?_
  refine q_goi V (q_runV (As := [.int 0]) (rest := []) (d := 1) (mc := 0) (ms := 0) (ci := 2) C0 V rfl LV_Big_49 (c_Big_limb l D g ws kO0 qO0 qA1 hO0 _) rfl rfl hO0 rfl hl.1 rfl (Nat.le_of_ble_eq_true rfl) ⟨by decide, by decide⟩ ⟨Nat.le_of_ble_eq_true rfl, Nat.le_of_ble_eq_true rfl⟩ d_2_10_2) (fun v3 u2 H locs hp1 V => ?_)
  obtain ⟨rfl, rfl⟩ := hp1
  refine lv_i2l hx hb d_2_10_5 rfl ?_
  refine q_tl (v := 0) (by decide) ?_
  refine lv_aload_n hx hb d_2_10_6 rfl (lv_at hl 0 rfl) ?_
  refine lv_iconst (v := 1) hx hb d_2_10_7 (by decide) ?_
  refine q_goi V (q_runV (As := [.int 1]) (rest := [.long 0]) (d := 1) (mc := 0) (ms := 0) (ci := 2) C0 V rfl LV_Big_49 (c_Big_limb_2 l D g ws kO0 qO0 qA1 hO0 _) rfl rfl hO0 rfl hl.1 rfl (Nat.le_of_ble_eq_true rfl) ⟨by decide, by decide⟩ ⟨Nat.le_of_ble_eq_true rfl, Nat.le_of_ble_eq_true rfl⟩ d_2_10_8) (fun v7 u6 H locs hp5 V => ?_)
  obtain ⟨rfl, rfl⟩ := hp5
  refine lv_i2l hx hb d_2_10_11 rfl ?_
  refine q_tl (v := 0) (by decide) ?_
  refine lv_bipush (v := 31) hx hb d_2_10_12 (by decide) ?_
  refine lv_lshl hx hb d_2_10_14 rfl ?_
  refine q_tl (v := 0) (by decide) ?_
  refine lv_lor hx hb d_2_10_15 ?_
  refine q_tl (v := 0) (by decide) ?_
  refine lv_aload_n hx hb d_2_10_16 rfl (lv_at hl 0 rfl) ?_
  refine lv_iconst (v := 2) hx hb d_2_10_17 (by decide) ?_
  refine q_goi V (q_runV (As := [.int 2]) (rest := [.long 0]) (d := 1) (mc := 0) (ms := 0) (ci := 2) C0 V rfl LV_Big_49 (c_Big_limb_3 l D g ws kO0 qO0 qA1 hO0 _) rfl rfl hO0 rfl hl.1 rfl (Nat.le_of_ble_eq_true rfl) ⟨by decide, by decide⟩ ⟨Nat.le_of_ble_eq_true rfl, Nat.le_of_ble_eq_true rfl⟩ d_2_10_18) (fun v11 u10 H locs hp9 V => ?_)
  obtain ⟨rfl, rfl⟩ := hp9
  refine lv_i2l hx hb d_2_10_21 rfl ?_
  refine q_tl (v := 0) (by decide) ?_
  refine lv_bipush (v := 62) hx hb d_2_10_22 (by decide) ?_
  refine lv_lshl hx hb d_2_10_24 rfl ?_
  refine q_tl (v := 0) (by decide) ?_
  refine lv_lor hx hb d_2_10_25 ?_
  refine q_tl (v := 0) (by decide) ?_
  refine lv_lstore_n (lv' := [(1, .long 0), (0, .ref qO0)]) hx hb d_2_10_26 rfl hl (by decide) rfl (fun ls hl => ?_)
  refine lv_aload_n hx hb d_2_10_27 rfl (lv_at hl 1 rfl) ?_
  refine q_get (ci := 2) (j := 2) (v := .int 0) C0 V i_Big rfl rfl hO0 (by decide) w_94 rfl d_2_10_28 ?_
  refine lv_if_eq (tgt := 39) hx hb d_2_10_31 (by decide) (fun c13 => ?_) (fun c13 => absurd (by decide) c13)
  refine lv_lload_n hx hb d_2_10_39 rfl (lv_at hl 0 rfl) ?_
  exact q_retl C0 V (⟨rfl, rfl⟩) d_2_10_40

/-! constructors and the two that throw -/
theorem d_2_1_0 : decode prog_2_method_1_code 0 = .ok (.aload_n 0, 1) := by decide +kernel
theorem d_2_1_1 : decode prog_2_method_1_code 1 = .ok (.invokespecial 1, 3) := by decide +kernel
set_option maxRecDepth 100000 in
theorem w_83 : (Cond.methodLink "NumberHouse$Big" (1 : Nat) ({ cls := "java/lang/Object", name := "<init>", desc := "()V" } : MethodName)) ∈ q_tbl := q_of1 83 rfl (by decide +kernel)
set_option maxRecDepth 100000 in
theorem w_44 : (Cond.instanceMethod ({ cls := "java/lang/Object", name := "<init>", desc := "()V" } : MethodName)) ∈ q_tbl := q_of1 44 rfl (by decide +kernel)
set_option maxRecDepth 100000 in
theorem w_45 : (Cond.code ({ cls := "java/lang/Object", name := "<init>", desc := "()V" } : MethodName) object_method_1_code (1 : Nat) (none : Option ClassFile.FieldType)) ∈ q_tbl := q_of1 45 rfl (by decide +kernel)
theorem d_2_1_4 : decode prog_2_method_1_code 4 = .ok (.aload_n 0, 1) := by decide +kernel
theorem d_2_1_5 : decode prog_2_method_1_code 5 = .ok (.iload_n 1, 1) := by decide +kernel
theorem d_2_1_6 : decode prog_2_method_1_code 6 = .ok (.newarray .int, 2) := by decide +kernel
set_option maxRecDepth 100000 in
theorem w_107 : (Cond.arrayClass .int) ∈ q_tbl := q_of1 107 rfl (by decide +kernel)
theorem d_2_1_8 : decode prog_2_method_1_code 8 = .ok (.putfield 7, 3) := by decide +kernel
set_option maxRecDepth 100000 in
theorem w_84 : (Cond.fieldLink "NumberHouse$Big" (7 : Nat) "NumberHouse$Big" "limbs" "[I") ∈ q_tbl := q_of1 84 rfl (by decide +kernel)
theorem d_2_1_11 : decode prog_2_method_1_code 11 = .ok (.return_, 1) := by decide +kernel
def y_Big_init : MethodName := ⟨"NumberHouse$Big", "<init>", "(I)V"⟩
set_option maxRecDepth 100000 in
set_option maxHeartbeats 4000000 in
/-- new Big(68) -/
theorem c_Big_init (l : Launch) (D : va_G) (g : Nat → ClassId) (ws : va_W) (kO0 qO0 : Nat) (N : Nat) (hN : ws.length = N) (hO0 : ws[kO0]? = (some (qO0, .inr (2, [.null, .int 0, .int 0])) : Option (Nat × va_E))) : q_mV l y_Big_init prog_2_method_1_code 2 2 1 68 D g [.ref qO0, .int 68] ws (fun u => ∃ (q1 : Nat), q_un ws u [kO0, N] ∧ u[kO0]? = (some (qO0, .inr (2, [.ref q1, .int 0, .int 0])) : Option (Nat × va_E)) ∧ u[N]? = (some (q1, .inl (g 0, 68, .inl (fun _ => 0))) : Option (Nat × va_E)) ∧ u.length = N + 1) := by
  intro sz
  refine q_into (by decide) (Nat.le_of_ble_eq_true rfl) ?_
  intro p e s m below meth c ls hsz C0 V hl
  have hx := C0.1
  have hb := C0.2.1
  have hl : lv_has ls 2 [(0, .ref qO0), (1, .int 68)] := hl
  have lt_O0 := q_ltN hN hO0
  have hF : q_un ws ws [kO0, N] := q_u0
  refine lv_aload_n hx hb d_2_1_0 rfl (lv_at hl 0 rfl) ?_
  refine q_obj C0 hl.1 rfl w_83 w_44 w_45 ⟨by decide, by decide⟩ d_2_1_1 ?_
  refine lv_aload_n hx hb d_2_1_4 rfl (lv_at hl 0 rfl) ?_
  refine lv_iload_n hx hb d_2_1_5 rfl (lv_at hl 1 rfl) ?_
  refine q_newI (N' := 68) C0 V hN w_107 (by decide) (by decide) (by decide) (Nat.le_of_ble_eq_true rfl) (Nat.le_of_ble_eq_true rfl) d_2_1_6 (fun q1 H w2 hu3 hn4 hN V => ?_)
  have hn0 : w2[N]? = (some (q1, .inl (g 0, 68, .inl (fun _ => 0))) : Option (Nat × va_E)) := hn4
  replace hF := q_us hF hu3 (.tail _ (.head _))
  replace hN : w2.length = N + 1 := hN
  replace hO0 := (hu3 _ (q_p1 lt_O0)).trans (hO0)
  have ho7 := hO0
  refine q_putF (ci := 2) (j := 0) (v := .ref q1) (ty := .array .int) C0 V i_Big o_Big n_Big rfl rfl rfl rfl rfl hO0 (by decide) w_84 rfl rfl rfl (Nat.le_of_ble_eq_true rfl) d_2_1_8 (fun H locs w5 hu6 hO0 V => ?_)
  replace hO0 : w5[kO0]? = (some (qO0, .inr (2, [.ref q1, .int 0, .int 0])) : Option (Nat × va_E)) := hO0
  replace hN : w5.length = N + 1 := (q_len1 hu6 hO0 ho7).trans hN
  replace hF := q_us hF hu6 (.head _)
  replace hn0 := (hu6 _ (Ne.symm (q_p1 lt_O0))).trans (hn0)
  exact q_retv C0 V (⟨q1, hF, hO0, hn0, hN⟩) d_2_1_11
set_option maxRecDepth 100000 in
set_option maxHeartbeats 4000000 in
/-- new Big(108) -/
theorem c_Big_init_2 (l : Launch) (D : va_G) (g : Nat → ClassId) (ws : va_W) (kO0 qO0 : Nat) (N : Nat) (hN : ws.length = N) (hO0 : ws[kO0]? = (some (qO0, .inr (2, [.null, .int 0, .int 0])) : Option (Nat × va_E))) : q_mV l y_Big_init prog_2_method_1_code 2 2 1 108 D g [.ref qO0, .int 108] ws (fun u => ∃ (q1 : Nat), q_un ws u [kO0, N] ∧ u[kO0]? = (some (qO0, .inr (2, [.ref q1, .int 0, .int 0])) : Option (Nat × va_E)) ∧ u[N]? = (some (q1, .inl (g 0, 108, .inl (fun _ => 0))) : Option (Nat × va_E)) ∧ u.length = N + 1) := by
  intro sz
  refine q_into (by decide) (Nat.le_of_ble_eq_true rfl) ?_
  intro p e s m below meth c ls hsz C0 V hl
  have hx := C0.1
  have hb := C0.2.1
  have hl : lv_has ls 2 [(0, .ref qO0), (1, .int 108)] := hl
  have lt_O0 := q_ltN hN hO0
  have hF : q_un ws ws [kO0, N] := q_u0
  refine lv_aload_n hx hb d_2_1_0 rfl (lv_at hl 0 rfl) ?_
  refine q_obj C0 hl.1 rfl w_83 w_44 w_45 ⟨by decide, by decide⟩ d_2_1_1 ?_
  refine lv_aload_n hx hb d_2_1_4 rfl (lv_at hl 0 rfl) ?_
  refine lv_iload_n hx hb d_2_1_5 rfl (lv_at hl 1 rfl) ?_
  refine q_newI (N' := 108) C0 V hN w_107 (by decide) (by decide) (by decide) (Nat.le_of_ble_eq_true rfl) (Nat.le_of_ble_eq_true rfl) d_2_1_6 (fun q1 H w2 hu3 hn4 hN V => ?_)
  have hn0 : w2[N]? = (some (q1, .inl (g 0, 108, .inl (fun _ => 0))) : Option (Nat × va_E)) := hn4
  replace hF := q_us hF hu3 (.tail _ (.head _))
  replace hN : w2.length = N + 1 := hN
  replace hO0 := (hu3 _ (q_p1 lt_O0)).trans (hO0)
  have ho7 := hO0
  refine q_putF (ci := 2) (j := 0) (v := .ref q1) (ty := .array .int) C0 V i_Big o_Big n_Big rfl rfl rfl rfl rfl hO0 (by decide) w_84 rfl rfl rfl (Nat.le_of_ble_eq_true rfl) d_2_1_8 (fun H locs w5 hu6 hO0 V => ?_)
  replace hO0 : w5[kO0]? = (some (qO0, .inr (2, [.ref q1, .int 0, .int 0])) : Option (Nat × va_E)) := hO0
  replace hN : w5.length = N + 1 := (q_len1 hu6 hO0 ho7).trans hN
  replace hF := q_us hF hu6 (.head _)
  replace hn0 := (hu6 _ (Ne.symm (q_p1 lt_O0))).trans (hn0)
  exact q_retv C0 V (⟨q1, hF, hO0, hn0, hN⟩) d_2_1_11
set_option maxRecDepth 100000 in
set_option maxHeartbeats 4000000 in
/-- new Big(220) -/
theorem c_Big_init_3 (l : Launch) (D : va_G) (g : Nat → ClassId) (ws : va_W) (kO0 qO0 : Nat) (N : Nat) (hN : ws.length = N) (hO0 : ws[kO0]? = (some (qO0, .inr (2, [.null, .int 0, .int 0])) : Option (Nat × va_E))) : q_mV l y_Big_init prog_2_method_1_code 2 2 1 220 D g [.ref qO0, .int 220] ws (fun u => ∃ (q1 : Nat), q_un ws u [kO0, N] ∧ u[kO0]? = (some (qO0, .inr (2, [.ref q1, .int 0, .int 0])) : Option (Nat × va_E)) ∧ u[N]? = (some (q1, .inl (g 0, 220, .inl (fun _ => 0))) : Option (Nat × va_E)) ∧ u.length = N + 1) := by
  intro sz
  refine q_into (by decide) (Nat.le_of_ble_eq_true rfl) ?_
  intro p e s m below meth c ls hsz C0 V hl
  have hx := C0.1
  have hb := C0.2.1
  have hl : lv_has ls 2 [(0, .ref qO0), (1, .int 220)] := hl
  have lt_O0 := q_ltN hN hO0
  have hF : q_un ws ws [kO0, N] := q_u0
  refine lv_aload_n hx hb d_2_1_0 rfl (lv_at hl 0 rfl) ?_
  refine q_obj C0 hl.1 rfl w_83 w_44 w_45 ⟨by decide, by decide⟩ d_2_1_1 ?_
  refine lv_aload_n hx hb d_2_1_4 rfl (lv_at hl 0 rfl) ?_
  refine lv_iload_n hx hb d_2_1_5 rfl (lv_at hl 1 rfl) ?_
  refine q_newI (N' := 220) C0 V hN w_107 (by decide) (by decide) (by decide) (Nat.le_of_ble_eq_true rfl) (Nat.le_of_ble_eq_true rfl) d_2_1_6 (fun q1 H w2 hu3 hn4 hN V => ?_)
  have hn0 : w2[N]? = (some (q1, .inl (g 0, 220, .inl (fun _ => 0))) : Option (Nat × va_E)) := hn4
  replace hF := q_us hF hu3 (.tail _ (.head _))
  replace hN : w2.length = N + 1 := hN
  replace hO0 := (hu3 _ (q_p1 lt_O0)).trans (hO0)
  have ho7 := hO0
  refine q_putF (ci := 2) (j := 0) (v := .ref q1) (ty := .array .int) C0 V i_Big o_Big n_Big rfl rfl rfl rfl rfl hO0 (by decide) w_84 rfl rfl rfl (Nat.le_of_ble_eq_true rfl) d_2_1_8 (fun H locs w5 hu6 hO0 V => ?_)
  replace hO0 : w5[kO0]? = (some (qO0, .inr (2, [.ref q1, .int 0, .int 0])) : Option (Nat × va_E)) := hO0
  replace hN : w5.length = N + 1 := (q_len1 hu6 hO0 ho7).trans hN
  replace hF := q_us hF hu6 (.head _)
  replace hn0 := (hu6 _ (Ne.symm (q_p1 lt_O0))).trans (hn0)
  exact q_retv C0 V (⟨q1, hF, hO0, hn0, hN⟩) d_2_1_11
set_option maxRecDepth 100000 in
set_option maxHeartbeats 4000000 in
/-- new Big(3) -/
theorem c_Big_init_4 (l : Launch) (D : va_G) (g : Nat → ClassId) (ws : va_W) (kO0 qO0 : Nat) (N : Nat) (hN : ws.length = N) (hO0 : ws[kO0]? = (some (qO0, .inr (2, [.null, .int 0, .int 0])) : Option (Nat × va_E))) : q_mV l y_Big_init prog_2_method_1_code 2 2 1 3 D g [.ref qO0, .int 3] ws (fun u => ∃ (q1 : Nat), q_un ws u [kO0, N] ∧ u[kO0]? = (some (qO0, .inr (2, [.ref q1, .int 0, .int 0])) : Option (Nat × va_E)) ∧ u[N]? = (some (q1, .inl (g 0, 3, .inl (fun _ => 0))) : Option (Nat × va_E)) ∧ u.length = N + 1) := by
  intro sz
  refine q_into (by decide) (Nat.le_of_ble_eq_true rfl) ?_
  intro p e s m below meth c ls hsz C0 V hl
  have hx := C0.1
  have hb := C0.2.1
  have hl : lv_has ls 2 [(0, .ref qO0), (1, .int 3)] := hl
  have lt_O0 := q_ltN hN hO0
  have hF : q_un ws ws [kO0, N] := q_u0
  refine lv_aload_n hx hb d_2_1_0 rfl (lv_at hl 0 rfl) ?_
  refine q_obj C0 hl.1 rfl w_83 w_44 w_45 ⟨by decide, by decide⟩ d_2_1_1 ?_
  refine lv_aload_n hx hb d_2_1_4 rfl (lv_at hl 0 rfl) ?_
  refine lv_iload_n hx hb d_2_1_5 rfl (lv_at hl 1 rfl) ?_
  refine q_newI (N' := 3) C0 V hN w_107 (by decide) (by decide) (by decide) (Nat.le_of_ble_eq_true rfl) (Nat.le_of_ble_eq_true rfl) d_2_1_6 (fun q1 H w2 hu3 hn4 hN V => ?_)
  have hn0 : w2[N]? = (some (q1, .inl (g 0, 3, .inl (fun _ => 0))) : Option (Nat × va_E)) := hn4
  replace hF := q_us hF hu3 (.tail _ (.head _))
  replace hN : w2.length = N + 1 := hN
  replace hO0 := (hu3 _ (q_p1 lt_O0)).trans (hO0)
  have ho7 := hO0
  refine q_putF (ci := 2) (j := 0) (v := .ref q1) (ty := .array .int) C0 V i_Big o_Big n_Big rfl rfl rfl rfl rfl hO0 (by decide) w_84 rfl rfl rfl (Nat.le_of_ble_eq_true rfl) d_2_1_8 (fun H locs w5 hu6 hO0 V => ?_)
  replace hO0 : w5[kO0]? = (some (qO0, .inr (2, [.ref q1, .int 0, .int 0])) : Option (Nat × va_E)) := hO0
  replace hN : w5.length = N + 1 := (q_len1 hu6 hO0 ho7).trans hN
  replace hF := q_us hF hu6 (.head _)
  replace hn0 := (hu6 _ (Ne.symm (q_p1 lt_O0))).trans (hn0)
  exact q_retv C0 V (⟨q1, hF, hO0, hn0, hN⟩) d_2_1_11
theorem d_11_1_0 : decode prog_11_method_1_code 0 = .ok (.aload_n 0, 1) := by decide +kernel
theorem d_11_1_1 : decode prog_11_method_1_code 1 = .ok (.invokespecial 1, 3) := by decide +kernel
set_option maxRecDepth 100000 in
theorem w_51 : (Cond.methodLink "NumberHouse$Sheet" (1 : Nat) ({ cls := "java/lang/Object", name := "<init>", desc := "()V" } : MethodName)) ∈ q_tbl := q_of1 51 rfl (by decide +kernel)
theorem d_11_1_4 : decode prog_11_method_1_code 4 = .ok (.aload_n 0, 1) := by decide +kernel
theorem d_11_1_5 : decode prog_11_method_1_code 5 = .ok (.iload_n 1, 1) := by decide +kernel
theorem d_11_1_6 : decode prog_11_method_1_code 6 = .ok (.putfield 7, 3) := by decide +kernel
set_option maxRecDepth 100000 in
theorem w_53 : (Cond.fieldLink "NumberHouse$Sheet" (7 : Nat) "NumberHouse$Sheet" "room" "I") ∈ q_tbl := q_of1 53 rfl (by decide +kernel)
theorem d_11_1_9 : decode prog_11_method_1_code 9 = .ok (.aload_n 0, 1) := by decide +kernel
theorem d_11_1_10 : decode prog_11_method_1_code 10 = .ok (.iload_n 1, 1) := by decide +kernel
theorem d_11_1_11 : decode prog_11_method_1_code 11 = .ok (.bipush 7, 2) := by decide +kernel
theorem d_11_1_13 : decode prog_11_method_1_code 13 = .ok (.iadd, 1) := by decide +kernel
theorem d_11_1_14 : decode prog_11_method_1_code 14 = .ok (.bipush 8, 2) := by decide +kernel
theorem d_11_1_16 : decode prog_11_method_1_code 16 = .ok (.idiv, 1) := by decide +kernel
theorem d_11_1_17 : decode prog_11_method_1_code 17 = .ok (.newarray .long, 2) := by decide +kernel
set_option maxRecDepth 100000 in
theorem w_67 : (Cond.arrayClass .long) ∈ q_tbl := q_of1 67 rfl (by decide +kernel)
theorem d_11_1_19 : decode prog_11_method_1_code 19 = .ok (.putfield 13, 3) := by decide +kernel
set_option maxRecDepth 100000 in
theorem w_52 : (Cond.fieldLink "NumberHouse$Sheet" (13 : Nat) "NumberHouse$Sheet" "cells" "[J") ∈ q_tbl := q_of1 52 rfl (by decide +kernel)
theorem d_11_1_22 : decode prog_11_method_1_code 22 = .ok (.return_, 1) := by decide +kernel
def y_She_init : MethodName := ⟨"NumberHouse$Sheet", "<init>", "(I)V"⟩
set_option maxRecDepth 100000 in
set_option maxHeartbeats 4000000 in
/-- new Sheet(4100) -/
theorem c_She_init (l : Launch) (D : va_G) (g : Nat → ClassId) (ws : va_W) (kO0 qO0 : Nat) (N : Nat) (hN : ws.length = N) (hO0 : ws[kO0]? = (some (qO0, .inr (1, [.null, .int 0, .int 0])) : Option (Nat × va_E))) : q_mV l y_She_init prog_11_method_1_code 2 2 1 513 D g [.ref qO0, .int 4100] ws (fun u => ∃ (q4 : Nat), q_un ws u [kO0, N] ∧ u[kO0]? = (some (qO0, .inr (1, [.ref q4, .int 4100, .int 0])) : Option (Nat × va_E)) ∧ u[N]? = (some (q4, .inl (g 1, 513, .inr (.inl (fun _ => 0)))) : Option (Nat × va_E)) ∧ u.length = N + 1) := by
  intro sz
  refine q_into (by decide) (Nat.le_of_ble_eq_true rfl) ?_
  intro p e s m below meth c ls hsz C0 V hl
  have hx := C0.1
  have hb := C0.2.1
  have hl : lv_has ls 2 [(0, .ref qO0), (1, .int 4100)] := hl
  have lt_O0 := q_ltN hN hO0
  have hF : q_un ws ws [kO0, N] := q_u0
  refine lv_aload_n hx hb d_11_1_0 rfl (lv_at hl 0 rfl) ?_
  refine q_obj C0 hl.1 rfl w_51 w_44 w_45 ⟨by decide, by decide⟩ d_11_1_1 ?_
  refine lv_aload_n hx hb d_11_1_4 rfl (lv_at hl 0 rfl) ?_
  refine lv_iload_n hx hb d_11_1_5 rfl (lv_at hl 1 rfl) ?_
  have ho3 := hO0
  refine q_putF (ci := 1) (j := 1) (v := .int 4100) (ty := .int) C0 V i_She o_She n_She rfl rfl rfl rfl rfl hO0 (by decide) w_53 rfl rfl rfl (Nat.le_of_ble_eq_true rfl) d_11_1_6 (fun H locs w1 hu2 hO0 V => ?_)
  replace hO0 : w1[kO0]? = (some (qO0, .inr (1, [.null, .int 4100, .int 0])) : Option (Nat × va_E)) := hO0
  replace hN : w1.length = N := (q_len1 hu2 hO0 ho3).trans hN
  replace hF := q_us hF hu2 (.head _)
  refine lv_aload_n hx hb d_11_1_9 rfl (lv_at hl 0 rfl) ?_
  refine lv_iload_n hx hb d_11_1_10 rfl (lv_at hl 1 rfl) ?_
  refine lv_bipush (v := 7) hx hb d_11_1_11 (by decide) ?_
  refine lv_iadd hx hb d_11_1_13 ?_
  refine q_ti (v := 4107) (by decide) ?_
  refine lv_bipush (v := 8) hx hb d_11_1_14 (by decide) ?_
  refine lv_idiv hx hb d_11_1_16 (by decide) ?_
  refine q_ti (v := 513) (by decide) ?_
  refine q_newL (N' := 513) C0 V hN w_67 (by decide) (by decide) (by decide) (Nat.le_of_ble_eq_true rfl) (Nat.le_of_ble_eq_true rfl) d_11_1_17 (fun q4 H w5 hu6 hn7 hN V => ?_)
  have hn0 : w5[N]? = (some (q4, .inl (g 1, 513, .inr (.inl (fun _ => 0)))) : Option (Nat × va_E)) := hn7
  replace hF := q_us hF hu6 (.tail _ (.head _))
  replace hN : w5.length = N + 1 := hN
  replace hO0 := (hu6 _ (q_p1 lt_O0)).trans (hO0)
  have ho10 := hO0
  refine q_putF (ci := 1) (j := 0) (v := .ref q4) (ty := .array .long) C0 V i_She o_She n_She rfl rfl rfl rfl rfl hO0 (by decide) w_52 rfl rfl rfl (Nat.le_of_ble_eq_true rfl) d_11_1_19 (fun H locs w8 hu9 hO0 V => ?_)
  replace hO0 : w8[kO0]? = (some (qO0, .inr (1, [.ref q4, .int 4100, .int 0])) : Option (Nat × va_E)) := hO0
  replace hN : w8.length = N + 1 := (q_len1 hu9 hO0 ho10).trans hN
  replace hF := q_us hF hu9 (.head _)
  replace hn0 := (hu9 _ (Ne.symm (q_p1 lt_O0))).trans (hn0)
  exact q_retv C0 V (⟨q4, hF, hO0, hn0, hN⟩) d_11_1_22
set_option maxRecDepth 100000 in
set_option maxHeartbeats 4000000 in
/-- new Sheet(11008) -/
theorem c_She_init_2 (l : Launch) (D : va_G) (g : Nat → ClassId) (ws : va_W) (kO0 qO0 : Nat) (N : Nat) (hN : ws.length = N) (hO0 : ws[kO0]? = (some (qO0, .inr (1, [.null, .int 0, .int 0])) : Option (Nat × va_E))) : q_mV l y_She_init prog_11_method_1_code 2 2 1 1376 D g [.ref qO0, .int 11008] ws (fun u => ∃ (q4 : Nat), q_un ws u [kO0, N] ∧ u[kO0]? = (some (qO0, .inr (1, [.ref q4, .int 11008, .int 0])) : Option (Nat × va_E)) ∧ u[N]? = (some (q4, .inl (g 1, 1376, .inr (.inl (fun _ => 0)))) : Option (Nat × va_E)) ∧ u.length = N + 1) := by
  intro sz
  refine q_into (by decide) (Nat.le_of_ble_eq_true rfl) ?_
  intro p e s m below meth c ls hsz C0 V hl
  have hx := C0.1
  have hb := C0.2.1
  have hl : lv_has ls 2 [(0, .ref qO0), (1, .int 11008)] := hl
  have lt_O0 := q_ltN hN hO0
  have hF : q_un ws ws [kO0, N] := q_u0
  refine lv_aload_n hx hb d_11_1_0 rfl (lv_at hl 0 rfl) ?_
  refine q_obj C0 hl.1 rfl w_51 w_44 w_45 ⟨by decide, by decide⟩ d_11_1_1 ?_
  refine lv_aload_n hx hb d_11_1_4 rfl (lv_at hl 0 rfl) ?_
  refine lv_iload_n hx hb d_11_1_5 rfl (lv_at hl 1 rfl) ?_
  have ho3 := hO0
  refine q_putF (ci := 1) (j := 1) (v := .int 11008) (ty := .int) C0 V i_She o_She n_She rfl rfl rfl rfl rfl hO0 (by decide) w_53 rfl rfl rfl (Nat.le_of_ble_eq_true rfl) d_11_1_6 (fun H locs w1 hu2 hO0 V => ?_)
  replace hO0 : w1[kO0]? = (some (qO0, .inr (1, [.null, .int 11008, .int 0])) : Option (Nat × va_E)) := hO0
  replace hN : w1.length = N := (q_len1 hu2 hO0 ho3).trans hN
  replace hF := q_us hF hu2 (.head _)
  refine lv_aload_n hx hb d_11_1_9 rfl (lv_at hl 0 rfl) ?_
  refine lv_iload_n hx hb d_11_1_10 rfl (lv_at hl 1 rfl) ?_
  refine lv_bipush (v := 7) hx hb d_11_1_11 (by decide) ?_
  refine lv_iadd hx hb d_11_1_13 ?_
  refine q_ti (v := 11015) (by decide) ?_
  refine lv_bipush (v := 8) hx hb d_11_1_14 (by decide) ?_
  refine lv_idiv hx hb d_11_1_16 (by decide) ?_
  refine q_ti (v := 1376) (by decide) ?_
  refine q_newL (N' := 1376) C0 V hN w_67 (by decide) (by decide) (by decide) (Nat.le_of_ble_eq_true rfl) (Nat.le_of_ble_eq_true rfl) d_11_1_17 (fun q4 H w5 hu6 hn7 hN V => ?_)
  have hn0 : w5[N]? = (some (q4, .inl (g 1, 1376, .inr (.inl (fun _ => 0)))) : Option (Nat × va_E)) := hn7
  replace hF := q_us hF hu6 (.tail _ (.head _))
  replace hN : w5.length = N + 1 := hN
  replace hO0 := (hu6 _ (q_p1 lt_O0)).trans (hO0)
  have ho10 := hO0
  refine q_putF (ci := 1) (j := 0) (v := .ref q4) (ty := .array .long) C0 V i_She o_She n_She rfl rfl rfl rfl rfl hO0 (by decide) w_52 rfl rfl rfl (Nat.le_of_ble_eq_true rfl) d_11_1_19 (fun H locs w8 hu9 hO0 V => ?_)
  replace hO0 : w8[kO0]? = (some (qO0, .inr (1, [.ref q4, .int 11008, .int 0])) : Option (Nat × va_E)) := hO0
  replace hN : w8.length = N + 1 := (q_len1 hu9 hO0 ho10).trans hN
  replace hF := q_us hF hu9 (.head _)
  replace hn0 := (hu9 _ (Ne.symm (q_p1 lt_O0))).trans (hn0)
  exact q_retv C0 V (⟨q4, hF, hO0, hn0, hN⟩) d_11_1_22
set_option maxRecDepth 100000 in
set_option maxHeartbeats 4000000 in
/-- new Sheet(4104) -/
theorem c_She_init_3 (l : Launch) (D : va_G) (g : Nat → ClassId) (ws : va_W) (kO0 qO0 : Nat) (N : Nat) (hN : ws.length = N) (hO0 : ws[kO0]? = (some (qO0, .inr (1, [.null, .int 0, .int 0])) : Option (Nat × va_E))) : q_mV l y_She_init prog_11_method_1_code 2 2 1 513 D g [.ref qO0, .int 4104] ws (fun u => ∃ (q4 : Nat), q_un ws u [kO0, N] ∧ u[kO0]? = (some (qO0, .inr (1, [.ref q4, .int 4104, .int 0])) : Option (Nat × va_E)) ∧ u[N]? = (some (q4, .inl (g 1, 513, .inr (.inl (fun _ => 0)))) : Option (Nat × va_E)) ∧ u.length = N + 1) := by
  intro sz
  refine q_into (by decide) (Nat.le_of_ble_eq_true rfl) ?_
  intro p e s m below meth c ls hsz C0 V hl
  have hx := C0.1
  have hb := C0.2.1
  have hl : lv_has ls 2 [(0, .ref qO0), (1, .int 4104)] := hl
  have lt_O0 := q_ltN hN hO0
  have hF : q_un ws ws [kO0, N] := q_u0
  refine lv_aload_n hx hb d_11_1_0 rfl (lv_at hl 0 rfl) ?_
  refine q_obj C0 hl.1 rfl w_51 w_44 w_45 ⟨by decide, by decide⟩ d_11_1_1 ?_
  refine lv_aload_n hx hb d_11_1_4 rfl (lv_at hl 0 rfl) ?_
  refine lv_iload_n hx hb d_11_1_5 rfl (lv_at hl 1 rfl) ?_
  have ho3 := hO0
  refine q_putF (ci := 1) (j := 1) (v := .int 4104) (ty := .int) C0 V i_She o_She n_She rfl rfl rfl rfl rfl hO0 (by decide) w_53 rfl rfl rfl (Nat.le_of_ble_eq_true rfl) d_11_1_6 (fun H locs w1 hu2 hO0 V => ?_)
  replace hO0 : w1[kO0]? = (some (qO0, .inr (1, [.null, .int 4104, .int 0])) : Option (Nat × va_E)) := hO0
  replace hN : w1.length = N := (q_len1 hu2 hO0 ho3).trans hN
  replace hF := q_us hF hu2 (.head _)
  refine lv_aload_n hx hb d_11_1_9 rfl (lv_at hl 0 rfl) ?_
  refine lv_iload_n hx hb d_11_1_10 rfl (lv_at hl 1 rfl) ?_
  refine lv_bipush (v := 7) hx hb d_11_1_11 (by decide) ?_
  refine lv_iadd hx hb d_11_1_13 ?_
  refine q_ti (v := 4111) (by decide) ?_
  refine lv_bipush (v := 8) hx hb d_11_1_14 (by decide) ?_
  refine lv_idiv hx hb d_11_1_16 (by decide) ?_
  refine q_ti (v := 513) (by decide) ?_
  refine q_newL (N' := 513) C0 V hN w_67 (by decide) (by decide) (by decide) (Nat.le_of_ble_eq_true rfl) (Nat.le_of_ble_eq_true rfl) d_11_1_17 (fun q4 H w5 hu6 hn7 hN V => ?_)
  have hn0 : w5[N]? = (some (q4, .inl (g 1, 513, .inr (.inl (fun _ => 0)))) : Option (Nat × va_E)) := hn7
  replace hF := q_us hF hu6 (.tail _ (.head _))
  replace hN : w5.length = N + 1 := hN
  replace hO0 := (hu6 _ (q_p1 lt_O0)).trans (hO0)
  have ho10 := hO0
  refine q_putF (ci := 1) (j := 0) (v := .ref q4) (ty := .array .long) C0 V i_She o_She n_She rfl rfl rfl rfl rfl hO0 (by decide) w_52 rfl rfl rfl (Nat.le_of_ble_eq_true rfl) d_11_1_19 (fun H locs w8 hu9 hO0 V => ?_)
  replace hO0 : w8[kO0]? = (some (qO0, .inr (1, [.ref q4, .int 4104, .int 0])) : Option (Nat × va_E)) := hO0
  replace hN : w8.length = N + 1 := (q_len1 hu9 hO0 ho10).trans hN
  replace hF := q_us hF hu9 (.head _)
  replace hn0 := (hu9 _ (Ne.symm (q_p1 lt_O0))).trans (hn0)
  exact q_retv C0 V (⟨q4, hF, hO0, hn0, hN⟩) d_11_1_22
set_option maxRecDepth 100000 in
set_option maxHeartbeats 4000000 in
/-- new Sheet(64) -/
theorem c_She_init_4 (l : Launch) (D : va_G) (g : Nat → ClassId) (ws : va_W) (kO0 qO0 : Nat) (N : Nat) (hN : ws.length = N) (hO0 : ws[kO0]? = (some (qO0, .inr (1, [.null, .int 0, .int 0])) : Option (Nat × va_E))) : q_mV l y_She_init prog_11_method_1_code 2 2 1 8 D g [.ref qO0, .int 64] ws (fun u => ∃ (q4 : Nat), q_un ws u [kO0, N] ∧ u[kO0]? = (some (qO0, .inr (1, [.ref q4, .int 64, .int 0])) : Option (Nat × va_E)) ∧ u[N]? = (some (q4, .inl (g 1, 8, .inr (.inl (fun _ => 0)))) : Option (Nat × va_E)) ∧ u.length = N + 1) := by
  intro sz
  refine q_into (by decide) (Nat.le_of_ble_eq_true rfl) ?_
  intro p e s m below meth c ls hsz C0 V hl
  have hx := C0.1
  have hb := C0.2.1
  have hl : lv_has ls 2 [(0, .ref qO0), (1, .int 64)] := hl
  have lt_O0 := q_ltN hN hO0
  have hF : q_un ws ws [kO0, N] := q_u0
  refine lv_aload_n hx hb d_11_1_0 rfl (lv_at hl 0 rfl) ?_
  refine q_obj C0 hl.1 rfl w_51 w_44 w_45 ⟨by decide, by decide⟩ d_11_1_1 ?_
  refine lv_aload_n hx hb d_11_1_4 rfl (lv_at hl 0 rfl) ?_
  refine lv_iload_n hx hb d_11_1_5 rfl (lv_at hl 1 rfl) ?_
  have ho3 := hO0
  refine q_putF (ci := 1) (j := 1) (v := .int 64) (ty := .int) C0 V i_She o_She n_She rfl rfl rfl rfl rfl hO0 (by decide) w_53 rfl rfl rfl (Nat.le_of_ble_eq_true rfl) d_11_1_6 (fun H locs w1 hu2 hO0 V => ?_)
  replace hO0 : w1[kO0]? = (some (qO0, .inr (1, [.null, .int 64, .int 0])) : Option (Nat × va_E)) := hO0
  replace hN : w1.length = N := (q_len1 hu2 hO0 ho3).trans hN
  replace hF := q_us hF hu2 (.head _)
  refine lv_aload_n hx hb d_11_1_9 rfl (lv_at hl 0 rfl) ?_
  refine lv_iload_n hx hb d_11_1_10 rfl (lv_at hl 1 rfl) ?_
  refine lv_bipush (v := 7) hx hb d_11_1_11 (by decide) ?_
  refine lv_iadd hx hb d_11_1_13 ?_
  refine q_ti (v := 71) (by decide) ?_
  refine lv_bipush (v := 8) hx hb d_11_1_14 (by decide) ?_
  refine lv_idiv hx hb d_11_1_16 (by decide) ?_
  refine q_ti (v := 8) (by decide) ?_
  refine q_newL (N' := 8) C0 V hN w_67 (by decide) (by decide) (by decide) (Nat.le_of_ble_eq_true rfl) (Nat.le_of_ble_eq_true rfl) d_11_1_17 (fun q4 H w5 hu6 hn7 hN V => ?_)
  have hn0 : w5[N]? = (some (q4, .inl (g 1, 8, .inr (.inl (fun _ => 0)))) : Option (Nat × va_E)) := hn7
  replace hF := q_us hF hu6 (.tail _ (.head _))
  replace hN : w5.length = N + 1 := hN
  replace hO0 := (hu6 _ (q_p1 lt_O0)).trans (hO0)
  have ho10 := hO0
  refine q_putF (ci := 1) (j := 0) (v := .ref q4) (ty := .array .long) C0 V i_She o_She n_She rfl rfl rfl rfl rfl hO0 (by decide) w_52 rfl rfl rfl (Nat.le_of_ble_eq_true rfl) d_11_1_19 (fun H locs w8 hu9 hO0 V => ?_)
  replace hO0 : w8[kO0]? = (some (qO0, .inr (1, [.ref q4, .int 64, .int 0])) : Option (Nat × va_E)) := hO0
  replace hN : w8.length = N + 1 := (q_len1 hu9 hO0 ho10).trans hN
  replace hF := q_us hF hu9 (.head _)
  replace hn0 := (hu9 _ (Ne.symm (q_p1 lt_O0))).trans (hn0)
  exact q_retv C0 V (⟨q4, hF, hO0, hn0, hN⟩) d_11_1_22
theorem d_3_1_0 : decode prog_3_method_1_code 0 = .ok (.aload_n 0, 1) := by decide +kernel
theorem d_3_1_1 : decode prog_3_method_1_code 1 = .ok (.invokespecial 1, 3) := by decide +kernel
set_option maxRecDepth 100000 in
theorem w_167 : (Cond.methodLink "NumberHouse$Dec" (1 : Nat) ({ cls := "java/lang/Object", name := "<init>", desc := "()V" } : MethodName)) ∈ q_tbl := q_of1 167 rfl (by decide +kernel)
theorem d_3_1_4 : decode prog_3_method_1_code 4 = .ok (.aload_n 0, 1) := by decide +kernel
theorem d_3_1_5 : decode prog_3_method_1_code 5 = .ok (.iconst 1, 1) := by decide +kernel
theorem d_3_1_6 : decode prog_3_method_1_code 6 = .ok (.putfield 7, 3) := by decide +kernel
set_option maxRecDepth 100000 in
theorem w_179 : (Cond.fieldLink "NumberHouse$Dec" (7 : Nat) "NumberHouse$Dec" "figureCount" "I") ∈ q_tbl := q_of1 179 rfl (by decide +kernel)
theorem d_3_1_9 : decode prog_3_method_1_code 9 = .ok (.aload_n 0, 1) := by decide +kernel
theorem d_3_1_10 : decode prog_3_method_1_code 10 = .ok (.new 13, 3) := by decide +kernel
set_option maxRecDepth 100000 in
theorem w_168 : (Cond.classLink "NumberHouse$Dec" (13 : Nat) "NumberHouse$Big") ∈ q_tbl := q_of1 168 rfl (by decide +kernel)
set_option maxRecDepth 100000 in
theorem w_79 : (Cond.instantiable "NumberHouse$Big" (3 : Nat)) ∈ q_tbl := q_of1 79 rfl (by decide +kernel)
theorem d_3_1_13 : decode prog_3_method_1_code 13 = .ok (.dup, 1) := by decide +kernel
theorem d_3_1_14 : decode prog_3_method_1_code 14 = .ok (.iload_n 1, 1) := by decide +kernel
theorem d_3_1_15 : decode prog_3_method_1_code 15 = .ok (.invokespecial 15, 3) := by decide +kernel
set_option maxRecDepth 100000 in
theorem w_82 : (Cond.code ({ cls := "NumberHouse$Big", name := "<init>", desc := "(I)V" } : MethodName) prog_2_method_1_code (2 : Nat) (none : Option ClassFile.FieldType)) ∈ q_tbl := q_of1 82 rfl (by decide +kernel)
set_option maxRecDepth 100000 in
theorem w_169 : (Cond.methodLink "NumberHouse$Dec" (15 : Nat) ({ cls := "NumberHouse$Big", name := "<init>", desc := "(I)V" } : MethodName)) ∈ q_tbl := q_of1 169 rfl (by decide +kernel)
set_option maxRecDepth 100000 in
theorem w_81 : (Cond.instanceMethod ({ cls := "NumberHouse$Big", name := "<init>", desc := "(I)V" } : MethodName)) ∈ q_tbl := q_of1 81 rfl (by decide +kernel)
theorem LI_Dec_15 : q_LI "NumberHouse$Dec" 15 y_Big_init prog_2_method_1_code 2 1 := ⟨w_82, w_4, w_169, w_81, rfl, ⟨by decide, by decide, by decide +kernel⟩⟩
theorem d_3_1_18 : decode prog_3_method_1_code 18 = .ok (.putfield 18, 3) := by decide +kernel
set_option maxRecDepth 100000 in
theorem w_170 : (Cond.fieldLink "NumberHouse$Dec" (18 : Nat) "NumberHouse$Dec" "number" "LNumberHouse$Big;") ∈ q_tbl := q_of1 170 rfl (by decide +kernel)
theorem d_3_1_21 : decode prog_3_method_1_code 21 = .ok (.return_, 1) := by decide +kernel
def y_Dec_init : MethodName := ⟨"NumberHouse$Dec", "<init>", "(I)V"⟩
set_option maxRecDepth 100000 in
set_option maxHeartbeats 4000000 in
/-- new Dec(108) -/
theorem c_Dec_init (l : Launch) (D : va_G) (g : Nat → ClassId) (ws : va_W) (kO0 qO0 : Nat) (N : Nat) (hN : ws.length = N) (hO0 : ws[kO0]? = (some (qO0, .inr (3, [.null, .int 0, .int 0])) : Option (Nat × va_E))) : q_mV l y_Dec_init prog_3_method_1_code 2 3 2 111 D g [.ref qO0, .int 108] ws (fun u => ∃ (q4 : Nat) (q10 : Nat), q_un ws u [kO0, N, N + 1] ∧ u[kO0]? = (some (qO0, .inr (3, [.ref q4, .int 0, .int 1])) : Option (Nat × va_E)) ∧ u[N]? = (some (q4, .inr (2, [.ref q10, .int 0, .int 0])) : Option (Nat × va_E)) ∧ u[N + 1]? = (some (q10, .inl (g 0, 108, .inl (fun _ => 0))) : Option (Nat × va_E)) ∧ u.length = N + 2) := by
  intro sz
  refine q_into (by decide) (Nat.le_of_ble_eq_true rfl) ?_
  intro p e s m below meth c ls hsz C0 V hl
  have hx := C0.1
  have hb := C0.2.1
  have hl : lv_has ls 2 [(0, .ref qO0), (1, .int 108)] := hl
  have lt_O0 := q_ltN hN hO0
  have hF : q_un ws ws [kO0, N, N + 1] := q_u0
  refine lv_aload_n hx hb d_3_1_0 rfl (lv_at hl 0 rfl) ?_
  refine q_obj C0 hl.1 rfl w_167 w_44 w_45 ⟨by decide, by decide⟩ d_3_1_1 ?_
  refine lv_aload_n hx hb d_3_1_4 rfl (lv_at hl 0 rfl) ?_
  refine lv_iconst (v := 1) hx hb d_3_1_5 (by decide) ?_
  have ho3 := hO0
  refine q_put (ci := 3) (j := 2) (v := .int 1) (ty := .int) C0 V i_Dec o_Dec n_Dec rfl rfl hO0 (by decide) w_179 rfl rfl rfl rfl (Nat.le_of_ble_eq_true rfl) d_3_1_6 (fun H locs w1 hu2 hO0 V => ?_)
  replace hO0 : w1[kO0]? = (some (qO0, .inr (3, [.null, .int 0, .int 1])) : Option (Nat × va_E)) := hO0
  replace hN : w1.length = N := (q_len1 hu2 hO0 ho3).trans hN
  replace hF := q_us hF hu2 (.head _)
  refine lv_aload_n hx hb d_3_1_9 rfl (lv_at hl 0 rfl) ?_
  refine q_new (ci := 2) (fs := [.null, .int 0, .int 0]) C0 V hN i_Big o_Big rfl w_168 w_79 w_4 rfl (fun j hj => by rcases (show j = 0 ∨ j = 1 ∨ j = 2 by omega) with rfl | rfl | rfl <;> rfl) (Nat.le_of_ble_eq_true rfl) (Nat.le_of_ble_eq_true rfl) d_3_1_10 (fun q4 H w5 hu6 hn7 hN V => ?_)
  have hn0 : w5[N]? = (some (q4, .inr (2, [.null, .int 0, .int 0])) : Option (Nat × va_E)) := hn7
  replace hF := q_us hF hu6 (.tail _ (.head _))
  replace hN : w5.length = N + 1 := hN
  refine lv_dup hx hb d_3_1_13 rfl ?_
  refine lv_iload_n hx hb d_3_1_14 rfl (lv_at hl 1 rfl) ?_
  refine q_gov V (q_runI (As := [.int 108]) (rest := [.ref q4, .ref qO0]) (d := 2) (mc := 1) (ms := 108) C0 V rfl LI_Dec_15 (c_Big_init_2 l D g w5 N q4 (N + 1) hN hn0 _) rfl hl.1 rfl (Nat.le_of_ble_eq_true rfl) ⟨by decide, by decide⟩ ⟨Nat.le_of_ble_eq_true rfl, Nat.le_of_ble_eq_true rfl⟩ d_3_1_15) (fun u9 H locs hp8 V => ?_)
  obtain ⟨q10, hg11, hn0, hq12, hN⟩ := hp8
  replace hF := q_uc hF hg11 (q_sc (.tail _ (.head _)) (q_sc (.tail _ (.tail _ (.head _))) (fun _ h => absurd h List.not_mem_nil)))
  have hn1 : u9[N + 1]? = (some (q10, .inl (g 0, 108, .inl (fun _ => 0))) : Option (Nat × va_E)) := hq12
  replace hN : u9.length = N + 2 := hN
  replace hO0 := (hg11 _ (q_nc (q_p1 lt_O0) (q_nc (q_p0 lt_O0) List.not_mem_nil))).trans ((hu6 _ (q_p1 lt_O0)).trans (hO0))
  have ho15 := hO0
  refine q_putF (ci := 3) (j := 0) (v := .ref q4) (ty := .object "NumberHouse$Big") C0 V i_Dec o_Dec n_Dec rfl rfl rfl rfl rfl hO0 (by decide) w_170 rfl rfl rfl (Nat.le_of_ble_eq_true rfl) d_3_1_18 (fun H locs w13 hu14 hO0 V => ?_)
  replace hO0 : w13[kO0]? = (some (qO0, .inr (3, [.ref q4, .int 0, .int 1])) : Option (Nat × va_E)) := hO0
  replace hN : w13.length = N + 2 := (q_len1 hu14 hO0 ho15).trans hN
  replace hF := q_us hF hu14 (.head _)
  replace hn0 := (hu14 _ (Ne.symm (q_p1 lt_O0))).trans (hn0)
  replace hn1 := (hu14 _ (Ne.symm (q_p0 lt_O0))).trans (hn1)
  exact q_retv C0 V (⟨q4, q10, hF, hO0, hn0, hn1, hN⟩) d_3_1_21
set_option maxRecDepth 100000 in
set_option maxHeartbeats 4000000 in
/-- new Dec(3) -/
theorem c_Dec_init_2 (l : Launch) (D : va_G) (g : Nat → ClassId) (ws : va_W) (kO0 qO0 : Nat) (N : Nat) (hN : ws.length = N) (hO0 : ws[kO0]? = (some (qO0, .inr (3, [.null, .int 0, .int 0])) : Option (Nat × va_E))) : q_mV l y_Dec_init prog_3_method_1_code 2 3 2 6 D g [.ref qO0, .int 3] ws (fun u => ∃ (q4 : Nat) (q10 : Nat), q_un ws u [kO0, N, N + 1] ∧ u[kO0]? = (some (qO0, .inr (3, [.ref q4, .int 0, .int 1])) : Option (Nat × va_E)) ∧ u[N]? = (some (q4, .inr (2, [.ref q10, .int 0, .int 0])) : Option (Nat × va_E)) ∧ u[N + 1]? = (some (q10, .inl (g 0, 3, .inl (fun _ => 0))) : Option (Nat × va_E)) ∧ u.length = N + 2) := by
  intro sz
  refine q_into (by decide) (Nat.le_of_ble_eq_true rfl) ?_
  intro p e s m below meth c ls hsz C0 V hl
  have hx := C0.1
  have hb := C0.2.1
  have hl : lv_has ls 2 [(0, .ref qO0), (1, .int 3)] := hl
  have lt_O0 := q_ltN hN hO0
  have hF : q_un ws ws [kO0, N, N + 1] := q_u0
  refine lv_aload_n hx hb d_3_1_0 rfl (lv_at hl 0 rfl) ?_
  refine q_obj C0 hl.1 rfl w_167 w_44 w_45 ⟨by decide, by decide⟩ d_3_1_1 ?_
  refine lv_aload_n hx hb d_3_1_4 rfl (lv_at hl 0 rfl) ?_
  refine lv_iconst (v := 1) hx hb d_3_1_5 (by decide) ?_
  have ho3 := hO0
  refine q_put (ci := 3) (j := 2) (v := .int 1) (ty := .int) C0 V i_Dec o_Dec n_Dec rfl rfl hO0 (by decide) w_179 rfl rfl rfl rfl (Nat.le_of_ble_eq_true rfl) d_3_1_6 (fun H locs w1 hu2 hO0 V => ?_)
  replace hO0 : w1[kO0]? = (some (qO0, .inr (3, [.null, .int 0, .int 1])) : Option (Nat × va_E)) := hO0
  replace hN : w1.length = N := (q_len1 hu2 hO0 ho3).trans hN
  replace hF := q_us hF hu2 (.head _)
  refine lv_aload_n hx hb d_3_1_9 rfl (lv_at hl 0 rfl) ?_
  refine q_new (ci := 2) (fs := [.null, .int 0, .int 0]) C0 V hN i_Big o_Big rfl w_168 w_79 w_4 rfl (fun j hj => by rcases (show j = 0 ∨ j = 1 ∨ j = 2 by omega) with rfl | rfl | rfl <;> rfl) (Nat.le_of_ble_eq_true rfl) (Nat.le_of_ble_eq_true rfl) d_3_1_10 (fun q4 H w5 hu6 hn7 hN V => ?_)
  have hn0 : w5[N]? = (some (q4, .inr (2, [.null, .int 0, .int 0])) : Option (Nat × va_E)) := hn7
  replace hF := q_us hF hu6 (.tail _ (.head _))
  replace hN : w5.length = N + 1 := hN
  refine lv_dup hx hb d_3_1_13 rfl ?_
  refine lv_iload_n hx hb d_3_1_14 rfl (lv_at hl 1 rfl) ?_
  refine q_gov V (q_runI (As := [.int 3]) (rest := [.ref q4, .ref qO0]) (d := 2) (mc := 1) (ms := 3) C0 V rfl LI_Dec_15 (c_Big_init_4 l D g w5 N q4 (N + 1) hN hn0 _) rfl hl.1 rfl (Nat.le_of_ble_eq_true rfl) ⟨by decide, by decide⟩ ⟨Nat.le_of_ble_eq_true rfl, Nat.le_of_ble_eq_true rfl⟩ d_3_1_15) (fun u9 H locs hp8 V => ?_)
  obtain ⟨q10, hg11, hn0, hq12, hN⟩ := hp8
  replace hF := q_uc hF hg11 (q_sc (.tail _ (.head _)) (q_sc (.tail _ (.tail _ (.head _))) (fun _ h => absurd h List.not_mem_nil)))
  have hn1 : u9[N + 1]? = (some (q10, .inl (g 0, 3, .inl (fun _ => 0))) : Option (Nat × va_E)) := hq12
  replace hN : u9.length = N + 2 := hN
  replace hO0 := (hg11 _ (q_nc (q_p1 lt_O0) (q_nc (q_p0 lt_O0) List.not_mem_nil))).trans ((hu6 _ (q_p1 lt_O0)).trans (hO0))
  have ho15 := hO0
  refine q_putF (ci := 3) (j := 0) (v := .ref q4) (ty := .object "NumberHouse$Big") C0 V i_Dec o_Dec n_Dec rfl rfl rfl rfl rfl hO0 (by decide) w_170 rfl rfl rfl (Nat.le_of_ble_eq_true rfl) d_3_1_18 (fun H locs w13 hu14 hO0 V => ?_)
  replace hO0 : w13[kO0]? = (some (qO0, .inr (3, [.ref q4, .int 0, .int 1])) : Option (Nat × va_E)) := hO0
  replace hN : w13.length = N + 2 := (q_len1 hu14 hO0 ho15).trans hN
  replace hF := q_us hF hu14 (.head _)
  replace hn0 := (hu14 _ (Ne.symm (q_p1 lt_O0))).trans (hn0)
  replace hn1 := (hu14 _ (Ne.symm (q_p0 lt_O0))).trans (hn1)
  exact q_retv C0 V (⟨q4, q10, hF, hO0, hn0, hn1, hN⟩) d_3_1_21
theorem d_1_36_0 : decode prog_1_method_36_code 0 = .ok (.iload_n 0, 1) := by decide +kernel
theorem d_1_36_1 : decode prog_1_method_36_code 1 = .ok (.ifCond .ne 14, 3) := by decide +kernel
theorem d_1_36_15 : decode prog_1_method_36_code 15 = .ok (.return_, 1) := by decide +kernel
theorem d_1_36_4 : decode prog_1_method_36_code 4 = .ok (.new 427, 3) := by decide +kernel
theorem d_1_36_7 : decode prog_1_method_36_code 7 = .ok (.dup, 1) := by decide +kernel
theorem d_1_36_8 : decode prog_1_method_36_code 8 = .ok (.ldc_w 429, 3) := by decide +kernel
theorem d_1_36_11 : decode prog_1_method_36_code 11 = .ok (.invokespecial 431, 3) := by decide +kernel
theorem d_1_36_14 : decode prog_1_method_36_code 14 = .ok (.athrow, 1) := by decide +kernel
theorem t_NH_431 : ∀ w ∈ Bundle.ownAtoms "NumberHouse" 431 "java/lang/IllegalArgumentException" ["java/lang/RuntimeException", "java/lang/Exception"], w ∈ q_tbl ∨ (w ∈ q_odd ∧ w.onTables = true) ∨ w ∈ q_four := by decide +kernel
set_option maxRecDepth 100000 in
theorem w_494 : (Cond.classLink "NumberHouse" (427 : Nat) "java/lang/IllegalArgumentException") ∈ q_tbl := q_of3 14 rfl (by decide +kernel)
set_option maxRecDepth 100000 in
theorem w_23 : (Cond.initialized "java/lang/IllegalArgumentException") ∈ q_tbl := q_of1 23 rfl (by decide +kernel)
set_option maxRecDepth 100000 in
theorem wo_535 : (Cond.stringRef "NumberHouse" (429 : Nat) "there is no such thing") ∈ q_odd := q_oo3 55 rfl (by decide +kernel)
set_option maxRecDepth 100000 in
theorem w_495 : (Cond.instantiable "java/lang/IllegalArgumentException" (6 : Nat)) ∈ q_tbl := q_of3 15 rfl (by decide +kernel)
def y_NH_need : MethodName := ⟨"NumberHouse", "need", "(Z)V"⟩
set_option maxRecDepth 100000 in
set_option maxHeartbeats 4000000 in
/-- need -/
theorem c_NH_need (l : Launch) (D : va_G) (g : Nat → ClassId) (ws : va_W) (hlt : l.stackTraces = false) (x1 : Int32) : q_xV l y_NH_need prog_1_method_36_code 1 7 1 6 D g [.int x1] ws (fun u => ¬ x1 = 0 ∧ ws = u) (fun E u => x1 = 0 ∧ "java/lang/IllegalArgumentException" = E ∧ ws = u) := by
  intro sz
  refine q_intoX (by decide) (Nat.le_of_ble_eq_true rfl) ?_
  intro p e s m below meth c ls hsz C0 V hno hl
  have hx := C0.1
  have hb := C0.2.1
  have hl : lv_has ls 1 [(0, .int x1)] := hl
  refine lv_iload_n hx hb d_1_36_0 rfl (lv_at hl 0 rfl) ?_
  refine lv_if_ne (tgt := 15) hx hb d_1_36_1 (by decide) (fun c1 => ?_) (fun c1 => ?_)
  ·
    refine W.widen (k := 1) (n := 6) (Nat.le_of_ble_eq_true rfl) (Nat.le_of_ble_eq_true rfl) ?_
    exact q_retX (q_retv C0 V (⟨c1, rfl⟩) d_1_36_15)
  ·
    exact q_throwW (names := ["java/lang/RuntimeException", "java/lang/Exception"]) C0 V hlt hno rfl hl.1 (by decide) (by decide) w_494 w_23 wo_535 w_495 t_NH_431 d_1_36_4 d_1_36_7 d_1_36_8 d_1_36_11 d_1_36_14 (by decide) (by decide) (by decide) (by decide) (⟨c1, rfl, rfl⟩)
theorem d_1_37_0 : decode prog_1_method_37_code 0 = .ok (.iload_n 0, 1) := by decide +kernel
theorem d_1_37_1 : decode prog_1_method_37_code 1 = .ok (.ifCond .ne 14, 3) := by decide +kernel
theorem d_1_37_15 : decode prog_1_method_37_code 15 = .ok (.return_, 1) := by decide +kernel
theorem d_1_37_4 : decode prog_1_method_37_code 4 = .ok (.new 432, 3) := by decide +kernel
theorem d_1_37_7 : decode prog_1_method_37_code 7 = .ok (.dup, 1) := by decide +kernel
theorem d_1_37_8 : decode prog_1_method_37_code 8 = .ok (.ldc_w 434, 3) := by decide +kernel
theorem d_1_37_11 : decode prog_1_method_37_code 11 = .ok (.invokespecial 436, 3) := by decide +kernel
theorem d_1_37_14 : decode prog_1_method_37_code 14 = .ok (.athrow, 1) := by decide +kernel
theorem t_NH_436 : ∀ w ∈ Bundle.ownAtoms "NumberHouse" 436 "java/lang/ArithmeticException" ["java/lang/RuntimeException", "java/lang/Exception"], w ∈ q_tbl ∨ (w ∈ q_odd ∧ w.onTables = true) ∨ w ∈ q_four := by decide +kernel
set_option maxRecDepth 100000 in
theorem w_1067 : (Cond.classLink "NumberHouse" (432 : Nat) "java/lang/ArithmeticException") ∈ q_tbl := q_of5 107 rfl (by decide +kernel)
set_option maxRecDepth 100000 in
theorem w_34 : (Cond.initialized "java/lang/ArithmeticException") ∈ q_tbl := q_of1 34 rfl (by decide +kernel)
set_option maxRecDepth 100000 in
theorem wo_1076 : (Cond.stringRef "NumberHouse" (434 : Nat) "no register can have that") ∈ q_odd := q_oo5 116 rfl (by decide +kernel)
set_option maxRecDepth 100000 in
theorem w_1068 : (Cond.instantiable "java/lang/ArithmeticException" (6 : Nat)) ∈ q_tbl := q_of5 108 rfl (by decide +kernel)
def y_NH_canHave : MethodName := ⟨"NumberHouse", "canHave", "(Z)V"⟩
set_option maxRecDepth 100000 in
set_option maxHeartbeats 4000000 in
/-- canHave -/
theorem c_NH_canHave (l : Launch) (D : va_G) (g : Nat → ClassId) (ws : va_W) (hlt : l.stackTraces = false) (x1 : Int32) : q_xV l y_NH_canHave prog_1_method_37_code 1 7 1 6 D g [.int x1] ws (fun u => ¬ x1 = 0 ∧ ws = u) (fun E u => x1 = 0 ∧ "java/lang/ArithmeticException" = E ∧ ws = u) := by
  intro sz
  refine q_intoX (by decide) (Nat.le_of_ble_eq_true rfl) ?_
  intro p e s m below meth c ls hsz C0 V hno hl
  have hx := C0.1
  have hb := C0.2.1
  have hl : lv_has ls 1 [(0, .int x1)] := hl
  refine lv_iload_n hx hb d_1_37_0 rfl (lv_at hl 0 rfl) ?_
  refine lv_if_ne (tgt := 15) hx hb d_1_37_1 (by decide) (fun c1 => ?_) (fun c1 => ?_)
  ·
    refine W.widen (k := 1) (n := 6) (Nat.le_of_ble_eq_true rfl) (Nat.le_of_ble_eq_true rfl) ?_
    exact q_retX (q_retv C0 V (⟨c1, rfl⟩) d_1_37_15)
  ·
    exact q_throwW (names := ["java/lang/RuntimeException", "java/lang/Exception"]) C0 V hlt hno rfl hl.1 (by decide) (by decide) w_1067 w_34 wo_1076 w_1068 t_NH_436 d_1_37_4 d_1_37_7 d_1_37_8 d_1_37_11 d_1_37_14 (by decide) (by decide) (by decide) (by decide) (⟨c1, rfl, rfl⟩)

/-! the constructors of the class -/
theorem d_8_1_0 : decode prog_8_method_1_code 0 = .ok (.aload_n 0, 1) := by decide +kernel
theorem d_8_1_1 : decode prog_8_method_1_code 1 = .ok (.invokespecial 3, 3) := by decide +kernel
set_option maxRecDepth 100000 in
theorem w_77 : (Cond.methodLink "NumberHouse$Mill" (3 : Nat) ({ cls := "java/lang/Object", name := "<init>", desc := "()V" } : MethodName)) ∈ q_tbl := q_of1 77 rfl (by decide +kernel)
theorem d_8_1_4 : decode prog_8_method_1_code 4 = .ok (.aload_n 0, 1) := by decide +kernel
theorem d_8_1_5 : decode prog_8_method_1_code 5 = .ok (.new 9, 3) := by decide +kernel
set_option maxRecDepth 100000 in
theorem w_78 : (Cond.classLink "NumberHouse$Mill" (9 : Nat) "NumberHouse$Big") ∈ q_tbl := q_of1 78 rfl (by decide +kernel)
theorem d_8_1_8 : decode prog_8_method_1_code 8 = .ok (.dup, 1) := by decide +kernel
theorem d_8_1_9 : decode prog_8_method_1_code 9 = .ok (.sipush 220, 3) := by decide +kernel
theorem d_8_1_12 : decode prog_8_method_1_code 12 = .ok (.invokespecial 13, 3) := by decide +kernel
set_option maxRecDepth 100000 in
theorem w_80 : (Cond.methodLink "NumberHouse$Mill" (13 : Nat) ({ cls := "NumberHouse$Big", name := "<init>", desc := "(I)V" } : MethodName)) ∈ q_tbl := q_of1 80 rfl (by decide +kernel)
theorem LI_Mil_13 : q_LI "NumberHouse$Mill" 13 y_Big_init prog_2_method_1_code 2 1 := ⟨w_82, w_4, w_80, w_81, rfl, ⟨by decide, by decide, by decide +kernel⟩⟩
theorem d_8_1_15 : decode prog_8_method_1_code 15 = .ok (.putfield 16, 3) := by decide +kernel
set_option maxRecDepth 100000 in
theorem w_108 : (Cond.fieldLink "NumberHouse$Mill" (16 : Nat) "NumberHouse$Mill" "number" "LNumberHouse$Big;") ∈ q_tbl := q_of1 108 rfl (by decide +kernel)
theorem d_8_1_18 : decode prog_8_method_1_code 18 = .ok (.aload_n 0, 1) := by decide +kernel
theorem d_8_1_19 : decode prog_8_method_1_code 19 = .ok (.new 9, 3) := by decide +kernel
theorem d_8_1_22 : decode prog_8_method_1_code 22 = .ok (.dup, 1) := by decide +kernel
theorem d_8_1_23 : decode prog_8_method_1_code 23 = .ok (.sipush 220, 3) := by decide +kernel
theorem d_8_1_26 : decode prog_8_method_1_code 26 = .ok (.invokespecial 13, 3) := by decide +kernel
theorem d_8_1_29 : decode prog_8_method_1_code 29 = .ok (.putfield 20, 3) := by decide +kernel
set_option maxRecDepth 100000 in
theorem w_114 : (Cond.fieldLink "NumberHouse$Mill" (20 : Nat) "NumberHouse$Mill" "quotient" "LNumberHouse$Big;") ∈ q_tbl := q_of1 114 rfl (by decide +kernel)
theorem d_8_1_32 : decode prog_8_method_1_code 32 = .ok (.aload_n 0, 1) := by decide +kernel
theorem d_8_1_33 : decode prog_8_method_1_code 33 = .ok (.new 9, 3) := by decide +kernel
theorem d_8_1_36 : decode prog_8_method_1_code 36 = .ok (.dup, 1) := by decide +kernel
theorem d_8_1_37 : decode prog_8_method_1_code 37 = .ok (.sipush 220, 3) := by decide +kernel
theorem d_8_1_40 : decode prog_8_method_1_code 40 = .ok (.invokespecial 13, 3) := by decide +kernel
theorem d_8_1_43 : decode prog_8_method_1_code 43 = .ok (.putfield 23, 3) := by decide +kernel
set_option maxRecDepth 100000 in
theorem w_117 : (Cond.fieldLink "NumberHouse$Mill" (23 : Nat) "NumberHouse$Mill" "power" "LNumberHouse$Big;") ∈ q_tbl := q_of1 117 rfl (by decide +kernel)
theorem d_8_1_46 : decode prog_8_method_1_code 46 = .ok (.aload_n 0, 1) := by decide +kernel
theorem d_8_1_47 : decode prog_8_method_1_code 47 = .ok (.new 9, 3) := by decide +kernel
theorem d_8_1_50 : decode prog_8_method_1_code 50 = .ok (.dup, 1) := by decide +kernel
theorem d_8_1_51 : decode prog_8_method_1_code 51 = .ok (.sipush 220, 3) := by decide +kernel
theorem d_8_1_54 : decode prog_8_method_1_code 54 = .ok (.invokespecial 13, 3) := by decide +kernel
theorem d_8_1_57 : decode prog_8_method_1_code 57 = .ok (.putfield 26, 3) := by decide +kernel
set_option maxRecDepth 100000 in
theorem w_120 : (Cond.fieldLink "NumberHouse$Mill" (26 : Nat) "NumberHouse$Mill" "root" "LNumberHouse$Big;") ∈ q_tbl := q_of1 120 rfl (by decide +kernel)
theorem d_8_1_60 : decode prog_8_method_1_code 60 = .ok (.aload_n 0, 1) := by decide +kernel
theorem d_8_1_61 : decode prog_8_method_1_code 61 = .ok (.new 9, 3) := by decide +kernel
theorem d_8_1_64 : decode prog_8_method_1_code 64 = .ok (.dup, 1) := by decide +kernel
theorem d_8_1_65 : decode prog_8_method_1_code 65 = .ok (.sipush 220, 3) := by decide +kernel
theorem d_8_1_68 : decode prog_8_method_1_code 68 = .ok (.invokespecial 13, 3) := by decide +kernel
theorem d_8_1_71 : decode prog_8_method_1_code 71 = .ok (.putfield 29, 3) := by decide +kernel
set_option maxRecDepth 100000 in
theorem w_123 : (Cond.fieldLink "NumberHouse$Mill" (29 : Nat) "NumberHouse$Mill" "work" "LNumberHouse$Big;") ∈ q_tbl := q_of1 123 rfl (by decide +kernel)
theorem d_8_1_74 : decode prog_8_method_1_code 74 = .ok (.aload_n 0, 1) := by decide +kernel
theorem d_8_1_75 : decode prog_8_method_1_code 75 = .ok (.new 9, 3) := by decide +kernel
theorem d_8_1_78 : decode prog_8_method_1_code 78 = .ok (.dup, 1) := by decide +kernel
theorem d_8_1_79 : decode prog_8_method_1_code 79 = .ok (.sipush 220, 3) := by decide +kernel
theorem d_8_1_82 : decode prog_8_method_1_code 82 = .ok (.invokespecial 13, 3) := by decide +kernel
theorem d_8_1_85 : decode prog_8_method_1_code 85 = .ok (.putfield 32, 3) := by decide +kernel
set_option maxRecDepth 100000 in
theorem w_124 : (Cond.fieldLink "NumberHouse$Mill" (32 : Nat) "NumberHouse$Mill" "spare" "LNumberHouse$Big;") ∈ q_tbl := q_of1 124 rfl (by decide +kernel)
theorem d_8_1_88 : decode prog_8_method_1_code 88 = .ok (.aload_n 0, 1) := by decide +kernel
theorem d_8_1_89 : decode prog_8_method_1_code 89 = .ok (.new 9, 3) := by decide +kernel
theorem d_8_1_92 : decode prog_8_method_1_code 92 = .ok (.dup, 1) := by decide +kernel
theorem d_8_1_93 : decode prog_8_method_1_code 93 = .ok (.sipush 220, 3) := by decide +kernel
theorem d_8_1_96 : decode prog_8_method_1_code 96 = .ok (.invokespecial 13, 3) := by decide +kernel
theorem d_8_1_99 : decode prog_8_method_1_code 99 = .ok (.putfield 35, 3) := by decide +kernel
set_option maxRecDepth 100000 in
theorem w_125 : (Cond.fieldLink "NumberHouse$Mill" (35 : Nat) "NumberHouse$Mill" "one" "LNumberHouse$Big;") ∈ q_tbl := q_of1 125 rfl (by decide +kernel)
theorem d_8_1_102 : decode prog_8_method_1_code 102 = .ok (.aload_n 0, 1) := by decide +kernel
theorem d_8_1_103 : decode prog_8_method_1_code 103 = .ok (.new 9, 3) := by decide +kernel
theorem d_8_1_106 : decode prog_8_method_1_code 106 = .ok (.dup, 1) := by decide +kernel
theorem d_8_1_107 : decode prog_8_method_1_code 107 = .ok (.sipush 220, 3) := by decide +kernel
theorem d_8_1_110 : decode prog_8_method_1_code 110 = .ok (.invokespecial 13, 3) := by decide +kernel
theorem d_8_1_113 : decode prog_8_method_1_code 113 = .ok (.putfield 38, 3) := by decide +kernel
set_option maxRecDepth 100000 in
theorem w_128 : (Cond.fieldLink "NumberHouse$Mill" (38 : Nat) "NumberHouse$Mill" "two" "LNumberHouse$Big;") ∈ q_tbl := q_of1 128 rfl (by decide +kernel)
theorem d_8_1_116 : decode prog_8_method_1_code 116 = .ok (.aload_n 0, 1) := by decide +kernel
theorem d_8_1_117 : decode prog_8_method_1_code 117 = .ok (.new 9, 3) := by decide +kernel
theorem d_8_1_120 : decode prog_8_method_1_code 120 = .ok (.dup, 1) := by decide +kernel
theorem d_8_1_121 : decode prog_8_method_1_code 121 = .ok (.sipush 220, 3) := by decide +kernel
theorem d_8_1_124 : decode prog_8_method_1_code 124 = .ok (.invokespecial 13, 3) := by decide +kernel
theorem d_8_1_127 : decode prog_8_method_1_code 127 = .ok (.putfield 41, 3) := by decide +kernel
set_option maxRecDepth 100000 in
theorem w_131 : (Cond.fieldLink "NumberHouse$Mill" (41 : Nat) "NumberHouse$Mill" "three" "LNumberHouse$Big;") ∈ q_tbl := q_of1 131 rfl (by decide +kernel)
theorem d_8_1_130 : decode prog_8_method_1_code 130 = .ok (.aload_n 0, 1) := by decide +kernel
theorem d_8_1_131 : decode prog_8_method_1_code 131 = .ok (.new 9, 3) := by decide +kernel
theorem d_8_1_134 : decode prog_8_method_1_code 134 = .ok (.dup, 1) := by decide +kernel
theorem d_8_1_135 : decode prog_8_method_1_code 135 = .ok (.sipush 220, 3) := by decide +kernel
theorem d_8_1_138 : decode prog_8_method_1_code 138 = .ok (.invokespecial 13, 3) := by decide +kernel
theorem d_8_1_141 : decode prog_8_method_1_code 141 = .ok (.putfield 44, 3) := by decide +kernel
set_option maxRecDepth 100000 in
theorem w_133 : (Cond.fieldLink "NumberHouse$Mill" (44 : Nat) "NumberHouse$Mill" "four" "LNumberHouse$Big;") ∈ q_tbl := q_of1 133 rfl (by decide +kernel)
theorem d_8_1_144 : decode prog_8_method_1_code 144 = .ok (.return_, 1) := by decide +kernel
def y_Mil_init : MethodName := ⟨"NumberHouse$Mill", "<init>", "()V"⟩
set_option maxRecDepth 100000 in
set_option maxHeartbeats 4000000 in
theorem c_Mil_init (l : Launch) (D : va_G) (g : Nat → ClassId) (ws : va_W) ( qO0 : Nat) (hN : ws.length = 10) (hO0 : ws[9]? = (some (qO0, .inr (4, [.null, .null, .null, .null, .null, .null, .null, .null, .null, .null])) : Option (Nat × va_E))) : q_mV l y_Mil_init prog_8_method_1_code 1 3 20 2230 D g [.ref qO0] ws (fun u => ∃ (q1 : Nat) (q7 : Nat) (q13 : Nat) (q19 : Nat) (q25 : Nat) (q31 : Nat) (q37 : Nat) (q43 : Nat) (q49 : Nat) (q55 : Nat) (q61 : Nat) (q67 : Nat) (q73 : Nat) (q79 : Nat) (q85 : Nat) (q91 : Nat) (q97 : Nat) (q103 : Nat) (q109 : Nat) (q115 : Nat), q_un ws u [9, 10, 11, 12, 13, 14, 15, 16, 17, 18, 19, 20, 21, 22, 23, 24, 25, 26, 27, 28, 29] ∧ u[9]? = (some (qO0, .inr (4, [.ref q1, .ref q13, .ref q25, .ref q37, .ref q49, .ref q61, .ref q73, .ref q85, .ref q97, .ref q109])) : Option (Nat × va_E)) ∧ u[10]? = (some (q1, .inr (2, [.ref q7, .int 0, .int 0])) : Option (Nat × va_E)) ∧ u[11]? = (some (q7, .inl (g 0, 220, .inl (fun _ => 0))) : Option (Nat × va_E)) ∧ u[12]? = (some (q13, .inr (2, [.ref q19, .int 0, .int 0])) : Option (Nat × va_E)) ∧ u[13]? = (some (q19, .inl (g 0, 220, .inl (fun _ => 0))) : Option (Nat × va_E)) ∧ u[14]? = (some (q25, .inr (2, [.ref q31, .int 0, .int 0])) : Option (Nat × va_E)) ∧ u[15]? = (some (q31, .inl (g 0, 220, .inl (fun _ => 0))) : Option (Nat × va_E)) ∧ u[16]? = (some (q37, .inr (2, [.ref q43, .int 0, .int 0])) : Option (Nat × va_E)) ∧ u[17]? = (some (q43, .inl (g 0, 220, .inl (fun _ => 0))) : Option (Nat × va_E)) ∧ u[18]? = (some (q49, .inr (2, [.ref q55, .int 0, .int 0])) : Option (Nat × va_E)) ∧ u[19]? = (some (q55, .inl (g 0, 220, .inl (fun _ => 0))) : Option (Nat × va_E)) ∧ u[20]? = (some (q61, .inr (2, [.ref q67, .int 0, .int 0])) : Option (Nat × va_E)) ∧ u[21]? = (some (q67, .inl (g 0, 220, .inl (fun _ => 0))) : Option (Nat × va_E)) ∧ u[22]? = (some (q73, .inr (2, [.ref q79, .int 0, .int 0])) : Option (Nat × va_E)) ∧ u[23]? = (some (q79, .inl (g 0, 220, .inl (fun _ => 0))) : Option (Nat × va_E)) ∧ u[24]? = (some (q85, .inr (2, [.ref q91, .int 0, .int 0])) : Option (Nat × va_E)) ∧ u[25]? = (some (q91, .inl (g 0, 220, .inl (fun _ => 0))) : Option (Nat × va_E)) ∧ u[26]? = (some (q97, .inr (2, [.ref q103, .int 0, .int 0])) : Option (Nat × va_E)) ∧ u[27]? = (some (q103, .inl (g 0, 220, .inl (fun _ => 0))) : Option (Nat × va_E)) ∧ u[28]? = (some (q109, .inr (2, [.ref q115, .int 0, .int 0])) : Option (Nat × va_E)) ∧ u[29]? = (some (q115, .inl (g 0, 220, .inl (fun _ => 0))) : Option (Nat × va_E)) ∧ u.length = 30) := by
  intro sz
  refine q_into (by decide) (Nat.le_of_ble_eq_true rfl) ?_
  intro p e s m below meth c ls hsz C0 V hl
  have hx := C0.1
  have hb := C0.2.1
  have hl : lv_has ls 1 [(0, .ref qO0)] := hl
  have hF : q_un ws ws [9, 10, 11, 12, 13, 14, 15, 16, 17, 18, 19, 20, 21, 22, 23, 24, 25, 26, 27, 28, 29] := q_u0
  refine lv_aload_n hx hb d_8_1_0 rfl (lv_at hl 0 rfl) ?_
  refine q_obj C0 hl.1 rfl w_77 w_44 w_45 ⟨by decide, by decide⟩ d_8_1_1 ?_
  refine lv_aload_n hx hb d_8_1_4 rfl (lv_at hl 0 rfl) ?_
  refine q_new (ci := 2) (fs := [.null, .int 0, .int 0]) C0 V hN i_Big o_Big rfl w_78 w_79 w_4 rfl (fun j hj => by rcases (show j = 0 ∨ j = 1 ∨ j = 2 by omega) with rfl | rfl | rfl <;> rfl) (Nat.le_of_ble_eq_true rfl) (Nat.le_of_ble_eq_true rfl) d_8_1_5 (fun q1 H w2 hu3 hn4 hN V => ?_)
  have hn0 : w2[10]? = (some (q1, .inr (2, [.null, .int 0, .int 0])) : Option (Nat × va_E)) := hn4
  replace hF := q_us hF hu3 (.tail _ (.head _))
  replace hN : w2.length = 11 := hN
  refine lv_dup hx hb d_8_1_8 rfl ?_
  refine lv_sipush (v := 220) hx hb d_8_1_9 (by decide) ?_
  refine q_gov V (q_runI (As := [.int 220]) (rest := [.ref q1, .ref qO0]) (d := 2) (mc := 1) (ms := 220) C0 V rfl LI_Mil_13 (c_Big_init_3 l D g w2 10 q1 11 hN hn0 _) rfl hl.1 rfl (Nat.le_of_ble_eq_true rfl) ⟨by decide, by decide⟩ ⟨Nat.le_of_ble_eq_true rfl, Nat.le_of_ble_eq_true rfl⟩ d_8_1_12) (fun u6 H locs hp5 V => ?_)
  obtain ⟨q7, hg8, hn0, hq9, hN⟩ := hp5
  replace hF := q_uc hF hg8 (q_sc (.tail _ (.head _)) (q_sc (.tail _ (.tail _ (.head _))) (fun _ h => absurd h List.not_mem_nil)))
  have hn1 : u6[11]? = (some (q7, .inl (g 0, 220, .inl (fun _ => 0))) : Option (Nat × va_E)) := hq9
  replace hN : u6.length = 12 := hN
  replace hO0 := (hg8 _ (q_nc (q_pd 9 10 rfl) (q_nc (q_pd 9 11 rfl) List.not_mem_nil))).trans ((hu3 _ (q_pd 9 10 rfl)).trans (hO0))
  have ho12 := hO0
  refine q_putF (ci := 4) (j := 0) (v := .ref q1) (ty := .object "NumberHouse$Big") C0 V i_Mil o_Mil n_Mil rfl rfl rfl rfl rfl hO0 (by decide) w_108 rfl rfl rfl (Nat.le_of_ble_eq_true rfl) d_8_1_15 (fun H locs w10 hu11 hO0 V => ?_)
  replace hO0 : w10[9]? = (some (qO0, .inr (4, [.ref q1, .null, .null, .null, .null, .null, .null, .null, .null, .null])) : Option (Nat × va_E)) := hO0
  replace hN : w10.length = 12 := (q_len1 hu11 hO0 ho12).trans hN
  replace hF := q_us hF hu11 (.head _)
  refine lv_aload_n hx hb d_8_1_18 rfl (lv_at hl 0 rfl) ?_
  refine q_new (ci := 2) (fs := [.null, .int 0, .int 0]) C0 V hN i_Big o_Big rfl w_78 w_79 w_4 rfl (fun j hj => by rcases (show j = 0 ∨ j = 1 ∨ j = 2 by omega) with rfl | rfl | rfl <;> rfl) (Nat.le_of_ble_eq_true rfl) (Nat.le_of_ble_eq_true rfl) d_8_1_19 (fun q13 H w14 hu15 hn16 hN V => ?_)
  have hn2 : w14[12]? = (some (q13, .inr (2, [.null, .int 0, .int 0])) : Option (Nat × va_E)) := hn16
  replace hF := q_us hF hu15 (List.mem_of_getElem? (i := 3) rfl)
  replace hN : w14.length = 13 := hN
  refine lv_dup hx hb d_8_1_22 rfl ?_
  refine lv_sipush (v := 220) hx hb d_8_1_23 (by decide) ?_
  refine q_gov V (q_runI (As := [.int 220]) (rest := [.ref q13, .ref qO0]) (d := 2) (mc := 1) (ms := 220) C0 V rfl LI_Mil_13 (c_Big_init_3 l D g w14 12 q13 13 hN hn2 _) rfl hl.1 rfl (Nat.le_of_ble_eq_true rfl) ⟨by decide, by decide⟩ ⟨Nat.le_of_ble_eq_true rfl, Nat.le_of_ble_eq_true rfl⟩ d_8_1_26) (fun u18 H locs hp17 V => ?_)
  obtain ⟨q19, hg20, hn2, hq21, hN⟩ := hp17
  replace hF := q_uc hF hg20 (q_sc (List.mem_of_getElem? (i := 3) rfl) (q_sc (List.mem_of_getElem? (i := 4) rfl) (fun _ h => absurd h List.not_mem_nil)))
  have hn3 : u18[13]? = (some (q19, .inl (g 0, 220, .inl (fun _ => 0))) : Option (Nat × va_E)) := hq21
  replace hN : u18.length = 14 := hN
  replace hO0 := (hg20 _ (q_nc (q_pd 9 12 rfl) (q_nc (q_pd 9 13 rfl) List.not_mem_nil))).trans ((hu15 _ (q_pd 9 12 rfl)).trans (hO0))
  have ho24 := hO0
  refine q_putF (ci := 4) (j := 1) (v := .ref q13) (ty := .object "NumberHouse$Big") C0 V i_Mil o_Mil n_Mil rfl rfl rfl rfl rfl hO0 (by decide) w_114 rfl rfl rfl (Nat.le_of_ble_eq_true rfl) d_8_1_29 (fun H locs w22 hu23 hO0 V => ?_)
  replace hO0 : w22[9]? = (some (qO0, .inr (4, [.ref q1, .ref q13, .null, .null, .null, .null, .null, .null, .null, .null])) : Option (Nat × va_E)) := hO0
  replace hN : w22.length = 14 := (q_len1 hu23 hO0 ho24).trans hN
  replace hF := q_us hF hu23 (.head _)
  refine lv_aload_n hx hb d_8_1_32 rfl (lv_at hl 0 rfl) ?_
  refine q_new (ci := 2) (fs := [.null, .int 0, .int 0]) C0 V hN i_Big o_Big rfl w_78 w_79 w_4 rfl (fun j hj => by rcases (show j = 0 ∨ j = 1 ∨ j = 2 by omega) with rfl | rfl | rfl <;> rfl) (Nat.le_of_ble_eq_true rfl) (Nat.le_of_ble_eq_true rfl) d_8_1_33 (fun q25 H w26 hu27 hn28 hN V => ?_)
  have hn4 : w26[14]? = (some (q25, .inr (2, [.null, .int 0, .int 0])) : Option (Nat × va_E)) := hn28
  replace hF := q_us hF hu27 (List.mem_of_getElem? (i := 5) rfl)
  replace hN : w26.length = 15 := hN
  refine lv_dup hx hb d_8_1_36 rfl ?_
  refine lv_sipush (v := 220) hx hb d_8_1_37 (by decide) ?_
  refine q_gov V (q_runI (As := [.int 220]) (rest := [.ref q25, .ref qO0]) (d := 2) (mc := 1) (ms := 220) C0 V rfl LI_Mil_13 (c_Big_init_3 l D g w26 14 q25 15 hN hn4 _) rfl hl.1 rfl (Nat.le_of_ble_eq_true rfl) ⟨by decide, by decide⟩ ⟨Nat.le_of_ble_eq_true rfl, Nat.le_of_ble_eq_true rfl⟩ d_8_1_40) (fun u30 H locs hp29 V => ?_)
  obtain ⟨q31, hg32, hn4, hq33, hN⟩ := hp29
  replace hF := q_uc hF hg32 (q_sc (List.mem_of_getElem? (i := 5) rfl) (q_sc (List.mem_of_getElem? (i := 6) rfl) (fun _ h => absurd h List.not_mem_nil)))
  have hn5 : u30[15]? = (some (q31, .inl (g 0, 220, .inl (fun _ => 0))) : Option (Nat × va_E)) := hq33
  replace hN : u30.length = 16 := hN
  replace hO0 := (hg32 _ (q_nc (q_pd 9 14 rfl) (q_nc (q_pd 9 15 rfl) List.not_mem_nil))).trans ((hu27 _ (q_pd 9 14 rfl)).trans (hO0))
  have ho36 := hO0
  refine q_putF (ci := 4) (j := 2) (v := .ref q25) (ty := .object "NumberHouse$Big") C0 V i_Mil o_Mil n_Mil rfl rfl rfl rfl rfl hO0 (by decide) w_117 rfl rfl rfl (Nat.le_of_ble_eq_true rfl) d_8_1_43 (fun H locs w34 hu35 hO0 V => ?_)
  replace hO0 : w34[9]? = (some (qO0, .inr (4, [.ref q1, .ref q13, .ref q25, .null, .null, .null, .null, .null, .null, .null])) : Option (Nat × va_E)) := hO0
  replace hN : w34.length = 16 := (q_len1 hu35 hO0 ho36).trans hN
  replace hF := q_us hF hu35 (.head _)
  refine lv_aload_n hx hb d_8_1_46 rfl (lv_at hl 0 rfl) ?_
  refine q_new (ci := 2) (fs := [.null, .int 0, .int 0]) C0 V hN i_Big o_Big rfl w_78 w_79 w_4 rfl (fun j hj => by rcases (show j = 0 ∨ j = 1 ∨ j = 2 by omega) with rfl | rfl | rfl <;> rfl) (Nat.le_of_ble_eq_true rfl) (Nat.le_of_ble_eq_true rfl) d_8_1_47 (fun q37 H w38 hu39 hn40 hN V => ?_)
  have hn6 : w38[16]? = (some (q37, .inr (2, [.null, .int 0, .int 0])) : Option (Nat × va_E)) := hn40
  replace hF := q_us hF hu39 (List.mem_of_getElem? (i := 7) rfl)
  replace hN : w38.length = 17 := hN
  refine lv_dup hx hb d_8_1_50 rfl ?_
  refine lv_sipush (v := 220) hx hb d_8_1_51 (by decide) ?_
  refine q_gov V (q_runI (As := [.int 220]) (rest := [.ref q37, .ref qO0]) (d := 2) (mc := 1) (ms := 220) C0 V rfl LI_Mil_13 (c_Big_init_3 l D g w38 16 q37 17 hN hn6 _) rfl hl.1 rfl (Nat.le_of_ble_eq_true rfl) ⟨by decide, by decide⟩ ⟨Nat.le_of_ble_eq_true rfl, Nat.le_of_ble_eq_true rfl⟩ d_8_1_54) (fun u42 H locs hp41 V => ?_)
  obtain ⟨q43, hg44, hn6, hq45, hN⟩ := hp41
  replace hF := q_uc hF hg44 (q_sc (List.mem_of_getElem? (i := 7) rfl) (q_sc (List.mem_of_getElem? (i := 8) rfl) (fun _ h => absurd h List.not_mem_nil)))
  have hn7 : u42[17]? = (some (q43, .inl (g 0, 220, .inl (fun _ => 0))) : Option (Nat × va_E)) := hq45
  replace hN : u42.length = 18 := hN
  replace hO0 := (hg44 _ (q_nc (q_pd 9 16 rfl) (q_nc (q_pd 9 17 rfl) List.not_mem_nil))).trans ((hu39 _ (q_pd 9 16 rfl)).trans (hO0))
  have ho48 := hO0
  refine q_putF (ci := 4) (j := 3) (v := .ref q37) (ty := .object "NumberHouse$Big") C0 V i_Mil o_Mil n_Mil rfl rfl rfl rfl rfl hO0 (by decide) w_120 rfl rfl rfl (Nat.le_of_ble_eq_true rfl) d_8_1_57 (fun H locs w46 hu47 hO0 V => ?_)
  replace hO0 : w46[9]? = (some (qO0, .inr (4, [.ref q1, .ref q13, .ref q25, .ref q37, .null, .null, .null, .null, .null, .null])) : Option (Nat × va_E)) := hO0
  replace hN : w46.length = 18 := (q_len1 hu47 hO0 ho48).trans hN
  replace hF := q_us hF hu47 (.head _)
  refine lv_aload_n hx hb d_8_1_60 rfl (lv_at hl 0 rfl) ?_
  refine q_new (ci := 2) (fs := [.null, .int 0, .int 0]) C0 V hN i_Big o_Big rfl w_78 w_79 w_4 rfl (fun j hj => by rcases (show j = 0 ∨ j = 1 ∨ j = 2 by omega) with rfl | rfl | rfl <;> rfl) (Nat.le_of_ble_eq_true rfl) (Nat.le_of_ble_eq_true rfl) d_8_1_61 (fun q49 H w50 hu51 hn52 hN V => ?_)
  have hn8 : w50[18]? = (some (q49, .inr (2, [.null, .int 0, .int 0])) : Option (Nat × va_E)) := hn52
  replace hF := q_us hF hu51 (List.mem_of_getElem? (i := 9) rfl)
  replace hN : w50.length = 19 := hN
  refine lv_dup hx hb d_8_1_64 rfl ?_
  refine lv_sipush (v := 220) hx hb d_8_1_65 (by decide) ?_
  refine q_gov V (q_runI (As := [.int 220]) (rest := [.ref q49, .ref qO0]) (d := 2) (mc := 1) (ms := 220) C0 V rfl LI_Mil_13 (c_Big_init_3 l D g w50 18 q49 19 hN hn8 _) rfl hl.1 rfl (Nat.le_of_ble_eq_true rfl) ⟨by decide, by decide⟩ ⟨Nat.le_of_ble_eq_true rfl, Nat.le_of_ble_eq_true rfl⟩ d_8_1_68) (fun u54 H locs hp53 V => ?_)
  obtain ⟨q55, hg56, hn8, hq57, hN⟩ := hp53
  replace hF := q_uc hF hg56 (q_sc (List.mem_of_getElem? (i := 9) rfl) (q_sc (List.mem_of_getElem? (i := 10) rfl) (fun _ h => absurd h List.not_mem_nil)))
  have hn9 : u54[19]? = (some (q55, .inl (g 0, 220, .inl (fun _ => 0))) : Option (Nat × va_E)) := hq57
  replace hN : u54.length = 20 := hN
  replace hO0 := (hg56 _ (q_nc (q_pd 9 18 rfl) (q_nc (q_pd 9 19 rfl) List.not_mem_nil))).trans ((hu51 _ (q_pd 9 18 rfl)).trans (hO0))
  have ho60 := hO0
  refine q_putF (ci := 4) (j := 4) (v := .ref q49) (ty := .object "NumberHouse$Big") C0 V i_Mil o_Mil n_Mil rfl rfl rfl rfl rfl hO0 (by decide) w_123 rfl rfl rfl (Nat.le_of_ble_eq_true rfl) d_8_1_71 (fun H locs w58 hu59 hO0 V => ?_)
  replace hO0 : w58[9]? = (some (qO0, .inr (4, [.ref q1, .ref q13, .ref q25, .ref q37, .ref q49, .null, .null, .null, .null, .null])) : Option (Nat × va_E)) := hO0
  replace hN : w58.length = 20 := (q_len1 hu59 hO0 ho60).trans hN
  replace hF := q_us hF hu59 (.head _)
  refine lv_aload_n hx hb d_8_1_74 rfl (lv_at hl 0 rfl) ?_
  refine q_new (ci := 2) (fs := [.null, .int 0, .int 0]) C0 V hN i_Big o_Big rfl w_78 w_79 w_4 rfl (fun j hj => by rcases (show j = 0 ∨ j = 1 ∨ j = 2 by omega) with rfl | rfl | rfl <;> rfl) (Nat.le_of_ble_eq_true rfl) (Nat.le_of_ble_eq_true rfl) d_8_1_75 (fun q61 H w62 hu63 hn64 hN V => ?_)
  have hn10 : w62[20]? = (some (q61, .inr (2, [.null, .int 0, .int 0])) : Option (Nat × va_E)) := hn64
  replace hF := q_us hF hu63 (List.mem_of_getElem? (i := 11) rfl)
  replace hN : w62.length = 21 := hN
  refine lv_dup hx hb d_8_1_78 rfl ?_
  refine lv_sipush (v := 220) hx hb d_8_1_79 (by decide) ?_
  refine q_gov V (q_runI (As := [.int 220]) (rest := [.ref q61, .ref qO0]) (d := 2) (mc := 1) (ms := 220) C0 V rfl LI_Mil_13 (c_Big_init_3 l D g w62 20 q61 21 hN hn10 _) rfl hl.1 rfl (Nat.le_of_ble_eq_true rfl) ⟨by decide, by decide⟩ ⟨Nat.le_of_ble_eq_true rfl, Nat.le_of_ble_eq_true rfl⟩ d_8_1_82) (fun u66 H locs hp65 V => ?_)
  obtain ⟨q67, hg68, hn10, hq69, hN⟩ := hp65
  replace hF := q_uc hF hg68 (q_sc (List.mem_of_getElem? (i := 11) rfl) (q_sc (List.mem_of_getElem? (i := 12) rfl) (fun _ h => absurd h List.not_mem_nil)))
  have hn11 : u66[21]? = (some (q67, .inl (g 0, 220, .inl (fun _ => 0))) : Option (Nat × va_E)) := hq69
  replace hN : u66.length = 22 := hN
  replace hO0 := (hg68 _ (q_nc (q_pd 9 20 rfl) (q_nc (q_pd 9 21 rfl) List.not_mem_nil))).trans ((hu63 _ (q_pd 9 20 rfl)).trans (hO0))
  have ho72 := hO0
  refine q_putF (ci := 4) (j := 5) (v := .ref q61) (ty := .object "NumberHouse$Big") C0 V i_Mil o_Mil n_Mil rfl rfl rfl rfl rfl hO0 (by decide) w_124 rfl rfl rfl (Nat.le_of_ble_eq_true rfl) d_8_1_85 (fun H locs w70 hu71 hO0 V => ?_)
  replace hO0 : w70[9]? = (some (qO0, .inr (4, [.ref q1, .ref q13, .ref q25, .ref q37, .ref q49, .ref q61, .null, .null, .null, .null])) : Option (Nat × va_E)) := hO0
  replace hN : w70.length = 22 := (q_len1 hu71 hO0 ho72).trans hN
  replace hF := q_us hF hu71 (.head _)
  refine lv_aload_n hx hb d_8_1_88 rfl (lv_at hl 0 rfl) ?_
  refine q_new (ci := 2) (fs := [.null, .int 0, .int 0]) C0 V hN i_Big o_Big rfl w_78 w_79 w_4 rfl (fun j hj => by rcases (show j = 0 ∨ j = 1 ∨ j = 2 by omega) with rfl | rfl | rfl <;> rfl) (Nat.le_of_ble_eq_true rfl) (Nat.le_of_ble_eq_true rfl) d_8_1_89 (fun q73 H w74 hu75 hn76 hN V => ?_)
  have hn12 : w74[22]? = (some (q73, .inr (2, [.null, .int 0, .int 0])) : Option (Nat × va_E)) := hn76
  replace hF := q_us hF hu75 (List.mem_of_getElem? (i := 13) rfl)
  replace hN : w74.length = 23 := hN
  refine lv_dup hx hb d_8_1_92 rfl ?_
  refine lv_sipush (v := 220) hx hb d_8_1_93 (by decide) ?_
  refine q_gov V (q_runI (As := [.int 220]) (rest := [.ref q73, .ref qO0]) (d := 2) (mc := 1) (ms := 220) C0 V rfl LI_Mil_13 (c_Big_init_3 l D g w74 22 q73 23 hN hn12 _) rfl hl.1 rfl (Nat.le_of_ble_eq_true rfl) ⟨by decide, by decide⟩ ⟨Nat.le_of_ble_eq_true rfl, Nat.le_of_ble_eq_true rfl⟩ d_8_1_96) (fun u78 H locs hp77 V => ?_)
  obtain ⟨q79, hg80, hn12, hq81, hN⟩ := hp77
  replace hF := q_uc hF hg80 (q_sc (List.mem_of_getElem? (i := 13) rfl) (q_sc (List.mem_of_getElem? (i := 14) rfl) (fun _ h => absurd h List.not_mem_nil)))
  have hn13 : u78[23]? = (some (q79, .inl (g 0, 220, .inl (fun _ => 0))) : Option (Nat × va_E)) := hq81
  replace hN : u78.length = 24 := hN
  replace hO0 := (hg80 _ (q_nc (q_pd 9 22 rfl) (q_nc (q_pd 9 23 rfl) List.not_mem_nil))).trans ((hu75 _ (q_pd 9 22 rfl)).trans (hO0))
  have ho84 := hO0
  refine q_putF (ci := 4) (j := 6) (v := .ref q73) (ty := .object "NumberHouse$Big") C0 V i_Mil o_Mil n_Mil rfl rfl rfl rfl rfl hO0 (by decide) w_125 rfl rfl rfl (Nat.le_of_ble_eq_true rfl) d_8_1_99 (fun H locs w82 hu83 hO0 V => ?_)
  replace hO0 : w82[9]? = (some (qO0, .inr (4, [.ref q1, .ref q13, .ref q25, .ref q37, .ref q49, .ref q61, .ref q73, .null, .null, .null])) : Option (Nat × va_E)) := hO0
  replace hN : w82.length = 24 := (q_len1 hu83 hO0 ho84).trans hN
  replace hF := q_us hF hu83 (.head _)
  refine lv_aload_n hx hb d_8_1_102 rfl (lv_at hl 0 rfl) ?_
  refine q_new (ci := 2) (fs := [.null, .int 0, .int 0]) C0 V hN i_Big o_Big rfl w_78 w_79 w_4 rfl (fun j hj => by rcases (show j = 0 ∨ j = 1 ∨ j = 2 by omega) with rfl | rfl | rfl <;> rfl) (Nat.le_of_ble_eq_true rfl) (Nat.le_of_ble_eq_true rfl) d_8_1_103 (fun q85 H w86 hu87 hn88 hN V => ?_)
  have hn14 : w86[24]? = (some (q85, .inr (2, [.null, .int 0, .int 0])) : Option (Nat × va_E)) := hn88
  replace hF := q_us hF hu87 (List.mem_of_getElem? (i := 15) rfl)
  replace hN : w86.length = 25 := hN
  refine lv_dup hx hb d_8_1_106 rfl ?_
  refine lv_sipush (v := 220) hx hb d_8_1_107 (by decide) ?_
  refine q_gov V (q_runI (As := [.int 220]) (rest := [.ref q85, .ref qO0]) (d := 2) (mc := 1) (ms := 220) C0 V rfl LI_Mil_13 (c_Big_init_3 l D g w86 24 q85 25 hN hn14 _) rfl hl.1 rfl (Nat.le_of_ble_eq_true rfl) ⟨by decide, by decide⟩ ⟨Nat.le_of_ble_eq_true rfl, Nat.le_of_ble_eq_true rfl⟩ d_8_1_110) (fun u90 H locs hp89 V => ?_)
  obtain ⟨q91, hg92, hn14, hq93, hN⟩ := hp89
  replace hF := q_uc hF hg92 (q_sc (List.mem_of_getElem? (i := 15) rfl) (q_sc (List.mem_of_getElem? (i := 16) rfl) (fun _ h => absurd h List.not_mem_nil)))
  have hn15 : u90[25]? = (some (q91, .inl (g 0, 220, .inl (fun _ => 0))) : Option (Nat × va_E)) := hq93
  replace hN : u90.length = 26 := hN
  replace hO0 := (hg92 _ (q_nc (q_pd 9 24 rfl) (q_nc (q_pd 9 25 rfl) List.not_mem_nil))).trans ((hu87 _ (q_pd 9 24 rfl)).trans (hO0))
  have ho96 := hO0
  refine q_putF (ci := 4) (j := 7) (v := .ref q85) (ty := .object "NumberHouse$Big") C0 V i_Mil o_Mil n_Mil rfl rfl rfl rfl rfl hO0 (by decide) w_128 rfl rfl rfl (Nat.le_of_ble_eq_true rfl) d_8_1_113 (fun H locs w94 hu95 hO0 V => ?_)
  replace hO0 : w94[9]? = (some (qO0, .inr (4, [.ref q1, .ref q13, .ref q25, .ref q37, .ref q49, .ref q61, .ref q73, .ref q85, .null, .null])) : Option (Nat × va_E)) := hO0
  replace hN : w94.length = 26 := (q_len1 hu95 hO0 ho96).trans hN
  replace hF := q_us hF hu95 (.head _)
  refine lv_aload_n hx hb d_8_1_116 rfl (lv_at hl 0 rfl) ?_
  refine q_new (ci := 2) (fs := [.null, .int 0, .int 0]) C0 V hN i_Big o_Big rfl w_78 w_79 w_4 rfl (fun j hj => by rcases (show j = 0 ∨ j = 1 ∨ j = 2 by omega) with rfl | rfl | rfl <;> rfl) (Nat.le_of_ble_eq_true rfl) (Nat.le_of_ble_eq_true rfl) d_8_1_117 (fun q97 H w98 hu99 hn100 hN V => ?_)
  have hn16 : w98[26]? = (some (q97, .inr (2, [.null, .int 0, .int 0])) : Option (Nat × va_E)) := hn100
  replace hF := q_us hF hu99 (List.mem_of_getElem? (i := 17) rfl)
  replace hN : w98.length = 27 := hN
  refine lv_dup hx hb d_8_1_120 rfl ?_
  refine lv_sipush (v := 220) hx hb d_8_1_121 (by decide) ?_
  refine q_gov V (q_runI (As := [.int 220]) (rest := [.ref q97, .ref qO0]) (d := 2) (mc := 1) (ms := 220) C0 V rfl LI_Mil_13 (c_Big_init_3 l D g w98 26 q97 27 hN hn16 _) rfl hl.1 rfl (Nat.le_of_ble_eq_true rfl) ⟨by decide, by decide⟩ ⟨Nat.le_of_ble_eq_true rfl, Nat.le_of_ble_eq_true rfl⟩ d_8_1_124) (fun u102 H locs hp101 V => ?_)
  obtain ⟨q103, hg104, hn16, hq105, hN⟩ := hp101
  replace hF := q_uc hF hg104 (q_sc (List.mem_of_getElem? (i := 17) rfl) (q_sc (List.mem_of_getElem? (i := 18) rfl) (fun _ h => absurd h List.not_mem_nil)))
  have hn17 : u102[27]? = (some (q103, .inl (g 0, 220, .inl (fun _ => 0))) : Option (Nat × va_E)) := hq105
  replace hN : u102.length = 28 := hN
  replace hO0 := (hg104 _ (q_nc (q_pd 9 26 rfl) (q_nc (q_pd 9 27 rfl) List.not_mem_nil))).trans ((hu99 _ (q_pd 9 26 rfl)).trans (hO0))
  have ho108 := hO0
  refine q_putF (ci := 4) (j := 8) (v := .ref q97) (ty := .object "NumberHouse$Big") C0 V i_Mil o_Mil n_Mil rfl rfl rfl rfl rfl hO0 (by decide) w_131 rfl rfl rfl (Nat.le_of_ble_eq_true rfl) d_8_1_127 (fun H locs w106 hu107 hO0 V => ?_)
  replace hO0 : w106[9]? = (some (qO0, .inr (4, [.ref q1, .ref q13, .ref q25, .ref q37, .ref q49, .ref q61, .ref q73, .ref q85, .ref q97, .null])) : Option (Nat × va_E)) := hO0
  replace hN : w106.length = 28 := (q_len1 hu107 hO0 ho108).trans hN
  replace hF := q_us hF hu107 (.head _)
  refine lv_aload_n hx hb d_8_1_130 rfl (lv_at hl 0 rfl) ?_
  refine q_new (ci := 2) (fs := [.null, .int 0, .int 0]) C0 V hN i_Big o_Big rfl w_78 w_79 w_4 rfl (fun j hj => by rcases (show j = 0 ∨ j = 1 ∨ j = 2 by omega) with rfl | rfl | rfl <;> rfl) (Nat.le_of_ble_eq_true rfl) (Nat.le_of_ble_eq_true rfl) d_8_1_131 (fun q109 H w110 hu111 hn112 hN V => ?_)
  have hn18 : w110[28]? = (some (q109, .inr (2, [.null, .int 0, .int 0])) : Option (Nat × va_E)) := hn112
  replace hF := q_us hF hu111 (List.mem_of_getElem? (i := 19) rfl)
  replace hN : w110.length = 29 := hN
  refine lv_dup hx hb d_8_1_134 rfl ?_
  refine lv_sipush (v := 220) hx hb d_8_1_135 (by decide) ?_
  refine q_gov V (q_runI (As := [.int 220]) (rest := [.ref q109, .ref qO0]) (d := 2) (mc := 1) (ms := 220) C0 V rfl LI_Mil_13 (c_Big_init_3 l D g w110 28 q109 29 hN hn18 _) rfl hl.1 rfl (Nat.le_of_ble_eq_true rfl) ⟨by decide, by decide⟩ ⟨Nat.le_of_ble_eq_true rfl, Nat.le_of_ble_eq_true rfl⟩ d_8_1_138) (fun u114 H locs hp113 V => ?_)
  obtain ⟨q115, hg116, hn18, hq117, hN⟩ := hp113
  replace hF := q_uc hF hg116 (q_sc (List.mem_of_getElem? (i := 19) rfl) (q_sc (List.mem_of_getElem? (i := 20) rfl) (fun _ h => absurd h List.not_mem_nil)))
  have hn19 : u114[29]? = (some (q115, .inl (g 0, 220, .inl (fun _ => 0))) : Option (Nat × va_E)) := hq117
  replace hN : u114.length = 30 := hN
  replace hO0 := (hg116 _ (q_nc (q_pd 9 28 rfl) (q_nc (q_pd 9 29 rfl) List.not_mem_nil))).trans ((hu111 _ (q_pd 9 28 rfl)).trans (hO0))
  have ho120 := hO0
  refine q_putF (ci := 4) (j := 9) (v := .ref q109) (ty := .object "NumberHouse$Big") C0 V i_Mil o_Mil n_Mil rfl rfl rfl rfl rfl hO0 (by decide) w_133 rfl rfl rfl (Nat.le_of_ble_eq_true rfl) d_8_1_141 (fun H locs w118 hu119 hO0 V => ?_)
  replace hO0 : w118[9]? = (some (qO0, .inr (4, [.ref q1, .ref q13, .ref q25, .ref q37, .ref q49, .ref q61, .ref q73, .ref q85, .ref q97, .ref q109])) : Option (Nat × va_E)) := hO0
  replace hN : w118.length = 30 := (q_len1 hu119 hO0 ho120).trans hN
  replace hF := q_us hF hu119 (.head _)
  have RR : q_un w118 w118 [] := q_u0
  replace RR := q_ub hu119 RR
  replace hn18 := (RR 28 (by decide +kernel)).trans hn18
  replace hn19 := (RR 29 (by decide +kernel)).trans hn19
  replace RR := q_ubc hg116 RR
  replace RR := q_ub hu111 RR
  replace RR := q_ub hu107 RR
  replace hn16 := (RR 26 (by decide +kernel)).trans hn16
  replace hn17 := (RR 27 (by decide +kernel)).trans hn17
  replace RR := q_ubc hg104 RR
  replace RR := q_ub hu99 RR
  replace RR := q_ub hu95 RR
  replace hn14 := (RR 24 (by decide +kernel)).trans hn14
  replace hn15 := (RR 25 (by decide +kernel)).trans hn15
  replace RR := q_ubc hg92 RR
  replace RR := q_ub hu87 RR
  replace RR := q_ub hu83 RR
  replace hn12 := (RR 22 (by decide +kernel)).trans hn12
  replace hn13 := (RR 23 (by decide +kernel)).trans hn13
  replace RR := q_ubc hg80 RR
  replace RR := q_ub hu75 RR
  replace RR := q_ub hu71 RR
  replace hn10 := (RR 20 (by decide +kernel)).trans hn10
  replace hn11 := (RR 21 (by decide +kernel)).trans hn11
  replace RR := q_ubc hg68 RR
  replace RR := q_ub hu63 RR
  replace RR := q_ub hu59 RR
  replace hn8 := (RR 18 (by decide +kernel)).trans hn8
  replace hn9 := (RR 19 (by decide +kernel)).trans hn9
  replace RR := q_ubc hg56 RR
  replace RR := q_ub hu51 RR
  replace RR := q_ub hu47 RR
  replace hn6 := (RR 16 (by decide +kernel)).trans hn6
  replace hn7 := (RR 17 (by decide +kernel)).trans hn7
  replace RR := q_ubc hg44 RR
  replace RR := q_ub hu39 RR
  replace RR := q_ub hu35 RR
  replace hn4 := (RR 14 (by decide +kernel)).trans hn4
  replace hn5 := (RR 15 (by decide +kernel)).trans hn5
  replace RR := q_ubc hg32 RR
  replace RR := q_ub hu27 RR
  replace RR := q_ub hu23 RR
  replace hn2 := (RR 12 (by decide +kernel)).trans hn2
  replace hn3 := (RR 13 (by decide +kernel)).trans hn3
  replace RR := q_ubc hg20 RR
  replace RR := q_ub hu15 RR
  replace RR := q_ub hu11 RR
  replace hn0 := (RR 10 (by decide +kernel)).trans hn0
  replace hn1 := (RR 11 (by decide +kernel)).trans hn1
  exact q_retv C0 V (⟨q1, q7, q13, q19, q25, q31, q37, q43, q49, q55, q61, q67, q73, q79, q85, q91, q97, q103, q109, q115, hF, hO0, hn0, hn1, hn2, hn3, hn4, hn5, hn6, hn7, hn8, hn9, hn10, hn11, hn12, hn13, hn14, hn15, hn16, hn17, hn18, hn19, hN⟩) d_8_1_144
theorem d_2_6_0 : decode prog_2_method_6_code 0 = .ok (.aload_n 0, 1) := by decide +kernel
theorem d_2_6_1 : decode prog_2_method_6_code 1 = .ok (.getfield 13, 3) := by decide +kernel
theorem d_2_6_4 : decode prog_2_method_6_code 4 = .ok (.aload_n 0, 1) := by decide +kernel
theorem d_2_6_5 : decode prog_2_method_6_code 5 = .ok (.getfield 7, 3) := by decide +kernel
theorem d_2_6_8 : decode prog_2_method_6_code 8 = .ok (.arraylength, 1) := by decide +kernel
theorem d_2_6_9 : decode prog_2_method_6_code 9 = .ok (.if_icmp .ge 23, 3) := by decide +kernel
theorem d_2_6_12 : decode prog_2_method_6_code 12 = .ok (.aload_n 0, 1) := by decide +kernel
theorem d_2_6_13 : decode prog_2_method_6_code 13 = .ok (.getfield 7, 3) := by decide +kernel
theorem d_2_6_16 : decode prog_2_method_6_code 16 = .ok (.aload_n 0, 1) := by decide +kernel
theorem d_2_6_17 : decode prog_2_method_6_code 17 = .ok (.getfield 13, 3) := by decide +kernel
theorem d_2_6_20 : decode prog_2_method_6_code 20 = .ok (.iload_n 1, 1) := by decide +kernel
theorem d_2_6_21 : decode prog_2_method_6_code 21 = .ok (.iastore, 1) := by decide +kernel
theorem d_2_6_22 : decode prog_2_method_6_code 22 = .ok (.aload_n 0, 1) := by decide +kernel
theorem d_2_6_23 : decode prog_2_method_6_code 23 = .ok (.dup, 1) := by decide +kernel
theorem d_2_6_24 : decode prog_2_method_6_code 24 = .ok (.getfield 13, 3) := by decide +kernel
theorem d_2_6_27 : decode prog_2_method_6_code 27 = .ok (.iconst 1, 1) := by decide +kernel
theorem d_2_6_28 : decode prog_2_method_6_code 28 = .ok (.iadd, 1) := by decide +kernel
theorem d_2_6_29 : decode prog_2_method_6_code 29 = .ok (.putfield 13, 3) := by decide +kernel
theorem d_2_6_32 : decode prog_2_method_6_code 32 = .ok (.return_, 1) := by decide +kernel
def y_Big_push : MethodName := ⟨"NumberHouse$Big", "push", "(I)V"⟩


