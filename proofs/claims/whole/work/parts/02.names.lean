/-! the tables of the classes: names, fields in the order of the slots, types (printed by wip/gen/names.py) -/
/-- the words that every method may use: those of the tables that stay -/
def q_tbl : List Cond := lw_tbl.filter goodWord
theorem q_in {w : Cond} (h : w ∈ lw_tbl) (g : goodWord w = true) : w ∈ q_tbl := List.mem_filter.mpr ⟨h, g⟩
theorem q_of {w : Cond} (i : Nat) (h : tables_1[i]? = some w) (g : goodWord w = true) : w ∈ q_tbl := q_in (List.mem_append_right _ (List.mem_of_getElem? h)) g
theorem q_of1 {w : Cond} (i : Nat) (h : tables_1_1[i]? = some w) (g : goodWord w = true) : w ∈ q_tbl := q_in (List.mem_append_right _ (tm_1 i h)) g
theorem q_of2 {w : Cond} (i : Nat) (h : tables_1_2[i]? = some w) (g : goodWord w = true) : w ∈ q_tbl := q_in (List.mem_append_right _ (tm_2 i h)) g
theorem q_of3 {w : Cond} (i : Nat) (h : tables_1_3[i]? = some w) (g : goodWord w = true) : w ∈ q_tbl := q_in (List.mem_append_right _ (tm_3 i h)) g
theorem q_of4 {w : Cond} (i : Nat) (h : tables_1_4[i]? = some w) (g : goodWord w = true) : w ∈ q_tbl := q_in (List.mem_append_right _ (tm_4 i h)) g
theorem q_of5 {w : Cond} (i : Nat) (h : tables_1_5[i]? = some w) (g : goodWord w = true) : w ∈ q_tbl := q_in (List.mem_append_right _ (tm_5 i h)) g
theorem q_of6 {w : Cond} (i : Nat) (h : tables_1_6[i]? = some w) (g : goodWord w = true) : w ∈ q_tbl := q_in (List.mem_append_right _ (tm_6 i h)) g
theorem q_of7 {w : Cond} (i : Nat) (h : tables_1_7[i]? = some w) (g : goodWord w = true) : w ∈ q_tbl := q_in (List.mem_append_right _ (tm_7 i h)) g
theorem q_of8 {w : Cond} (i : Nat) (h : tables_1_8[i]? = some w) (g : goodWord w = true) : w ∈ q_tbl := q_in (List.mem_append_right _ (tm_8 i h)) g
theorem q_of9 {w : Cond} (i : Nat) (h : tables_1_9[i]? = some w) (g : goodWord w = true) : w ∈ q_tbl := q_in (List.mem_append_right _ (tm_9 i h)) g
theorem q_of10 {w : Cond} (i : Nat) (h : tables_1_10[i]? = some w) (g : goodWord w = true) : w ∈ q_tbl := q_in (List.mem_append_right _ (tm_10 i h)) g
theorem q_of11 {w : Cond} (i : Nat) (h : tables_1_11[i]? = some w) (g : goodWord w = true) : w ∈ q_tbl := q_in (List.mem_append_right _ (tm_11 i h)) g
theorem q_of12 {w : Cond} (i : Nat) (h : tables_1_12[i]? = some w) (g : goodWord w = true) : w ∈ q_tbl := q_in (List.mem_append_right _ (tm_12 i h)) g
theorem q_of13 {w : Cond} (i : Nat) (h : tables_1_13[i]? = some w) (g : goodWord w = true) : w ∈ q_tbl := q_in (List.mem_append_right _ (tm_13 i h)) g
theorem q_of14 {w : Cond} (i : Nat) (h : tables_1_14[i]? = some w) (g : goodWord w = true) : w ∈ q_tbl := q_in (List.mem_append_right _ (tm_14 i h)) g
theorem q_ofs {w : Cond} (i : Nat) (h : (k2_sels lw_privs)[i]? = some w) (g : goodWord w = true) : w ∈ q_tbl := q_in (List.mem_append_left _ (List.mem_of_getElem? h)) g
theorem q_gi {big : List Cond} (hb : ∀ w ∈ q_tbl, w ∈ big) : GoodIn big q_tbl := fun w h => ⟨hb w h, good_of_word (List.mem_filter.mp h).2⟩
def R_NH : String := "NumberHouse"
def F_NH : u_T := fun k => match k with
  | 0 => ("NumberHouse", "tape", "LNumberHouse$Sheet;", true)
  | 1 => ("NumberHouse", "paper", "LNumberHouse$Sheet;", true)
  | 2 => ("NumberHouse", "wholes", "[LNumberHouse$Big;", true)
  | 3 => ("NumberHouse", "decimals", "[LNumberHouse$Dec;", true)
  | 4 => ("NumberHouse", "wide", "[J", true)
  | 5 => ("NumberHouse", "narrow", "[J", true)
  | 6 => ("NumberHouse", "mill", "LNumberHouse$Mill;", true)
  | 7 => ("NumberHouse", "decimalWork", "LNumberHouse$DecimalWork;", true)
  | 8 => ("NumberHouse", "wideFloats", "LNumberHouse$Floats;", true)
  | 9 => ("NumberHouse", "narrowFloats", "LNumberHouse$Floats;", true)
  | 10 => ("NumberHouse", "digits", "LNumberHouse$Digits;", true)
  | 11 => ("NumberHouse", "reader", "LNumberHouse$Reader;", true)
  | 12 => ("NumberHouse", "writer", "LNumberHouse$Writer;", true)
  | _ => ("NumberHouse", "printer", "LNumberHouse$Printer;", true)
def t_NH : Nat → FieldType := fun k => match k with
  | 0 => .object "NumberHouse$Sheet"
  | 1 => .object "NumberHouse$Sheet"
  | 2 => .array (.object "NumberHouse$Big")
  | 3 => .array (.object "NumberHouse$Dec")
  | 4 => .array .long
  | 5 => .array .long
  | 6 => .object "NumberHouse$Mill"
  | 7 => .object "NumberHouse$DecimalWork"
  | 8 => .object "NumberHouse$Floats"
  | 9 => .object "NumberHouse$Floats"
  | 10 => .object "NumberHouse$Digits"
  | 11 => .object "NumberHouse$Reader"
  | 12 => .object "NumberHouse$Writer"
  | _ => .object "NumberHouse$Printer"
theorem n_NH : ∀ a, a < 14 → ∀ b, b < 14 → a ≠ b → (F_NH a).2.1 ≠ (F_NH b).2.1 := by decide +kernel
theorem o_NH : ∀ k, k < 14 → parseFieldDescriptor (F_NH k).2.2.1 = some (t_NH k) := by decide +kernel
theorem i_NH : ∀ w ∈ u_ws R_NH F_NH 14, w ∈ q_tbl := by decide +kernel
def R_She : String := "NumberHouse$Sheet"
def F_She : u_T := fun k => match k with
  | 0 => ("NumberHouse$Sheet", "cells", "[J", true)
  | 1 => ("NumberHouse$Sheet", "room", "I", true)
  | _ => ("NumberHouse$Sheet", "size", "I", false)
def t_She : Nat → FieldType := fun k => match k with
  | 0 => .array .long
  | 1 => .int
  | _ => .int
theorem n_She : ∀ a, a < 3 → ∀ b, b < 3 → a ≠ b → (F_She a).2.1 ≠ (F_She b).2.1 := by decide +kernel
theorem o_She : ∀ k, k < 3 → parseFieldDescriptor (F_She k).2.2.1 = some (t_She k) := by decide +kernel
theorem i_She : ∀ w ∈ u_ws R_She F_She 3, w ∈ q_tbl := by decide +kernel
def R_Big : String := "NumberHouse$Big"
def F_Big : u_T := fun k => match k with
  | 0 => ("NumberHouse$Big", "limbs", "[I", true)
  | 1 => ("NumberHouse$Big", "size", "I", false)
  | _ => ("NumberHouse$Big", "negative", "Z", false)
def t_Big : Nat → FieldType := fun k => match k with
  | 0 => .array .int
  | 1 => .int
  | _ => .boolean
theorem n_Big : ∀ a, a < 3 → ∀ b, b < 3 → a ≠ b → (F_Big a).2.1 ≠ (F_Big b).2.1 := by decide +kernel
theorem o_Big : ∀ k, k < 3 → parseFieldDescriptor (F_Big k).2.2.1 = some (t_Big k) := by decide +kernel
theorem i_Big : ∀ w ∈ u_ws R_Big F_Big 3, w ∈ q_tbl := by decide +kernel
def R_Dec : String := "NumberHouse$Dec"
def F_Dec : u_T := fun k => match k with
  | 0 => ("NumberHouse$Dec", "number", "LNumberHouse$Big;", true)
  | 1 => ("NumberHouse$Dec", "scale", "I", false)
  | _ => ("NumberHouse$Dec", "figureCount", "I", false)
def t_Dec : Nat → FieldType := fun k => match k with
  | 0 => .object "NumberHouse$Big"
  | 1 => .int
  | _ => .int
theorem n_Dec : ∀ a, a < 3 → ∀ b, b < 3 → a ≠ b → (F_Dec a).2.1 ≠ (F_Dec b).2.1 := by decide +kernel
theorem o_Dec : ∀ k, k < 3 → parseFieldDescriptor (F_Dec k).2.2.1 = some (t_Dec k) := by decide +kernel
theorem i_Dec : ∀ w ∈ u_ws R_Dec F_Dec 3, w ∈ q_tbl := by decide +kernel
def R_Mil : String := "NumberHouse$Mill"
def F_Mil : u_T := fun k => match k with
  | 0 => ("NumberHouse$Mill", "number", "LNumberHouse$Big;", true)
  | 1 => ("NumberHouse$Mill", "quotient", "LNumberHouse$Big;", true)
  | 2 => ("NumberHouse$Mill", "power", "LNumberHouse$Big;", true)
  | 3 => ("NumberHouse$Mill", "root", "LNumberHouse$Big;", true)
  | 4 => ("NumberHouse$Mill", "work", "LNumberHouse$Big;", true)
  | 5 => ("NumberHouse$Mill", "spare", "LNumberHouse$Big;", true)
  | 6 => ("NumberHouse$Mill", "one", "LNumberHouse$Big;", true)
  | 7 => ("NumberHouse$Mill", "two", "LNumberHouse$Big;", true)
  | 8 => ("NumberHouse$Mill", "three", "LNumberHouse$Big;", true)
  | _ => ("NumberHouse$Mill", "four", "LNumberHouse$Big;", true)
def t_Mil : Nat → FieldType := fun k => match k with
  | 0 => .object "NumberHouse$Big"
  | 1 => .object "NumberHouse$Big"
  | 2 => .object "NumberHouse$Big"
  | 3 => .object "NumberHouse$Big"
  | 4 => .object "NumberHouse$Big"
  | 5 => .object "NumberHouse$Big"
  | 6 => .object "NumberHouse$Big"
  | 7 => .object "NumberHouse$Big"
  | 8 => .object "NumberHouse$Big"
  | _ => .object "NumberHouse$Big"
theorem n_Mil : ∀ a, a < 10 → ∀ b, b < 10 → a ≠ b → (F_Mil a).2.1 ≠ (F_Mil b).2.1 := by decide +kernel
theorem o_Mil : ∀ k, k < 10 → parseFieldDescriptor (F_Mil k).2.2.1 = some (t_Mil k) := by decide +kernel
theorem i_Mil : ∀ w ∈ u_ws R_Mil F_Mil 10, w ∈ q_tbl := by decide +kernel
def R_DW : String := "NumberHouse$DecimalWork"
def F_DW : u_T := fun k => match k with
  | 0 => ("NumberHouse$DecimalWork", "one", "LNumberHouse$Dec;", true)
  | 1 => ("NumberHouse$DecimalWork", "scale", "J", false)
  | 2 => ("NumberHouse$DecimalWork", "mill", "LNumberHouse$Mill;", true)
  | _ => ("NumberHouse$DecimalWork", "lost", "Z", false)
def t_DW : Nat → FieldType := fun k => match k with
  | 0 => .object "NumberHouse$Dec"
  | 1 => .long
  | 2 => .object "NumberHouse$Mill"
  | _ => .boolean
theorem n_DW : ∀ a, a < 4 → ∀ b, b < 4 → a ≠ b → (F_DW a).2.1 ≠ (F_DW b).2.1 := by decide +kernel
theorem o_DW : ∀ k, k < 4 → parseFieldDescriptor (F_DW k).2.2.1 = some (t_DW k) := by decide +kernel
theorem i_DW : ∀ w ∈ u_ws R_DW F_DW 4, w ∈ q_tbl := by decide +kernel
def R_Flo : String := "NumberHouse$Floats"
def F_Flo : u_T := fun k => match k with
  | 0 => ("NumberHouse$Floats", "fractionBits", "I", true)
  | 1 => ("NumberHouse$Floats", "bias", "I", true)
  | 2 => ("NumberHouse$Floats", "topExponent", "I", true)
  | 3 => ("NumberHouse$Floats", "shortNumber", "J", false)
  | 4 => ("NumberHouse$Floats", "shortPower", "I", false)
  | 5 => ("NumberHouse$Floats", "mill", "LNumberHouse$Mill;", true)
  | _ => ("NumberHouse$Floats", "estimate", "I", false)
def t_Flo : Nat → FieldType := fun k => match k with
  | 0 => .int
  | 1 => .int
  | 2 => .int
  | 3 => .long
  | 4 => .int
  | 5 => .object "NumberHouse$Mill"
  | _ => .int
theorem n_Flo : ∀ a, a < 7 → ∀ b, b < 7 → a ≠ b → (F_Flo a).2.1 ≠ (F_Flo b).2.1 := by decide +kernel
theorem o_Flo : ∀ k, k < 7 → parseFieldDescriptor (F_Flo k).2.2.1 = some (t_Flo k) := by decide +kernel
theorem i_Flo : ∀ w ∈ u_ws R_Flo F_Flo 7, w ∈ q_tbl := by decide +kernel
def R_Dig : String := "NumberHouse$Digits"
def F_Dig : u_T := fun k => match k with
  | 0 => ("NumberHouse$Digits", "count", "I", false)
  | 1 => ("NumberHouse$Digits", "power", "I", false)
  | _ => ("NumberHouse$Digits", "row", "[B", true)
def t_Dig : Nat → FieldType := fun k => match k with
  | 0 => .int
  | 1 => .int
  | _ => .array .byte
theorem n_Dig : ∀ a, a < 3 → ∀ b, b < 3 → a ≠ b → (F_Dig a).2.1 ≠ (F_Dig b).2.1 := by decide +kernel
theorem o_Dig : ∀ k, k < 3 → parseFieldDescriptor (F_Dig k).2.2.1 = some (t_Dig k) := by decide +kernel
theorem i_Dig : ∀ w ∈ u_ws R_Dig F_Dig 3, w ∈ q_tbl := by decide +kernel
def R_Rea : String := "NumberHouse$Reader"
def F_Rea : u_T := fun k => match k with
  | 0 => ("NumberHouse$Reader", "scale", "J", false)
  | 1 => ("NumberHouse$Reader", "bits", "J", false)
  | 2 => ("NumberHouse$Reader", "tape", "LNumberHouse$Sheet;", true)
  | 3 => ("NumberHouse$Reader", "mill", "LNumberHouse$Mill;", true)
  | 4 => ("NumberHouse$Reader", "place", "I", false)
  | 5 => ("NumberHouse$Reader", "end", "I", false)
  | 6 => ("NumberHouse$Reader", "negative", "Z", false)
  | 7 => ("NumberHouse$Reader", "behindPoint", "I", false)
  | 8 => ("NumberHouse$Reader", "kept", "I", false)
  | 9 => ("NumberHouse$Reader", "dropped", "I", false)
  | 10 => ("NumberHouse$Reader", "droppedSome", "Z", false)
  | _ => ("NumberHouse$Reader", "exponent", "J", false)
def t_Rea : Nat → FieldType := fun k => match k with
  | 0 => .long
  | 1 => .long
  | 2 => .object "NumberHouse$Sheet"
  | 3 => .object "NumberHouse$Mill"
  | 4 => .int
  | 5 => .int
  | 6 => .boolean
  | 7 => .int
  | 8 => .int
  | 9 => .int
  | 10 => .boolean
  | _ => .long
theorem n_Rea : ∀ a, a < 12 → ∀ b, b < 12 → a ≠ b → (F_Rea a).2.1 ≠ (F_Rea b).2.1 := by decide +kernel
theorem o_Rea : ∀ k, k < 12 → parseFieldDescriptor (F_Rea k).2.2.1 = some (t_Rea k) := by decide +kernel
theorem i_Rea : ∀ w ∈ u_ws R_Rea F_Rea 12, w ∈ q_tbl := by decide +kernel
def R_Wri : String := "NumberHouse$Writer"
def F_Wri : u_T := fun k => match k with
  | 0 => ("NumberHouse$Writer", "paper", "LNumberHouse$Sheet;", true)
  | 1 => ("NumberHouse$Writer", "mill", "LNumberHouse$Mill;", true)
  | _ => ("NumberHouse$Writer", "digits", "LNumberHouse$Digits;", true)
def t_Wri : Nat → FieldType := fun k => match k with
  | 0 => .object "NumberHouse$Sheet"
  | 1 => .object "NumberHouse$Mill"
  | _ => .object "NumberHouse$Digits"
theorem n_Wri : ∀ a, a < 3 → ∀ b, b < 3 → a ≠ b → (F_Wri a).2.1 ≠ (F_Wri b).2.1 := by decide +kernel
theorem o_Wri : ∀ k, k < 3 → parseFieldDescriptor (F_Wri k).2.2.1 = some (t_Wri k) := by decide +kernel
theorem i_Wri : ∀ w ∈ u_ws R_Wri F_Wri 3, w ∈ q_tbl := by decide +kernel
def R_Dir : String := "NumberHouse$Directive"
def F_Dir : u_T := fun k => match k with
  | 0 => ("NumberHouse$Directive", "index", "I", false)
  | 1 => ("NumberHouse$Directive", "flags", "I", false)
  | 2 => ("NumberHouse$Directive", "width", "I", false)
  | 3 => ("NumberHouse$Directive", "precision", "I", false)
  | 4 => ("NumberHouse$Directive", "conversion", "I", false)
  | 5 => ("NumberHouse$Directive", "place", "I", false)
  | 6 => ("NumberHouse$Directive", "text", "LNumberHouse$Sheet;", true)
  | _ => ("NumberHouse$Directive", "twice", "Z", false)
def t_Dir : Nat → FieldType := fun k => match k with
  | 0 => .int
  | 1 => .int
  | 2 => .int
  | 3 => .int
  | 4 => .int
  | 5 => .int
  | 6 => .object "NumberHouse$Sheet"
  | _ => .boolean
theorem n_Dir : ∀ a, a < 8 → ∀ b, b < 8 → a ≠ b → (F_Dir a).2.1 ≠ (F_Dir b).2.1 := by decide +kernel
theorem o_Dir : ∀ k, k < 8 → parseFieldDescriptor (F_Dir k).2.2.1 = some (t_Dir k) := by decide +kernel
theorem i_Dir : ∀ w ∈ u_ws R_Dir F_Dir 8, w ∈ q_tbl := by decide +kernel
def R_Pri : String := "NumberHouse$Printer"
def F_Pri : u_T := fun k => match k with
  | 0 => ("NumberHouse$Printer", "count", "I", false)
  | 1 => ("NumberHouse$Printer", "kinds", "[I", true)
  | 2 => ("NumberHouse$Printer", "numbers", "[J", true)
  | 3 => ("NumberHouse$Printer", "scales", "[I", true)
  | 4 => ("NumberHouse$Printer", "texts", "[LNumberHouse$Sheet;", true)
  | 5 => ("NumberHouse$Printer", "tape", "LNumberHouse$Sheet;", true)
  | 6 => ("NumberHouse$Printer", "directive", "LNumberHouse$Directive;", true)
  | 7 => ("NumberHouse$Printer", "digits", "LNumberHouse$Digits;", true)
  | 8 => ("NumberHouse$Printer", "body", "LNumberHouse$Sheet;", true)
  | 9 => ("NumberHouse$Printer", "zerosAt", "I", false)
  | 10 => ("NumberHouse$Printer", "ordinary", "I", false)
  | _ => ("NumberHouse$Printer", "last", "I", false)
def t_Pri : Nat → FieldType := fun k => match k with
  | 0 => .int
  | 1 => .array .int
  | 2 => .array .long
  | 3 => .array .int
  | 4 => .array (.object "NumberHouse$Sheet")
  | 5 => .object "NumberHouse$Sheet"
  | 6 => .object "NumberHouse$Directive"
  | 7 => .object "NumberHouse$Digits"
  | 8 => .object "NumberHouse$Sheet"
  | 9 => .int
  | 10 => .int
  | _ => .int
theorem n_Pri : ∀ a, a < 12 → ∀ b, b < 12 → a ≠ b → (F_Pri a).2.1 ≠ (F_Pri b).2.1 := by decide +kernel
theorem o_Pri : ∀ k, k < 12 → parseFieldDescriptor (F_Pri k).2.2.1 = some (t_Pri k) := by decide +kernel
theorem i_Pri : ∀ w ∈ u_ws R_Pri F_Pri 12, w ∈ q_tbl := by decide +kernel
def R_NM : String := "NumberHouseModel"
def F_NM : u_T := fun k => match k with
  | 0 => ("NumberHouseModel", "thrown", "I", false)
  | 1 => ("NumberHouseModel", "tape", "[I", true)
  | 2 => ("NumberHouseModel", "length", "I", false)
  | 3 => ("NumberHouseModel", "paper", "[I", true)
  | 4 => ("NumberHouseModel", "printed", "I", false)
  | 5 => ("NumberHouseModel", "wholes", "LNumberHouseModel$WholeRows;", true)
  | 6 => ("NumberHouseModel", "decimals", "LNumberHouseModel$DecimalRows;", true)
  | 7 => ("NumberHouseModel", "floats", "LNumberHouseModel$FloatRows;", true)
  | 8 => ("NumberHouseModel", "texts", "LNumberHouseModel$TextRows;", true)
  | 9 => ("NumberHouseModel", "directives", "LNumberHouseModel$DirectiveRows;", true)
  | 10 => ("NumberHouseModel", "bits", "[J", true)
  | _ => ("NumberHouseModel", "value", "[J", true)
def t_NM : Nat → FieldType := fun k => match k with
  | 0 => .int
  | 1 => .array .int
  | 2 => .int
  | 3 => .array .int
  | 4 => .int
  | 5 => .object "NumberHouseModel$WholeRows"
  | 6 => .object "NumberHouseModel$DecimalRows"
  | 7 => .object "NumberHouseModel$FloatRows"
  | 8 => .object "NumberHouseModel$TextRows"
  | 9 => .object "NumberHouseModel$DirectiveRows"
  | 10 => .array .long
  | _ => .array .long
theorem n_NM : ∀ a, a < 12 → ∀ b, b < 12 → a ≠ b → (F_NM a).2.1 ≠ (F_NM b).2.1 := by decide +kernel
theorem o_NM : ∀ k, k < 12 → parseFieldDescriptor (F_NM k).2.2.1 = some (t_NM k) := by decide +kernel
theorem i_NM : ∀ w ∈ u_ws R_NM F_NM 12, w ∈ q_tbl := by decide +kernel
def R_WR : String := "NumberHouseModel$WholeRows"
def F_WR : u_T := fun k => match k with
  | 0 => ("NumberHouseModel$WholeRows", "thrown", "I", false)
  | 1 => ("NumberHouseModel$WholeRows", "fault", "I", false)
  | 2 => ("NumberHouseModel$WholeRows", "draft", "[I", true)
  | 3 => ("NumberHouseModel$WholeRows", "length", "I", false)
  | 4 => ("NumberHouseModel$WholeRows", "kept", "[I", true)
  | 5 => ("NumberHouseModel$WholeRows", "minus", "[Z", true)
  | 6 => ("NumberHouseModel$WholeRows", "row", "[I", true)
  | 7 => ("NumberHouseModel$WholeRows", "below", "Z", false)
  | 8 => ("NumberHouseModel$WholeRows", "other", "[I", true)
  | 9 => ("NumberHouseModel$WholeRows", "product", "[I", true)
  | 10 => ("NumberHouseModel$WholeRows", "rest", "[I", true)
  | 11 => ("NumberHouseModel$WholeRows", "quotient", "[I", true)
  | 12 => ("NumberHouseModel$WholeRows", "one", "[I", true)
  | 13 => ("NumberHouseModel$WholeRows", "two", "[I", true)
  | 14 => ("NumberHouseModel$WholeRows", "first", "[I", true)
  | 15 => ("NumberHouseModel$WholeRows", "second", "[I", true)
  | 16 => ("NumberHouseModel$WholeRows", "firstBelow", "Z", false)
  | 17 => ("NumberHouseModel$WholeRows", "secondBelow", "Z", false)
  | 18 => ("NumberHouseModel$WholeRows", "modulus", "[I", true)
  | 19 => ("NumberHouseModel$WholeRows", "paper", "[I", true)
  | _ => ("NumberHouseModel$WholeRows", "printed", "I", false)
def t_WR : Nat → FieldType := fun k => match k with
  | 0 => .int
  | 1 => .int
  | 2 => .array .int
  | 3 => .int
  | 4 => .array .int
  | 5 => .array .boolean
  | 6 => .array .int
  | 7 => .boolean
  | 8 => .array .int
  | 9 => .array .int
  | 10 => .array .int
  | 11 => .array .int
  | 12 => .array .int
  | 13 => .array .int
  | 14 => .array .int
  | 15 => .array .int
  | 16 => .boolean
  | 17 => .boolean
  | 18 => .array .int
  | 19 => .array .int
  | _ => .int
theorem n_WR : ∀ a, a < 21 → ∀ b, b < 21 → a ≠ b → (F_WR a).2.1 ≠ (F_WR b).2.1 := by decide +kernel
theorem o_WR : ∀ k, k < 21 → parseFieldDescriptor (F_WR k).2.2.1 = some (t_WR k) := by decide +kernel
theorem i_WR : ∀ w ∈ u_ws R_WR F_WR 21, w ∈ q_tbl := by decide +kernel
def R_DR : String := "NumberHouseModel$DecimalRows"
def F_DR : u_T := fun k => match k with
  | 0 => ("NumberHouseModel$DecimalRows", "thrown", "I", false)
  | 1 => ("NumberHouseModel$DecimalRows", "draft", "[I", true)
  | 2 => ("NumberHouseModel$DecimalRows", "length", "I", false)
  | 3 => ("NumberHouseModel$DecimalRows", "kept", "[I", true)
  | 4 => ("NumberHouseModel$DecimalRows", "many", "[I", true)
  | 5 => ("NumberHouseModel$DecimalRows", "minus", "[Z", true)
  | 6 => ("NumberHouseModel$DecimalRows", "scales", "[I", true)
  | 7 => ("NumberHouseModel$DecimalRows", "row", "[I", true)
  | 8 => ("NumberHouseModel$DecimalRows", "size", "I", false)
  | 9 => ("NumberHouseModel$DecimalRows", "scale", "J", false)
  | 10 => ("NumberHouseModel$DecimalRows", "more", "Z", false)
  | 11 => ("NumberHouseModel$DecimalRows", "below", "Z", false)
  | 12 => ("NumberHouseModel$DecimalRows", "top", "[I", true)
  | 13 => ("NumberHouseModel$DecimalRows", "topSize", "I", false)
  | 14 => ("NumberHouseModel$DecimalRows", "under", "[I", true)
  | 15 => ("NumberHouseModel$DecimalRows", "underSize", "I", false)
  | 16 => ("NumberHouseModel$DecimalRows", "left", "[I", true)
  | 17 => ("NumberHouseModel$DecimalRows", "leftSize", "I", false)
  | 18 => ("NumberHouseModel$DecimalRows", "paper", "[I", true)
  | 19 => ("NumberHouseModel$DecimalRows", "printed", "I", false)
  | _ => ("NumberHouseModel$DecimalRows", "fault", "I", false)
def t_DR : Nat → FieldType := fun k => match k with
  | 0 => .int
  | 1 => .array .int
  | 2 => .int
  | 3 => .array .int
  | 4 => .array .int
  | 5 => .array .boolean
  | 6 => .array .int
  | 7 => .array .int
  | 8 => .int
  | 9 => .long
  | 10 => .boolean
  | 11 => .boolean
  | 12 => .array .int
  | 13 => .int
  | 14 => .array .int
  | 15 => .int
  | 16 => .array .int
  | 17 => .int
  | 18 => .array .int
  | 19 => .int
  | _ => .int
theorem n_DR : ∀ a, a < 21 → ∀ b, b < 21 → a ≠ b → (F_DR a).2.1 ≠ (F_DR b).2.1 := by decide +kernel
theorem o_DR : ∀ k, k < 21 → parseFieldDescriptor (F_DR k).2.2.1 = some (t_DR k) := by decide +kernel
theorem i_DR : ∀ w ∈ u_ws R_DR F_DR 21, w ∈ q_tbl := by decide +kernel
def R_FR : String := "NumberHouseModel$FloatRows"
def F_FR : u_T := fun k => match k with
  | 0 => ("NumberHouseModel$FloatRows", "thrown", "I", false)
  | 1 => ("NumberHouseModel$FloatRows", "unit", "[I", true)
  | 2 => ("NumberHouseModel$FloatRows", "limbs", "[I", true)
  | 3 => ("NumberHouseModel$FloatRows", "value", "[I", true)
  | 4 => ("NumberHouseModel$FloatRows", "low", "[I", true)
  | 5 => ("NumberHouseModel$FloatRows", "high", "[I", true)
  | 6 => ("NumberHouseModel$FloatRows", "rounded", "[I", true)
  | 7 => ("NumberHouseModel$FloatRows", "paper", "[I", true)
  | 8 => ("NumberHouseModel$FloatRows", "length", "I", false)
  | 9 => ("NumberHouseModel$FloatRows", "negative", "Z", false)
  | 10 => ("NumberHouseModel$FloatRows", "exponent", "I", false)
  | 11 => ("NumberHouseModel$FloatRows", "fraction", "J", false)
  | 12 => ("NumberHouseModel$FloatRows", "fractionBits", "I", false)
  | 13 => ("NumberHouseModel$FloatRows", "most", "I", false)
  | 14 => ("NumberHouseModel$FloatRows", "size", "J", false)
  | 15 => ("NumberHouseModel$FloatRows", "twos", "I", false)
  | 16 => ("NumberHouseModel$FloatRows", "shortest", "J", false)
  | _ => ("NumberHouseModel$FloatRows", "lastPlace", "I", false)
def t_FR : Nat → FieldType := fun k => match k with
  | 0 => .int
  | 1 => .array .int
  | 2 => .array .int
  | 3 => .array .int
  | 4 => .array .int
  | 5 => .array .int
  | 6 => .array .int
  | 7 => .array .int
  | 8 => .int
  | 9 => .boolean
  | 10 => .int
  | 11 => .long
  | 12 => .int
  | 13 => .int
  | 14 => .long
  | 15 => .int
  | 16 => .long
  | _ => .int
theorem n_FR : ∀ a, a < 18 → ∀ b, b < 18 → a ≠ b → (F_FR a).2.1 ≠ (F_FR b).2.1 := by decide +kernel
theorem o_FR : ∀ k, k < 18 → parseFieldDescriptor (F_FR k).2.2.1 = some (t_FR k) := by decide +kernel
theorem i_FR : ∀ w ∈ u_ws R_FR F_FR 18, w ∈ q_tbl := by decide +kernel
def R_TR : String := "NumberHouseModel$TextRows"
def F_TR : u_T := fun k => match k with
  | 0 => ("NumberHouseModel$TextRows", "thrown", "I", false)
  | 1 => ("NumberHouseModel$TextRows", "text", "[I", true)
  | 2 => ("NumberHouseModel$TextRows", "length", "I", false)
  | 3 => ("NumberHouseModel$TextRows", "kind", "I", false)
  | 4 => ("NumberHouseModel$TextRows", "place", "I", false)
  | 5 => ("NumberHouseModel$TextRows", "below", "Z", false)
  | 6 => ("NumberHouseModel$TextRows", "figures", "[I", true)
  | 7 => ("NumberHouseModel$TextRows", "many", "I", false)
  | 8 => ("NumberHouseModel$TextRows", "point", "I", false)
  | 9 => ("NumberHouseModel$TextRows", "exponent", "J", false)
  | 10 => ("NumberHouseModel$TextRows", "words", "[I", true)
  | 11 => ("NumberHouseModel$TextRows", "from", "I", false)
  | 12 => ("NumberHouseModel$TextRows", "to", "I", false)
  | 13 => ("NumberHouseModel$TextRows", "whole", "J", false)
  | 14 => ("NumberHouseModel$TextRows", "scale", "J", false)
  | 15 => ("NumberHouseModel$TextRows", "rest", "I", false)
  | _ => ("NumberHouseModel$TextRows", "huge", "Z", false)
def t_TR : Nat → FieldType := fun k => match k with
  | 0 => .int
  | 1 => .array .int
  | 2 => .int
  | 3 => .int
  | 4 => .int
  | 5 => .boolean
  | 6 => .array .int
  | 7 => .int
  | 8 => .int
  | 9 => .long
  | 10 => .array .int
  | 11 => .int
  | 12 => .int
  | 13 => .long
  | 14 => .long
  | 15 => .int
  | _ => .boolean
theorem n_TR : ∀ a, a < 17 → ∀ b, b < 17 → a ≠ b → (F_TR a).2.1 ≠ (F_TR b).2.1 := by decide +kernel
theorem o_TR : ∀ k, k < 17 → parseFieldDescriptor (F_TR k).2.2.1 = some (t_TR k) := by decide +kernel
theorem i_TR : ∀ w ∈ u_ws R_TR F_TR 17, w ∈ q_tbl := by decide +kernel
def R_VR : String := "NumberHouseModel$DirectiveRows"
def F_VR : u_T := fun k => match k with
  | 0 => ("NumberHouseModel$DirectiveRows", "thrown", "I", false)
  | 1 => ("NumberHouseModel$DirectiveRows", "format", "[I", true)
  | 2 => ("NumberHouseModel$DirectiveRows", "length", "I", false)
  | 3 => ("NumberHouseModel$DirectiveRows", "arguments", "I", false)
  | 4 => ("NumberHouseModel$DirectiveRows", "kinds", "[I", true)
  | 5 => ("NumberHouseModel$DirectiveRows", "sizes", "[I", true)
  | 6 => ("NumberHouseModel$DirectiveRows", "values", "[J", true)
  | 7 => ("NumberHouseModel$DirectiveRows", "texts", "[I", true)
  | 8 => ("NumberHouseModel$DirectiveRows", "paper", "[I", true)
  | 9 => ("NumberHouseModel$DirectiveRows", "printed", "I", false)
  | 10 => ("NumberHouseModel$DirectiveRows", "draft", "[I", true)
  | 11 => ("NumberHouseModel$DirectiveRows", "drawn", "I", false)
  | 12 => ("NumberHouseModel$DirectiveRows", "fault", "I", false)
  | 13 => ("NumberHouseModel$DirectiveRows", "place", "I", false)
  | 14 => ("NumberHouseModel$DirectiveRows", "at", "I", false)
  | 15 => ("NumberHouseModel$DirectiveRows", "index", "I", false)
  | 16 => ("NumberHouseModel$DirectiveRows", "flags", "I", false)
  | 17 => ("NumberHouseModel$DirectiveRows", "twice", "Z", false)
  | 18 => ("NumberHouseModel$DirectiveRows", "width", "I", false)
  | 19 => ("NumberHouseModel$DirectiveRows", "precision", "I", false)
  | 20 => ("NumberHouseModel$DirectiveRows", "conversion", "I", false)
  | 21 => ("NumberHouseModel$DirectiveRows", "argument", "I", false)
  | 22 => ("NumberHouseModel$DirectiveRows", "next", "I", false)
  | 23 => ("NumberHouseModel$DirectiveRows", "latest", "I", false)
  | 24 => ("NumberHouseModel$DirectiveRows", "piece", "[I", true)
  | 25 => ("NumberHouseModel$DirectiveRows", "size", "I", false)
  | 26 => ("NumberHouseModel$DirectiveRows", "front", "I", false)
  | 27 => ("NumberHouseModel$DirectiveRows", "padded", "Z", false)
  | 28 => ("NumberHouseModel$DirectiveRows", "figures", "[I", true)
  | 29 => ("NumberHouseModel$DirectiveRows", "many", "I", false)
  | _ => ("NumberHouseModel$DirectiveRows", "point", "I", false)
def t_VR : Nat → FieldType := fun k => match k with
  | 0 => .int
  | 1 => .array .int
  | 2 => .int
  | 3 => .int
  | 4 => .array .int
  | 5 => .array .int
  | 6 => .array .long
  | 7 => .array .int
  | 8 => .array .int
  | 9 => .int
  | 10 => .array .int
  | 11 => .int
  | 12 => .int
  | 13 => .int
  | 14 => .int
  | 15 => .int
  | 16 => .int
  | 17 => .boolean
  | 18 => .int
  | 19 => .int
  | 20 => .int
  | 21 => .int
  | 22 => .int
  | 23 => .int
  | 24 => .array .int
  | 25 => .int
  | 26 => .int
  | 27 => .boolean
  | 28 => .array .int
  | 29 => .int
  | _ => .int
theorem n_VR : ∀ a, a < 31 → ∀ b, b < 31 → a ≠ b → (F_VR a).2.1 ≠ (F_VR b).2.1 := by decide +kernel
theorem o_VR : ∀ k, k < 31 → parseFieldDescriptor (F_VR k).2.2.1 = some (t_VR k) := by decide +kernel
theorem i_VR : ∀ w ∈ u_ws R_VR F_VR 31, w ∈ q_tbl := by decide +kernel
/-- the classes whose objects the worlds hold -/
abbrev q_cl : List vw_C := [(R_NH, F_NH, 14), (R_She, F_She, 3), (R_Big, F_Big, 3), (R_Dec, F_Dec, 3), (R_Mil, F_Mil, 10), (R_DW, F_DW, 4), (R_Flo, F_Flo, 7), (R_Dig, F_Dig, 3), (R_Rea, F_Rea, 12), (R_Wri, F_Wri, 3), (R_Dir, F_Dir, 8), (R_Pri, F_Pri, 12), (R_NM, F_NM, 12), (R_WR, F_WR, 21), (R_DR, F_DR, 21), (R_FR, F_FR, 18), (R_TR, F_TR, 17), (R_VR, F_VR, 31)]
/-- the array classes: int, long, byte, boolean, and the three of references -/
abbrev q_ty (g : Nat → ClassId) : List (ClassId × FieldType) := [(g 0, .int), (g 1, .long), (g 2, .byte), (g 3, .boolean), (g 4, .object "NumberHouse$Big"), (g 5, .object "NumberHouse$Dec"), (g 6, .object "NumberHouse$Sheet")]
