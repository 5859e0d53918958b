def wsG : List Cond := lw_tbl.filter goodWord
def R_RU : String := "SmallExhaust$Rule"
def R_TR : String := "SmallExhaust$Trail"
def R_MA : String := "SmallExhaust$Machine"
def R_WA : String := "SmallExhaust$Walk"
def R_GR : String := "SmallExhaust$Grouping"
def R_TE : String := "SmallExhaust$Telling"
def R_SE : String := "SmallExhaust"
def R_MO : String := "SmallExhaustModel"
def R_LW : String := "SmallExhaustLaw"
def R_AR : String := "java/util/Arrays"
def R_JM : String := "java/lang/Math"
def F_RU : u_T := fun k => match k with
  | 0 => ("SmallExhaust$Rule", "targets", "[I", true)
  | 1 => ("SmallExhaust$Rule", "ops", "[I", true)
  | 2 => ("SmallExhaust$Rule", "lefts", "[I", true)
  | 3 => ("SmallExhaust$Rule", "rights", "[I", true)
  | 4 => ("SmallExhaust$Rule", "transfers", "I", false)
  | _ => ("SmallExhaust$Rule", "moves", "[I", false)
def t_RU : Nat → FieldType := fun k => match k with
  | 0 => .array (.int)
  | 1 => .array (.int)
  | 2 => .array (.int)
  | 3 => .array (.int)
  | 4 => .int
  | _ => .array (.int)
abbrev w_RU : List Cond := u_ws R_RU F_RU 6
def F_TR : u_T := fun k => match k with
  | _ => ("SmallExhaust$Trail", "back", "[I", false)
def t_TR : Nat → FieldType := fun k => match k with
  | _ => .array (.int)
abbrev w_TR : List Cond := u_ws R_TR F_TR 1
def F_MA : u_T := fun k => match k with
  | 0 => ("SmallExhaust$Machine", "shifts", "[I", true)
  | 1 => ("SmallExhaust$Machine", "masks", "[I", true)
  | 2 => ("SmallExhaust$Machine", "rules", "[LSmallExhaust$Rule;", true)
  | 3 => ("SmallExhaust$Machine", "registers", "I", false)
  | 4 => ("SmallExhaust$Machine", "bits", "I", false)
  | 5 => ("SmallExhaust$Machine", "inputs", "I", false)
  | _ => ("SmallExhaust$Machine", "transfers", "I", false)
def t_MA : Nat → FieldType := fun k => match k with
  | 0 => .array (.int)
  | 1 => .array (.int)
  | 2 => .array (.object "SmallExhaust$Rule")
  | 3 => .int
  | 4 => .int
  | 5 => .int
  | _ => .int
abbrev w_MA : List Cond := u_ws R_MA F_MA 7
def F_WA : u_T := fun k => match k with
  | 0 => ("SmallExhaust$Walk", "ways", "LSmallExhaust$Trail;", true)
  | 1 => ("SmallExhaust$Walk", "order", "[I", false)
  | 2 => ("SmallExhaust$Walk", "numberOf", "[I", false)
  | 3 => ("SmallExhaust$Walk", "size", "I", false)
  | 4 => ("SmallExhaust$Walk", "stands", "Z", false)
  | 5 => ("SmallExhaust$Walk", "fits", "Z", false)
  | 6 => ("SmallExhaust$Walk", "joined", "I", false)
  | 7 => ("SmallExhaust$Walk", "resting", "I", false)
  | _ => ("SmallExhaust$Walk", "entered", "[I", false)
def t_WA : Nat → FieldType := fun k => match k with
  | 0 => .object "SmallExhaust$Trail"
  | 1 => .array (.int)
  | 2 => .array (.int)
  | 3 => .int
  | 4 => .boolean
  | 5 => .boolean
  | 6 => .int
  | 7 => .int
  | _ => .array (.int)
abbrev w_WA : List Cond := u_ws R_WA F_WA 9
def F_GR : u_T := fun k => match k with
  | 0 => ("SmallExhaust$Grouping", "groupOf", "[I", false)
  | 1 => ("SmallExhaust$Grouping", "lowest", "[I", false)
  | 2 => ("SmallExhaust$Grouping", "groups", "I", false)
  | 3 => ("SmallExhaust$Grouping", "stands", "Z", false)
  | 4 => ("SmallExhaust$Grouping", "keys", "[J", false)
  | 5 => ("SmallExhaust$Grouping", "slots", "[I", false)
  | _ => ("SmallExhaust$Grouping", "lastSlot", "I", false)
def t_GR : Nat → FieldType := fun k => match k with
  | 0 => .array (.int)
  | 1 => .array (.int)
  | 2 => .int
  | 3 => .boolean
  | 4 => .array (.long)
  | 5 => .array (.int)
  | _ => .int
abbrev w_GR : List Cond := u_ws R_GR F_GR 7
def F_TE : u_T := fun k => match k with
  | 0 => ("SmallExhaust$Telling", "stands", "Z", false)
  | 1 => ("SmallExhaust$Telling", "apart", "Z", false)
  | 2 => ("SmallExhaust$Telling", "words", "LSmallExhaust$Trail;", true)
  | 3 => ("SmallExhaust$Telling", "lefts", "[I", false)
  | 4 => ("SmallExhaust$Telling", "rights", "[I", false)
  | 5 => ("SmallExhaust$Telling", "joinedTo", "[I", false)
  | 6 => ("SmallExhaust$Telling", "left", "I", false)
  | 7 => ("SmallExhaust$Telling", "right", "I", false)
  | _ => ("SmallExhaust$Telling", "size", "I", false)
def t_TE : Nat → FieldType := fun k => match k with
  | 0 => .boolean
  | 1 => .boolean
  | 2 => .object "SmallExhaust$Trail"
  | 3 => .array (.int)
  | 4 => .array (.int)
  | 5 => .array (.int)
  | 6 => .int
  | 7 => .int
  | _ => .int
abbrev w_TE : List Cond := u_ws R_TE F_TE 9
def F_SE : u_T := fun k => match k with
  | 0 => ("SmallExhaust", "machine", "LSmallExhaust$Machine;", true)
  | 1 => ("SmallExhaust", "walk", "LSmallExhaust$Walk;", true)
  | 2 => ("SmallExhaust", "grouping", "LSmallExhaust$Grouping;", true)
  | 3 => ("SmallExhaust", "telling", "LSmallExhaust$Telling;", true)
  | 4 => ("SmallExhaust", "room", "I", true)
  | _ => ("SmallExhaust", "firstState", "I", false)
def t_SE : Nat → FieldType := fun k => match k with
  | 0 => .object "SmallExhaust$Machine"
  | 1 => .object "SmallExhaust$Walk"
  | 2 => .object "SmallExhaust$Grouping"
  | 3 => .object "SmallExhaust$Telling"
  | 4 => .int
  | _ => .int
abbrev w_SE : List Cond := u_ws R_SE F_SE 6
def F_MO : u_T := fun k => match k with
  | 0 => ("SmallExhaustModel", "thrown", "I", false)
  | 1 => ("SmallExhaustModel", "room", "I", true)
  | 2 => ("SmallExhaustModel", "registers", "I", false)
  | 3 => ("SmallExhaustModel", "bits", "I", false)
  | 4 => ("SmallExhaustModel", "inputs", "I", false)
  | 5 => ("SmallExhaustModel", "first", "I", false)
  | 6 => ("SmallExhaustModel", "width", "[I", true)
  | 7 => ("SmallExhaustModel", "shift", "[I", true)
  | 8 => ("SmallExhaustModel", "outOp", "[I", true)
  | 9 => ("SmallExhaustModel", "outA", "[I", true)
  | 10 => ("SmallExhaustModel", "outB", "[I", true)
  | 11 => ("SmallExhaustModel", "transfers", "[I", true)
  | 12 => ("SmallExhaustModel", "to", "[I", true)
  | 13 => ("SmallExhaustModel", "op", "[I", true)
  | 14 => ("SmallExhaustModel", "opA", "[I", true)
  | 15 => ("SmallExhaustModel", "opB", "[I", true)
  | 16 => ("SmallExhaustModel", "isFresh", "Z", false)
  | 17 => ("SmallExhaustModel", "next", "[I", true)
  | 18 => ("SmallExhaustModel", "gives", "[I", true)
  | 19 => ("SmallExhaustModel", "isRoom", "Z", false)
  | 20 => ("SmallExhaustModel", "walked", "I", false)
  | 21 => ("SmallExhaustModel", "state", "[I", true)
  | 22 => ("SmallExhaustModel", "from", "[I", true)
  | 23 => ("SmallExhaustModel", "by", "[I", true)
  | 24 => ("SmallExhaustModel", "depth", "[I", true)
  | 25 => ("SmallExhaustModel", "number", "[I", true)
  | 26 => ("SmallExhaustModel", "parts", "I", false)
  | 27 => ("SmallExhaustModel", "nodes", "I", false)
  | 28 => ("SmallExhaustModel", "part", "[I", true)
  | 29 => ("SmallExhaustModel", "newPart", "[I", true)
  | 30 => ("SmallExhaustModel", "node", "[I", true)
  | 31 => ("SmallExhaustModel", "newNode", "[I", true)
  | 32 => ("SmallExhaustModel", "parent", "[I", true)
  | 33 => ("SmallExhaustModel", "born", "[I", true)
  | 34 => ("SmallExhaustModel", "one", "[I", true)
  | 35 => ("SmallExhaustModel", "pieces", "[I", true)
  | 36 => ("SmallExhaustModel", "chain", "[I", true)
  | 37 => ("SmallExhaustModel", "behind", "[I", true)
  | 38 => ("SmallExhaustModel", "classes", "I", false)
  | 39 => ("SmallExhaustModel", "classOf", "[I", true)
  | _ => ("SmallExhaustModel", "classState", "[I", true)
def t_MO : Nat → FieldType := fun k => match k with
  | 0 => .int
  | 1 => .int
  | 2 => .int
  | 3 => .int
  | 4 => .int
  | 5 => .int
  | 6 => .array (.int)
  | 7 => .array (.int)
  | 8 => .array (.int)
  | 9 => .array (.int)
  | 10 => .array (.int)
  | 11 => .array (.int)
  | 12 => .array (.int)
  | 13 => .array (.int)
  | 14 => .array (.int)
  | 15 => .array (.int)
  | 16 => .boolean
  | 17 => .array (.int)
  | 18 => .array (.int)
  | 19 => .boolean
  | 20 => .int
  | 21 => .array (.int)
  | 22 => .array (.int)
  | 23 => .array (.int)
  | 24 => .array (.int)
  | 25 => .array (.int)
  | 26 => .int
  | 27 => .int
  | 28 => .array (.int)
  | 29 => .array (.int)
  | 30 => .array (.int)
  | 31 => .array (.int)
  | 32 => .array (.int)
  | 33 => .array (.int)
  | 34 => .array (.int)
  | 35 => .array (.int)
  | 36 => .array (.int)
  | 37 => .array (.int)
  | 38 => .int
  | 39 => .array (.int)
  | _ => .array (.int)
abbrev w_MO : List Cond := u_ws R_MO F_MO 41
abbrev vwCl : List vw_C := [(R_RU, F_RU, 6), (R_TR, F_TR, 1), (R_MA, F_MA, 7), (R_WA, F_WA, 9), (R_GR, F_GR, 7), (R_TE, F_TE, 9), (R_SE, F_SE, 6), (R_MO, F_MO, 41)]
theorem n_RU : ∀ a, a < 6 → ∀ b, b < 6 → a ≠ b → (F_RU a).2.1 ≠ (F_RU b).2.1 := by decide +kernel
theorem t_RU_ok : ∀ k, k < 6 → parseFieldDescriptor (F_RU k).2.2.1 = some (t_RU k) := by decide +kernel
theorem i_RU : ∀ w ∈ w_RU, w ∈ wsG := by decide +kernel
theorem n_TR : ∀ a, a < 1 → ∀ b, b < 1 → a ≠ b → (F_TR a).2.1 ≠ (F_TR b).2.1 := by decide +kernel
theorem t_TR_ok : ∀ k, k < 1 → parseFieldDescriptor (F_TR k).2.2.1 = some (t_TR k) := by decide +kernel
theorem i_TR : ∀ w ∈ w_TR, w ∈ wsG := by decide +kernel
theorem n_MA : ∀ a, a < 7 → ∀ b, b < 7 → a ≠ b → (F_MA a).2.1 ≠ (F_MA b).2.1 := by decide +kernel
theorem t_MA_ok : ∀ k, k < 7 → parseFieldDescriptor (F_MA k).2.2.1 = some (t_MA k) := by decide +kernel
theorem i_MA : ∀ w ∈ w_MA, w ∈ wsG := by decide +kernel
theorem n_WA : ∀ a, a < 9 → ∀ b, b < 9 → a ≠ b → (F_WA a).2.1 ≠ (F_WA b).2.1 := by decide +kernel
theorem t_WA_ok : ∀ k, k < 9 → parseFieldDescriptor (F_WA k).2.2.1 = some (t_WA k) := by decide +kernel
theorem i_WA : ∀ w ∈ w_WA, w ∈ wsG := by decide +kernel
theorem n_GR : ∀ a, a < 7 → ∀ b, b < 7 → a ≠ b → (F_GR a).2.1 ≠ (F_GR b).2.1 := by decide +kernel
theorem t_GR_ok : ∀ k, k < 7 → parseFieldDescriptor (F_GR k).2.2.1 = some (t_GR k) := by decide +kernel
theorem i_GR : ∀ w ∈ w_GR, w ∈ wsG := by decide +kernel
theorem n_TE : ∀ a, a < 9 → ∀ b, b < 9 → a ≠ b → (F_TE a).2.1 ≠ (F_TE b).2.1 := by decide +kernel
theorem t_TE_ok : ∀ k, k < 9 → parseFieldDescriptor (F_TE k).2.2.1 = some (t_TE k) := by decide +kernel
theorem i_TE : ∀ w ∈ w_TE, w ∈ wsG := by decide +kernel
theorem n_SE : ∀ a, a < 6 → ∀ b, b < 6 → a ≠ b → (F_SE a).2.1 ≠ (F_SE b).2.1 := by decide +kernel
theorem t_SE_ok : ∀ k, k < 6 → parseFieldDescriptor (F_SE k).2.2.1 = some (t_SE k) := by decide +kernel
theorem i_SE : ∀ w ∈ w_SE, w ∈ wsG := by decide +kernel
theorem n_MO : ∀ a, a < 41 → ∀ b, b < 41 → a ≠ b → (F_MO a).2.1 ≠ (F_MO b).2.1 := by decide +kernel
theorem t_MO_ok : ∀ k, k < 41 → parseFieldDescriptor (F_MO k).2.2.1 = some (t_MO k) := by decide +kernel
theorem i_MO : ∀ w ∈ w_MO, w ∈ wsG := by decide +kernel
