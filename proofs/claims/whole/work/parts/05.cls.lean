def R_P : String := "PartShelves"
def F_P : u_T := fun k => match k with
  | 0 => ("PartShelves", "prices", "LPartShelves$PriceRows;", true)
  | 1 => ("PartShelves", "fitting", "[Z", true)
  | 2 => ("PartShelves", "parts", "Ljava/util/ArrayList;", true)
  | 3 => ("PartShelves", "asks", "Ljava/util/ArrayList;", true)
  | 4 => ("PartShelves", "jobs", "Ljava/util/ArrayList;", true)
  | 5 => ("PartShelves", "matching", "LPartShelves$Matching;", true)
  | 6 => ("PartShelves", "repairPlan", "LPartShelves$RepairPlan;", true)
  | 7 => ("PartShelves", "warrantyDays", "[I", true)
  | 8 => ("PartShelves", "toldAsSold", "[I", true)
  | 9 => ("PartShelves", "toldCount", "I", false)
  | 10 => ("PartShelves", "borrowers", "[I", true)
  | 11 => ("PartShelves", "lentUpTo", "[I", true)
  | _ => ("PartShelves", "currentDay", "I", false)
def t_P : Nat → FieldType := fun k => match k with
  | 0 => .object "PartShelves$PriceRows"
  | 1 => .array .boolean
  | 2 => .object "java/util/ArrayList"
  | 3 => .object "java/util/ArrayList"
  | 4 => .object "java/util/ArrayList"
  | 5 => .object "PartShelves$Matching"
  | 6 => .object "PartShelves$RepairPlan"
  | 7 => .array .int
  | 8 => .array .int
  | 9 => .int
  | 10 => .array .int
  | 11 => .array .int
  | _ => .int
theorem n_P : ∀ a, a < 13 → ∀ b, b < 13 → a ≠ b → (F_P a).2.1 ≠ (F_P b).2.1 := by decide +kernel
theorem t_P_ok : ∀ k, k < 13 → parseFieldDescriptor (F_P k).2.2.1 = some (t_P k) := by decide +kernel
def R_A : String := "PartShelves$Ask"
def F_A : u_T := fun k => match k with
  | 0 => ("PartShelves$Ask", "number", "I", true)
  | 1 => ("PartShelves$Ask", "product", "I", true)
  | 2 => ("PartShelves$Ask", "cents", "J", true)
  | 3 => ("PartShelves$Ask", "minute", "J", true)
  | _ => ("PartShelves$Ask", "open", "Z", false)
def t_A : Nat → FieldType := fun k => match k with
  | 0 => .int
  | 1 => .int
  | 2 => .long
  | 3 => .long
  | _ => .boolean
theorem n_A : ∀ a, a < 5 → ∀ b, b < 5 → a ≠ b → (F_A a).2.1 ≠ (F_A b).2.1 := by decide +kernel
theorem t_A_ok : ∀ k, k < 5 → parseFieldDescriptor (F_A k).2.2.1 = some (t_A k) := by decide +kernel
def R_J : String := "PartShelves$Job"
def F_J : u_T := fun k => match k with
  | _ => ("PartShelves$Job", "needs", "[I", true)
def t_J : Nat → FieldType := fun k => match k with
  | _ => .array .int
theorem n_J : ∀ a, a < 1 → ∀ b, b < 1 → a ≠ b → (F_J a).2.1 ≠ (F_J b).2.1 := by decide +kernel
theorem t_J_ok : ∀ k, k < 1 → parseFieldDescriptor (F_J k).2.2.1 = some (t_J k) := by decide +kernel
def R_M : String := "PartShelves$Matching"
def F_M : u_T := fun k => match k with
  | 0 => ("PartShelves$Matching", "shares", "[J", true)
  | 1 => ("PartShelves$Matching", "best", "[J", true)
  | 2 => ("PartShelves$Matching", "optionBits", "[I", true)
  | 3 => ("PartShelves$Matching", "optionShares", "[J", true)
  | 4 => ("PartShelves$Matching", "optionCount", "I", false)
  | 5 => ("PartShelves$Matching", "askByRank", "[I", true)
  | 6 => ("PartShelves$Matching", "given", "[I", true)
  | 7 => ("PartShelves$Matching", "partGains", "[J", true)
  | 8 => ("PartShelves$Matching", "askGains", "[J", true)
  | 9 => ("PartShelves$Matching", "partCount", "I", false)
  | 10 => ("PartShelves$Matching", "askCount", "I", false)
  | 11 => ("PartShelves$Matching", "pairCount", "I", false)
  | _ => ("PartShelves$Matching", "total", "J", false)
def t_M : Nat → FieldType := fun k => match k with
  | 0 => .array .long
  | 1 => .array .long
  | 2 => .array .int
  | 3 => .array .long
  | 4 => .int
  | 5 => .array .int
  | 6 => .array .int
  | 7 => .array .long
  | 8 => .array .long
  | 9 => .int
  | 10 => .int
  | 11 => .int
  | _ => .long
theorem n_M : ∀ a, a < 13 → ∀ b, b < 13 → a ≠ b → (F_M a).2.1 ≠ (F_M b).2.1 := by decide +kernel
theorem t_M_ok : ∀ k, k < 13 → parseFieldDescriptor (F_M k).2.2.1 = some (t_M k) := by decide +kernel
def R_Q : String := "PartShelves$Part"
def F_Q : u_T := fun k => match k with
  | 0 => ("PartShelves$Part", "kind", "I", true)
  | 1 => ("PartShelves$Part", "age", "I", true)
  | 2 => ("PartShelves$Part", "serial", "J", true)
  | 3 => ("PartShelves$Part", "state", "I", false)
  | 4 => ("PartShelves$Part", "day", "I", false)
  | 5 => ("PartShelves$Part", "holder", "I", false)
  | _ => ("PartShelves$Part", "person", "I", false)
def t_Q : Nat → FieldType := fun k => match k with
  | 0 => .int
  | 1 => .int
  | 2 => .long
  | 3 => .int
  | 4 => .int
  | 5 => .int
  | _ => .int
theorem n_Q : ∀ a, a < 7 → ∀ b, b < 7 → a ≠ b → (F_Q a).2.1 ≠ (F_Q b).2.1 := by decide +kernel
theorem t_Q_ok : ∀ k, k < 7 → parseFieldDescriptor (F_Q k).2.2.1 = some (t_Q k) := by decide +kernel
def R_R : String := "PartShelves$PriceRows"
def F_R : u_T := fun k => match k with
  | 0 => ("PartShelves$PriceRows", "ages", "[I", true)
  | 1 => ("PartShelves$PriceRows", "cents", "[J", true)
  | _ => ("PartShelves$PriceRows", "count", "I", false)
def t_R : Nat → FieldType := fun k => match k with
  | 0 => .array .int
  | 1 => .array .long
  | _ => .int
theorem n_R : ∀ a, a < 3 → ∀ b, b < 3 → a ≠ b → (F_R a).2.1 ≠ (F_R b).2.1 := by decide +kernel
theorem t_R_ok : ∀ k, k < 3 → parseFieldDescriptor (F_R k).2.2.1 = some (t_R k) := by decide +kernel
def R_N : String := "PartShelves$RepairPlan"
def F_N : u_T := fun k => match k with
  | 0 => ("PartShelves$RepairPlan", "freePrices", "[[J", true)
  | 1 => ("PartShelves$RepairPlan", "freeCounts", "[I", true)
  | 2 => ("PartShelves$RepairPlan", "total", "J", false)
  | _ => ("PartShelves$RepairPlan", "chosen", "I", false)
def t_N : Nat → FieldType := fun k => match k with
  | 0 => .array (.array .long)
  | 1 => .array .int
  | 2 => .long
  | _ => .int
theorem n_N : ∀ a, a < 4 → ∀ b, b < 4 → a ≠ b → (F_N a).2.1 ≠ (F_N b).2.1 := by decide +kernel
theorem t_N_ok : ∀ k, k < 4 → parseFieldDescriptor (F_N k).2.2.1 = some (t_N k) := by decide +kernel
def R_O : String := "PartShelvesModel"
def F_O : u_T := fun k => match k with
  | 0 => ("PartShelvesModel", "today", "I", false)
  | 1 => ("PartShelvesModel", "rows", "I", false)
  | 2 => ("PartShelvesModel", "rowAges", "[I", true)
  | 3 => ("PartShelvesModel", "rowCents", "[J", true)
  | 4 => ("PartShelvesModel", "fits", "[Z", true)
  | 5 => ("PartShelvesModel", "parts", "I", false)
  | 6 => ("PartShelvesModel", "kinds", "[I", true)
  | 7 => ("PartShelvesModel", "ages", "[I", true)
  | 8 => ("PartShelvesModel", "serials", "[J", true)
  | 9 => ("PartShelvesModel", "states", "[I", true)
  | 10 => ("PartShelvesModel", "whose", "[I", true)
  | 11 => ("PartShelvesModel", "days", "[I", true)
  | 12 => ("PartShelvesModel", "asks", "I", false)
  | 13 => ("PartShelvesModel", "products", "[I", true)
  | 14 => ("PartShelvesModel", "cents", "[J", true)
  | 15 => ("PartShelvesModel", "minutes", "[J", true)
  | 16 => ("PartShelvesModel", "served", "[Z", true)
  | 17 => ("PartShelvesModel", "jobs", "I", false)
  | 18 => ("PartShelvesModel", "needed", "[I", true)
  | 19 => ("PartShelvesModel", "warranties", "[I", true)
  | 20 => ("PartShelvesModel", "tellCount", "I", false)
  | 21 => ("PartShelvesModel", "tells", "[I", true)
  | 22 => ("PartShelvesModel", "lent", "[Z", true)
  | 23 => ("PartShelvesModel", "lentTo", "[I", true)
  | 24 => ("PartShelvesModel", "lentDay", "[I", true)
  | 25 => ("PartShelvesModel", "isMatched", "Z", false)
  | 26 => ("PartShelvesModel", "foundWorth", "J", false)
  | 27 => ("PartShelvesModel", "given", "[I", true)
  | 28 => ("PartShelvesModel", "gainParts", "I", false)
  | 29 => ("PartShelvesModel", "gainAsks", "I", false)
  | 30 => ("PartShelvesModel", "gains", "[J", true)
  | 31 => ("PartShelvesModel", "isPlanned", "Z", false)
  | 32 => ("PartShelvesModel", "foundCost", "J", false)
  | 33 => ("PartShelvesModel", "foundJobs", "I", false)
  | 34 => ("PartShelvesModel", "order", "[I", true)
  | _ => ("PartShelvesModel", "brings", "[J", true)
def t_O : Nat → FieldType := fun k => match k with
  | 0 => .int
  | 1 => .int
  | 2 => .array .int
  | 3 => .array .long
  | 4 => .array .boolean
  | 5 => .int
  | 6 => .array .int
  | 7 => .array .int
  | 8 => .array .long
  | 9 => .array .int
  | 10 => .array .int
  | 11 => .array .int
  | 12 => .int
  | 13 => .array .int
  | 14 => .array .long
  | 15 => .array .long
  | 16 => .array .boolean
  | 17 => .int
  | 18 => .array .int
  | 19 => .array .int
  | 20 => .int
  | 21 => .array .int
  | 22 => .array .boolean
  | 23 => .array .int
  | 24 => .array .int
  | 25 => .boolean
  | 26 => .long
  | 27 => .array .int
  | 28 => .int
  | 29 => .int
  | 30 => .array .long
  | 31 => .boolean
  | 32 => .long
  | 33 => .int
  | 34 => .array .int
  | _ => .array .long
theorem n_O : ∀ a, a < 36 → ∀ b, b < 36 → a ≠ b → (F_O a).2.1 ≠ (F_O b).2.1 := by decide +kernel
theorem t_O_ok : ∀ k, k < 36 → parseFieldDescriptor (F_O k).2.2.1 = some (t_O k) := by decide +kernel
def R_L : String := "java/util/ArrayList"
def F_L : u_T := fun k => match k with
  | 0 => ("java/util/AbstractList", "modCount", "I", false)
  | 1 => ("java/util/ArrayList", "elementData", "[Ljava/lang/Object;", false)
  | _ => ("java/util/ArrayList", "size", "I", false)
def t_L : Nat → FieldType := fun k => match k with
  | 0 => .int
  | 1 => .array (.object "java/lang/Object")
  | _ => .int
theorem n_L : ∀ a, a < 3 → ∀ b, b < 3 → a ≠ b → (F_L a).2.1 ≠ (F_L b).2.1 := by decide +kernel
theorem t_L_ok : ∀ k, k < 3 → parseFieldDescriptor (F_L k).2.2.1 = some (t_L k) := by decide +kernel
abbrev cls : List vw_C := [(R_P, F_P, 13), (R_A, F_A, 5), (R_J, F_J, 1), (R_M, F_M, 13), (R_Q, F_Q, 7), (R_R, F_R, 3), (R_N, F_N, 4), (R_O, F_O, 36), (R_L, F_L, 3)]
/-- the array classes that the worlds hold, by numbers: int, long, boolean, Object, long[] -/
abbrev tyL (kC : Nat → ClassId) : List (ClassId × FieldType) := [(kC 0, .int), (kC 1, .long), (kC 2, .boolean), (kC 3, .object "java/lang/Object"), (kC 4, .array .long)]
