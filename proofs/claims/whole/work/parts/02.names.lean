/-- the words that stay good at every call -/
def lw_gd : List Cond := lw_tbl.filter goodWord
theorem gd {w : Cond} (i : Nat) (h : lw_tbl[i]? = some w) (hg : goodWord w = true) : w ∈ lw_gd := List.mem_filter.mpr ⟨List.mem_of_getElem? h, hg⟩
/-- the others that are needed: links of nest mates -/
def lw_nw : List Cond := [.methodLinkNest "TearPost" 27 ⟨"TearPost$Undo", "<init>", "()V"⟩ "TearPost", .methodLinkNest "TearPost" 40 ⟨"TearPost$Tape", "<init>", "()V"⟩ "TearPost", .fieldLinkNest "TearPost$Machine" 25 "TearPost$Text" "code" "[I" "TearPost", .methodLinkNest "TearPost" 56 ⟨"TearPost$Heart", "<init>", "()V"⟩ "TearPost", .methodLinkNest "TearPost$Heart" 11 ⟨"TearPost$Machine", "<init>", "()V"⟩ "TearPost", .methodLinkNest "TearPost" 84 ⟨"TearPost$Bags", "<init>", "()V"⟩ "TearPost", .castable "[I" "java/lang/Cloneable", .methodLinkNest "TearPost" 264 ⟨"TearPost$Search", "lead", "(IIII)I"⟩ "TearPost"]
def R_World : String := "TearPost$World"
def F_World : u_T := fun k => match k with
  | 0 => ("TearPost$World", "stand", "[I", true)
  | 1 => ("TearPost$World", "ones", "[I", true)
  | 2 => ("TearPost$World", "others", "[I", true)
  | 3 => ("TearPost$World", "ledgers", "[I", true)
  | 4 => ("TearPost$World", "laws", "[LTearPost$Text;", true)
  | 5 => ("TearPost$World", "roads", "I", false)
  | 6 => ("TearPost$World", "lawCount", "I", false)
  | _ => ("TearPost$World", "inForce", "I", false)
def t_World : Nat → FieldType := fun k => match k with
  | 0 => .array (.int)
  | 1 => .array (.int)
  | 2 => .array (.int)
  | 3 => .array (.int)
  | 4 => .array (.object "TearPost$Text")
  | 5 => .int
  | 6 => .int
  | _ => .int
theorem n_World : ∀ a, a < 8 → ∀ b, b < 8 → a ≠ b → (F_World a).2.1 ≠ (F_World b).2.1 := by decide +kernel
theorem t_World_ok : ∀ k, k < 8 → parseFieldDescriptor (F_World k).2.2.1 = some (t_World k) := by decide +kernel
theorem i_World : ∀ w ∈ u_ws R_World F_World 8, w ∈ lw_gd := by decide +kernel
def R_Undo : String := "TearPost$Undo"
def F_Undo : u_T := fun k => match k with
  | 0 => ("TearPost$Undo", "stands", "[[I", true)
  | 1 => ("TearPost$Undo", "kinds", "[I", true)
  | 2 => ("TearPost$Undo", "next", "I", false)
  | _ => ("TearPost$Undo", "kept", "I", false)
def t_Undo : Nat → FieldType := fun k => match k with
  | 0 => .array (.array (.int))
  | 1 => .array (.int)
  | 2 => .int
  | _ => .int
theorem n_Undo : ∀ a, a < 4 → ∀ b, b < 4 → a ≠ b → (F_Undo a).2.1 ≠ (F_Undo b).2.1 := by decide +kernel
theorem t_Undo_ok : ∀ k, k < 4 → parseFieldDescriptor (F_Undo k).2.2.1 = some (t_Undo k) := by decide +kernel
theorem i_Undo : ∀ w ∈ u_ws R_Undo F_Undo 4, w ∈ lw_gd := by decide +kernel
def R_Tape : String := "TearPost$Tape"
def F_Tape : u_T := fun k => match k with
  | 0 => ("TearPost$Tape", "bytes", "[I", true)
  | _ => ("TearPost$Tape", "length", "I", false)
def t_Tape : Nat → FieldType := fun k => match k with
  | 0 => .array (.int)
  | _ => .int
theorem n_Tape : ∀ a, a < 2 → ∀ b, b < 2 → a ≠ b → (F_Tape a).2.1 ≠ (F_Tape b).2.1 := by decide +kernel
theorem t_Tape_ok : ∀ k, k < 2 → parseFieldDescriptor (F_Tape k).2.2.1 = some (t_Tape k) := by decide +kernel
theorem i_Tape : ∀ w ∈ u_ws R_Tape F_Tape 2, w ∈ lw_gd := by decide +kernel
def R_Text : String := "TearPost$Text"
def F_Text : u_T := fun k => match k with
  | 0 => ("TearPost$Text", "code", "[I", true)
  | 1 => ("TearPost$Text", "rows", "[I", true)
  | 2 => ("TearPost$Text", "size", "I", false)
  | _ => ("TearPost$Text", "clauses", "I", false)
def t_Text : Nat → FieldType := fun k => match k with
  | 0 => .array (.int)
  | 1 => .array (.int)
  | 2 => .int
  | _ => .int
theorem n_Text : ∀ a, a < 4 → ∀ b, b < 4 → a ≠ b → (F_Text a).2.1 ≠ (F_Text b).2.1 := by decide +kernel
theorem t_Text_ok : ∀ k, k < 4 → parseFieldDescriptor (F_Text k).2.2.1 = some (t_Text k) := by decide +kernel
theorem i_Text : ∀ w ∈ u_ws R_Text F_Text 4, w ∈ lw_gd := by decide +kernel
def R_Grammar : String := "TearPost$Grammar"
def F_Grammar : u_T := fun k => match k with
  | 0 => ("TearPost$Grammar", "text", "LTearPost$Text;", true)
  | 1 => ("TearPost$Grammar", "tape", "LTearPost$Tape;", true)
  | 2 => ("TearPost$Grammar", "bytes", "[I", true)
  | 3 => ("TearPost$Grammar", "length", "I", false)
  | 4 => ("TearPost$Grammar", "laws", "Z", false)
  | 5 => ("TearPost$Grammar", "parts", "I", false)
  | 6 => ("TearPost$Grammar", "from", "I", false)
  | _ => ("TearPost$Grammar", "to", "I", false)
def t_Grammar : Nat → FieldType := fun k => match k with
  | 0 => .object "TearPost$Text"
  | 1 => .object "TearPost$Tape"
  | 2 => .array (.int)
  | 3 => .int
  | 4 => .boolean
  | 5 => .int
  | 6 => .int
  | _ => .int
theorem n_Grammar : ∀ a, a < 8 → ∀ b, b < 8 → a ≠ b → (F_Grammar a).2.1 ≠ (F_Grammar b).2.1 := by decide +kernel
theorem t_Grammar_ok : ∀ k, k < 8 → parseFieldDescriptor (F_Grammar k).2.2.1 = some (t_Grammar k) := by decide +kernel
theorem i_Grammar : ∀ w ∈ u_ws R_Grammar F_Grammar 8, w ∈ lw_gd := by decide +kernel
def R_Machine : String := "TearPost$Machine"
def F_Machine : u_T := fun k => match k with
  | _ => ("TearPost$Machine", "stack", "[J", true)
def t_Machine : Nat → FieldType := fun k => match k with
  | _ => .array (.long)
theorem n_Machine : ∀ a, a < 1 → ∀ b, b < 1 → a ≠ b → (F_Machine a).2.1 ≠ (F_Machine b).2.1 := by decide +kernel
theorem t_Machine_ok : ∀ k, k < 1 → parseFieldDescriptor (F_Machine k).2.2.1 = some (t_Machine k) := by decide +kernel
theorem i_Machine : ∀ w ∈ u_ws R_Machine F_Machine 1, w ∈ lw_gd := by decide +kernel
def R_Heart : String := "TearPost$Heart"
def F_Heart : u_T := fun k => match k with
  | 0 => ("TearPost$Heart", "machine", "LTearPost$Machine;", true)
  | 1 => ("TearPost$Heart", "words", "[I", true)
  | _ => ("TearPost$Heart", "ruling", "LTearPost$Text;", false)
def t_Heart : Nat → FieldType := fun k => match k with
  | 0 => .object "TearPost$Machine"
  | 1 => .array (.int)
  | _ => .object "TearPost$Text"
theorem n_Heart : ∀ a, a < 3 → ∀ b, b < 3 → a ≠ b → (F_Heart a).2.1 ≠ (F_Heart b).2.1 := by decide +kernel
theorem t_Heart_ok : ∀ k, k < 3 → parseFieldDescriptor (F_Heart k).2.2.1 = some (t_Heart k) := by decide +kernel
theorem i_Heart : ∀ w ∈ u_ws R_Heart F_Heart 3, w ∈ lw_gd := by decide +kernel
def R_Search : String := "TearPost$Search"
def F_Search : u_T := fun k => match k with
  | 0 => ("TearPost$Search", "heart", "LTearPost$Heart;", true)
  | 1 => ("TearPost$Search", "stand", "[I", true)
  | 2 => ("TearPost$Search", "letters", "[I", true)
  | 3 => ("TearPost$Search", "keys", "[I", true)
  | 4 => ("TearPost$Search", "findings", "[I", true)
  | 5 => ("TearPost$Search", "held", "I", false)
  | 6 => ("TearPost$Search", "reader", "I", false)
  | 7 => ("TearPost$Search", "tiredAfter", "I", false)
  | 8 => ("TearPost$Search", "choice", "I", false)
  | _ => ("TearPost$Search", "first", "I", false)
def t_Search : Nat → FieldType := fun k => match k with
  | 0 => .object "TearPost$Heart"
  | 1 => .array (.int)
  | 2 => .array (.int)
  | 3 => .array (.int)
  | 4 => .array (.int)
  | 5 => .int
  | 6 => .int
  | 7 => .int
  | 8 => .int
  | _ => .int
theorem n_Search : ∀ a, a < 10 → ∀ b, b < 10 → a ≠ b → (F_Search a).2.1 ≠ (F_Search b).2.1 := by decide +kernel
theorem t_Search_ok : ∀ k, k < 10 → parseFieldDescriptor (F_Search k).2.2.1 = some (t_Search k) := by decide +kernel
theorem i_Search : ∀ w ∈ u_ws R_Search F_Search 10, w ∈ lw_gd := by decide +kernel
def R_Suspects : String := "TearPost$Suspects"
def F_Suspects : u_T := fun k => match k with
  | 0 => ("TearPost$Suspects", "heart", "LTearPost$Heart;", true)
  | 1 => ("TearPost$Suspects", "world", "LTearPost$World;", true)
  | 2 => ("TearPost$Suspects", "sheet", "[I", true)
  | 3 => ("TearPost$Suspects", "tears", "[I", true)
  | 4 => ("TearPost$Suspects", "paid", "[I", true)
  | _ => ("TearPost$Suspects", "held", "I", false)
def t_Suspects : Nat → FieldType := fun k => match k with
  | 0 => .object "TearPost$Heart"
  | 1 => .object "TearPost$World"
  | 2 => .array (.int)
  | 3 => .array (.int)
  | 4 => .array (.int)
  | _ => .int
theorem n_Suspects : ∀ a, a < 6 → ∀ b, b < 6 → a ≠ b → (F_Suspects a).2.1 ≠ (F_Suspects b).2.1 := by decide +kernel
theorem t_Suspects_ok : ∀ k, k < 6 → parseFieldDescriptor (F_Suspects k).2.2.1 = some (t_Suspects k) := by decide +kernel
theorem i_Suspects : ∀ w ∈ u_ws R_Suspects F_Suspects 6, w ∈ lw_gd := by decide +kernel
def R_Bags : String := "TearPost$Bags"
def F_Bags : u_T := fun k => match k with
  | 0 => ("TearPost$Bags", "letters", "[I", true)
  | 1 => ("TearPost$Bags", "least", "[I", true)
  | _ => ("TearPost$Bags", "held", "I", false)
def t_Bags : Nat → FieldType := fun k => match k with
  | 0 => .array (.int)
  | 1 => .array (.int)
  | _ => .int
theorem n_Bags : ∀ a, a < 3 → ∀ b, b < 3 → a ≠ b → (F_Bags a).2.1 ≠ (F_Bags b).2.1 := by decide +kernel
theorem t_Bags_ok : ∀ k, k < 3 → parseFieldDescriptor (F_Bags k).2.2.1 = some (t_Bags k) := by decide +kernel
theorem i_Bags : ∀ w ∈ u_ws R_Bags F_Bags 3, w ∈ lw_gd := by decide +kernel
def R_Post : String := "TearPost"
def F_Post : u_T := fun k => match k with
  | 0 => ("TearPost", "world", "LTearPost$World;", true)
  | 1 => ("TearPost", "stand", "[I", true)
  | 2 => ("TearPost", "images", "[LTearPost$World;", true)
  | 3 => ("TearPost", "undone", "LTearPost$Undo;", true)
  | 4 => ("TearPost", "undoneAhead", "LTearPost$Undo;", true)
  | 5 => ("TearPost", "sheet", "[I", true)
  | 6 => ("TearPost", "tape", "LTearPost$Tape;", true)
  | 7 => ("TearPost", "grammar", "LTearPost$Grammar;", true)
  | 8 => ("TearPost", "heart", "LTearPost$Heart;", true)
  | 9 => ("TearPost", "orderWords", "[I", true)
  | 10 => ("TearPost", "search", "LTearPost$Search;", true)
  | 11 => ("TearPost", "suspects", "LTearPost$Suspects;", true)
  | 12 => ("TearPost", "packing", "LTearPost$Bags;", true)
  | 13 => ("TearPost", "drawnRow", "[I", true)
  | 14 => ("TearPost", "drawnReaders", "I", false)
  | 15 => ("TearPost", "refusals", "[I", true)
  | 16 => ("TearPost", "refusedBy", "I", false)
  | 17 => ("TearPost", "faultAt", "I", false)
  | 18 => ("TearPost", "stoppedAt", "I", false)
  | _ => ("TearPost", "blotted", "I", false)
def t_Post : Nat → FieldType := fun k => match k with
  | 0 => .object "TearPost$World"
  | 1 => .array (.int)
  | 2 => .array (.object "TearPost$World")
  | 3 => .object "TearPost$Undo"
  | 4 => .object "TearPost$Undo"
  | 5 => .array (.int)
  | 6 => .object "TearPost$Tape"
  | 7 => .object "TearPost$Grammar"
  | 8 => .object "TearPost$Heart"
  | 9 => .array (.int)
  | 10 => .object "TearPost$Search"
  | 11 => .object "TearPost$Suspects"
  | 12 => .object "TearPost$Bags"
  | 13 => .array (.int)
  | 14 => .int
  | 15 => .array (.int)
  | 16 => .int
  | 17 => .int
  | 18 => .int
  | _ => .int
theorem n_Post : ∀ a, a < 20 → ∀ b, b < 20 → a ≠ b → (F_Post a).2.1 ≠ (F_Post b).2.1 := by decide +kernel
theorem t_Post_ok : ∀ k, k < 20 → parseFieldDescriptor (F_Post k).2.2.1 = some (t_Post k) := by decide +kernel
theorem i_Post : ∀ w ∈ u_ws R_Post F_Post 20, w ∈ lw_gd := by decide +kernel
def R_Mdl : String := "TearPostModel"
def F_Mdl : u_T := fun k => match k with
  | 0 => ("TearPostModel", "thrown", "I", false)
  | 1 => ("TearPostModel", "status", "I", false)
  | 2 => ("TearPostModel", "refusals", "[I", true)
  | 3 => ("TearPostModel", "row", "[I", true)
  | 4 => ("TearPostModel", "images", "[I", true)
  | 5 => ("TearPostModel", "isKept", "[Z", true)
  | 6 => ("TearPostModel", "undos", "[I", true)
  | 7 => ("TearPostModel", "sorts", "[I", true)
  | 8 => ("TearPostModel", "nUndo", "I", false)
  | 9 => ("TearPostModel", "undosBefore", "[I", true)
  | 10 => ("TearPostModel", "sortsBefore", "[I", true)
  | 11 => ("TearPostModel", "blots", "I", false)
  | 12 => ("TearPostModel", "tape", "[I", true)
  | 13 => ("TearPostModel", "taped", "I", false)
  | 14 => ("TearPostModel", "from", "I", false)
  | 15 => ("TearPostModel", "to", "I", false)
  | 16 => ("TearPostModel", "sort", "I", false)
  | 17 => ("TearPostModel", "worth", "J", false)
  | 18 => ("TearPostModel", "fault", "I", false)
  | 19 => ("TearPostModel", "bad", "Z", false)
  | 20 => ("TearPostModel", "ordered", "Z", false)
  | 21 => ("TearPostModel", "nClauses", "I", false)
  | 22 => ("TearPostModel", "nClause", "[I", true)
  | 23 => ("TearPostModel", "nCode", "I", false)
  | 24 => ("TearPostModel", "nOp", "[I", true)
  | 25 => ("TearPostModel", "nArg", "[I", true)
  | 26 => ("TearPostModel", "nLeaves", "I", false)
  | 27 => ("TearPostModel", "pile", "[I", true)
  | 28 => ("TearPostModel", "pileAt", "[I", true)
  | 29 => ("TearPostModel", "piled", "I", false)
  | 30 => ("TearPostModel", "opened", "I", false)
  | 31 => ("TearPostModel", "words", "[J", true)
  | 32 => ("TearPostModel", "orderWords", "[J", true)
  | 33 => ("TearPostModel", "heads", "[J", true)
  | 34 => ("TearPostModel", "law", "I", false)
  | 35 => ("TearPostModel", "set", "[J", true)
  | 36 => ("TearPostModel", "now", "[J", true)
  | 37 => ("TearPostModel", "rest", "[J", true)
  | 38 => ("TearPostModel", "broken", "Z", false)
  | 39 => ("TearPostModel", "value", "J", false)
  | 40 => ("TearPostModel", "sum", "J", false)
  | 41 => ("TearPostModel", "whose", "I", false)
  | 42 => ("TearPostModel", "griefs", "I", false)
  | 43 => ("TearPostModel", "jokes", "I", false)
  | 44 => ("TearPostModel", "far", "[I", true)
  | 45 => ("TearPostModel", "rested", "[I", true)
  | 46 => ("TearPostModel", "mine", "[I", true)
  | 47 => ("TearPostModel", "nMine", "I", false)
  | 48 => ("TearPostModel", "order", "[I", true)
  | 49 => ("TearPostModel", "bestOrder", "[I", true)
  | 50 => ("TearPostModel", "mover", "[I", true)
  | 51 => ("TearPostModel", "tried", "[I", true)
  | 52 => ("TearPostModel", "best", "[I", true)
  | 53 => ("TearPostModel", "bestBy", "[I", true)
  | 54 => ("TearPostModel", "gains", "[I", true)
  | 55 => ("TearPostModel", "fewest", "[I", true)
  | 56 => ("TearPostModel", "isBag", "[Z", true)
  | 57 => ("TearPostModel", "nOrder", "[I", true)
  | 58 => ("TearPostModel", "done", "I", false)
  | 59 => ("TearPostModel", "paid", "I", false)
  | 60 => ("TearPostModel", "stopped", "I", false)
  | 61 => ("TearPostModel", "off", "Z", false)
  | 62 => ("TearPostModel", "state", "J", false)
  | 63 => ("TearPostModel", "drawn", "[I", true)
  | _ => ("TearPostModel", "nDrawn", "I", false)
def t_Mdl : Nat → FieldType := fun k => match k with
  | 0 => .int
  | 1 => .int
  | 2 => .array (.int)
  | 3 => .array (.int)
  | 4 => .array (.int)
  | 5 => .array (.boolean)
  | 6 => .array (.int)
  | 7 => .array (.int)
  | 8 => .int
  | 9 => .array (.int)
  | 10 => .array (.int)
  | 11 => .int
  | 12 => .array (.int)
  | 13 => .int
  | 14 => .int
  | 15 => .int
  | 16 => .int
  | 17 => .long
  | 18 => .int
  | 19 => .boolean
  | 20 => .boolean
  | 21 => .int
  | 22 => .array (.int)
  | 23 => .int
  | 24 => .array (.int)
  | 25 => .array (.int)
  | 26 => .int
  | 27 => .array (.int)
  | 28 => .array (.int)
  | 29 => .int
  | 30 => .int
  | 31 => .array (.long)
  | 32 => .array (.long)
  | 33 => .array (.long)
  | 34 => .int
  | 35 => .array (.long)
  | 36 => .array (.long)
  | 37 => .array (.long)
  | 38 => .boolean
  | 39 => .long
  | 40 => .long
  | 41 => .int
  | 42 => .int
  | 43 => .int
  | 44 => .array (.int)
  | 45 => .array (.int)
  | 46 => .array (.int)
  | 47 => .int
  | 48 => .array (.int)
  | 49 => .array (.int)
  | 50 => .array (.int)
  | 51 => .array (.int)
  | 52 => .array (.int)
  | 53 => .array (.int)
  | 54 => .array (.int)
  | 55 => .array (.int)
  | 56 => .array (.boolean)
  | 57 => .array (.int)
  | 58 => .int
  | 59 => .int
  | 60 => .int
  | 61 => .boolean
  | 62 => .long
  | 63 => .array (.int)
  | _ => .int
theorem n_Mdl : ∀ a, a < 65 → ∀ b, b < 65 → a ≠ b → (F_Mdl a).2.1 ≠ (F_Mdl b).2.1 := by decide +kernel
theorem t_Mdl_ok : ∀ k, k < 65 → parseFieldDescriptor (F_Mdl k).2.2.1 = some (t_Mdl k) := by decide +kernel
theorem i_Mdl : ∀ w ∈ u_ws R_Mdl F_Mdl 65, w ∈ lw_gd := by decide +kernel
def classes : List vw_C := [(R_World, F_World, 8), (R_Undo, F_Undo, 4), (R_Tape, F_Tape, 2), (R_Text, F_Text, 4), (R_Grammar, F_Grammar, 8), (R_Machine, F_Machine, 1), (R_Heart, F_Heart, 3), (R_Search, F_Search, 10), (R_Suspects, F_Suspects, 6), (R_Bags, F_Bags, 3), (R_Post, F_Post, 20), (R_Mdl, F_Mdl, 65)]
/-- how many fields a class has -/
def xnf (c : Nat) : Nat := match c with
  | 0 => 8
  | 1 => 4
  | 2 => 2
  | 3 => 4
  | 4 => 8
  | 5 => 1
  | 6 => 3
  | 7 => 10
  | 8 => 6
  | 9 => 3
  | 10 => 20
  | 11 => 65
  | _ => 0
/-- 0 an int or a boolean, 1 a long, 2 a reference -/
def xft (c k : Nat) : Nat := match c with
  | 0 => [2, 2, 2, 2, 2, 0, 0, 0].getD k 0
  | 1 => [2, 2, 0, 0].getD k 0
  | 2 => [2, 0].getD k 0
  | 3 => [2, 2, 0, 0].getD k 0
  | 4 => [2, 2, 2, 0, 0, 0, 0, 0].getD k 0
  | 5 => [2].getD k 0
  | 6 => [2, 2, 2].getD k 0
  | 7 => [2, 2, 2, 2, 2, 0, 0, 0, 0, 0].getD k 0
  | 8 => [2, 2, 2, 2, 2, 0].getD k 0
  | 9 => [2, 2, 0].getD k 0
  | 10 => [2, 2, 2, 2, 2, 2, 2, 2, 2, 2, 2, 2, 2, 2, 0, 2, 0, 0, 0, 0].getD k 0
  | 11 => [0, 0, 2, 2, 2, 2, 2, 2, 0, 2, 2, 0, 2, 0, 0, 0, 0, 1, 0, 0, 0, 0, 2, 0, 2, 2, 0, 2, 2, 0, 0, 2, 2, 2, 0, 2, 2, 2, 0, 1, 1, 0, 0, 0, 2, 2, 2, 0, 2, 2, 2, 2, 2, 2, 2, 2, 2, 2, 0, 0, 0, 0, 1, 2, 0].getD k 0
  | _ => 0
/-- the class of a number: its name, its fields, their types -/
def XCl (ci : Nat) (C : String) (T : u_T) (N : Nat) (ty : Nat → FieldType) : Prop := classes[ci]? = some (C, T, N) ∧ (∀ w ∈ u_ws C T N, w ∈ lw_gd) ∧ (∀ k, k < N → parseFieldDescriptor (T k).2.2.1 = some (ty k)) ∧ (∀ a, a < N → ∀ b, b < N → a ≠ b → (T a).2.1 ≠ (T b).2.1) ∧ xnf ci = N ∧ (∀ k, k < N → (T k).1 = C) ∧ ci < 20
theorem cl_World : XCl 0 R_World F_World 8 t_World := ⟨rfl, i_World, t_World_ok, n_World, rfl, by decide +kernel, by decide⟩
theorem cl_Undo : XCl 1 R_Undo F_Undo 4 t_Undo := ⟨rfl, i_Undo, t_Undo_ok, n_Undo, rfl, by decide +kernel, by decide⟩
theorem cl_Tape : XCl 2 R_Tape F_Tape 2 t_Tape := ⟨rfl, i_Tape, t_Tape_ok, n_Tape, rfl, by decide +kernel, by decide⟩
theorem cl_Text : XCl 3 R_Text F_Text 4 t_Text := ⟨rfl, i_Text, t_Text_ok, n_Text, rfl, by decide +kernel, by decide⟩
theorem cl_Grammar : XCl 4 R_Grammar F_Grammar 8 t_Grammar := ⟨rfl, i_Grammar, t_Grammar_ok, n_Grammar, rfl, by decide +kernel, by decide⟩
theorem cl_Machine : XCl 5 R_Machine F_Machine 1 t_Machine := ⟨rfl, i_Machine, t_Machine_ok, n_Machine, rfl, by decide +kernel, by decide⟩
theorem cl_Heart : XCl 6 R_Heart F_Heart 3 t_Heart := ⟨rfl, i_Heart, t_Heart_ok, n_Heart, rfl, by decide +kernel, by decide⟩
theorem cl_Search : XCl 7 R_Search F_Search 10 t_Search := ⟨rfl, i_Search, t_Search_ok, n_Search, rfl, by decide +kernel, by decide⟩
theorem cl_Suspects : XCl 8 R_Suspects F_Suspects 6 t_Suspects := ⟨rfl, i_Suspects, t_Suspects_ok, n_Suspects, rfl, by decide +kernel, by decide⟩
theorem cl_Bags : XCl 9 R_Bags F_Bags 3 t_Bags := ⟨rfl, i_Bags, t_Bags_ok, n_Bags, rfl, by decide +kernel, by decide⟩
theorem cl_Post : XCl 10 R_Post F_Post 20 t_Post := ⟨rfl, i_Post, t_Post_ok, n_Post, rfl, by decide +kernel, by decide⟩
theorem cl_Mdl : XCl 11 R_Mdl F_Mdl 65 t_Mdl := ⟨rfl, i_Mdl, t_Mdl_ok, n_Mdl, rfl, by decide +kernel, by decide⟩
/-- String constants: whose, its place, the text, its bytes -/
def xstrs : List (String × Nat × String × List Int32) := [("TearPost$Grammar", 88, "weeps", [119, 101, 101, 112, 115]), ("TearPost$Grammar", 90, "tires", [116, 105, 114, 101, 115]), ("TearPost$Grammar", 92, "rests", [114, 101, 115, 116, 115]), ("TearPost$Grammar", 94, "laughs", [108, 97, 117, 103, 104, 115]), ("TearPost$Grammar", 96, "bars", [98, 97, 114, 115]), ("TearPost$Grammar", 149, "reader", [114, 101, 97, 100, 101, 114]), ("TearPost$Grammar", 153, "soft", [115, 111, 102, 116]), ("TearPost$Grammar", 155, "tired", [116, 105, 114, 101, 100]), ("TearPost$Grammar", 157, "had", [104, 97, 100]), ("TearPost$Grammar", 159, "grief", [103, 114, 105, 101, 102]), ("TearPost$Grammar", 161, "joke", [106, 111, 107, 101]), ("TearPost$Grammar", 163, "weight", [119, 101, 105, 103, 104, 116]), ("TearPost$Grammar", 102, "with", [119, 105, 116, 104]), ("TearPost$Grammar", 165, "day", [100, 97, 121]), ("TearPost$Grammar", 167, "mood", [109, 111, 111, 100]), ("TearPost$Grammar", 169, "letters", [108, 101, 116, 116, 101, 114, 115]), ("TearPost$Grammar", 171, "office", [111, 102, 102, 105, 99, 101]), ("TearPost$Grammar", 173, "done", [100, 111, 110, 101]), ("TearPost$Grammar", 175, "paid", [112, 97, 105, 100]), ("TearPost$Grammar", 177, "owed", [111, 119, 101, 100]), ("TearPost$Grammar", 98, "hand", [104, 97, 110, 100]), ("TearPost$Grammar", 100, "pass", [112, 97, 115, 115]), ("TearPost$Grammar", 104, "times", [116, 105, 109, 101, 115]), ("TearPost$Grammar", 64, "if", [105, 102]), ("TearPost$Grammar", 129, "not", [110, 111, 116]), ("TearPost$Grammar", 127, "and", [97, 110, 100]), ("TearPost$Grammar", 112, "or", [111, 114])]
/-- static tables of ints -/
def xsarr : List (String × String × List Int32) := [("TearPost", "LEAST_OF_TERM", [0, 1, 0]), ("TearPost", "MOST_OF_TERM", [999, 99, 9]), ("TearPost$Machine", "NEEDED", [0, 0, 2, 2, 2, 2, 2, 2, 2, 2, 1, 1, 1, 1, 1, 1])]
/-- static ints -/
def xsint : List (String × String × String × Int32) := [("java/lang/String", "COMPACT_STRINGS", "Z", 1), ("java/lang/StringUTF16", "$assertionsDisabled", "Z", 1), ("java/lang/StringUTF16", "HI_BYTE_SHIFT", "I", 0), ("java/lang/StringUTF16", "LO_BYTE_SHIFT", "I", 8)]
def xsref : List (String × String × String) := [("jdk/internal/util/Preconditions", "SIOOBE_FORMATTER", "Ljava/util/function/BiFunction;")]
