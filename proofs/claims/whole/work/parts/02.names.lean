def RX0 : String := "Chainwork$Chain"
def TX0 : u_T := fun k => match k with
  | 0 => ("Chainwork$Chain", "rows", "[LChainwork$Term;", true)
  | 1 => ("Chainwork$Chain", "names", "[I", true)
  | _ => ("Chainwork$Chain", "count", "I", false)
def tyX0 : Nat → FieldType := fun k => match k with
  | 0 => .array (.object "Chainwork$Term")
  | 1 => .array .int
  | _ => .int
theorem nmX0 : ∀ a, a < 3 → ∀ b, b < 3 → a ≠ b → (TX0 a).2.1 ≠ (TX0 b).2.1 := by decide +kernel
theorem tyX0_ok : ∀ k, k < 3 → parseFieldDescriptor (TX0 k).2.2.1 = some (tyX0 k) := by decide +kernel
def RX1 : String := "Chainwork$Checker"
def TX1 : u_T := fun k => match k with
  | 0 => ("Chainwork$Checker", "instance", "LChainwork$Instance;", true)
  | 1 => ("Chainwork$Checker", "granting", "LChainwork$Instance;", true)
  | 2 => ("Chainwork$Checker", "lesser", "LChainwork$Term;", true)
  | 3 => ("Chainwork$Checker", "greater", "LChainwork$Term;", true)
  | 4 => ("Chainwork$Checker", "isForward", "Z", false)
  | 5 => ("Chainwork$Checker", "place", "I", false)
  | 6 => ("Chainwork$Checker", "relation", "I", false)
  | 7 => ("Chainwork$Checker", "granted", "I", false)
  | 8 => ("Chainwork$Checker", "wrongLine", "I", false)
  | 9 => ("Chainwork$Checker", "chainRelation", "I", false)
  | _ => ("Chainwork$Checker", "chainMarks", "I", false)
def tyX1 : Nat → FieldType := fun k => match k with
  | 0 => .object "Chainwork$Instance"
  | 1 => .object "Chainwork$Instance"
  | 2 => .object "Chainwork$Term"
  | 3 => .object "Chainwork$Term"
  | 4 => .boolean
  | 5 => .int
  | 6 => .int
  | 7 => .int
  | 8 => .int
  | 9 => .int
  | _ => .int
theorem nmX1 : ∀ a, a < 11 → ∀ b, b < 11 → a ≠ b → (TX1 a).2.1 ≠ (TX1 b).2.1 := by decide +kernel
theorem tyX1_ok : ∀ k, k < 11 → parseFieldDescriptor (TX1 k).2.2.1 = some (tyX1 k) := by decide +kernel
def RX2 : String := "Chainwork$Equivalence"
def TX2 : u_T := fun k => match k with
  | 0 => ("Chainwork$Equivalence", "name", "I", true)
  | 1 => ("Chainwork$Equivalence", "left", "LChainwork$Law;", true)
  | _ => ("Chainwork$Equivalence", "right", "LChainwork$Law;", true)
def tyX2 : Nat → FieldType := fun k => match k with
  | 0 => .int
  | 1 => .object "Chainwork$Law"
  | _ => .object "Chainwork$Law"
theorem nmX2 : ∀ a, a < 3 → ∀ b, b < 3 → a ≠ b → (TX2 a).2.1 ≠ (TX2 b).2.1 := by decide +kernel
theorem tyX2_ok : ∀ k, k < 3 → parseFieldDescriptor (TX2 k).2.2.1 = some (tyX2 k) := by decide +kernel
def RX3 : String := "Chainwork$Instance"
def TX3 : u_T := fun k => match k with
  | 0 => ("Chainwork$Instance", "wholes", "[LChainwork$Term;", true)
  | _ => ("Chainwork$Instance", "starts", "[I", true)
def tyX3 : Nat → FieldType := fun k => match k with
  | 0 => .array (.object "Chainwork$Term")
  | _ => .array .int
theorem nmX3 : ∀ a, a < 2 → ∀ b, b < 2 → a ≠ b → (TX3 a).2.1 ≠ (TX3 b).2.1 := by decide +kernel
theorem tyX3_ok : ∀ k, k < 2 → parseFieldDescriptor (TX3 k).2.2.1 = some (tyX3 k) := by decide +kernel
def RX4 : String := "Chainwork$Law"
def TX4 : u_T := fun k => match k with
  | 0 => ("Chainwork$Law", "name", "I", true)
  | 1 => ("Chainwork$Law", "left", "LChainwork$Term;", true)
  | 2 => ("Chainwork$Law", "relation", "I", true)
  | 3 => ("Chainwork$Law", "right", "LChainwork$Term;", true)
  | 4 => ("Chainwork$Law", "serial", "I", false)
  | 5 => ("Chainwork$Law", "isProved", "Z", false)
  | 6 => ("Chainwork$Law", "rests", "I", false)
  | 7 => ("Chainwork$Law", "first", "LChainwork$Term;", false)
  | _ => ("Chainwork$Law", "second", "LChainwork$Term;", false)
def tyX4 : Nat → FieldType := fun k => match k with
  | 0 => .int
  | 1 => .object "Chainwork$Term"
  | 2 => .int
  | 3 => .object "Chainwork$Term"
  | 4 => .int
  | 5 => .boolean
  | 6 => .int
  | 7 => .object "Chainwork$Term"
  | _ => .object "Chainwork$Term"
theorem nmX4 : ∀ a, a < 9 → ∀ b, b < 9 → a ≠ b → (TX4 a).2.1 ≠ (TX4 b).2.1 := by decide +kernel
theorem tyX4_ok : ∀ k, k < 9 → parseFieldDescriptor (TX4 k).2.2.1 = some (tyX4 k) := by decide +kernel
def RX5 : String := "Chainwork$Orders"
def TX5 : u_T := fun k => match k with
  | 0 => ("Chainwork$Orders", "obeying", "[I", true)
  | 1 => ("Chainwork$Orders", "assumed", "[I", true)
  | 2 => ("Chainwork$Orders", "isKnown", "[I", true)
  | 3 => ("Chainwork$Orders", "isFailing", "[I", true)
  | 4 => ("Chainwork$Orders", "stack", "[I", true)
  | 5 => ("Chainwork$Orders", "stamp", "I", false)
  | 6 => ("Chainwork$Orders", "limit", "I", false)
  | 7 => ("Chainwork$Orders", "one", "LChainwork$Law;", false)
  | 8 => ("Chainwork$Orders", "other", "LChainwork$Law;", false)
  | _ => ("Chainwork$Orders", "digits", "I", false)
def tyX5 : Nat → FieldType := fun k => match k with
  | 0 => .array .int
  | 1 => .array .int
  | 2 => .array .int
  | 3 => .array .int
  | 4 => .array .int
  | 5 => .int
  | 6 => .int
  | 7 => .object "Chainwork$Law"
  | 8 => .object "Chainwork$Law"
  | _ => .int
theorem nmX5 : ∀ a, a < 10 → ∀ b, b < 10 → a ≠ b → (TX5 a).2.1 ≠ (TX5 b).2.1 := by decide +kernel
theorem tyX5_ok : ∀ k, k < 10 → parseFieldDescriptor (TX5 k).2.2.1 = some (tyX5 k) := by decide +kernel
def RX6 : String := "Chainwork$Search"
def TX6 : u_T := fun k => match k with
  | 0 => ("Chainwork$Search", "instance", "LChainwork$Instance;", true)
  | 1 => ("Chainwork$Search", "pool", "[I", true)
  | 2 => ("Chainwork$Search", "sizes", "[I", true)
  | 3 => ("Chainwork$Search", "parents", "[I", true)
  | 4 => ("Chainwork$Search", "names", "[I", true)
  | 5 => ("Chainwork$Search", "table", "[I", true)
  | 6 => ("Chainwork$Search", "made", "[I", true)
  | 7 => ("Chainwork$Search", "madeSize", "I", false)
  | 8 => ("Chainwork$Search", "current", "LChainwork$Term;", true)
  | 9 => ("Chainwork$Search", "currentIndex", "I", false)
  | 10 => ("Chainwork$Search", "count", "I", false)
  | 11 => ("Chainwork$Search", "start", "LChainwork$Term;", false)
  | 12 => ("Chainwork$Search", "goal", "LChainwork$Term;", false)
  | 13 => ("Chainwork$Search", "wanted", "I", false)
  | 14 => ("Chainwork$Search", "isFound", "Z", false)
  | 15 => ("Chainwork$Search", "goalName", "I", false)
  | _ => ("Chainwork$Search", "isFull", "Z", false)
def tyX6 : Nat → FieldType := fun k => match k with
  | 0 => .object "Chainwork$Instance"
  | 1 => .array .int
  | 2 => .array .int
  | 3 => .array .int
  | 4 => .array .int
  | 5 => .array .int
  | 6 => .array .int
  | 7 => .int
  | 8 => .object "Chainwork$Term"
  | 9 => .int
  | 10 => .int
  | 11 => .object "Chainwork$Term"
  | 12 => .object "Chainwork$Term"
  | 13 => .int
  | 14 => .boolean
  | 15 => .int
  | _ => .boolean
theorem nmX6 : ∀ a, a < 17 → ∀ b, b < 17 → a ≠ b → (TX6 a).2.1 ≠ (TX6 b).2.1 := by decide +kernel
theorem tyX6_ok : ∀ k, k < 17 → parseFieldDescriptor (TX6 k).2.2.1 = some (tyX6 k) := by decide +kernel
def RX7 : String := "Chainwork$Sign"
def TX7 : u_T := fun k => match k with
  | 0 => ("Chainwork$Sign", "places", "I", true)
  | 1 => ("Chainwork$Sign", "first", "I", true)
  | _ => ("Chainwork$Sign", "second", "I", true)
def tyX7 : Nat → FieldType := fun k => match k with
  | 0 => .int
  | 1 => .int
  | _ => .int
theorem nmX7 : ∀ a, a < 3 → ∀ b, b < 3 → a ≠ b → (TX7 a).2.1 ≠ (TX7 b).2.1 := by decide +kernel
theorem tyX7_ok : ∀ k, k < 3 → parseFieldDescriptor (TX7 k).2.2.1 = some (tyX7 k) := by decide +kernel
def RX8 : String := "Chainwork$State"
def TX8 : u_T := fun k => match k with
  | 0 => ("Chainwork$State", "signs", "[LChainwork$Sign;", true)
  | 1 => ("Chainwork$State", "signCount", "I", false)
  | 2 => ("Chainwork$State", "registers", "[LChainwork$Term;", true)
  | 3 => ("Chainwork$State", "laws", "[LChainwork$Law;", true)
  | 4 => ("Chainwork$State", "lawCount", "I", false)
  | 5 => ("Chainwork$State", "equivalences", "[LChainwork$Equivalence;", true)
  | 6 => ("Chainwork$State", "equivalenceCount", "I", false)
  | 7 => ("Chainwork$State", "assumptions", "[LChainwork$Law;", true)
  | 8 => ("Chainwork$State", "assumptionCount", "I", false)
  | 9 => ("Chainwork$State", "chains", "[LChainwork$Chain;", true)
  | _ => ("Chainwork$State", "told", "I", false)
def tyX8 : Nat → FieldType := fun k => match k with
  | 0 => .array (.object "Chainwork$Sign")
  | 1 => .int
  | 2 => .array (.object "Chainwork$Term")
  | 3 => .array (.object "Chainwork$Law")
  | 4 => .int
  | 5 => .array (.object "Chainwork$Equivalence")
  | 6 => .int
  | 7 => .array (.object "Chainwork$Law")
  | 8 => .int
  | 9 => .array (.object "Chainwork$Chain")
  | _ => .int
theorem nmX8 : ∀ a, a < 11 → ∀ b, b < 11 → a ≠ b → (TX8 a).2.1 ≠ (TX8 b).2.1 := by decide +kernel
theorem tyX8_ok : ∀ k, k < 11 → parseFieldDescriptor (TX8 k).2.2.1 = some (tyX8 k) := by decide +kernel
def RX9 : String := "Chainwork$Term"
def TX9 : u_T := fun k => match k with
  | 0 => ("Chainwork$Term", "nodes", "[I", true)
  | 1 => ("Chainwork$Term", "ends", "[I", true)
  | 2 => ("Chainwork$Term", "directions", "[I", true)
  | 3 => ("Chainwork$Term", "size", "I", false)
  | 4 => ("Chainwork$Term", "variables", "I", false)
  | _ => ("Chainwork$Term", "signMask", "I", false)
def tyX9 : Nat → FieldType := fun k => match k with
  | 0 => .array .int
  | 1 => .array .int
  | 2 => .array .int
  | 3 => .int
  | 4 => .int
  | _ => .int
theorem nmX9 : ∀ a, a < 6 → ∀ b, b < 6 → a ≠ b → (TX9 a).2.1 ≠ (TX9 b).2.1 := by decide +kernel
theorem tyX9_ok : ∀ k, k < 6 → parseFieldDescriptor (TX9 k).2.2.1 = some (tyX9 k) := by decide +kernel
def RX10 : String := "Chainwork$Text"
def TX10 : u_T := fun k => match k with
  | 0 => ("Chainwork$Text", "bytes", "[I", true)
  | 1 => ("Chainwork$Text", "count", "I", false)
  | 2 => ("Chainwork$Text", "nodes", "[I", true)
  | 3 => ("Chainwork$Text", "size", "I", false)
  | 4 => ("Chainwork$Text", "missing", "[I", true)
  | 5 => ("Chainwork$Text", "depth", "I", false)
  | _ => ("Chainwork$Text", "awaited", "I", false)
def tyX10 : Nat → FieldType := fun k => match k with
  | 0 => .array .int
  | 1 => .int
  | 2 => .array .int
  | 3 => .int
  | 4 => .array .int
  | 5 => .int
  | _ => .int
theorem nmX10 : ∀ a, a < 7 → ∀ b, b < 7 → a ≠ b → (TX10 a).2.1 ≠ (TX10 b).2.1 := by decide +kernel
theorem tyX10_ok : ∀ k, k < 7 → parseFieldDescriptor (TX10 k).2.2.1 = some (tyX10 k) := by decide +kernel
def RX11 : String := "Chainwork"
def TX11 : u_T := fun k => match k with
  | 0 => ("Chainwork", "now", "LChainwork$State;", true)
  | 1 => ("Chainwork", "past", "[LChainwork$State;", true)
  | 2 => ("Chainwork", "pastNext", "I", false)
  | 3 => ("Chainwork", "pastCount", "I", false)
  | 4 => ("Chainwork", "images", "[LChainwork$State;", true)
  | 5 => ("Chainwork", "isKept", "[Z", true)
  | 6 => ("Chainwork", "lastStamp", "I", false)
  | 7 => ("Chainwork", "text", "LChainwork$Text;", true)
  | 8 => ("Chainwork", "output", "LChainwork$Text;", true)
  | 9 => ("Chainwork", "row", "[I", true)
  | 10 => ("Chainwork", "otherRow", "[I", true)
  | 11 => ("Chainwork", "instance", "LChainwork$Instance;", true)
  | 12 => ("Chainwork", "checker", "LChainwork$Checker;", true)
  | 13 => ("Chainwork", "search", "LChainwork$Search;", true)
  | _ => ("Chainwork", "small", "LChainwork$Orders;", true)
def tyX11 : Nat → FieldType := fun k => match k with
  | 0 => .object "Chainwork$State"
  | 1 => .array (.object "Chainwork$State")
  | 2 => .int
  | 3 => .int
  | 4 => .array (.object "Chainwork$State")
  | 5 => .array .boolean
  | 6 => .int
  | 7 => .object "Chainwork$Text"
  | 8 => .object "Chainwork$Text"
  | 9 => .array .int
  | 10 => .array .int
  | 11 => .object "Chainwork$Instance"
  | 12 => .object "Chainwork$Checker"
  | 13 => .object "Chainwork$Search"
  | _ => .object "Chainwork$Orders"
theorem nmX11 : ∀ a, a < 15 → ∀ b, b < 15 → a ≠ b → (TX11 a).2.1 ≠ (TX11 b).2.1 := by decide +kernel
theorem tyX11_ok : ∀ k, k < 15 → parseFieldDescriptor (TX11 k).2.2.1 = some (tyX11 k) := by decide +kernel
def RX12 : String := "ChainworkModel"
def TX12 : u_T := fun k => match k with
  | 0 => ("ChainworkModel", "thrown", "I", false)
  | 1 => ("ChainworkModel", "s", "[I", true)
  | 2 => ("ChainworkModel", "ahead", "[[I", true)
  | 3 => ("ChainworkModel", "images", "[[I", true)
  | 4 => ("ChainworkModel", "isKept", "[Z", true)
  | 5 => ("ChainworkModel", "changes", "I", false)
  | 6 => ("ChainworkModel", "text", "[I", true)
  | 7 => ("ChainworkModel", "textLength", "I", false)
  | 8 => ("ChainworkModel", "at", "I", false)
  | 9 => ("ChainworkModel", "error", "I", false)
  | 10 => ("ChainworkModel", "readTerm", "[I", true)
  | 11 => ("ChainworkModel", "output", "[I", true)
  | 12 => ("ChainworkModel", "outputLength", "I", false)
  | 13 => ("ChainworkModel", "bound", "[[I", true)
  | 14 => ("ChainworkModel", "wayRelation", "I", false)
  | 15 => ("ChainworkModel", "wayPlace", "I", false)
  | 16 => ("ChainworkModel", "wayGrant", "I", false)
  | 17 => ("ChainworkModel", "isForwardWay", "Z", false)
  | 18 => ("ChainworkModel", "found", "[[I", true)
  | 19 => ("ChainworkModel", "parent", "[I", true)
  | 20 => ("ChainworkModel", "byName", "[I", true)
  | 21 => ("ChainworkModel", "heads", "[I", true)
  | 22 => ("ChainworkModel", "nexts", "[I", true)
  | 23 => ("ChainworkModel", "foundMany", "I", false)
  | _ => ("ChainworkModel", "valueAt", "I", false)
def tyX12 : Nat → FieldType := fun k => match k with
  | 0 => .int
  | 1 => .array .int
  | 2 => .array (.array .int)
  | 3 => .array (.array .int)
  | 4 => .array .boolean
  | 5 => .int
  | 6 => .array .int
  | 7 => .int
  | 8 => .int
  | 9 => .int
  | 10 => .array .int
  | 11 => .array .int
  | 12 => .int
  | 13 => .array (.array .int)
  | 14 => .int
  | 15 => .int
  | 16 => .int
  | 17 => .boolean
  | 18 => .array (.array .int)
  | 19 => .array .int
  | 20 => .array .int
  | 21 => .array .int
  | 22 => .array .int
  | 23 => .int
  | _ => .int
theorem nmX12 : ∀ a, a < 25 → ∀ b, b < 25 → a ≠ b → (TX12 a).2.1 ≠ (TX12 b).2.1 := by decide +kernel
theorem tyX12_ok : ∀ k, k < 25 → parseFieldDescriptor (TX12 k).2.2.1 = some (tyX12 k) := by decide +kernel
def RJ6 : String := "java/lang/Integer"
def RJ9 : String := "java/lang/Math"
def RJ0 : String := "java/lang/String"
def RJ10 : String := "java/lang/System"
def RL : String := "ChainworkLaw"
abbrev vwCl : List vw_C := [(RX0, TX0, 3), (RX1, TX1, 11), (RX2, TX2, 3), (RX3, TX3, 2), (RX4, TX4, 9), (RX5, TX5, 10), (RX6, TX6, 17), (RX7, TX7, 3), (RX8, TX8, 11), (RX9, TX9, 6), (RX10, TX10, 7), (RX11, TX11, 15), (RX12, TX12, 25)]
/-- the words of the tables that every method hands on to those that it calls -/
def zT : List Cond := lw_tbl.filter goodWord
theorem zT_good {w : Cond} (h : w ∈ zT) : goodWord w = true := (List.mem_filter.mp h).2
theorem zT_of {w : Cond} (i : Nat) (h : tables_1[i]? = some w) (hg : goodWord w = true) : w ∈ zT := List.mem_filter.mpr ⟨List.mem_append_right _ (List.mem_of_getElem? h), hg⟩
theorem zT_ofS {w : Cond} (i : Nat) (h : (k2_sels lw_privs)[i]? = some w) (hg : goodWord w = true) : w ∈ zT := List.mem_filter.mpr ⟨List.mem_append_left _ (List.mem_of_getElem? h), hg⟩
theorem zT_tbl {w : Cond} (h : w ∈ zT) : w ∈ lw_tbl := (List.mem_filter.mp h).1
theorem zG1 {w : Cond} (h : w ∈ zT) : w ∈ zT ∧ ((w.onTables && w.keeps) = true ∨ ∃ ty, w = .arrayClass ty) := ⟨h, good_of_word (zT_good h)⟩
theorem zG {c : Cond} (hc : c ∈ zT) : GoodIn zT (c :: zT) := fun w h => (List.mem_cons.mp h).elim (fun e => by rw [e]; exact zG1 hc) (fun h => zG1 h)
theorem zG_V {own C : String} {idx : Nat} {y : MethodName} {c : Cond} (h1 : .methodLink own idx y ∈ zT) (h2 : .instanceMethod y ∈ zT) (h3 : .selects C y y ∈ zT) (h4 : .initialized C ∈ zT) (hc : c ∈ zT) : GoodIn zT (wsV own idx C y (c :: zT)) := by
  intro w h
  rcases List.mem_append.mp h with h | h
  · simp only [List.mem_cons, List.not_mem_nil, or_false] at h
    rcases h with rfl | rfl | rfl | rfl
    · exact zG1 h1
    · exact zG1 h2
    · exact zG1 h3
    · exact zG1 h4
  · exact zG hc w h
theorem zG_S {own : String} {idx : Nat} {y : MethodName} {c : Cond} (h1 : .methodLink own idx y ∈ zT) (h2 : .static y ∈ zT) (h4 : .initialized y.cls ∈ zT) (hc : c ∈ zT) : GoodIn zT (va_wsS own idx y (c :: zT)) := by
  intro w h
  rcases List.mem_append.mp h with h | h
  · simp only [List.mem_cons, List.not_mem_nil, or_false] at h
    rcases h with rfl | rfl | rfl
    · exact zG1 h1
    · exact zG1 h2
    · exact zG1 h4
  · exact zG hc w h
