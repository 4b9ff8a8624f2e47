/-! ===== BEGIN words of one list among another's, by their places ===== -/
theorem goodIn_r {big : List Cond} (ws : List Cond) (ps : List Nat) (hp : ws = ps.filterMap (fun i => big[i]?)) (h : ws.all goodWord = true) : GoodIn big ws := by
  intro w hw
  have h1 := List.all_eq_true.mp h w hw
  rw [hp] at hw
  obtain ⟨i, -, hi⟩ := List.mem_filterMap.mp hw
  have hm : w ∈ big := by first | exact List.mem_of_getElem? hi | exact List.getElem?_mem hi
  exact ⟨hm, good_of_word h1⟩
theorem goodIn_app {big a b : List Cond} (ha : GoodIn big a) (hb : GoodIn big b) : GoodIn big (a ++ b) := fun w h => (List.mem_append.mp h).elim (ha w) (hb w)
theorem goodIn_ca {big a b : List Cond} {c : Cond} (ha : GoodIn big (c :: a)) (hb : GoodIn big b) : GoodIn big (c :: (a ++ b)) := fun w h => (List.mem_cons.mp h).elim (fun e => ha w (List.mem_cons.mpr (Or.inl e))) (fun h => (List.mem_append.mp h).elim (fun h => ha w (List.mem_cons.mpr (Or.inr h))) (hb w))
theorem goodIn_sub {big ws : List Cond} (hm : ∀ w ∈ ws, w ∈ big) (h : ws.all goodWord = true) : GoodIn big ws := fun w hw => ⟨hm w hw, good_of_word (List.all_eq_true.mp h w hw)⟩
/-! ===== END ===== -/
def RX0 : String := "DilemmaProver$Circuit"
def TX0 : u_T := fun k => match k with
  | 0 => ("DilemmaProver$Circuit", "kinds", "[I", true)
  | 1 => ("DilemmaProver$Circuit", "firsts", "[I", true)
  | 2 => ("DilemmaProver$Circuit", "seconds", "[I", true)
  | 3 => ("DilemmaProver$Circuit", "inputVariables", "[I", true)
  | 4 => ("DilemmaProver$Circuit", "names", "[[I", true)
  | 5 => ("DilemmaProver$Circuit", "nameLengths", "[I", true)
  | 6 => ("DilemmaProver$Circuit", "size", "I", false)
  | _ => ("DilemmaProver$Circuit", "inputs", "I", false)
def tyX0 : Nat → FieldType := fun k => match k with
  | 0 => .array .int
  | 1 => .array .int
  | 2 => .array .int
  | 3 => .array .int
  | 4 => .array (.array .int)
  | 5 => .array .int
  | 6 => .int
  | _ => .int
theorem nmX0 : ∀ a, a < 8 → ∀ b, b < 8 → a ≠ b → (TX0 a).2.1 ≠ (TX0 b).2.1 := by decide +kernel
theorem tyX0_ok : ∀ k, k < 8 → parseFieldDescriptor (TX0 k).2.2.1 = some (tyX0 k) := by decide +kernel
def RX1 : String := "DilemmaProver$Equivalence"
def TX1 : u_T := fun k => match k with
  | 0 => ("DilemmaProver$Equivalence", "standing", "[I", true)
  | 1 => ("DilemmaProver$Equivalence", "size", "I", false)
  | 2 => ("DilemmaProver$Equivalence", "classes", "I", false)
  | _ => ("DilemmaProver$Equivalence", "contradiction", "Z", false)
def tyX1 : Nat → FieldType := fun k => match k with
  | 0 => .array .int
  | 1 => .int
  | 2 => .int
  | _ => .boolean
theorem nmX1 : ∀ a, a < 4 → ∀ b, b < 4 → a ≠ b → (TX1 a).2.1 ≠ (TX1 b).2.1 := by decide +kernel
theorem tyX1_ok : ∀ k, k < 4 → parseFieldDescriptor (TX1 k).2.2.1 = some (tyX1 k) := by decide +kernel
def RX2 : String := "DilemmaProver$Reader"
def TX2 : u_T := fun k => match k with
  | 0 => ("DilemmaProver$Reader", "text", "LDilemmaProver$Text;", true)
  | 1 => ("DilemmaProver$Reader", "circuit", "LDilemmaProver$Circuit;", true)
  | 2 => ("DilemmaProver$Reader", "token", "I", false)
  | 3 => ("DilemmaProver$Reader", "start", "I", false)
  | 4 => ("DilemmaProver$Reader", "next", "I", false)
  | 5 => ("DilemmaProver$Reader", "open", "I", false)
  | 6 => ("DilemmaProver$Reader", "fault", "I", false)
  | _ => ("DilemmaProver$Reader", "faultPlace", "I", false)
def tyX2 : Nat → FieldType := fun k => match k with
  | 0 => .object "DilemmaProver$Text"
  | 1 => .object "DilemmaProver$Circuit"
  | 2 => .int
  | 3 => .int
  | 4 => .int
  | 5 => .int
  | 6 => .int
  | _ => .int
theorem nmX2 : ∀ a, a < 8 → ∀ b, b < 8 → a ≠ b → (TX2 a).2.1 ≠ (TX2 b).2.1 := by decide +kernel
theorem tyX2_ok : ∀ k, k < 8 → parseFieldDescriptor (TX2 k).2.2.1 = some (tyX2 k) := by decide +kernel
def RX3 : String := "DilemmaProver$Saturator"
def TX3 : u_T := fun k => match k with
  | 0 => ("DilemmaProver$Saturator", "circuit", "LDilemmaProver$Circuit;", true)
  | 1 => ("DilemmaProver$Saturator", "before", "LDilemmaProver$Equivalence;", true)
  | 2 => ("DilemmaProver$Saturator", "trueBranches", "[LDilemmaProver$Equivalence;", true)
  | 3 => ("DilemmaProver$Saturator", "falseBranches", "[LDilemmaProver$Equivalence;", true)
  | 4 => ("DilemmaProver$Saturator", "tallies", "[I", true)
  | 5 => ("DilemmaProver$Saturator", "mostSteps", "I", false)
  | _ => ("DilemmaProver$Saturator", "spent", "Z", false)
def tyX3 : Nat → FieldType := fun k => match k with
  | 0 => .object "DilemmaProver$Circuit"
  | 1 => .object "DilemmaProver$Equivalence"
  | 2 => .array (.object "DilemmaProver$Equivalence")
  | 3 => .array (.object "DilemmaProver$Equivalence")
  | 4 => .array .int
  | 5 => .int
  | _ => .boolean
theorem nmX3 : ∀ a, a < 7 → ∀ b, b < 7 → a ≠ b → (TX3 a).2.1 ≠ (TX3 b).2.1 := by decide +kernel
theorem tyX3_ok : ∀ k, k < 7 → parseFieldDescriptor (TX3 k).2.2.1 = some (tyX3 k) := by decide +kernel
def RX4 : String := "DilemmaProver$Table"
def TX4 : u_T := fun k => match k with
  | 0 => ("DilemmaProver$Table", "circuit", "LDilemmaProver$Circuit;", true)
  | _ => ("DilemmaProver$Table", "words", "[J", true)
def tyX4 : Nat → FieldType := fun k => match k with
  | 0 => .object "DilemmaProver$Circuit"
  | _ => .array .long
theorem nmX4 : ∀ a, a < 2 → ∀ b, b < 2 → a ≠ b → (TX4 a).2.1 ≠ (TX4 b).2.1 := by decide +kernel
theorem tyX4_ok : ∀ k, k < 2 → parseFieldDescriptor (TX4 k).2.2.1 = some (tyX4 k) := by decide +kernel
def RX5 : String := "DilemmaProver$Text"
def TX5 : u_T := fun k => match k with
  | 0 => ("DilemmaProver$Text", "bytes", "[B", true)
  | _ => ("DilemmaProver$Text", "length", "I", false)
def tyX5 : Nat → FieldType := fun k => match k with
  | 0 => .array .byte
  | _ => .int
theorem nmX5 : ∀ a, a < 2 → ∀ b, b < 2 → a ≠ b → (TX5 a).2.1 ≠ (TX5 b).2.1 := by decide +kernel
theorem tyX5_ok : ∀ k, k < 2 → parseFieldDescriptor (TX5 k).2.2.1 = some (tyX5 k) := by decide +kernel
def RX6 : String := "DilemmaProver"
def TX6 : u_T := fun k => match k with
  | 0 => ("DilemmaProver", "text", "LDilemmaProver$Text;", true)
  | 1 => ("DilemmaProver", "circuit", "LDilemmaProver$Circuit;", true)
  | 2 => ("DilemmaProver", "reader", "LDilemmaProver$Reader;", true)
  | 3 => ("DilemmaProver", "current", "LDilemmaProver$Equivalence;", true)
  | 4 => ("DilemmaProver", "working", "LDilemmaProver$Equivalence;", true)
  | 5 => ("DilemmaProver", "saturator", "LDilemmaProver$Saturator;", true)
  | _ => ("DilemmaProver", "table", "LDilemmaProver$Table;", true)
def tyX6 : Nat → FieldType := fun k => match k with
  | 0 => .object "DilemmaProver$Text"
  | 1 => .object "DilemmaProver$Circuit"
  | 2 => .object "DilemmaProver$Reader"
  | 3 => .object "DilemmaProver$Equivalence"
  | 4 => .object "DilemmaProver$Equivalence"
  | 5 => .object "DilemmaProver$Saturator"
  | _ => .object "DilemmaProver$Table"
theorem nmX6 : ∀ a, a < 7 → ∀ b, b < 7 → a ≠ b → (TX6 a).2.1 ≠ (TX6 b).2.1 := by decide +kernel
theorem tyX6_ok : ∀ k, k < 7 → parseFieldDescriptor (TX6 k).2.2.1 = some (tyX6 k) := by decide +kernel
def RX7 : String := "DilemmaProverModel"
def TX7 : u_T := fun k => match k with
  | 0 => ("DilemmaProverModel", "kind", "[I", true)
  | 1 => ("DilemmaProverModel", "one", "[I", true)
  | 2 => ("DilemmaProverModel", "two", "[I", true)
  | 3 => ("DilemmaProverModel", "variables", "I", false)
  | 4 => ("DilemmaProverModel", "inputs", "I", false)
  | 5 => ("DilemmaProverModel", "inputOf", "[I", true)
  | 6 => ("DilemmaProverModel", "nameSign", "[I", true)
  | 7 => ("DilemmaProverModel", "nameSize", "[I", true)
  | 8 => ("DilemmaProverModel", "label", "[I", true)
  | 9 => ("DilemmaProverModel", "isContrary", "Z", false)
  | 10 => ("DilemmaProverModel", "text", "[I", true)
  | 11 => ("DilemmaProverModel", "textSize", "I", false)
  | 12 => ("DilemmaProverModel", "at", "I", false)
  | 13 => ("DilemmaProverModel", "token", "I", false)
  | 14 => ("DilemmaProverModel", "tokenAt", "I", false)
  | 15 => ("DilemmaProverModel", "tokenSize", "I", false)
  | 16 => ("DilemmaProverModel", "scanned", "Z", false)
  | 17 => ("DilemmaProverModel", "fault", "I", false)
  | 18 => ("DilemmaProverModel", "faultAt", "I", false)
  | 19 => ("DilemmaProverModel", "place", "I", false)
  | 20 => ("DilemmaProverModel", "open", "I", false)
  | 21 => ("DilemmaProverModel", "level", "[I", true)
  | 22 => ("DilemmaProverModel", "stage", "[I", true)
  | 23 => ("DilemmaProverModel", "held", "[I", true)
  | 24 => ("DilemmaProverModel", "signPlace", "[I", true)
  | 25 => ("DilemmaProverModel", "value", "I", false)
  | 26 => ("DilemmaProverModel", "row", "[I", true)
  | 27 => ("DilemmaProverModel", "contrary", "[Z", true)
  | 28 => ("DilemmaProverModel", "firstRow", "[I", true)
  | 29 => ("DilemmaProverModel", "firstContrary", "[Z", true)
  | 30 => ("DilemmaProverModel", "depthOf", "[I", true)
  | 31 => ("DilemmaProverModel", "phase", "[I", true)
  | 32 => ("DilemmaProverModel", "tried", "[I", true)
  | 33 => ("DilemmaProverModel", "before", "[I", true)
  | 34 => ("DilemmaProverModel", "old", "[I", true)
  | 35 => ("DilemmaProverModel", "steps", "I", false)
  | 36 => ("DilemmaProverModel", "mostSteps", "I", false)
  | 37 => ("DilemmaProverModel", "rounds", "I", false)
  | 38 => ("DilemmaProverModel", "passes", "I", false)
  | 39 => ("DilemmaProverModel", "branches", "I", false)
  | _ => ("DilemmaProverModel", "worth", "[I", true)
def tyX7 : Nat → FieldType := fun k => match k with
  | 0 => .array .int
  | 1 => .array .int
  | 2 => .array .int
  | 3 => .int
  | 4 => .int
  | 5 => .array .int
  | 6 => .array .int
  | 7 => .array .int
  | 8 => .array .int
  | 9 => .boolean
  | 10 => .array .int
  | 11 => .int
  | 12 => .int
  | 13 => .int
  | 14 => .int
  | 15 => .int
  | 16 => .boolean
  | 17 => .int
  | 18 => .int
  | 19 => .int
  | 20 => .int
  | 21 => .array .int
  | 22 => .array .int
  | 23 => .array .int
  | 24 => .array .int
  | 25 => .int
  | 26 => .array .int
  | 27 => .array .boolean
  | 28 => .array .int
  | 29 => .array .boolean
  | 30 => .array .int
  | 31 => .array .int
  | 32 => .array .int
  | 33 => .array .int
  | 34 => .array .int
  | 35 => .int
  | 36 => .int
  | 37 => .int
  | 38 => .int
  | 39 => .int
  | _ => .array .int
theorem nmX7 : ∀ a, a < 41 → ∀ b, b < 41 → a ≠ b → (TX7 a).2.1 ≠ (TX7 b).2.1 := by decide +kernel
theorem tyX7_ok : ∀ k, k < 41 → parseFieldDescriptor (TX7 k).2.2.1 = some (tyX7 k) := by decide +kernel
abbrev vwCl : List vw_C := [(RX0, TX0, 8), (RX1, TX1, 4), (RX2, TX2, 8), (RX3, TX3, 7), (RX4, TX4, 2), (RX5, TX5, 2), (RX6, TX6, 7), (RX7, TX7, 41)]
