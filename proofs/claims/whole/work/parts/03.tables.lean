def TB_W : u_T := fun k => match k with
  | 0 => ("StabilitySums$Weights", "kg", "[J", true)
  | 1 => ("StabilitySums$Weights", "x", "[J", true)
  | 2 => ("StabilitySums$Weights", "y", "[J", true)
  | 3 => ("StabilitySums$Weights", "z", "[J", true)
  | _ => ("StabilitySums$Weights", "count", "I", false)
def tt_W : Nat → FieldType := fun k => match k with
  | 0 => .array .long
  | 1 => .array .long
  | 2 => .array .long
  | 3 => .array .long
  | _ => .int
theorem nm_W : ∀ a, a < 5 → ∀ b, b < 5 → a ≠ b → (TB_W a).2.1 ≠ (TB_W b).2.1 := by decide +kernel
theorem tk_W : ∀ k, k < 5 → parseFieldDescriptor (TB_W k).2.2.1 = some (tt_W k) := by decide +kernel
theorem ui_W : ∀ w ∈ u_ws "StabilitySums$Weights" TB_W 5, w ∈ UW := by
  have h : u_ws "StabilitySums$Weights" TB_W 5 = [(Jvm.Cond.laysFinal "StabilitySums$Weights" "StabilitySums$Weights" "kg" "[J"), (Jvm.Cond.laysFinal "StabilitySums$Weights" "StabilitySums$Weights" "x" "[J"), (Jvm.Cond.laysFinal "StabilitySums$Weights" "StabilitySums$Weights" "y" "[J"), (Jvm.Cond.laysFinal "StabilitySums$Weights" "StabilitySums$Weights" "z" "[J"), (Jvm.Cond.lays "StabilitySums$Weights" "StabilitySums$Weights" "count" "I")] := by decide +kernel
  rw [h]
  exact List.forall_mem_cons.mpr ⟨uw_69, List.forall_mem_cons.mpr ⟨uw_71, List.forall_mem_cons.mpr ⟨uw_73, List.forall_mem_cons.mpr ⟨uw_75, List.forall_mem_cons.mpr ⟨uw_77, fun _ h => nomatch h⟩⟩⟩⟩⟩
def TB_T : u_T := fun k => match k with
  | 0 => ("StabilitySums$Tanks", "most", "[J", true)
  | 1 => ("StabilitySums$Tanks", "surface", "[J", true)
  | 2 => ("StabilitySums$Tanks", "x", "[J", true)
  | 3 => ("StabilitySums$Tanks", "y", "[J", true)
  | 4 => ("StabilitySums$Tanks", "z", "[J", true)
  | 5 => ("StabilitySums$Tanks", "filled", "[J", true)
  | 6 => ("StabilitySums$Tanks", "tried", "[J", true)
  | 7 => ("StabilitySums$Tanks", "found", "[J", true)
  | _ => ("StabilitySums$Tanks", "count", "I", false)
def tt_T : Nat → FieldType := fun k => match k with
  | 0 => .array .long
  | 1 => .array .long
  | 2 => .array .long
  | 3 => .array .long
  | 4 => .array .long
  | 5 => .array .long
  | 6 => .array .long
  | 7 => .array .long
  | _ => .int
theorem nm_T : ∀ a, a < 9 → ∀ b, b < 9 → a ≠ b → (TB_T a).2.1 ≠ (TB_T b).2.1 := by decide +kernel
theorem tk_T : ∀ k, k < 9 → parseFieldDescriptor (TB_T k).2.2.1 = some (tt_T k) := by decide +kernel
theorem ui_T : ∀ w ∈ u_ws "StabilitySums$Tanks" TB_T 9, w ∈ UW := by
  have h : u_ws "StabilitySums$Tanks" TB_T 9 = [(Jvm.Cond.laysFinal "StabilitySums$Tanks" "StabilitySums$Tanks" "most" "[J"), (Jvm.Cond.laysFinal "StabilitySums$Tanks" "StabilitySums$Tanks" "surface" "[J"), (Jvm.Cond.laysFinal "StabilitySums$Tanks" "StabilitySums$Tanks" "x" "[J"), (Jvm.Cond.laysFinal "StabilitySums$Tanks" "StabilitySums$Tanks" "y" "[J"), (Jvm.Cond.laysFinal "StabilitySums$Tanks" "StabilitySums$Tanks" "z" "[J"), (Jvm.Cond.laysFinal "StabilitySums$Tanks" "StabilitySums$Tanks" "filled" "[J"), (Jvm.Cond.laysFinal "StabilitySums$Tanks" "StabilitySums$Tanks" "tried" "[J"), (Jvm.Cond.laysFinal "StabilitySums$Tanks" "StabilitySums$Tanks" "found" "[J"), (Jvm.Cond.lays "StabilitySums$Tanks" "StabilitySums$Tanks" "count" "I")] := by decide +kernel
  rw [h]
  exact List.forall_mem_cons.mpr ⟨uw_104, List.forall_mem_cons.mpr ⟨uw_106, List.forall_mem_cons.mpr ⟨uw_108, List.forall_mem_cons.mpr ⟨uw_110, List.forall_mem_cons.mpr ⟨uw_112, List.forall_mem_cons.mpr ⟨uw_114, List.forall_mem_cons.mpr ⟨uw_116, List.forall_mem_cons.mpr ⟨uw_118, List.forall_mem_cons.mpr ⟨uw_120, fun _ h => nomatch h⟩⟩⟩⟩⟩⟩⟩⟩⟩
def TB_B : u_T := fun k => match k with
  | 0 => ("StabilitySums$Table", "displacement", "[J", true)
  | 1 => ("StabilitySums$Table", "height", "[J", true)
  | 2 => ("StabilitySums$Table", "draft", "[J", true)
  | _ => ("StabilitySums$Table", "count", "I", false)
def tt_B : Nat → FieldType := fun k => match k with
  | 0 => .array .long
  | 1 => .array .long
  | 2 => .array .long
  | _ => .int
theorem nm_B : ∀ a, a < 4 → ∀ b, b < 4 → a ≠ b → (TB_B a).2.1 ≠ (TB_B b).2.1 := by decide +kernel
theorem tk_B : ∀ k, k < 4 → parseFieldDescriptor (TB_B k).2.2.1 = some (tt_B k) := by decide +kernel
theorem ui_B : ∀ w ∈ u_ws "StabilitySums$Table" TB_B 4, w ∈ UW := by
  have h : u_ws "StabilitySums$Table" TB_B 4 = [(Jvm.Cond.laysFinal "StabilitySums$Table" "StabilitySums$Table" "displacement" "[J"), (Jvm.Cond.laysFinal "StabilitySums$Table" "StabilitySums$Table" "height" "[J"), (Jvm.Cond.laysFinal "StabilitySums$Table" "StabilitySums$Table" "draft" "[J"), (Jvm.Cond.lays "StabilitySums$Table" "StabilitySums$Table" "count" "I")] := by decide +kernel
  rw [h]
  exact List.forall_mem_cons.mpr ⟨uw_136, List.forall_mem_cons.mpr ⟨uw_138, List.forall_mem_cons.mpr ⟨uw_140, List.forall_mem_cons.mpr ⟨uw_142, fun _ h => nomatch h⟩⟩⟩⟩
def TB_L : u_T := fun k => match k with
  | 0 => ("StabilitySums$Limits", "what", "[I", true)
  | 1 => ("StabilitySums$Limits", "low", "[J", true)
  | 2 => ("StabilitySums$Limits", "high", "[J", true)
  | _ => ("StabilitySums$Limits", "count", "I", false)
def tt_L : Nat → FieldType := fun k => match k with
  | 0 => .array .int
  | 1 => .array .long
  | 2 => .array .long
  | _ => .int
theorem nm_L : ∀ a, a < 4 → ∀ b, b < 4 → a ≠ b → (TB_L a).2.1 ≠ (TB_L b).2.1 := by decide +kernel
theorem tk_L : ∀ k, k < 4 → parseFieldDescriptor (TB_L k).2.2.1 = some (tt_L k) := by decide +kernel
theorem ui_L : ∀ w ∈ u_ws "StabilitySums$Limits" TB_L 4, w ∈ UW := by
  have h : u_ws "StabilitySums$Limits" TB_L 4 = [(Jvm.Cond.laysFinal "StabilitySums$Limits" "StabilitySums$Limits" "what" "[I"), (Jvm.Cond.laysFinal "StabilitySums$Limits" "StabilitySums$Limits" "low" "[J"), (Jvm.Cond.laysFinal "StabilitySums$Limits" "StabilitySums$Limits" "high" "[J"), (Jvm.Cond.lays "StabilitySums$Limits" "StabilitySums$Limits" "count" "I")] := by decide +kernel
  rw [h]
  exact List.forall_mem_cons.mpr ⟨uw_157, List.forall_mem_cons.mpr ⟨uw_159, List.forall_mem_cons.mpr ⟨uw_161, List.forall_mem_cons.mpr ⟨uw_163, fun _ h => nomatch h⟩⟩⟩⟩
def TB_E : u_T := fun k => match k with
  | 0 => ("StabilitySums$Steps", "ofTank", "[Z", true)
  | 1 => ("StabilitySums$Steps", "number", "[I", true)
  | 2 => ("StabilitySums$Steps", "kg", "[J", true)
  | _ => ("StabilitySums$Steps", "count", "I", false)
def tt_E : Nat → FieldType := fun k => match k with
  | 0 => .array .boolean
  | 1 => .array .int
  | 2 => .array .long
  | _ => .int
theorem nm_E : ∀ a, a < 4 → ∀ b, b < 4 → a ≠ b → (TB_E a).2.1 ≠ (TB_E b).2.1 := by decide +kernel
theorem tk_E : ∀ k, k < 4 → parseFieldDescriptor (TB_E k).2.2.1 = some (tt_E k) := by decide +kernel
theorem ui_E : ∀ w ∈ u_ws "StabilitySums$Steps" TB_E 4, w ∈ UW := by
  have h : u_ws "StabilitySums$Steps" TB_E 4 = [(Jvm.Cond.laysFinal "StabilitySums$Steps" "StabilitySums$Steps" "ofTank" "[Z"), (Jvm.Cond.laysFinal "StabilitySums$Steps" "StabilitySums$Steps" "number" "[I"), (Jvm.Cond.laysFinal "StabilitySums$Steps" "StabilitySums$Steps" "kg" "[J"), (Jvm.Cond.lays "StabilitySums$Steps" "StabilitySums$Steps" "count" "I")] := by decide +kernel
  rw [h]
  exact List.forall_mem_cons.mpr ⟨uw_181, List.forall_mem_cons.mpr ⟨uw_183, List.forall_mem_cons.mpr ⟨uw_185, List.forall_mem_cons.mpr ⟨uw_187, fun _ h => nomatch h⟩⟩⟩⟩
def TB_U : u_T := fun k => match k with
  | 0 => ("StabilitySums$Sums", "displacement", "J", false)
  | 1 => ("StabilitySums$Sums", "x", "J", false)
  | 2 => ("StabilitySums$Sums", "y", "J", false)
  | 3 => ("StabilitySums$Sums", "z", "J", false)
  | _ => ("StabilitySums$Sums", "surfaces", "J", false)
def tt_U : Nat → FieldType := fun k => match k with
  | 0 => .long
  | 1 => .long
  | 2 => .long
  | 3 => .long
  | _ => .long
theorem nm_U : ∀ a, a < 5 → ∀ b, b < 5 → a ≠ b → (TB_U a).2.1 ≠ (TB_U b).2.1 := by decide +kernel
theorem tk_U : ∀ k, k < 5 → parseFieldDescriptor (TB_U k).2.2.1 = some (tt_U k) := by decide +kernel
theorem ui_U : ∀ w ∈ u_ws "StabilitySums$Sums" TB_U 5, w ∈ UW := by
  have h : u_ws "StabilitySums$Sums" TB_U 5 = [(Jvm.Cond.lays "StabilitySums$Sums" "StabilitySums$Sums" "displacement" "J"), (Jvm.Cond.lays "StabilitySums$Sums" "StabilitySums$Sums" "x" "J"), (Jvm.Cond.lays "StabilitySums$Sums" "StabilitySums$Sums" "y" "J"), (Jvm.Cond.lays "StabilitySums$Sums" "StabilitySums$Sums" "z" "J"), (Jvm.Cond.lays "StabilitySums$Sums" "StabilitySums$Sums" "surfaces" "J")] := by decide +kernel
  rw [h]
  exact List.forall_mem_cons.mpr ⟨uw_207, List.forall_mem_cons.mpr ⟨uw_209, List.forall_mem_cons.mpr ⟨uw_211, List.forall_mem_cons.mpr ⟨uw_213, List.forall_mem_cons.mpr ⟨uw_215, fun _ h => nomatch h⟩⟩⟩⟩⟩
def TB_C : u_T := fun k => match k with
  | 0 => ("StabilitySums$Cuts", "place", "[J", true)
  | 1 => ("StabilitySums$Cuts", "kg", "[J", true)
  | 2 => ("StabilitySums$Cuts", "turn", "[J", true)
  | _ => ("StabilitySums$Cuts", "last", "I", false)
def tt_C : Nat → FieldType := fun k => match k with
  | 0 => .array .long
  | 1 => .array .long
  | 2 => .array .long
  | _ => .int
theorem nm_C : ∀ a, a < 4 → ∀ b, b < 4 → a ≠ b → (TB_C a).2.1 ≠ (TB_C b).2.1 := by decide +kernel
theorem tk_C : ∀ k, k < 4 → parseFieldDescriptor (TB_C k).2.2.1 = some (tt_C k) := by decide +kernel
theorem ui_C : ∀ w ∈ u_ws "StabilitySums$Cuts" TB_C 4, w ∈ UW := by
  have h : u_ws "StabilitySums$Cuts" TB_C 4 = [(Jvm.Cond.laysFinal "StabilitySums$Cuts" "StabilitySums$Cuts" "place" "[J"), (Jvm.Cond.laysFinal "StabilitySums$Cuts" "StabilitySums$Cuts" "kg" "[J"), (Jvm.Cond.laysFinal "StabilitySums$Cuts" "StabilitySums$Cuts" "turn" "[J"), (Jvm.Cond.lays "StabilitySums$Cuts" "StabilitySums$Cuts" "last" "I")] := by decide +kernel
  rw [h]
  exact List.forall_mem_cons.mpr ⟨uw_231, List.forall_mem_cons.mpr ⟨uw_233, List.forall_mem_cons.mpr ⟨uw_235, List.forall_mem_cons.mpr ⟨uw_237, fun _ h => nomatch h⟩⟩⟩⟩
def TB_F : u_T := fun k => match k with
  | 0 => ("StabilitySums$Fraction", "top", "J", false)
  | _ => ("StabilitySums$Fraction", "bottom", "J", false)
def tt_F : Nat → FieldType := fun k => match k with
  | 0 => .long
  | _ => .long
theorem nm_F : ∀ a, a < 2 → ∀ b, b < 2 → a ≠ b → (TB_F a).2.1 ≠ (TB_F b).2.1 := by decide +kernel
theorem tk_F : ∀ k, k < 2 → parseFieldDescriptor (TB_F k).2.2.1 = some (tt_F k) := by decide +kernel
theorem ui_F : ∀ w ∈ u_ws "StabilitySums$Fraction" TB_F 2, w ∈ UW := by
  have h : u_ws "StabilitySums$Fraction" TB_F 2 = [(Jvm.Cond.lays "StabilitySums$Fraction" "StabilitySums$Fraction" "top" "J"), (Jvm.Cond.lays "StabilitySums$Fraction" "StabilitySums$Fraction" "bottom" "J")] := by decide +kernel
  rw [h]
  exact List.forall_mem_cons.mpr ⟨uw_250, List.forall_mem_cons.mpr ⟨uw_252, fun _ h => nomatch h⟩⟩
def TB_S : u_T := fun k => match k with
  | 0 => ("StabilitySums", "weights", "LStabilitySums$Weights;", true)
  | 1 => ("StabilitySums", "tanks", "LStabilitySums$Tanks;", true)
  | 2 => ("StabilitySums", "table", "LStabilitySums$Table;", true)
  | 3 => ("StabilitySums", "limits", "LStabilitySums$Limits;", true)
  | 4 => ("StabilitySums", "steps", "LStabilitySums$Steps;", true)
  | 5 => ("StabilitySums", "sums", "LStabilitySums$Sums;", true)
  | 6 => ("StabilitySums", "cuts", "LStabilitySums$Cuts;", true)
  | 7 => ("StabilitySums", "fraction", "LStabilitySums$Fraction;", true)
  | 8 => ("StabilitySums", "left", "J", false)
  | _ => ("StabilitySums", "right", "J", false)
def tt_S : Nat → FieldType := fun k => match k with
  | 0 => .object "StabilitySums$Weights"
  | 1 => .object "StabilitySums$Tanks"
  | 2 => .object "StabilitySums$Table"
  | 3 => .object "StabilitySums$Limits"
  | 4 => .object "StabilitySums$Steps"
  | 5 => .object "StabilitySums$Sums"
  | 6 => .object "StabilitySums$Cuts"
  | 7 => .object "StabilitySums$Fraction"
  | 8 => .long
  | _ => .long
theorem nm_S : ∀ a, a < 10 → ∀ b, b < 10 → a ≠ b → (TB_S a).2.1 ≠ (TB_S b).2.1 := by decide +kernel
theorem tk_S : ∀ k, k < 10 → parseFieldDescriptor (TB_S k).2.2.1 = some (tt_S k) := by decide +kernel
theorem ui_S : ∀ w ∈ u_ws "StabilitySums" TB_S 10, w ∈ UW := by
  have h : u_ws "StabilitySums" TB_S 10 = [(Jvm.Cond.laysFinal "StabilitySums" "StabilitySums" "weights" "LStabilitySums$Weights;"), (Jvm.Cond.laysFinal "StabilitySums" "StabilitySums" "tanks" "LStabilitySums$Tanks;"), (Jvm.Cond.laysFinal "StabilitySums" "StabilitySums" "table" "LStabilitySums$Table;"), (Jvm.Cond.laysFinal "StabilitySums" "StabilitySums" "limits" "LStabilitySums$Limits;"), (Jvm.Cond.laysFinal "StabilitySums" "StabilitySums" "steps" "LStabilitySums$Steps;"), (Jvm.Cond.laysFinal "StabilitySums" "StabilitySums" "sums" "LStabilitySums$Sums;"), (Jvm.Cond.laysFinal "StabilitySums" "StabilitySums" "cuts" "LStabilitySums$Cuts;"), (Jvm.Cond.laysFinal "StabilitySums" "StabilitySums" "fraction" "LStabilitySums$Fraction;"), (Jvm.Cond.lays "StabilitySums" "StabilitySums" "left" "J"), (Jvm.Cond.lays "StabilitySums" "StabilitySums" "right" "J")] := by decide +kernel
  rw [h]
  exact List.forall_mem_cons.mpr ⟨uw_266, List.forall_mem_cons.mpr ⟨uw_268, List.forall_mem_cons.mpr ⟨uw_270, List.forall_mem_cons.mpr ⟨uw_272, List.forall_mem_cons.mpr ⟨uw_274, List.forall_mem_cons.mpr ⟨uw_276, List.forall_mem_cons.mpr ⟨uw_278, List.forall_mem_cons.mpr ⟨uw_280, List.forall_mem_cons.mpr ⟨uw_282, List.forall_mem_cons.mpr ⟨uw_284, fun _ h => nomatch h⟩⟩⟩⟩⟩⟩⟩⟩⟩⟩
def TB_M : u_T := fun k => match k with
  | 0 => ("StabilitySumsModel", "thrown", "I", false)
  | 1 => ("StabilitySumsModel", "weights", "I", false)
  | 2 => ("StabilitySumsModel", "kg", "[J", true)
  | 3 => ("StabilitySumsModel", "wx", "[J", true)
  | 4 => ("StabilitySumsModel", "wy", "[J", true)
  | 5 => ("StabilitySumsModel", "wz", "[J", true)
  | 6 => ("StabilitySumsModel", "tanks", "I", false)
  | 7 => ("StabilitySumsModel", "most", "[J", true)
  | 8 => ("StabilitySumsModel", "surface", "[J", true)
  | 9 => ("StabilitySumsModel", "tx", "[J", true)
  | 10 => ("StabilitySumsModel", "ty", "[J", true)
  | 11 => ("StabilitySumsModel", "tz", "[J", true)
  | 12 => ("StabilitySumsModel", "full", "[J", true)
  | 13 => ("StabilitySumsModel", "nowKg", "[J", true)
  | 14 => ("StabilitySumsModel", "nowFull", "[J", true)
  | 15 => ("StabilitySumsModel", "bestFull", "[J", true)
  | 16 => ("StabilitySumsModel", "rows", "I", false)
  | 17 => ("StabilitySumsModel", "at", "[J", true)
  | 18 => ("StabilitySumsModel", "high", "[J", true)
  | 19 => ("StabilitySumsModel", "deep", "[J", true)
  | 20 => ("StabilitySumsModel", "left", "J", false)
  | 21 => ("StabilitySumsModel", "right", "J", false)
  | 22 => ("StabilitySumsModel", "limits", "I", false)
  | 23 => ("StabilitySumsModel", "of", "[I", true)
  | 24 => ("StabilitySumsModel", "cut", "[J", true)
  | 25 => ("StabilitySumsModel", "low", "[J", true)
  | 26 => ("StabilitySumsModel", "top", "[J", true)
  | 27 => ("StabilitySumsModel", "steps", "I", false)
  | 28 => ("StabilitySumsModel", "isTank", "[Z", true)
  | 29 => ("StabilitySumsModel", "which", "[I", true)
  | 30 => ("StabilitySumsModel", "much", "[J", true)
  | 31 => ("StabilitySumsModel", "up", "J", false)
  | _ => ("StabilitySumsModel", "down", "J", false)
def tt_M : Nat → FieldType := fun k => match k with
  | 0 => .int
  | 1 => .int
  | 2 => .array .long
  | 3 => .array .long
  | 4 => .array .long
  | 5 => .array .long
  | 6 => .int
  | 7 => .array .long
  | 8 => .array .long
  | 9 => .array .long
  | 10 => .array .long
  | 11 => .array .long
  | 12 => .array .long
  | 13 => .array .long
  | 14 => .array .long
  | 15 => .array .long
  | 16 => .int
  | 17 => .array .long
  | 18 => .array .long
  | 19 => .array .long
  | 20 => .long
  | 21 => .long
  | 22 => .int
  | 23 => .array .int
  | 24 => .array .long
  | 25 => .array .long
  | 26 => .array .long
  | 27 => .int
  | 28 => .array .boolean
  | 29 => .array .int
  | 30 => .array .long
  | 31 => .long
  | _ => .long
theorem nm_M : ∀ a, a < 33 → ∀ b, b < 33 → a ≠ b → (TB_M a).2.1 ≠ (TB_M b).2.1 := by decide +kernel
theorem tk_M : ∀ k, k < 33 → parseFieldDescriptor (TB_M k).2.2.1 = some (tt_M k) := by decide +kernel
theorem ui_M : ∀ w ∈ u_ws "StabilitySumsModel" TB_M 33, w ∈ UW := by
  have h : u_ws "StabilitySumsModel" TB_M 33 = [(Jvm.Cond.lays "StabilitySumsModel" "StabilitySumsModel" "thrown" "I"), (Jvm.Cond.lays "StabilitySumsModel" "StabilitySumsModel" "weights" "I"), (Jvm.Cond.laysFinal "StabilitySumsModel" "StabilitySumsModel" "kg" "[J"), (Jvm.Cond.laysFinal "StabilitySumsModel" "StabilitySumsModel" "wx" "[J"), (Jvm.Cond.laysFinal "StabilitySumsModel" "StabilitySumsModel" "wy" "[J"), (Jvm.Cond.laysFinal "StabilitySumsModel" "StabilitySumsModel" "wz" "[J"), (Jvm.Cond.lays "StabilitySumsModel" "StabilitySumsModel" "tanks" "I"), (Jvm.Cond.laysFinal "StabilitySumsModel" "StabilitySumsModel" "most" "[J"), (Jvm.Cond.laysFinal "StabilitySumsModel" "StabilitySumsModel" "surface" "[J"), (Jvm.Cond.laysFinal "StabilitySumsModel" "StabilitySumsModel" "tx" "[J"), (Jvm.Cond.laysFinal "StabilitySumsModel" "StabilitySumsModel" "ty" "[J"), (Jvm.Cond.laysFinal "StabilitySumsModel" "StabilitySumsModel" "tz" "[J"), (Jvm.Cond.laysFinal "StabilitySumsModel" "StabilitySumsModel" "full" "[J"), (Jvm.Cond.laysFinal "StabilitySumsModel" "StabilitySumsModel" "nowKg" "[J"), (Jvm.Cond.laysFinal "StabilitySumsModel" "StabilitySumsModel" "nowFull" "[J"), (Jvm.Cond.laysFinal "StabilitySumsModel" "StabilitySumsModel" "bestFull" "[J"), (Jvm.Cond.lays "StabilitySumsModel" "StabilitySumsModel" "rows" "I"), (Jvm.Cond.laysFinal "StabilitySumsModel" "StabilitySumsModel" "at" "[J"), (Jvm.Cond.laysFinal "StabilitySumsModel" "StabilitySumsModel" "high" "[J"), (Jvm.Cond.laysFinal "StabilitySumsModel" "StabilitySumsModel" "deep" "[J"), (Jvm.Cond.lays "StabilitySumsModel" "StabilitySumsModel" "left" "J"), (Jvm.Cond.lays "StabilitySumsModel" "StabilitySumsModel" "right" "J"), (Jvm.Cond.lays "StabilitySumsModel" "StabilitySumsModel" "limits" "I"), (Jvm.Cond.laysFinal "StabilitySumsModel" "StabilitySumsModel" "of" "[I"), (Jvm.Cond.laysFinal "StabilitySumsModel" "StabilitySumsModel" "cut" "[J"), (Jvm.Cond.laysFinal "StabilitySumsModel" "StabilitySumsModel" "low" "[J"), (Jvm.Cond.laysFinal "StabilitySumsModel" "StabilitySumsModel" "top" "[J"), (Jvm.Cond.lays "StabilitySumsModel" "StabilitySumsModel" "steps" "I"), (Jvm.Cond.laysFinal "StabilitySumsModel" "StabilitySumsModel" "isTank" "[Z"), (Jvm.Cond.laysFinal "StabilitySumsModel" "StabilitySumsModel" "which" "[I"), (Jvm.Cond.laysFinal "StabilitySumsModel" "StabilitySumsModel" "much" "[J"), (Jvm.Cond.lays "StabilitySumsModel" "StabilitySumsModel" "up" "J"), (Jvm.Cond.lays "StabilitySumsModel" "StabilitySumsModel" "down" "J")] := by decide +kernel
  rw [h]
  exact List.forall_mem_cons.mpr ⟨uw_729, List.forall_mem_cons.mpr ⟨uw_731, List.forall_mem_cons.mpr ⟨uw_733, List.forall_mem_cons.mpr ⟨uw_735, List.forall_mem_cons.mpr ⟨uw_737, List.forall_mem_cons.mpr ⟨uw_739, List.forall_mem_cons.mpr ⟨uw_741, List.forall_mem_cons.mpr ⟨uw_743, List.forall_mem_cons.mpr ⟨uw_745, List.forall_mem_cons.mpr ⟨uw_747, List.forall_mem_cons.mpr ⟨uw_749, List.forall_mem_cons.mpr ⟨uw_751, List.forall_mem_cons.mpr ⟨uw_753, List.forall_mem_cons.mpr ⟨uw_755, List.forall_mem_cons.mpr ⟨uw_757, List.forall_mem_cons.mpr ⟨uw_759, List.forall_mem_cons.mpr ⟨uw_761, List.forall_mem_cons.mpr ⟨uw_763, List.forall_mem_cons.mpr ⟨uw_765, List.forall_mem_cons.mpr ⟨uw_767, List.forall_mem_cons.mpr ⟨uw_769, List.forall_mem_cons.mpr ⟨uw_771, List.forall_mem_cons.mpr ⟨uw_773, List.forall_mem_cons.mpr ⟨uw_775, List.forall_mem_cons.mpr ⟨uw_777, List.forall_mem_cons.mpr ⟨uw_779, List.forall_mem_cons.mpr ⟨uw_781, List.forall_mem_cons.mpr ⟨uw_783, List.forall_mem_cons.mpr ⟨uw_785, List.forall_mem_cons.mpr ⟨uw_787, List.forall_mem_cons.mpr ⟨uw_789, List.forall_mem_cons.mpr ⟨uw_791, List.forall_mem_cons.mpr ⟨uw_793, fun _ h => nomatch h⟩⟩⟩⟩⟩⟩⟩⟩⟩⟩⟩⟩⟩⟩⟩⟩⟩⟩⟩⟩⟩⟩⟩⟩⟩⟩⟩⟩⟩⟩⟩⟩⟩
abbrev CLS : List vw_C := [("StabilitySums", TB_S, 10), ("StabilitySums$Weights", TB_W, 5), ("StabilitySums$Tanks", TB_T, 9), ("StabilitySums$Table", TB_B, 4), ("StabilitySums$Limits", TB_L, 4), ("StabilitySums$Steps", TB_E, 4), ("StabilitySums$Sums", TB_U, 5), ("StabilitySums$Cuts", TB_C, 4), ("StabilitySums$Fraction", TB_F, 2), ("StabilitySumsModel", TB_M, 33)]
