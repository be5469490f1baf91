section
/-! Tables of the program: classes, fields, links, methods; by program out of the claim's own words. -/
-- a method: name, code, locals, answer, kind (0 virtual, 1 static, 2 constructor, 3 the law), parameters, class, links' place
abbrev xi_M : Type := MethodName × ByteArray × Nat × Option FieldType × Nat × Nat × Nat × Nat
def xc_TA : u_T := fun k => match k with
  | 0 => ("RootLoom", "source", "LRootLoom$Source;", true)
  | 1 => ("RootLoom", "code", "LRootLoom$Code;", true)
  | 2 => ("RootLoom", "weaver", "LRootLoom$Weaver;", true)
  | _ => ("RootLoom", "machine", "LRootLoom$Machine;", true)
def xc_tA : Nat → FieldType := fun k => match k with
  | 0 => .object "RootLoom$Source"
  | 1 => .object "RootLoom$Code"
  | 2 => .object "RootLoom$Weaver"
  | _ => .object "RootLoom$Machine"
theorem xc_nA : ∀ a, a < 4 → ∀ b, b < 4 → a ≠ b → (xc_TA a).2.1 ≠ (xc_TA b).2.1 := by decide +kernel
theorem xc_pA : ∀ k, k < 4 → parseFieldDescriptor (xc_TA k).2.2.1 = some (xc_tA k) := by decide +kernel
theorem xc_oA : ∀ k, k < 4 → (xc_TA k).1 = "RootLoom" := by decide +kernel
def xc_TS : u_T := fun k => match k with
  | 0 => ("RootLoom$Source", "leftOf", "[I", true)
  | 1 => ("RootLoom$Source", "rightOf", "[I", true)
  | 2 => ("RootLoom$Source", "resultOf", "[I", true)
  | 3 => ("RootLoom$Source", "parametersOf", "[I", true)
  | 4 => ("RootLoom$Source", "parameterTypes", "[I", true)
  | 5 => ("RootLoom$Source", "bodyOf", "[I", true)
  | 6 => ("RootLoom$Source", "functions", "I", false)
  | 7 => ("RootLoom$Source", "kindOf", "[I", true)
  | 8 => ("RootLoom$Source", "parts", "[I", true)
  | 9 => ("RootLoom$Source", "sizeOf", "[I", true)
  | 10 => ("RootLoom$Source", "valuesOf", "[I", true)
  | _ => ("RootLoom$Source", "nodes", "I", false)
def xc_tS : Nat → FieldType := fun k => match k with
  | 0 => .array .int
  | 1 => .array .int
  | 2 => .array .int
  | 3 => .array .int
  | 4 => .array .int
  | 5 => .array .int
  | 6 => .int
  | 7 => .array .int
  | 8 => .array .int
  | 9 => .array .int
  | 10 => .array .int
  | _ => .int
theorem xc_nS : ∀ a, a < 12 → ∀ b, b < 12 → a ≠ b → (xc_TS a).2.1 ≠ (xc_TS b).2.1 := by decide +kernel
theorem xc_pS : ∀ k, k < 12 → parseFieldDescriptor (xc_TS k).2.2.1 = some (xc_tS k) := by decide +kernel
theorem xc_oS : ∀ k, k < 12 → (xc_TS k).1 = "RootLoom$Source" := by decide +kernel
def xc_TC : u_T := fun k => match k with
  | 0 => ("RootLoom$Code", "stands", "Z", false)
  | 1 => ("RootLoom$Code", "count", "I", false)
  | 2 => ("RootLoom$Code", "mapped", "I", false)
  | 3 => ("RootLoom$Code", "mostValues", "I", false)
  | 4 => ("RootLoom$Code", "operation", "[I", true)
  | 5 => ("RootLoom$Code", "operand", "[I", true)
  | 6 => ("RootLoom$Code", "localMap", "[I", true)
  | 7 => ("RootLoom$Code", "pileMap", "[I", true)
  | 8 => ("RootLoom$Code", "starts", "[I", true)
  | 9 => ("RootLoom$Code", "leftOf", "[I", true)
  | _ => ("RootLoom$Code", "rightOf", "[I", true)
def xc_tC : Nat → FieldType := fun k => match k with
  | 0 => .boolean
  | 1 => .int
  | 2 => .int
  | 3 => .int
  | 4 => .array .int
  | 5 => .array .int
  | 6 => .array .int
  | 7 => .array .int
  | 8 => .array .int
  | 9 => .array .int
  | _ => .array .int
theorem xc_nC : ∀ a, a < 11 → ∀ b, b < 11 → a ≠ b → (xc_TC a).2.1 ≠ (xc_TC b).2.1 := by decide +kernel
theorem xc_pC : ∀ k, k < 11 → parseFieldDescriptor (xc_TC k).2.2.1 = some (xc_tC k) := by decide +kernel
theorem xc_oC : ∀ k, k < 11 → (xc_TC k).1 = "RootLoom$Code" := by decide +kernel
def xc_TV : u_T := fun k => match k with
  | 0 => ("RootLoom$Weaver", "source", "LRootLoom$Source;", true)
  | 1 => ("RootLoom$Weaver", "code", "LRootLoom$Code;", true)
  | 2 => ("RootLoom$Weaver", "openNodes", "[I", true)
  | 3 => ("RootLoom$Weaver", "openParts", "[I", true)
  | 4 => ("RootLoom$Weaver", "openJumps", "[I", true)
  | 5 => ("RootLoom$Weaver", "openTypes", "[I", true)
  | 6 => ("RootLoom$Weaver", "open", "I", false)
  | 7 => ("RootLoom$Weaver", "pileTypes", "[I", true)
  | 8 => ("RootLoom$Weaver", "height", "I", false)
  | 9 => ("RootLoom$Weaver", "localTypes", "[I", true)
  | 10 => ("RootLoom$Weaver", "wellTyped", "Z", false)
  | 11 => ("RootLoom$Weaver", "pairLoads", "[I", true)
  | _ => ("RootLoom$Weaver", "mattersBefore", "[I", true)
def xc_tV : Nat → FieldType := fun k => match k with
  | 0 => .object "RootLoom$Source"
  | 1 => .object "RootLoom$Code"
  | 2 => .array .int
  | 3 => .array .int
  | 4 => .array .int
  | 5 => .array .int
  | 6 => .int
  | 7 => .array .int
  | 8 => .int
  | 9 => .array .int
  | 10 => .boolean
  | 11 => .array .int
  | _ => .array .int
theorem xc_nV : ∀ a, a < 13 → ∀ b, b < 13 → a ≠ b → (xc_TV a).2.1 ≠ (xc_TV b).2.1 := by decide +kernel
theorem xc_pV : ∀ k, k < 13 → parseFieldDescriptor (xc_TV k).2.2.1 = some (xc_tV k) := by decide +kernel
theorem xc_oV : ∀ k, k < 13 → (xc_TV k).1 = "RootLoom$Weaver" := by decide +kernel
def xc_TM : u_T := fun k => match k with
  | 0 => ("RootLoom$Machine", "source", "LRootLoom$Source;", true)
  | 1 => ("RootLoom$Machine", "code", "LRootLoom$Code;", true)
  | 2 => ("RootLoom$Machine", "pairs", "LRootLoom$Pairs;", true)
  | 3 => ("RootLoom$Machine", "frames", "LRootLoom$Frames;", true)
  | 4 => ("RootLoom$Machine", "heapWords", "I", false)
  | 5 => ("RootLoom$Machine", "forceEvery", "I", false)
  | 6 => ("RootLoom$Machine", "place", "I", false)
  | 7 => ("RootLoom$Machine", "begun", "I", false)
  | 8 => ("RootLoom$Machine", "over", "I", false)
  | 9 => ("RootLoom$Machine", "steps", "I", false)
  | 10 => ("RootLoom$Machine", "collections", "I", false)
  | 11 => ("RootLoom$Machine", "stayed", "I", false)
  | 12 => ("RootLoom$Machine", "mostFrames", "I", false)
  | 13 => ("RootLoom$Machine", "printed", "[I", true)
  | 14 => ("RootLoom$Machine", "printedCount", "I", false)
  | 15 => ("RootLoom$Machine", "result", "I", false)
  | 16 => ("RootLoom$Machine", "resultType", "I", false)
  | _ => ("RootLoom$Machine", "reached", "I", false)
def xc_tM : Nat → FieldType := fun k => match k with
  | 0 => .object "RootLoom$Source"
  | 1 => .object "RootLoom$Code"
  | 2 => .object "RootLoom$Pairs"
  | 3 => .object "RootLoom$Frames"
  | 4 => .int
  | 5 => .int
  | 6 => .int
  | 7 => .int
  | 8 => .int
  | 9 => .int
  | 10 => .int
  | 11 => .int
  | 12 => .int
  | 13 => .array .int
  | 14 => .int
  | 15 => .int
  | 16 => .int
  | _ => .int
theorem xc_nM : ∀ a, a < 18 → ∀ b, b < 18 → a ≠ b → (xc_TM a).2.1 ≠ (xc_TM b).2.1 := by decide +kernel
theorem xc_pM : ∀ k, k < 18 → parseFieldDescriptor (xc_TM k).2.2.1 = some (xc_tM k) := by decide +kernel
theorem xc_oM : ∀ k, k < 18 → (xc_TM k).1 = "RootLoom$Machine" := by decide +kernel
def xc_TP : u_T := fun k => match k with
  | 0 => ("RootLoom$Pairs", "lefts", "[I", true)
  | 1 => ("RootLoom$Pairs", "rights", "[I", true)
  | 2 => ("RootLoom$Pairs", "types", "[I", true)
  | 3 => ("RootLoom$Pairs", "numbers", "[I", true)
  | 4 => ("RootLoom$Pairs", "count", "I", false)
  | 5 => ("RootLoom$Pairs", "keptIn", "[I", true)
  | 6 => ("RootLoom$Pairs", "collection", "I", false)
  | 7 => ("RootLoom$Pairs", "kept", "[I", true)
  | _ => ("RootLoom$Pairs", "keptCount", "I", false)
def xc_tP : Nat → FieldType := fun k => match k with
  | 0 => .array .int
  | 1 => .array .int
  | 2 => .array .int
  | 3 => .array .int
  | 4 => .int
  | 5 => .array .int
  | 6 => .int
  | 7 => .array .int
  | _ => .int
theorem xc_nP : ∀ a, a < 9 → ∀ b, b < 9 → a ≠ b → (xc_TP a).2.1 ≠ (xc_TP b).2.1 := by decide +kernel
theorem xc_pP : ∀ k, k < 9 → parseFieldDescriptor (xc_TP k).2.2.1 = some (xc_tP k) := by decide +kernel
theorem xc_oP : ∀ k, k < 9 → (xc_TP k).1 = "RootLoom$Pairs" := by decide +kernel
def xc_TF : u_T := fun k => match k with
  | 0 => ("RootLoom$Frames", "locals", "[I", true)
  | 1 => ("RootLoom$Frames", "values", "[I", true)
  | 2 => ("RootLoom$Frames", "heights", "[I", true)
  | 3 => ("RootLoom$Frames", "calls", "[I", true)
  | _ => ("RootLoom$Frames", "last", "I", false)
def xc_tF : Nat → FieldType := fun k => match k with
  | 0 => .array .int
  | 1 => .array .int
  | 2 => .array .int
  | 3 => .array .int
  | _ => .int
theorem xc_nF : ∀ a, a < 5 → ∀ b, b < 5 → a ≠ b → (xc_TF a).2.1 ≠ (xc_TF b).2.1 := by decide +kernel
theorem xc_pF : ∀ k, k < 5 → parseFieldDescriptor (xc_TF k).2.2.1 = some (xc_tF k) := by decide +kernel
theorem xc_oF : ∀ k, k < 5 → (xc_TF k).1 = "RootLoom$Frames" := by decide +kernel
def xc_TR : u_T := fun k => match k with
  | 0 => ("RootLoomModel", "thrown", "I", false)
  | 1 => ("RootLoomModel", "leftOf", "[I", true)
  | 2 => ("RootLoomModel", "rightOf", "[I", true)
  | 3 => ("RootLoomModel", "functions", "I", false)
  | 4 => ("RootLoomModel", "results", "[I", true)
  | 5 => ("RootLoomModel", "parameters", "[I", true)
  | 6 => ("RootLoomModel", "parameterTypes", "[I", true)
  | 7 => ("RootLoomModel", "bodies", "[I", true)
  | 8 => ("RootLoomModel", "nodes", "I", false)
  | 9 => ("RootLoomModel", "kinds", "[I", true)
  | 10 => ("RootLoomModel", "a", "[I", true)
  | 11 => ("RootLoomModel", "b", "[I", true)
  | 12 => ("RootLoomModel", "c", "[I", true)
  | 13 => ("RootLoomModel", "sizes", "[I", true)
  | 14 => ("RootLoomModel", "piles", "[I", true)
  | 15 => ("RootLoomModel", "isLaid", "Z", false)
  | 16 => ("RootLoomModel", "size", "I", false)
  | 17 => ("RootLoomModel", "op", "[I", true)
  | 18 => ("RootLoomModel", "with", "[I", true)
  | 19 => ("RootLoomModel", "takes", "[I", true)
  | 20 => ("RootLoomModel", "localMap", "[I", true)
  | 21 => ("RootLoomModel", "pileMap", "[I", true)
  | 22 => ("RootLoomModel", "matters", "[I", true)
  | 23 => ("RootLoomModel", "entries", "[I", true)
  | 24 => ("RootLoomModel", "laidLeft", "[I", true)
  | 25 => ("RootLoomModel", "laidRight", "[I", true)
  | 26 => ("RootLoomModel", "highest", "I", false)
  | 27 => ("RootLoomModel", "todo", "I", false)
  | 28 => ("RootLoomModel", "what", "[I", true)
  | 29 => ("RootLoomModel", "which", "[I", true)
  | 30 => ("RootLoomModel", "typed", "I", false)
  | 31 => ("RootLoomModel", "pileType", "[I", true)
  | 32 => ("RootLoomModel", "localType", "[I", true)
  | 33 => ("RootLoomModel", "waiting", "I", false)
  | 34 => ("RootLoomModel", "waitPlace", "[I", true)
  | 35 => ("RootLoomModel", "waitType", "[I", true)
  | 36 => ("RootLoomModel", "ill", "Z", false)
  | 37 => ("RootLoomModel", "heapWords", "I", false)
  | 38 => ("RootLoomModel", "forced", "I", false)
  | 39 => ("RootLoomModel", "over", "I", false)
  | 40 => ("RootLoomModel", "steps", "I", false)
  | 41 => ("RootLoomModel", "collections", "I", false)
  | 42 => ("RootLoomModel", "stayed", "I", false)
  | 43 => ("RootLoomModel", "mostFrames", "I", false)
  | 44 => ("RootLoomModel", "outs", "I", false)
  | 45 => ("RootLoomModel", "out", "[I", true)
  | 46 => ("RootLoomModel", "result", "I", false)
  | 47 => ("RootLoomModel", "resultType", "I", false)
  | 48 => ("RootLoomModel", "pairs", "I", false)
  | 49 => ("RootLoomModel", "there", "[Z", true)
  | 50 => ("RootLoomModel", "pairType", "[I", true)
  | 51 => ("RootLoomModel", "pairLeft", "[I", true)
  | 52 => ("RootLoomModel", "pairRight", "[I", true)
  | 53 => ("RootLoomModel", "stays", "[Z", true)
  | 54 => ("RootLoomModel", "marked", "I", false)
  | 55 => ("RootLoomModel", "mark", "[I", true)
  | 56 => ("RootLoomModel", "frame", "I", false)
  | 57 => ("RootLoomModel", "at", "I", false)
  | 58 => ("RootLoomModel", "numbered", "I", false)
  | 59 => ("RootLoomModel", "back", "[I", true)
  | 60 => ("RootLoomModel", "high", "[I", true)
  | 61 => ("RootLoomModel", "local", "[I", true)
  | 62 => ("RootLoomModel", "pile", "[I", true)
  | 63 => ("RootLoomModel", "toldType", "I", false)
  | _ => ("RootLoomModel", "told", "I", false)
def xc_tR : Nat → FieldType := fun k => match k with
  | 0 => .int
  | 1 => .array .int
  | 2 => .array .int
  | 3 => .int
  | 4 => .array .int
  | 5 => .array .int
  | 6 => .array .int
  | 7 => .array .int
  | 8 => .int
  | 9 => .array .int
  | 10 => .array .int
  | 11 => .array .int
  | 12 => .array .int
  | 13 => .array .int
  | 14 => .array .int
  | 15 => .boolean
  | 16 => .int
  | 17 => .array .int
  | 18 => .array .int
  | 19 => .array .int
  | 20 => .array .int
  | 21 => .array .int
  | 22 => .array .int
  | 23 => .array .int
  | 24 => .array .int
  | 25 => .array .int
  | 26 => .int
  | 27 => .int
  | 28 => .array .int
  | 29 => .array .int
  | 30 => .int
  | 31 => .array .int
  | 32 => .array .int
  | 33 => .int
  | 34 => .array .int
  | 35 => .array .int
  | 36 => .boolean
  | 37 => .int
  | 38 => .int
  | 39 => .int
  | 40 => .int
  | 41 => .int
  | 42 => .int
  | 43 => .int
  | 44 => .int
  | 45 => .array .int
  | 46 => .int
  | 47 => .int
  | 48 => .int
  | 49 => .array .boolean
  | 50 => .array .int
  | 51 => .array .int
  | 52 => .array .int
  | 53 => .array .boolean
  | 54 => .int
  | 55 => .array .int
  | 56 => .int
  | 57 => .int
  | 58 => .int
  | 59 => .array .int
  | 60 => .array .int
  | 61 => .array .int
  | 62 => .array .int
  | 63 => .int
  | _ => .int
theorem xc_nR : ∀ a, a < 65 → ∀ b, b < 65 → a ≠ b → (xc_TR a).2.1 ≠ (xc_TR b).2.1 := by decide +kernel
theorem xc_pR : ∀ k, k < 65 → parseFieldDescriptor (xc_TR k).2.2.1 = some (xc_tR k) := by decide +kernel
theorem xc_oR : ∀ k, k < 65 → (xc_TR k).1 = "RootLoomModel" := by decide +kernel
def xc_TE : u_T := fun _ => ("", "", "", false)
def xi_cl : List vw_C := [("RootLoom", xc_TA, 4), ("RootLoom$Source", xc_TS, 12), ("RootLoom$Code", xc_TC, 11), ("RootLoom$Weaver", xc_TV, 13), ("RootLoom$Machine", xc_TM, 18), ("RootLoom$Pairs", xc_TP, 9), ("RootLoom$Frames", xc_TF, 5), ("RootLoomModel", xc_TR, 65), ("java/lang/IndexOutOfBoundsException", xc_TE, 0), ("java/lang/IllegalArgumentException", xc_TE, 0)]
def xi_tt (ci k : Nat) : FieldType := match ci with
  | 0 => xc_tA k
  | 1 => xc_tS k
  | 2 => xc_tC k
  | 3 => xc_tV k
  | 4 => xc_tM k
  | 5 => xc_tP k
  | 6 => xc_tF k
  | 7 => xc_tR k
  | _ => .int
theorem xi_okC : ∀ (ci : Nat) (r : vw_C), xi_cl[ci]? = some r → (∀ k, k < r.2.2 → parseFieldDescriptor (r.2.1 k).2.2.1 = some (xi_tt ci k)) ∧ (∀ a, a < r.2.2 → ∀ b, b < r.2.2 → a ≠ b → (r.2.1 a).2.1 ≠ (r.2.1 b).2.1) ∧ (∀ k, k < r.2.2 → (r.2.1 k).1 = r.1)
  | 0, _, rfl => ⟨xc_pA, xc_nA, xc_oA⟩
  | 1, _, rfl => ⟨xc_pS, xc_nS, xc_oS⟩
  | 2, _, rfl => ⟨xc_pC, xc_nC, xc_oC⟩
  | 3, _, rfl => ⟨xc_pV, xc_nV, xc_oV⟩
  | 4, _, rfl => ⟨xc_pM, xc_nM, xc_oM⟩
  | 5, _, rfl => ⟨xc_pP, xc_nP, xc_oP⟩
  | 6, _, rfl => ⟨xc_pF, xc_nF, xc_oF⟩
  | 7, _, rfl => ⟨xc_pR, xc_nR, xc_oR⟩
  | 8, _, rfl => ⟨fun k h => absurd h (Nat.not_lt_zero k), fun a h => absurd h (Nat.not_lt_zero a), fun k h => absurd h (Nat.not_lt_zero k)⟩
  | 9, _, rfl => ⟨fun k h => absurd h (Nat.not_lt_zero k), fun a h => absurd h (Nat.not_lt_zero a), fun k h => absurd h (Nat.not_lt_zero k)⟩
  | _ + 10, _, h => nomatch h
-- links of a class: (place in its file, kind, ..)
def xl_L : List (Nat × Nat × Nat × Nat) := [(7, 3, 17, 0), (8, 2, 0, 0), (17, 3, 1, 0), (18, 2, 7, 0), (20, 3, 98, 0), (21, 3, 2, 0), (25, 3, 100, 0), (26, 3, 3, 0), (30, 3, 102, 0), (31, 3, 4, 0), (35, 3, 103, 0), (36, 3, 5, 0), (40, 3, 107, 0), (41, 3, 6, 0), (45, 3, 108, 0), (46, 3, 7, 0), (50, 3, 128, 0), (56, 3, 130, 0), (57, 3, 99, 0), (60, 3, 8, 0), (63, 3, 132, 0), (64, 3, 9, 0), (67, 3, 133, 0), (68, 3, 10, 0), (72, 3, 134, 0), (73, 3, 11, 0), (76, 3, 135, 0), (77, 3, 12, 0), (80, 3, 136, 0), (81, 3, 13, 0), (84, 3, 152, 0), (85, 3, 14, 0), (88, 3, 153, 0), (89, 3, 15, 0), (92, 3, 154, 0), (93, 3, 16, 0), (96, 3, 156, 0)]
def xl_A : List (Nat × Nat × Nat × Nat) := [(3, 4, 0, 0), (9, 2, 1, 0), (11, 3, 18, 1), (12, 0, 0, 0), (16, 2, 2, 0), (18, 3, 37, 1), (19, 0, 0, 1), (23, 2, 3, 0), (25, 3, 44, 0), (28, 0, 0, 2), (32, 2, 4, 0), (34, 3, 66, 0), (35, 0, 0, 3), (39, 3, 19, 0), (43, 3, 22, 0), (47, 3, 23, 0), (51, 3, 33, 0), (55, 3, 67, 0), (58, 3, 45, 0), (62, 0, 2, 0), (66, 0, 2, 1), (70, 0, 2, 2), (73, 0, 2, 3), (76, 3, 43, 0), (86, 0, 2, 4), (90, 0, 2, 5), (93, 3, 42, 0), (97, 3, 40, 0), (100, 0, 2, 6), (103, 0, 2, 7), (106, 0, 4, 4), (109, 0, 4, 5), (112, 3, 36, 0), (115, 3, 68, 0), (118, 3, 81, 0), (121, 3, 82, 0), (124, 3, 83, 0), (128, 0, 4, 17)]
def xl_S : List (Nat × Nat × Nat × Nat) := [(3, 4, 0, 0), (9, 0, 1, 0), (15, 0, 1, 1), (18, 0, 1, 2), (21, 0, 1, 3), (24, 0, 1, 4), (27, 0, 1, 5), (30, 0, 1, 6), (34, 0, 1, 7), (37, 0, 1, 8), (40, 0, 1, 9), (43, 0, 1, 10), (46, 0, 1, 11), (49, 3, 20, 0), (53, 3, 21, 0), (56, 1, 1, 0), (59, 3, 24, 0), (63, 3, 28, 0), (67, 3, 25, 0), (70, 3, 26, 0), (73, 3, 34, 0), (77, 3, 31, 0), (80, 3, 27, 0), (83, 3, 29, 0), (87, 3, 30, 0), (90, 3, 32, 0), (93, 3, 157, 0), (98, 3, 158, 0)]
def xl_C : List (Nat × Nat × Nat × Nat) := [(3, 4, 0, 0), (9, 0, 2, 0), (15, 0, 2, 1), (19, 0, 2, 2), (22, 0, 2, 3), (25, 0, 2, 4), (29, 0, 2, 5), (32, 0, 2, 6), (35, 0, 2, 7), (38, 0, 2, 8), (41, 0, 2, 9), (44, 0, 2, 10), (47, 0, 1, 0), (50, 0, 1, 1)]
def xl_V : List (Nat × Nat × Nat × Nat) := [(3, 4, 0, 0), (9, 0, 3, 2), (15, 0, 3, 3), (18, 0, 3, 4), (21, 0, 3, 5), (24, 0, 3, 6), (28, 0, 3, 7), (31, 0, 3, 8), (34, 0, 3, 9), (37, 0, 3, 10), (41, 0, 3, 11), (44, 0, 3, 12), (47, 0, 3, 0), (51, 0, 3, 1), (55, 3, 38, 0), (60, 0, 1, 6), (65, 0, 1, 5), (68, 0, 1, 9), (71, 0, 1, 10), (74, 3, 157, 0), (80, 3, 46, 0), (84, 3, 64, 0), (87, 3, 41, 0), (91, 0, 2, 3), (94, 0, 2, 0), (97, 0, 2, 1), (100, 0, 2, 8), (103, 0, 1, 3), (106, 3, 34, 0), (109, 3, 47, 0), (113, 3, 48, 0), (117, 3, 61, 0), (120, 3, 54, 0), (124, 0, 1, 2), (127, 3, 39, 0), (130, 3, 30, 0), (133, 3, 62, 0), (137, 0, 1, 7), (140, 3, 53, 0), (143, 0, 2, 5), (146, 3, 31, 0), (149, 3, 63, 0), (152, 3, 49, 0), (155, 3, 50, 0), (158, 3, 52, 0), (161, 3, 55, 0), (164, 0, 1, 0), (167, 3, 57, 0), (170, 0, 1, 1), (173, 3, 58, 0), (176, 3, 35, 0), (180, 3, 59, 0), (183, 3, 60, 0), (187, 3, 51, 0), (191, 3, 56, 0), (194, 0, 2, 7), (197, 0, 2, 2), (200, 3, 65, 0), (203, 3, 40, 0), (206, 0, 2, 6), (209, 0, 2, 4)]
def xl_M : List (Nat × Nat × Nat × Nat) := [(3, 4, 0, 0), (9, 2, 5, 0), (11, 3, 84, 0), (12, 0, 4, 2), (18, 2, 6, 0), (20, 3, 91, 1), (21, 0, 4, 3), (25, 0, 4, 4), (29, 0, 4, 5), (32, 0, 4, 6), (35, 0, 4, 7), (38, 0, 4, 8), (41, 0, 4, 9), (44, 0, 4, 10), (47, 0, 4, 11), (50, 0, 4, 12), (53, 0, 4, 13), (57, 0, 4, 14), (60, 0, 4, 15), (63, 0, 4, 16), (66, 0, 4, 17), (69, 0, 4, 0), (73, 0, 4, 1), (77, 3, 85, 0), (80, 3, 92, 0), (84, 3, 42, 0), (90, 0, 1, 2), (95, 3, 69, 0), (98, 3, 86, 0), (102, 0, 5, 1), (105, 0, 5, 0), (108, 0, 2, 10), (111, 0, 2, 9), (114, 0, 2, 5), (117, 0, 2, 4), (120, 3, 93, 0), (124, 3, 94, 0), (127, 3, 95, 0), (130, 3, 96, 0), (134, 3, 70, 0), (137, 3, 71, 0), (140, 3, 76, 0), (144, 3, 77, 0), (147, 3, 78, 0), (150, 3, 79, 0), (153, 3, 80, 0), (156, 3, 72, 0), (160, 3, 73, 0), (163, 3, 74, 0), (166, 3, 90, 0), (170, 0, 6, 4), (173, 0, 1, 3), (176, 3, 97, 0), (179, 3, 157, 0), (185, 0, 6, 3), (188, 3, 87, 0), (191, 3, 75, 0), (194, 3, 89, 0), (198, 0, 2, 6), (201, 0, 6, 0), (204, 3, 88, 0), (207, 0, 6, 2), (210, 0, 2, 7), (213, 0, 6, 1)]
def xl_P : List (Nat × Nat × Nat × Nat) := [(3, 4, 0, 0), (9, 0, 5, 0), (15, 0, 5, 1), (18, 0, 5, 2), (21, 0, 5, 3), (24, 0, 5, 4), (28, 0, 5, 5), (31, 0, 5, 6), (34, 0, 5, 7), (37, 0, 5, 8), (40, 3, 88, 0)]
def xl_F : List (Nat × Nat × Nat × Nat) := [(3, 4, 0, 0), (9, 0, 6, 0), (15, 0, 6, 1), (18, 0, 6, 2), (21, 0, 6, 3), (24, 0, 6, 4)]
def xl_R : List (Nat × Nat × Nat × Nat) := [(1, 4, 0, 0), (7, 0, 7, 1), (13, 0, 7, 2), (16, 0, 7, 4), (19, 0, 7, 5), (22, 0, 7, 6), (25, 0, 7, 7), (28, 0, 7, 9), (31, 0, 7, 10), (34, 0, 7, 11), (37, 0, 7, 12), (40, 0, 7, 13), (43, 0, 7, 14), (46, 0, 7, 17), (49, 0, 7, 18), (52, 0, 7, 19), (55, 0, 7, 20), (58, 0, 7, 21), (61, 0, 7, 22), (64, 0, 7, 23), (67, 0, 7, 24), (70, 0, 7, 25), (73, 0, 7, 28), (76, 0, 7, 29), (79, 0, 7, 31), (82, 0, 7, 32), (85, 0, 7, 34), (88, 0, 7, 35), (91, 0, 7, 37), (95, 0, 7, 45), (98, 0, 7, 49), (102, 0, 7, 50), (105, 0, 7, 51), (108, 0, 7, 52), (111, 0, 7, 53), (114, 0, 7, 55), (117, 0, 7, 59), (120, 0, 7, 60), (123, 0, 7, 61), (126, 0, 7, 62), (129, 0, 7, 0), (132, 3, 101, 0), (136, 0, 7, 3), (139, 0, 7, 8), (142, 3, 105, 0), (146, 3, 106, 0), (149, 3, 104, 0), (153, 3, 111, 0), (157, 3, 112, 0), (161, 3, 110, 0), (165, 0, 7, 26), (168, 0, 7, 27), (171, 0, 7, 16), (174, 0, 7, 36), (178, 0, 7, 30), (181, 3, 116, 0), (185, 3, 117, 0), (188, 3, 118, 0), (192, 3, 114, 0), (195, 3, 121, 0), (199, 3, 122, 0), (203, 3, 120, 0), (206, 0, 7, 33), (209, 3, 123, 0), (212, 3, 124, 0), (215, 3, 115, 0), (218, 3, 119, 0), (221, 3, 125, 0), (224, 3, 126, 0), (227, 0, 7, 39), (230, 0, 7, 15), (233, 3, 109, 0), (237, 3, 113, 0), (240, 3, 127, 0), (243, 3, 129, 0), (246, 3, 131, 0), (249, 0, 7, 38), (252, 0, 7, 54), (255, 3, 142, 0), (258, 0, 7, 41), (261, 0, 7, 56), (264, 0, 7, 57), (267, 3, 141, 0), (270, 0, 7, 48), (273, 0, 7, 42), (276, 0, 7, 58), (279, 3, 149, 0), (282, 3, 139, 0), (286, 3, 140, 0), (289, 3, 144, 0), (292, 3, 145, 0), (295, 0, 7, 43), (298, 0, 7, 46), (301, 0, 7, 44), (304, 3, 147, 0), (307, 3, 148, 0), (310, 3, 150, 0), (313, 3, 151, 0), (316, 0, 7, 40), (319, 3, 138, 0), (322, 3, 143, 0), (325, 3, 146, 0), (328, 0, 7, 47), (331, 3, 137, 0), (334, 0, 7, 63), (337, 0, 7, 64), (340, 3, 155, 0)]
def xl_J : List (Nat × Nat × Nat × Nat) := []
def xi_ll : List (String × List (Nat × Nat × Nat × Nat)) := [("RootLoomLaw", xl_L), ("RootLoom", xl_A), ("RootLoom$Source", xl_S), ("RootLoom$Code", xl_C), ("RootLoom$Weaver", xl_V), ("RootLoom$Machine", xl_M), ("RootLoom$Pairs", xl_P), ("RootLoom$Frames", xl_F), ("RootLoomModel", xl_R), ("java/lang/Math", xl_J)]
def xm_0 : xi_M := (x, code, maxLocals, ret, 3, 1, 99, 0)
def xm_1 : xi_M := (⟨"RootLoom", "<init>", "()V"⟩, prog_1_method_1_code, 1, none, 2, 0, 0, 1)
def xm_2 : xi_M := (⟨"RootLoom", "type", "(III)Z"⟩, prog_1_method_2_code, 4, some .boolean, 0, 3, 0, 1)
def xm_3 : xi_M := (⟨"RootLoom", "function", "(IIIII)I"⟩, prog_1_method_3_code, 6, some .int, 0, 5, 0, 1)
def xm_4 : xi_M := (⟨"RootLoom", "node", "(IIII)I"⟩, prog_1_method_4_code, 5, some .int, 0, 4, 0, 1)
def xm_5 : xi_M := (⟨"RootLoom", "body", "(II)Z"⟩, prog_1_method_5_code, 3, some .boolean, 0, 2, 0, 1)
def xm_6 : xi_M := (⟨"RootLoom", "lay", "()I"⟩, prog_1_method_6_code, 1, some .int, 0, 0, 0, 1)
def xm_7 : xi_M := (⟨"RootLoom", "laid", "(I)I"⟩, prog_1_method_7_code, 2, some .int, 0, 1, 0, 1)
def xm_8 : xi_M := (⟨"RootLoom", "entry", "(I)I"⟩, prog_1_method_9_code, 2, some .int, 0, 1, 0, 1)
def xm_9 : xi_M := (⟨"RootLoom", "map", "(II)I"⟩, prog_1_method_10_code, 3, some .int, 0, 2, 0, 1)
def xm_10 : xi_M := (⟨"RootLoom", "heap", "(I)Z"⟩, prog_1_method_11_code, 2, some .boolean, 0, 1, 0, 1)
def xm_11 : xi_M := (⟨"RootLoom", "force", "(I)Z"⟩, prog_1_method_12_code, 2, some .boolean, 0, 1, 0, 1)
def xm_12 : xi_M := (⟨"RootLoom", "run", "(IIII)I"⟩, prog_1_method_13_code, 5, some .int, 0, 4, 0, 1)
def xm_13 : xi_M := (⟨"RootLoom", "latest", "(I)I"⟩, prog_1_method_14_code, 2, some .int, 0, 1, 0, 1)
def xm_14 : xi_M := (⟨"RootLoom", "out", "(I)I"⟩, prog_1_method_15_code, 2, some .int, 0, 1, 0, 1)
def xm_15 : xi_M := (⟨"RootLoom", "tell", "(II)I"⟩, prog_1_method_16_code, 3, some .int, 0, 2, 0, 1)
def xm_16 : xi_M := (⟨"RootLoom", "value", "(II)I"⟩, prog_1_method_17_code, 3, some .int, 0, 2, 0, 1)
def xm_17 : xi_M := (⟨"RootLoom", "instruction", "(II)I"⟩, prog_1_method_8_code, 3, some .int, 0, 2, 0, 1)
def xm_18 : xi_M := (⟨"RootLoom$Source", "<init>", "()V"⟩, prog_6_method_1_code, 1, none, 2, 0, 1, 2)
def xm_19 : xi_M := (⟨"RootLoom$Source", "setType", "(III)Z"⟩, prog_6_method_2_code, 4, some .boolean, 0, 3, 1, 2)
def xm_20 : xi_M := (⟨"RootLoom$Source", "isPairType", "(I)Z"⟩, prog_6_method_16_code, 1, some .boolean, 1, 1, 1, 2)
def xm_21 : xi_M := (⟨"RootLoom$Source", "isType", "(I)Z"⟩, prog_6_method_15_code, 1, some .boolean, 1, 1, 1, 2)
def xm_22 : xi_M := (⟨"RootLoom$Source", "addFunction", "(IIIII)I"⟩, prog_6_method_3_code, 7, some .int, 0, 5, 1, 2)
def xm_23 : xi_M := (⟨"RootLoom$Source", "addNode", "(IIII)I"⟩, prog_6_method_4_code, 7, some .int, 0, 4, 1, 2)
def xm_24 : xi_M := (⟨"RootLoom$Source", "fits", "(II)Z"⟩, prog_6_method_11_code, 3, some .boolean, 0, 2, 1, 2)
def xm_25 : xi_M := (⟨"RootLoom$Source", "isFunction", "(I)Z"⟩, prog_6_method_17_code, 2, some .boolean, 0, 1, 1, 2)
def xm_26 : xi_M := (⟨"RootLoom$Source", "isExpression", "(I)Z"⟩, prog_6_method_19_code, 2, some .boolean, 0, 1, 1, 2)
def xm_27 : xi_M := (⟨"RootLoom$Source", "isNode", "(I)Z"⟩, prog_6_method_18_code, 2, some .boolean, 0, 1, 1, 2)
def xm_28 : xi_M := (⟨"RootLoom$Source", "measure", "(I)V"⟩, prog_6_method_12_code, 6, none, 0, 1, 1, 2)
def xm_29 : xi_M := (⟨"RootLoom$Source", "ownInstructions", "(I)I"⟩, prog_6_method_13_code, 1, some .int, 1, 1, 1, 2)
def xm_30 : xi_M := (⟨"RootLoom$Source", "childOf", "(II)I"⟩, prog_6_method_9_code, 4, some .int, 0, 2, 1, 2)
def xm_31 : xi_M := (⟨"RootLoom$Source", "partOf", "(II)I"⟩, prog_6_method_8_code, 3, some .int, 0, 2, 1, 2)
def xm_32 : xi_M := (⟨"RootLoom$Source", "waitingAt", "(II)I"⟩, prog_6_method_14_code, 2, some .int, 1, 2, 1, 2)
def xm_33 : xi_M := (⟨"RootLoom$Source", "setBody", "(II)Z"⟩, prog_6_method_5_code, 3, some .boolean, 0, 2, 1, 2)
def xm_34 : xi_M := (⟨"RootLoom$Source", "parameterType", "(II)I"⟩, prog_6_method_7_code, 3, some .int, 0, 2, 1, 2)
def xm_35 : xi_M := (⟨"RootLoom$Source", "argumentsOf", "(I)I"⟩, prog_6_method_10_code, 4, some .int, 0, 1, 1, 2)
def xm_36 : xi_M := (⟨"RootLoom$Source", "takesOnlyInts", "(I)Z"⟩, prog_6_method_6_code, 3, some .boolean, 0, 1, 1, 2)
def xm_37 : xi_M := (⟨"RootLoom$Code", "<init>", "()V"⟩, prog_2_method_1_code, 1, none, 2, 0, 2, 3)
def xm_38 : xi_M := (⟨"RootLoom$Code", "clear", "()V"⟩, prog_2_method_2_code, 2, none, 0, 0, 2, 3)
def xm_39 : xi_M := (⟨"RootLoom$Code", "add", "(II)I"⟩, prog_2_method_3_code, 4, some .int, 0, 2, 2, 3)
def xm_40 : xi_M := (⟨"RootLoom$Code", "isMapped", "(I)Z"⟩, prog_2_method_6_code, 2, some .boolean, 0, 1, 2, 3)
def xm_41 : xi_M := (⟨"RootLoom$Code", "keepTypes", "(LRootLoom$Source;)V"⟩, prog_2_method_4_code, 3, none, 0, 1, 2, 3)
def xm_42 : xi_M := (⟨"RootLoom$Code", "startOf", "(I)I"⟩, prog_2_method_7_code, 2, some .int, 0, 1, 2, 3)
def xm_43 : xi_M := (⟨"RootLoom$Code", "has", "(I)Z"⟩, prog_2_method_5_code, 2, some .boolean, 0, 1, 2, 3)
def xm_44 : xi_M := (⟨"RootLoom$Weaver", "<init>", "(LRootLoom$Source;LRootLoom$Code;)V"⟩, prog_7_method_1_code, 3, none, 2, 2, 3, 4)
def xm_45 : xi_M := (⟨"RootLoom$Weaver", "weave", "()I"⟩, prog_7_method_2_code, 5, some .int, 0, 0, 3, 4)
def xm_46 : xi_M := (⟨"RootLoom$Weaver", "weaveFunction", "(I)Z"⟩, prog_7_method_3_code, 4, some .boolean, 0, 1, 3, 4)
def xm_47 : xi_M := (⟨"RootLoom$Weaver", "begin", "(I)V"⟩, prog_7_method_4_code, 2, none, 0, 1, 3, 4)
def xm_48 : xi_M := (⟨"RootLoom$Weaver", "finish", "(II)V"⟩, prog_7_method_7_code, 4, none, 0, 2, 3, 4)
def xm_49 : xi_M := (⟨"RootLoom$Weaver", "putType", "(I)V"⟩, prog_7_method_20_code, 2, none, 0, 1, 3, 4)
def xm_50 : xi_M := (⟨"RootLoom$Weaver", "weaveLoad", "(I)V"⟩, prog_7_method_8_code, 4, none, 0, 1, 3, 4)
def xm_51 : xi_M := (⟨"RootLoom$Weaver", "must", "(Z)V"⟩, prog_7_method_16_code, 2, none, 0, 1, 3, 4)
def xm_52 : xi_M := (⟨"RootLoom$Weaver", "weaveSum", "(I)V"⟩, prog_7_method_10_code, 2, none, 0, 1, 3, 4)
def xm_53 : xi_M := (⟨"RootLoom$Weaver", "takeInt", "()V"⟩, prog_7_method_17_code, 1, none, 0, 0, 3, 4)
def xm_54 : xi_M := (⟨"RootLoom$Weaver", "takeType", "()I"⟩, prog_7_method_19_code, 1, some .int, 0, 0, 3, 4)
def xm_55 : xi_M := (⟨"RootLoom$Weaver", "weaveNew", "(I)V"⟩, prog_7_method_11_code, 2, none, 0, 1, 3, 4)
def xm_56 : xi_M := (⟨"RootLoom$Weaver", "addMapped", "(II)V"⟩, prog_7_method_15_code, 6, none, 0, 2, 3, 4)
def xm_57 : xi_M := (⟨"RootLoom$Weaver", "takePairType", "()I"⟩, prog_7_method_18_code, 2, some .int, 0, 0, 3, 4)
def xm_58 : xi_M := (⟨"RootLoom$Weaver", "joinWays", "(I)V"⟩, prog_7_method_14_code, 2, none, 0, 1, 3, 4)
def xm_59 : xi_M := (⟨"RootLoom$Weaver", "weaveCall", "(II)V"⟩, prog_7_method_13_code, 4, none, 0, 2, 3, 4)
def xm_60 : xi_M := (⟨"RootLoom$Weaver", "weavePut", "(I[I)V"⟩, prog_7_method_12_code, 4, none, 0, 2, 3, 4)
def xm_61 : xi_M := (⟨"RootLoom$Weaver", "goDown", "(I)V"⟩, prog_7_method_5_code, 5, none, 0, 1, 3, 4)
def xm_62 : xi_M := (⟨"RootLoom$Weaver", "prepare", "(III)V"⟩, prog_7_method_6_code, 6, none, 0, 3, 3, 4)
def xm_63 : xi_M := (⟨"RootLoom$Weaver", "weaveStore", "(I)V"⟩, prog_7_method_9_code, 2, none, 0, 1, 3, 4)
def xm_64 : xi_M := (⟨"RootLoom$Weaver", "findWhatMatters", "()V"⟩, prog_7_method_21_code, 3, none, 0, 0, 3, 4)
def xm_65 : xi_M := (⟨"RootLoom$Weaver", "mattersBehind", "(I)I"⟩, prog_7_method_22_code, 2, some .int, 0, 1, 3, 4)
def xm_66 : xi_M := (⟨"RootLoom$Machine", "<init>", "(LRootLoom$Source;LRootLoom$Code;)V"⟩, prog_4_method_1_code, 3, none, 2, 2, 4, 5)
def xm_67 : xi_M := (⟨"RootLoom$Machine", "forget", "()V"⟩, prog_4_method_2_code, 1, none, 0, 0, 4, 5)
def xm_68 : xi_M := (⟨"RootLoom$Machine", "perform", "(IIII)I"⟩, prog_4_method_3_code, 5, some .int, 0, 4, 4, 5)
def xm_69 : xi_M := (⟨"RootLoom$Machine", "doNext", "()V"⟩, prog_4_method_7_code, 3, none, 0, 0, 4, 5)
def xm_70 : xi_M := (⟨"RootLoom$Machine", "doSum", "(I)V"⟩, prog_4_method_8_code, 4, none, 0, 1, 4, 5)
def xm_71 : xi_M := (⟨"RootLoom$Machine", "doNew", "(II)V"⟩, prog_4_method_9_code, 5, none, 0, 2, 4, 5)
def xm_72 : xi_M := (⟨"RootLoom$Machine", "isForced", "()Z"⟩, prog_4_method_15_code, 1, some .boolean, 0, 0, 4, 5)
def xm_73 : xi_M := (⟨"RootLoom$Machine", "isFull", "()Z"⟩, prog_4_method_16_code, 1, some .boolean, 0, 0, 4, 5)
def xm_74 : xi_M := (⟨"RootLoom$Machine", "collect", "(I)V"⟩, prog_4_method_17_code, 3, none, 0, 1, 4, 5)
def xm_75 : xi_M := (⟨"RootLoom$Machine", "keepFrom", "(II)V"⟩, prog_4_method_18_code, 4, none, 0, 2, 4, 5)
def xm_76 : xi_M := (⟨"RootLoom$Machine", "doGet", "([I)V"⟩, prog_4_method_12_code, 3, none, 0, 1, 4, 5)
def xm_77 : xi_M := (⟨"RootLoom$Machine", "doSet", "([I)V"⟩, prog_4_method_13_code, 4, none, 0, 1, 4, 5)
def xm_78 : xi_M := (⟨"RootLoom$Machine", "doCall", "(II)V"⟩, prog_4_method_10_code, 3, none, 0, 2, 4, 5)
def xm_79 : xi_M := (⟨"RootLoom$Machine", "doReturn", "()V"⟩, prog_4_method_11_code, 2, none, 0, 0, 4, 5)
def xm_80 : xi_M := (⟨"RootLoom$Machine", "doPrint", "()V"⟩, prog_4_method_14_code, 2, none, 0, 0, 4, 5)
def xm_81 : xi_M := (⟨"RootLoom$Machine", "report", "(I)I"⟩, prog_4_method_4_code, 2, some .int, 0, 1, 4, 5)
def xm_82 : xi_M := (⟨"RootLoom$Machine", "printedAt", "(I)I"⟩, prog_4_method_5_code, 2, some .int, 0, 1, 4, 5)
def xm_83 : xi_M := (⟨"RootLoom$Machine", "walk", "(II)I"⟩, prog_4_method_6_code, 7, some .int, 0, 2, 4, 5)
def xm_84 : xi_M := (⟨"RootLoom$Pairs", "<init>", "()V"⟩, prog_5_method_1_code, 2, none, 2, 0, 5, 6)
def xm_85 : xi_M := (⟨"RootLoom$Pairs", "clear", "()V"⟩, prog_5_method_2_code, 1, none, 0, 0, 5, 6)
def xm_86 : xi_M := (⟨"RootLoom$Pairs", "words", "()I"⟩, prog_5_method_3_code, 1, some .int, 0, 0, 5, 6)
def xm_87 : xi_M := (⟨"RootLoom$Pairs", "beginCollection", "()V"⟩, prog_5_method_5_code, 1, none, 0, 0, 5, 6)
def xm_88 : xi_M := (⟨"RootLoom$Pairs", "keep", "(I)V"⟩, prog_5_method_6_code, 2, none, 0, 1, 5, 6)
def xm_89 : xi_M := (⟨"RootLoom$Pairs", "endCollection", "([I[I)V"⟩, prog_5_method_7_code, 6, none, 0, 2, 5, 6)
def xm_90 : xi_M := (⟨"RootLoom$Pairs", "make", "(III)I"⟩, prog_5_method_4_code, 5, some .int, 0, 3, 5, 6)
def xm_91 : xi_M := (⟨"RootLoom$Frames", "<init>", "()V"⟩, prog_3_method_1_code, 1, none, 2, 0, 6, 7)
def xm_92 : xi_M := (⟨"RootLoom$Frames", "openFirst", "(III)V"⟩, prog_3_method_2_code, 4, none, 0, 3, 6, 7)
def xm_93 : xi_M := (⟨"RootLoom$Frames", "push", "(I)V"⟩, prog_3_method_4_code, 2, none, 0, 1, 6, 7)
def xm_94 : xi_M := (⟨"RootLoom$Frames", "load", "(I)I"⟩, prog_3_method_6_code, 2, some .int, 0, 1, 6, 7)
def xm_95 : xi_M := (⟨"RootLoom$Frames", "pop", "()I"⟩, prog_3_method_5_code, 1, some .int, 0, 0, 6, 7)
def xm_96 : xi_M := (⟨"RootLoom$Frames", "store", "(II)V"⟩, prog_3_method_7_code, 3, none, 0, 2, 6, 7)
def xm_97 : xi_M := (⟨"RootLoom$Frames", "openNext", "(II)V"⟩, prog_3_method_3_code, 6, none, 0, 2, 6, 7)
def xm_98 : xi_M := (⟨"RootLoomModel", "<init>", "()V"⟩, prog_9_method_1_code, 1, none, 2, 0, 7, 8)
def xm_99 : xi_M := (⟨"RootLoomModel", "thrown", "()I"⟩, prog_9_method_2_code, 1, some .int, 0, 0, 7, 8)
def xm_100 : xi_M := (⟨"RootLoomModel", "type", "(III)Z"⟩, prog_9_method_4_code, 4, some .boolean, 0, 3, 7, 8)
def xm_101 : xi_M := (⟨"RootLoomModel", "in", "(III)Z"⟩, prog_9_method_3_code, 3, some .boolean, 1, 3, 7, 8)
def xm_102 : xi_M := (⟨"RootLoomModel", "function", "(IIIII)I"⟩, prog_9_method_5_code, 7, some .int, 0, 5, 7, 8)
def xm_103 : xi_M := (⟨"RootLoomModel", "node", "(IIII)I"⟩, prog_9_method_9_code, 5, some .int, 0, 4, 7, 8)
def xm_104 : xi_M := (⟨"RootLoomModel", "mayBe", "(IIII)Z"⟩, prog_9_method_8_code, 5, some .boolean, 0, 4, 7, 8)
def xm_105 : xi_M := (⟨"RootLoomModel", "isExpression", "(I)Z"⟩, prog_9_method_6_code, 2, some .boolean, 0, 1, 7, 8)
def xm_106 : xi_M := (⟨"RootLoomModel", "isArgument", "(I)Z"⟩, prog_9_method_7_code, 2, some .boolean, 0, 1, 7, 8)
def xm_107 : xi_M := (⟨"RootLoomModel", "body", "(II)Z"⟩, prog_9_method_10_code, 3, some .boolean, 0, 2, 7, 8)
def xm_108 : xi_M := (⟨"RootLoomModel", "lay", "()I"⟩, prog_9_method_30_code, 2, some .int, 0, 0, 7, 8)
def xm_109 : xi_M := (⟨"RootLoomModel", "isTooLarge", "()Z"⟩, prog_9_method_14_code, 4, some .boolean, 0, 0, 7, 8)
def xm_110 : xi_M := (⟨"RootLoomModel", "measure", "(I)V"⟩, prog_9_method_13_code, 5, none, 0, 1, 7, 8)
def xm_111 : xi_M := (⟨"RootLoomModel", "larger", "(II)I"⟩, prog_9_method_12_code, 2, some .int, 1, 2, 7, 8)
def xm_112 : xi_M := (⟨"RootLoomModel", "cut", "(I)I"⟩, prog_9_method_11_code, 1, some .int, 1, 1, 7, 8)
def xm_113 : xi_M := (⟨"RootLoomModel", "layFunction", "(I)V"⟩, prog_9_method_28_code, 4, none, 0, 1, 7, 8)
def xm_114 : xi_M := (⟨"RootLoomModel", "later", "(II)V"⟩, prog_9_method_15_code, 3, none, 0, 2, 7, 8)
def xm_115 : xi_M := (⟨"RootLoomModel", "visit", "(I)V"⟩, prog_9_method_21_code, 3, none, 0, 1, 7, 8)
def xm_116 : xi_M := (⟨"RootLoomModel", "say", "(II)V"⟩, prog_9_method_16_code, 3, none, 0, 2, 7, 8)
def xm_117 : xi_M := (⟨"RootLoomModel", "pushType", "(I)V"⟩, prog_9_method_18_code, 2, none, 0, 1, 7, 8)
def xm_118 : xi_M := (⟨"RootLoomModel", "need", "(Z)V"⟩, prog_9_method_17_code, 2, none, 0, 1, 7, 8)
def xm_119 : xi_M := (⟨"RootLoomModel", "behind", "(I)V"⟩, prog_9_method_25_code, 4, none, 0, 1, 7, 8)
def xm_120 : xi_M := (⟨"RootLoomModel", "callBehind", "(I)V"⟩, prog_9_method_22_code, 6, none, 0, 1, 7, 8)
def xm_121 : xi_M := (⟨"RootLoomModel", "sayMapped", "(III)V"⟩, prog_9_method_20_code, 5, none, 0, 3, 7, 8)
def xm_122 : xi_M := (⟨"RootLoomModel", "popType", "()I"⟩, prog_9_method_19_code, 1, some .int, 0, 0, 7, 8)
def xm_123 : xi_M := (⟨"RootLoomModel", "twoBehind", "(I)V"⟩, prog_9_method_23_code, 5, none, 0, 1, 7, 8)
def xm_124 : xi_M := (⟨"RootLoomModel", "oneBehind", "(I)V"⟩, prog_9_method_24_code, 4, none, 0, 1, 7, 8)
def xm_125 : xi_M := (⟨"RootLoomModel", "second", "(I)V"⟩, prog_9_method_26_code, 3, none, 0, 1, 7, 8)
def xm_126 : xi_M := (⟨"RootLoomModel", "last", "(I)V"⟩, prog_9_method_27_code, 2, none, 0, 1, 7, 8)
def xm_127 : xi_M := (⟨"RootLoomModel", "seeWhatMatters", "()V"⟩, prog_9_method_29_code, 3, none, 0, 0, 7, 8)
def xm_128 : xi_M := (⟨"RootLoomModel", "laid", "(I)I"⟩, prog_9_method_32_code, 4, some .int, 0, 1, 7, 8)
def xm_129 : xi_M := (⟨"RootLoomModel", "isMapped", "(I)Z"⟩, prog_9_method_31_code, 2, some .boolean, 0, 1, 7, 8)
def xm_130 : xi_M := (⟨"RootLoomModel", "instruction", "(II)I"⟩, prog_9_method_34_code, 3, some .int, 0, 2, 7, 8)
def xm_131 : xi_M := (⟨"RootLoomModel", "isThere", "(I)Z"⟩, prog_9_method_33_code, 2, some .boolean, 0, 1, 7, 8)
def xm_132 : xi_M := (⟨"RootLoomModel", "entry", "(I)I"⟩, prog_9_method_35_code, 2, some .int, 0, 1, 7, 8)
def xm_133 : xi_M := (⟨"RootLoomModel", "map", "(II)I"⟩, prog_9_method_36_code, 3, some .int, 0, 2, 7, 8)
def xm_134 : xi_M := (⟨"RootLoomModel", "heap", "(I)Z"⟩, prog_9_method_37_code, 2, some .boolean, 0, 1, 7, 8)
def xm_135 : xi_M := (⟨"RootLoomModel", "force", "(I)Z"⟩, prog_9_method_38_code, 2, some .boolean, 0, 1, 7, 8)
def xm_136 : xi_M := (⟨"RootLoomModel", "run", "(IIII)I"⟩, prog_9_method_54_code, 7, some .int, 0, 4, 7, 8)
def xm_137 : xi_M := (⟨"RootLoomModel", "go", "()V"⟩, prog_9_method_53_code, 1, none, 0, 0, 7, 8)
def xm_138 : xi_M := (⟨"RootLoomModel", "call", "(II)V"⟩, prog_9_method_47_code, 5, none, 0, 2, 7, 8)
def xm_139 : xi_M := (⟨"RootLoomModel", "isDue", "(Z)Z"⟩, prog_9_method_44_code, 2, some .boolean, 0, 1, 7, 8)
def xm_140 : xi_M := (⟨"RootLoomModel", "collect", "()V"⟩, prog_9_method_41_code, 3, none, 0, 0, 7, 8)
def xm_141 : xi_M := (⟨"RootLoomModel", "stayOf", "(III)V"⟩, prog_9_method_40_code, 5, none, 0, 3, 7, 8)
def xm_142 : xi_M := (⟨"RootLoomModel", "stay", "(I)V"⟩, prog_9_method_39_code, 2, none, 0, 1, 7, 8)
def xm_143 : xi_M := (⟨"RootLoomModel", "giveBack", "()V"⟩, prog_9_method_48_code, 2, none, 0, 0, 7, 8)
def xm_144 : xi_M := (⟨"RootLoomModel", "pop", "()I"⟩, prog_9_method_43_code, 1, some .int, 0, 0, 7, 8)
def xm_145 : xi_M := (⟨"RootLoomModel", "push", "(I)V"⟩, prog_9_method_42_code, 2, none, 0, 1, 7, 8)
def xm_146 : xi_M := (⟨"RootLoomModel", "perform", "(II)V"⟩, prog_9_method_52_code, 4, none, 0, 2, 7, 8)
def xm_147 : xi_M := (⟨"RootLoomModel", "count", "(I)V"⟩, prog_9_method_51_code, 4, none, 0, 1, 7, 8)
def xm_148 : xi_M := (⟨"RootLoomModel", "make", "(I)V"⟩, prog_9_method_46_code, 3, none, 0, 1, 7, 8)
def xm_149 : xi_M := (⟨"RootLoomModel", "hasRoom", "()Z"⟩, prog_9_method_45_code, 1, some .boolean, 0, 0, 7, 8)
def xm_150 : xi_M := (⟨"RootLoomModel", "putOut", "()V"⟩, prog_9_method_50_code, 2, none, 0, 0, 7, 8)
def xm_151 : xi_M := (⟨"RootLoomModel", "reach", "(I)V"⟩, prog_9_method_49_code, 5, none, 0, 1, 7, 8)
def xm_152 : xi_M := (⟨"RootLoomModel", "latest", "(I)I"⟩, prog_9_method_55_code, 2, some .int, 0, 1, 7, 8)
def xm_153 : xi_M := (⟨"RootLoomModel", "out", "(I)I"⟩, prog_9_method_56_code, 2, some .int, 0, 1, 7, 8)
def xm_154 : xi_M := (⟨"RootLoomModel", "tell", "(II)I"⟩, prog_9_method_58_code, 3, some .int, 0, 2, 7, 8)
def xm_155 : xi_M := (⟨"RootLoomModel", "follow", "(II)I"⟩, prog_9_method_57_code, 6, some .int, 0, 2, 7, 8)
def xm_156 : xi_M := (⟨"RootLoomModel", "value", "(II)I"⟩, prog_9_method_59_code, 3, some .int, 0, 2, 7, 8)
def xm_157 : xi_M := (⟨"java/lang/Math", "max", "(II)I"⟩, prog_13_method_65_code, 2, some .int, 1, 2, 99, 9)
def xm_158 : xi_M := (⟨"java/lang/Math", "min", "(II)I"⟩, prog_13_method_69_code, 2, some .int, 1, 2, 99, 9)
def xi_ml : List xi_M := [xm_0, xm_1, xm_2, xm_3, xm_4, xm_5, xm_6, xm_7, xm_8, xm_9, xm_10, xm_11, xm_12, xm_13, xm_14, xm_15, xm_16, xm_17, xm_18, xm_19, xm_20, xm_21, xm_22, xm_23, xm_24, xm_25, xm_26, xm_27, xm_28, xm_29, xm_30, xm_31, xm_32, xm_33, xm_34, xm_35, xm_36, xm_37, xm_38, xm_39, xm_40, xm_41, xm_42, xm_43, xm_44, xm_45, xm_46, xm_47, xm_48, xm_49, xm_50, xm_51, xm_52, xm_53, xm_54, xm_55, xm_56, xm_57, xm_58, xm_59, xm_60, xm_61, xm_62, xm_63, xm_64, xm_65, xm_66, xm_67, xm_68, xm_69, xm_70, xm_71, xm_72, xm_73, xm_74, xm_75, xm_76, xm_77, xm_78, xm_79, xm_80, xm_81, xm_82, xm_83, xm_84, xm_85, xm_86, xm_87, xm_88, xm_89, xm_90, xm_91, xm_92, xm_93, xm_94, xm_95, xm_96, xm_97, xm_98, xm_99, xm_100, xm_101, xm_102, xm_103, xm_104, xm_105, xm_106, xm_107, xm_108, xm_109, xm_110, xm_111, xm_112, xm_113, xm_114, xm_115, xm_116, xm_117, xm_118, xm_119, xm_120, xm_121, xm_122, xm_123, xm_124, xm_125, xm_126, xm_127, xm_128, xm_129, xm_130, xm_131, xm_132, xm_133, xm_134, xm_135, xm_136, xm_137, xm_138, xm_139, xm_140, xm_141, xm_142, xm_143, xm_144, xm_145, xm_146, xm_147, xm_148, xm_149, xm_150, xm_151, xm_152, xm_153, xm_154, xm_155, xm_156, xm_157, xm_158]
def xi_host (_ : Nat) : String := "RootLoom"
def xi_ZC : String := "RootLoom"
def xi_Zn : String := "PARTS"
def xi_K : Nat := 27
def xi_wx : List Cond := []
theorem xi_K_ok : 20 ≤ xi_K := by decide
def xi_chkM (M : xi_M) : Bool := plainFor M.1 && (decide (M.1.cls ≠ "java/lang/invoke/MethodHandle") && (decide (M.1.cls ≠ "java/lang/invoke/VarHandle") && (decide ((parseMethodDescriptor M.1.desc).map (fun d => d.parameters.length) = some M.2.2.2.2.2.1) && (decide (M.2.2.1 + 20 ≤ xi_K) && ((M.2.2.2.2.1 != 2 || (decide (M.1.name = "<init>") && decide (M.2.2.2.1 = none))) && ((M.2.2.2.2.1 == 1 || M.2.2.2.2.1 == 3 || decide ((xi_cl[M.2.2.2.2.2.2.1]?).map (fun r => r.1) = some M.1.cls)) && decide ((xi_ll[M.2.2.2.2.2.2.2]?).map (fun r => r.1) = some M.1.cls)))))))
theorem xi_chkM_all : xi_ml.all xi_chkM = true := by decide +kernel
theorem xi_okM (M : xi_M) (h : M ∈ xi_ml) : plainFor M.1 = true ∧ M.1.cls ≠ "java/lang/invoke/MethodHandle" ∧ M.1.cls ≠ "java/lang/invoke/VarHandle" ∧ (parseMethodDescriptor M.1.desc).map (fun d => d.parameters.length) = some M.2.2.2.2.2.1 ∧ M.2.2.1 + 20 ≤ xi_K ∧ (M.2.2.2.2.1 = 2 → M.1.name = "<init>" ∧ M.2.2.2.1 = none) ∧ (M.2.2.2.2.1 ≠ 1 → M.2.2.2.2.1 ≠ 3 → ∃ r, xi_cl[M.2.2.2.2.2.2.1]? = some r ∧ r.1 = M.1.cls) ∧ ∃ r, xi_ll[M.2.2.2.2.2.2.2]? = some r ∧ r.1 = M.1.cls := by
  have h1 := List.all_eq_true.mp xi_chkM_all M h
  unfold xi_chkM at h1
  simp only [Bool.and_eq_true, Bool.or_eq_true, decide_eq_true_eq, bne_iff_ne, beq_iff_eq, ne_eq] at h1
  obtain ⟨a1, a2, a3, a4, a5, a6, a7, a8⟩ := h1
  refine ⟨a1, a2, a3, a4, a5, fun hk => ?_, fun h1 h3 => ?_, ?_⟩
  · rcases a6 with h | h
    · exact absurd hk h
    · exact h
  · rcases a7 with (h | h) | h
    · exact absurd h h1
    · exact absurd h h3
    · obtain ⟨r, hr, he⟩ := Option.map_eq_some_iff.mp h
      exact ⟨r, hr, he⟩
  · obtain ⟨r, hr, he⟩ := Option.map_eq_some_iff.mp a8
    exact ⟨r, hr, he⟩
end
section
/-! The code as a table, by place. -/
-- RootLoomLaw.law([I)Z
def xk_0 : List (Option (Instr × Nat)) := [some (.new 8, 3), none, none, some (.dup, 1), some (.invokespecial 17, 3), none, none, some (.astore_n 1, 1), some (.new 18, 3), none, none, some (.dup, 1), some (.invokespecial 20, 3), none, none, some (.astore_n 2, 1), some (.iconst 1, 1), some (.newarray .long, 2), none, some (.astore_n 3, 1), some (.iconst 0, 1), some (.istore 4, 2), none, some (.iload 4, 2), none, some (.aload_n 0, 1), some (.arraylength, 1), some (.bipush 6, 2), none, some (.isub, 1), some (.if_icmp .gt 719, 3), none, none, some (.aload_n 0, 1), some (.iload 4, 2), none, some (.iaload, 1), some (.bipush 15, 2), none, some (.iand, 1), some (.tableswitch 703 0 15 #[80, 129, 202, 263, 300, 313, 338, 406, 431, 468, 493, 518, 579, 604, 629, 666], 80), none, none, none, none, none, none, none, none, none, none, none, none, none, none, none, none, none, none, none, none, none, none, none, none, none, none, none, none, none, none, none, none, none, none, none, none, none, none, none, none, none, none, none, none, none, none, none, none, none, none, none, none, none, none, none, none, none, none, none, none, none, none, none, none, none, none, none, none, none, none, none, none, none, none, none, none, none, none, none, some (.aload_n 1, 1), some (.aload_n 0, 1), some (.iload 4, 2), none, some (.iconst 1, 1), some (.iadd, 1), some (.iaload, 1), some (.aload_n 0, 1), some (.iload 4, 2), none, some (.iconst 2, 1), some (.iadd, 1), some (.iaload, 1), some (.aload_n 0, 1), some (.iload 4, 2), none, some (.iconst 3, 1), some (.iadd, 1), some (.iaload, 1), some (.invokevirtual 21, 3), none, none, some (.aload_n 2, 1), some (.aload_n 0, 1), some (.iload 4, 2), none, some (.iconst 1, 1), some (.iadd, 1), some (.iaload, 1), some (.aload_n 0, 1), some (.iload 4, 2), none, some (.iconst 2, 1), some (.iadd, 1), some (.iaload, 1), some (.aload_n 0, 1), some (.iload 4, 2), none, some (.iconst 3, 1), some (.iadd, 1), some (.iaload, 1), some (.invokevirtual 25, 3), none, none, some (.if_icmp .eq 579, 3), none, none, some (.iconst 0, 1), some (.ireturn, 1), some (.aload_n 1, 1), some (.aload_n 0, 1), some (.iload 4, 2), none, some (.iconst 1, 1), some (.iadd, 1), some (.iaload, 1), some (.aload_n 0, 1), some (.iload 4, 2), none, some (.iconst 2, 1), some (.iadd, 1), some (.iaload, 1), some (.aload_n 0, 1), some (.iload 4, 2), none, some (.iconst 3, 1), some (.iadd, 1), some (.iaload, 1), some (.aload_n 0, 1), some (.iload 4, 2), none, some (.iconst 4, 1), some (.iadd, 1), some (.iaload, 1), some (.aload_n 0, 1), some (.iload 4, 2), none, some (.iconst 5, 1), some (.iadd, 1), some (.iaload, 1), some (.invokevirtual 26, 3), none, none, some (.aload_n 2, 1), some (.aload_n 0, 1), some (.iload 4, 2), none, some (.iconst 1, 1), some (.iadd, 1), some (.iaload, 1), some (.aload_n 0, 1), some (.iload 4, 2), none, some (.iconst 2, 1), some (.iadd, 1), some (.iaload, 1), some (.aload_n 0, 1), some (.iload 4, 2), none, some (.iconst 3, 1), some (.iadd, 1), some (.iaload, 1), some (.aload_n 0, 1), some (.iload 4, 2), none, some (.iconst 4, 1), some (.iadd, 1), some (.iaload, 1), some (.aload_n 0, 1), some (.iload 4, 2), none, some (.iconst 5, 1), some (.iadd, 1), some (.iaload, 1), some (.invokevirtual 30, 3), none, none, some (.if_icmp .eq 506, 3), none, none, some (.iconst 0, 1), some (.ireturn, 1), some (.aload_n 1, 1), some (.aload_n 0, 1), some (.iload 4, 2), none, some (.iconst 1, 1), some (.iadd, 1), some (.iaload, 1), some (.aload_n 0, 1), some (.iload 4, 2), none, some (.iconst 2, 1), some (.iadd, 1), some (.iaload, 1), some (.aload_n 0, 1), some (.iload 4, 2), none, some (.iconst 3, 1), some (.iadd, 1), some (.iaload, 1), some (.aload_n 0, 1), some (.iload 4, 2), none, some (.iconst 4, 1), some (.iadd, 1), some (.iaload, 1), some (.invokevirtual 31, 3), none, none, some (.aload_n 2, 1), some (.aload_n 0, 1), some (.iload 4, 2), none, some (.iconst 1, 1), some (.iadd, 1), some (.iaload, 1), some (.aload_n 0, 1), some (.iload 4, 2), none, some (.iconst 2, 1), some (.iadd, 1), some (.iaload, 1), some (.aload_n 0, 1), some (.iload 4, 2), none, some (.iconst 3, 1), some (.iadd, 1), some (.iaload, 1), some (.aload_n 0, 1), some (.iload 4, 2), none, some (.iconst 4, 1), some (.iadd, 1), some (.iaload, 1), some (.invokevirtual 35, 3), none, none, some (.if_icmp .eq 445, 3), none, none, some (.iconst 0, 1), some (.ireturn, 1), some (.aload_n 1, 1), some (.aload_n 0, 1), some (.iload 4, 2), none, some (.iconst 1, 1), some (.iadd, 1), some (.iaload, 1), some (.aload_n 0, 1), some (.iload 4, 2), none, some (.iconst 2, 1), some (.iadd, 1), some (.iaload, 1), some (.invokevirtual 36, 3), none, none, some (.aload_n 2, 1), some (.aload_n 0, 1), some (.iload 4, 2), none, some (.iconst 1, 1), some (.iadd, 1), some (.iaload, 1), some (.aload_n 0, 1), some (.iload 4, 2), none, some (.iconst 2, 1), some (.iadd, 1), some (.iaload, 1), some (.invokevirtual 40, 3), none, none, some (.if_icmp .eq 408, 3), none, none, some (.iconst 0, 1), some (.ireturn, 1), some (.aload_n 1, 1), some (.invokevirtual 41, 3), none, none, some (.aload_n 2, 1), some (.invokevirtual 45, 3), none, none, some (.if_icmp .eq 395, 3), none, none, some (.iconst 0, 1), some (.ireturn, 1), some (.aload_n 1, 1), some (.aload_n 0, 1), some (.iload 4, 2), none, some (.iconst 1, 1), some (.iadd, 1), some (.iaload, 1), some (.invokevirtual 46, 3), none, none, some (.aload_n 2, 1), some (.aload_n 0, 1), some (.iload 4, 2), none, some (.iconst 1, 1), some (.iadd, 1), some (.iaload, 1), some (.invokevirtual 50, 3), none, none, some (.if_icmp .eq 370, 3), none, none, some (.iconst 0, 1), some (.ireturn, 1), some (.aload_n 1, 1), some (.aload_n 0, 1), some (.iload 4, 2), none, some (.iconst 1, 1), some (.iadd, 1), some (.iaload, 1), some (.aload_n 0, 1), some (.iload 4, 2), none, some (.iconst 2, 1), some (.iadd, 1), some (.iaload, 1), some (.aload_n 3, 1), some (.invokestatic 51, 3), none, none, some (.istore 5, 2), none, some (.aload_n 2, 1), some (.aload_n 0, 1), some (.iload 4, 2), none, some (.iconst 1, 1), some (.iadd, 1), some (.iaload, 1), some (.aload_n 0, 1), some (.iload 4, 2), none, some (.iconst 2, 1), some (.iadd, 1), some (.iaload, 1), some (.invokevirtual 56, 3), none, none, some (.istore 6, 2), none, some (.aload_n 2, 1), some (.invokevirtual 57, 3), none, none, some (.iload 5, 2), none, some (.if_icmp .eq 5, 3), none, none, some (.iconst 0, 1), some (.ireturn, 1), some (.iload 5, 2), none, some (.ifCond .ne 15, 3), none, none, some (.aload_n 3, 1), some (.iconst 0, 1), some (.laload, 1), some (.iload 6, 2), none, some (.i2l, 1), some (.lcmp, 1), some (.ifCond .eq 5, 3), none, none, some (.iconst 0, 1), some (.ireturn, 1), some (.goto 300, 3), none, none, some (.aload_n 1, 1), some (.aload_n 0, 1), some (.iload 4, 2), none, some (.iconst 1, 1), some (.iadd, 1), some (.iaload, 1), some (.invokevirtual 60, 3), none, none, some (.aload_n 2, 1), some (.aload_n 0, 1), some (.iload 4, 2), none, some (.iconst 1, 1), some (.iadd, 1), some (.iaload, 1), some (.invokevirtual 63, 3), none, none, some (.if_icmp .eq 277, 3), none, none, some (.iconst 0, 1), some (.ireturn, 1), some (.aload_n 1, 1), some (.aload_n 0, 1), some (.iload 4, 2), none, some (.iconst 1, 1), some (.iadd, 1), some (.iaload, 1), some (.aload_n 0, 1), some (.iload 4, 2), none, some (.iconst 2, 1), some (.iadd, 1), some (.iaload, 1), some (.invokevirtual 64, 3), none, none, some (.aload_n 2, 1), some (.aload_n 0, 1), some (.iload 4, 2), none, some (.iconst 1, 1), some (.iadd, 1), some (.iaload, 1), some (.aload_n 0, 1), some (.iload 4, 2), none, some (.iconst 2, 1), some (.iadd, 1), some (.iaload, 1), some (.invokevirtual 67, 3), none, none, some (.if_icmp .eq 240, 3), none, none, some (.iconst 0, 1), some (.ireturn, 1), some (.aload_n 1, 1), some (.aload_n 0, 1), some (.iload 4, 2), none, some (.iconst 1, 1), some (.iadd, 1), some (.iaload, 1), some (.invokevirtual 68, 3), none, none, some (.aload_n 2, 1), some (.aload_n 0, 1), some (.iload 4, 2), none, some (.iconst 1, 1), some (.iadd, 1), some (.iaload, 1), some (.invokevirtual 72, 3), none, none, some (.if_icmp .eq 215, 3), none, none, some (.iconst 0, 1), some (.ireturn, 1), some (.aload_n 1, 1), some (.aload_n 0, 1), some (.iload 4, 2), none, some (.iconst 1, 1), some (.iadd, 1), some (.iaload, 1), some (.invokevirtual 73, 3), none, none, some (.aload_n 2, 1), some (.aload_n 0, 1), some (.iload 4, 2), none, some (.iconst 1, 1), some (.iadd, 1), some (.iaload, 1), some (.invokevirtual 76, 3), none, none, some (.if_icmp .eq 190, 3), none, none, some (.iconst 0, 1), some (.ireturn, 1), some (.aload_n 1, 1), some (.aload_n 0, 1), some (.iload 4, 2), none, some (.iconst 1, 1), some (.iadd, 1), some (.iaload, 1), some (.aload_n 0, 1), some (.iload 4, 2), none, some (.iconst 2, 1), some (.iadd, 1), some (.iaload, 1), some (.aload_n 0, 1), some (.iload 4, 2), none, some (.iconst 3, 1), some (.iadd, 1), some (.iaload, 1), some (.aload_n 0, 1), some (.iload 4, 2), none, some (.iconst 4, 1), some (.iadd, 1), some (.iaload, 1), some (.invokevirtual 77, 3), none, none, some (.aload_n 2, 1), some (.aload_n 0, 1), some (.iload 4, 2), none, some (.iconst 1, 1), some (.iadd, 1), some (.iaload, 1), some (.aload_n 0, 1), some (.iload 4, 2), none, some (.iconst 2, 1), some (.iadd, 1), some (.iaload, 1), some (.aload_n 0, 1), some (.iload 4, 2), none, some (.iconst 3, 1), some (.iadd, 1), some (.iaload, 1), some (.aload_n 0, 1), some (.iload 4, 2), none, some (.iconst 4, 1), some (.iadd, 1), some (.iaload, 1), some (.invokevirtual 80, 3), none, none, some (.if_icmp .eq 129, 3), none, none, some (.iconst 0, 1), some (.ireturn, 1), some (.aload_n 1, 1), some (.aload_n 0, 1), some (.iload 4, 2), none, some (.iconst 1, 1), some (.iadd, 1), some (.iaload, 1), some (.invokevirtual 81, 3), none, none, some (.aload_n 2, 1), some (.aload_n 0, 1), some (.iload 4, 2), none, some (.iconst 1, 1), some (.iadd, 1), some (.iaload, 1), some (.invokevirtual 84, 3), none, none, some (.if_icmp .eq 104, 3), none, none, some (.iconst 0, 1), some (.ireturn, 1), some (.aload_n 1, 1), some (.aload_n 0, 1), some (.iload 4, 2), none, some (.iconst 1, 1), some (.iadd, 1), some (.iaload, 1), some (.invokevirtual 85, 3), none, none, some (.aload_n 2, 1), some (.aload_n 0, 1), some (.iload 4, 2), none, some (.iconst 1, 1), some (.iadd, 1), some (.iaload, 1), some (.invokevirtual 88, 3), none, none, some (.if_icmp .eq 79, 3), none, none, some (.iconst 0, 1), some (.ireturn, 1), some (.aload_n 1, 1), some (.aload_n 0, 1), some (.iload 4, 2), none, some (.iconst 1, 1), some (.iadd, 1), some (.iaload, 1), some (.aload_n 0, 1), some (.iload 4, 2), none, some (.iconst 2, 1), some (.iadd, 1), some (.iaload, 1), some (.invokevirtual 89, 3), none, none, some (.aload_n 2, 1), some (.aload_n 0, 1), some (.iload 4, 2), none, some (.iconst 1, 1), some (.iadd, 1), some (.iaload, 1), some (.aload_n 0, 1), some (.iload 4, 2), none, some (.iconst 2, 1), some (.iadd, 1), some (.iaload, 1), some (.invokevirtual 92, 3), none, none, some (.if_icmp .eq 42, 3), none, none, some (.iconst 0, 1), some (.ireturn, 1), some (.aload_n 1, 1), some (.aload_n 0, 1), some (.iload 4, 2), none, some (.iconst 1, 1), some (.iadd, 1), some (.iaload, 1), some (.aload_n 0, 1), some (.iload 4, 2), none, some (.iconst 2, 1), some (.iadd, 1), some (.iaload, 1), some (.invokevirtual 93, 3), none, none, some (.aload_n 2, 1), some (.aload_n 0, 1), some (.iload 4, 2), none, some (.iconst 1, 1), some (.iadd, 1), some (.iaload, 1), some (.aload_n 0, 1), some (.iload 4, 2), none, some (.iconst 2, 1), some (.iadd, 1), some (.iaload, 1), some (.invokevirtual 96, 3), none, none, some (.if_icmp .eq 5, 3), none, none, some (.iconst 0, 1), some (.ireturn, 1), some (.iinc 4 6, 3), none, none, some (.goto (-723), 3), none, none, some (.iconst 1, 1), some (.ireturn, 1)]
-- RootLoom.<init>()V
def xk_1 : List (Option (Instr × Nat)) := [some (.aload_n 0, 1), some (.invokespecial 3, 3), none, none, some (.aload_n 0, 1), some (.new 9, 3), none, none, some (.dup, 1), some (.invokespecial 11, 3), none, none, some (.putfield 12, 3), none, none, some (.aload_n 0, 1), some (.new 16, 3), none, none, some (.dup, 1), some (.invokespecial 18, 3), none, none, some (.putfield 19, 3), none, none, some (.aload_n 0, 1), some (.new 23, 3), none, none, some (.dup, 1), some (.aload_n 0, 1), some (.getfield 12, 3), none, none, some (.aload_n 0, 1), some (.getfield 19, 3), none, none, some (.invokespecial 25, 3), none, none, some (.putfield 28, 3), none, none, some (.aload_n 0, 1), some (.new 32, 3), none, none, some (.dup, 1), some (.aload_n 0, 1), some (.getfield 12, 3), none, none, some (.aload_n 0, 1), some (.getfield 19, 3), none, none, some (.invokespecial 34, 3), none, none, some (.putfield 35, 3), none, none, some (.return_, 1)]
-- RootLoom.type(III)Z
def xk_2 : List (Option (Instr × Nat)) := [some (.aload_n 0, 1), some (.getfield 12, 3), none, none, some (.iload_n 1, 1), some (.iload_n 2, 1), some (.iload_n 3, 1), some (.invokevirtual 39, 3), none, none, some (.ireturn, 1)]
-- RootLoom.function(IIIII)I
def xk_3 : List (Option (Instr × Nat)) := [some (.aload_n 0, 1), some (.getfield 12, 3), none, none, some (.iload_n 1, 1), some (.iload_n 2, 1), some (.iload_n 3, 1), some (.iload 4, 2), none, some (.iload 5, 2), none, some (.invokevirtual 43, 3), none, none, some (.ireturn, 1)]
-- RootLoom.node(IIII)I
def xk_4 : List (Option (Instr × Nat)) := [some (.aload_n 0, 1), some (.getfield 12, 3), none, none, some (.iload_n 1, 1), some (.iload_n 2, 1), some (.iload_n 3, 1), some (.iload 4, 2), none, some (.invokevirtual 47, 3), none, none, some (.ireturn, 1)]
-- RootLoom.body(II)Z
def xk_5 : List (Option (Instr × Nat)) := [some (.aload_n 0, 1), some (.getfield 12, 3), none, none, some (.iload_n 1, 1), some (.iload_n 2, 1), some (.invokevirtual 51, 3), none, none, some (.ireturn, 1)]
-- RootLoom.lay()I
def xk_6 : List (Option (Instr × Nat)) := [some (.aload_n 0, 1), some (.getfield 35, 3), none, none, some (.invokevirtual 55, 3), none, none, some (.aload_n 0, 1), some (.getfield 28, 3), none, none, some (.invokevirtual 58, 3), none, none, some (.ireturn, 1)]
-- RootLoom.laid(I)I
def xk_7 : List (Option (Instr × Nat)) := [some (.aload_n 0, 1), some (.getfield 19, 3), none, none, some (.getfield 62, 3), none, none, some (.ifCond .ne 5, 3), none, none, some (.iconst (-1), 1), some (.ireturn, 1), some (.iload_n 1, 1), some (.tableswitch 51 0 2 #[27, 35, 43], 27), none, none, none, none, none, none, none, none, none, none, none, none, none, none, none, none, none, none, none, none, none, none, none, none, none, none, some (.aload_n 0, 1), some (.getfield 19, 3), none, none, some (.getfield 66, 3), none, none, some (.ireturn, 1), some (.aload_n 0, 1), some (.getfield 19, 3), none, none, some (.getfield 70, 3), none, none, some (.ireturn, 1), some (.aload_n 0, 1), some (.getfield 19, 3), none, none, some (.getfield 73, 3), none, none, some (.ireturn, 1), some (.iconst (-1), 1), some (.ireturn, 1)]
-- RootLoom.entry(I)I
def xk_8 : List (Option (Instr × Nat)) := [some (.aload_n 0, 1), some (.getfield 19, 3), none, none, some (.iload_n 1, 1), some (.invokevirtual 93, 3), none, none, some (.ireturn, 1)]
-- RootLoom.map(II)I
def xk_9 : List (Option (Instr × Nat)) := [some (.aload_n 0, 1), some (.getfield 19, 3), none, none, some (.iload_n 1, 1), some (.invokevirtual 76, 3), none, none, some (.ifCond .eq 14, 3), none, none, some (.aload_n 0, 1), some (.getfield 19, 3), none, none, some (.iload_n 1, 1), some (.invokevirtual 97, 3), none, none, some (.ifCond .ne 5, 3), none, none, some (.iconst (-1), 1), some (.ireturn, 1), some (.iload_n 2, 1), some (.lookupswitch 47 #[(0, 27), (1, 37)], 27), none, none, none, none, none, none, none, none, none, none, none, none, none, none, none, none, none, none, none, none, none, none, none, none, none, none, some (.aload_n 0, 1), some (.getfield 19, 3), none, none, some (.getfield 100, 3), none, none, some (.iload_n 1, 1), some (.iaload, 1), some (.ireturn, 1), some (.aload_n 0, 1), some (.getfield 19, 3), none, none, some (.getfield 103, 3), none, none, some (.iload_n 1, 1), some (.iaload, 1), some (.ireturn, 1), some (.iconst (-1), 1), some (.ireturn, 1)]
-- RootLoom.heap(I)Z
def xk_10 : List (Option (Instr × Nat)) := [some (.iload_n 1, 1), some (.iconst 3, 1), some (.if_icmp .lt 10, 3), none, none, some (.iload_n 1, 1), some (.sipush 600, 3), none, none, some (.if_icmp .le 5, 3), none, none, some (.iconst 0, 1), some (.ireturn, 1), some (.aload_n 0, 1), some (.getfield 35, 3), none, none, some (.iload_n 1, 1), some (.putfield 106, 3), none, none, some (.iconst 1, 1), some (.ireturn, 1)]
-- RootLoom.force(I)Z
def xk_11 : List (Option (Instr × Nat)) := [some (.iload_n 1, 1), some (.ifCond .ge 5, 3), none, none, some (.iconst 0, 1), some (.ireturn, 1), some (.aload_n 0, 1), some (.getfield 35, 3), none, none, some (.iload_n 1, 1), some (.putfield 109, 3), none, none, some (.iconst 1, 1), some (.ireturn, 1)]
-- RootLoom.run(IIII)I
def xk_12 : List (Option (Instr × Nat)) := [some (.aload_n 0, 1), some (.getfield 19, 3), none, none, some (.iload_n 1, 1), some (.invokevirtual 93, 3), none, none, some (.iconst (-1), 1), some (.if_icmp .eq 14, 3), none, none, some (.aload_n 0, 1), some (.getfield 12, 3), none, none, some (.iload_n 1, 1), some (.invokevirtual 112, 3), none, none, some (.ifCond .ne 5, 3), none, none, some (.iconst (-1), 1), some (.ireturn, 1), some (.aload_n 0, 1), some (.getfield 35, 3), none, none, some (.iload_n 1, 1), some (.iload_n 2, 1), some (.iload_n 3, 1), some (.iload 4, 2), none, some (.invokevirtual 115, 3), none, none, some (.ireturn, 1)]
-- RootLoom.latest(I)I
def xk_13 : List (Option (Instr × Nat)) := [some (.aload_n 0, 1), some (.getfield 35, 3), none, none, some (.iload_n 1, 1), some (.invokevirtual 118, 3), none, none, some (.ireturn, 1)]
-- RootLoom.out(I)I
def xk_14 : List (Option (Instr × Nat)) := [some (.aload_n 0, 1), some (.getfield 35, 3), none, none, some (.iload_n 1, 1), some (.invokevirtual 121, 3), none, none, some (.ireturn, 1)]
-- RootLoom.tell(II)I
def xk_15 : List (Option (Instr × Nat)) := [some (.aload_n 0, 1), some (.getfield 35, 3), none, none, some (.iload_n 1, 1), some (.iload_n 2, 1), some (.invokevirtual 124, 3), none, none, some (.ireturn, 1)]
-- RootLoom.value(II)I
def xk_16 : List (Option (Instr × Nat)) := [some (.aload_n 0, 1), some (.getfield 35, 3), none, none, some (.iload_n 1, 1), some (.iload_n 2, 1), some (.invokevirtual 124, 3), none, none, some (.ifCond .ne 13, 3), none, none, some (.aload_n 0, 1), some (.getfield 35, 3), none, none, some (.getfield 128, 3), none, none, some (.goto 4, 3), none, none, some (.iconst 0, 1), some (.ireturn, 1)]
-- RootLoom.instruction(II)I
def xk_17 : List (Option (Instr × Nat)) := [some (.aload_n 0, 1), some (.getfield 19, 3), none, none, some (.iload_n 1, 1), some (.invokevirtual 76, 3), none, none, some (.ifCond .ne 11, 3), none, none, some (.new 80, 3), none, none, some (.dup, 1), some (.invokespecial 82, 3), none, none, some (.athrow, 1), some (.iload_n 2, 1), some (.ifCond .eq 16, 3), none, none, some (.iload_n 2, 1), some (.iconst 1, 1), some (.if_icmp .eq 11, 3), none, none, some (.new 83, 3), none, none, some (.dup, 1), some (.invokespecial 85, 3), none, none, some (.athrow, 1), some (.iload_n 2, 1), some (.ifCond .ne 15, 3), none, none, some (.aload_n 0, 1), some (.getfield 19, 3), none, none, some (.getfield 86, 3), none, none, some (.iload_n 1, 1), some (.iaload, 1), some (.goto 12, 3), none, none, some (.aload_n 0, 1), some (.getfield 19, 3), none, none, some (.getfield 90, 3), none, none, some (.iload_n 1, 1), some (.iaload, 1), some (.ireturn, 1)]
-- RootLoom$Source.<init>()V
def xk_18 : List (Option (Instr × Nat)) := [some (.aload_n 0, 1), some (.invokespecial 3, 3), none, none, some (.aload_n 0, 1), some (.bipush 8, 2), none, some (.newarray .int, 2), none, some (.putfield 9, 3), none, none, some (.aload_n 0, 1), some (.bipush 8, 2), none, some (.newarray .int, 2), none, some (.putfield 15, 3), none, none, some (.aload_n 0, 1), some (.bipush 6, 2), none, some (.newarray .int, 2), none, some (.putfield 18, 3), none, none, some (.aload_n 0, 1), some (.bipush 6, 2), none, some (.newarray .int, 2), none, some (.putfield 21, 3), none, none, some (.aload_n 0, 1), some (.bipush 18, 2), none, some (.newarray .int, 2), none, some (.putfield 24, 3), none, none, some (.aload_n 0, 1), some (.bipush 6, 2), none, some (.newarray .int, 2), none, some (.putfield 27, 3), none, none, some (.aload_n 0, 1), some (.iconst 0, 1), some (.putfield 30, 3), none, none, some (.aload_n 0, 1), some (.sipush 150, 3), none, none, some (.newarray .int, 2), none, some (.putfield 34, 3), none, none, some (.aload_n 0, 1), some (.sipush 450, 3), none, none, some (.newarray .int, 2), none, some (.putfield 37, 3), none, none, some (.aload_n 0, 1), some (.sipush 150, 3), none, none, some (.newarray .int, 2), none, some (.putfield 40, 3), none, none, some (.aload_n 0, 1), some (.sipush 150, 3), none, none, some (.newarray .int, 2), none, some (.putfield 43, 3), none, none, some (.aload_n 0, 1), some (.iconst 0, 1), some (.putfield 46, 3), none, none, some (.return_, 1)]
-- RootLoom$Source.setType(III)Z
def xk_19 : List (Option (Instr × Nat)) := [some (.iload_n 1, 1), some (.invokestatic 49, 3), none, none, some (.ifCond .eq 17, 3), none, none, some (.iload_n 2, 1), some (.invokestatic 53, 3), none, none, some (.ifCond .eq 10, 3), none, none, some (.iload_n 3, 1), some (.invokestatic 53, 3), none, none, some (.ifCond .ne 5, 3), none, none, some (.iconst 0, 1), some (.ireturn, 1), some (.aload_n 0, 1), some (.getfield 9, 3), none, none, some (.iload_n 1, 1), some (.iload_n 2, 1), some (.iastore, 1), some (.aload_n 0, 1), some (.getfield 15, 3), none, none, some (.iload_n 1, 1), some (.iload_n 3, 1), some (.iastore, 1), some (.iconst 1, 1), some (.ireturn, 1)]
-- RootLoom$Source.isPairType(I)Z
def xk_20 : List (Option (Instr × Nat)) := [some (.iload_n 0, 1), some (.ifCond .le 13, 3), none, none, some (.iload_n 0, 1), some (.bipush 8, 2), none, some (.if_icmp .ge 7, 3), none, none, some (.iconst 1, 1), some (.goto 4, 3), none, none, some (.iconst 0, 1), some (.ireturn, 1)]
-- RootLoom$Source.isType(I)Z
def xk_21 : List (Option (Instr × Nat)) := [some (.iload_n 0, 1), some (.ifCond .lt 13, 3), none, none, some (.iload_n 0, 1), some (.bipush 8, 2), none, some (.if_icmp .ge 7, 3), none, none, some (.iconst 1, 1), some (.goto 4, 3), none, none, some (.iconst 0, 1), some (.ireturn, 1)]
-- RootLoom$Source.addFunction(IIIII)I
def xk_22 : List (Option (Instr × Nat)) := [some (.aload_n 0, 1), some (.getfield 30, 3), none, none, some (.bipush 6, 2), none, some (.if_icmp .ge 19, 3), none, none, some (.iload_n 1, 1), some (.invokestatic 53, 3), none, none, some (.ifCond .eq 12, 3), none, none, some (.iload_n 2, 1), some (.ifCond .lt 8, 3), none, none, some (.iload_n 2, 1), some (.iconst 3, 1), some (.if_icmp .le 5, 3), none, none, some (.iconst (-1), 1), some (.ireturn, 1), some (.iload_n 2, 1), some (.ifCond .le 10, 3), none, none, some (.iload_n 3, 1), some (.invokestatic 53, 3), none, none, some (.ifCond .eq 29, 3), none, none, some (.iload_n 2, 1), some (.iconst 1, 1), some (.if_icmp .le 11, 3), none, none, some (.iload 4, 2), none, some (.invokestatic 53, 3), none, none, some (.ifCond .eq 16, 3), none, none, some (.iload_n 2, 1), some (.iconst 2, 1), some (.if_icmp .le 13, 3), none, none, some (.iload 5, 2), none, some (.invokestatic 53, 3), none, none, some (.ifCond .ne 5, 3), none, none, some (.iconst (-1), 1), some (.ireturn, 1), some (.aload_n 0, 1), some (.getfield 30, 3), none, none, some (.istore 6, 2), none, some (.aload_n 0, 1), some (.getfield 18, 3), none, none, some (.iload 6, 2), none, some (.iload_n 1, 1), some (.iastore, 1), some (.aload_n 0, 1), some (.getfield 21, 3), none, none, some (.iload 6, 2), none, some (.iload_n 2, 1), some (.iastore, 1), some (.aload_n 0, 1), some (.getfield 24, 3), none, none, some (.iload 6, 2), none, some (.iconst 3, 1), some (.imul, 1), some (.iload_n 3, 1), some (.iastore, 1), some (.aload_n 0, 1), some (.getfield 24, 3), none, none, some (.iload 6, 2), none, some (.iconst 3, 1), some (.imul, 1), some (.iconst 1, 1), some (.iadd, 1), some (.iload 4, 2), none, some (.iastore, 1), some (.aload_n 0, 1), some (.getfield 24, 3), none, none, some (.iload 6, 2), none, some (.iconst 3, 1), some (.imul, 1), some (.iconst 2, 1), some (.iadd, 1), some (.iload 5, 2), none, some (.iastore, 1), some (.aload_n 0, 1), some (.getfield 27, 3), none, none, some (.iload 6, 2), none, some (.iconst (-1), 1), some (.iastore, 1), some (.aload_n 0, 1), some (.dup, 1), some (.getfield 30, 3), none, none, some (.iconst 1, 1), some (.iadd, 1), some (.putfield 30, 3), none, none, some (.iload 6, 2), none, some (.ireturn, 1)]
-- RootLoom$Source.addNode(IIII)I
def xk_23 : List (Option (Instr × Nat)) := [some (.iload_n 1, 1), some (.ifCond .lt 19, 3), none, none, some (.iload_n 1, 1), some (.bipush 18, 2), none, some (.if_icmp .ge 13, 3), none, none, some (.aload_n 0, 1), some (.getfield 46, 3), none, none, some (.sipush 150, 3), none, none, some (.if_icmp .lt 5, 3), none, none, some (.iconst (-1), 1), some (.ireturn, 1), some (.iload_n 1, 1), some (.iconst 3, 1), some (.imul, 1), some (.istore 5, 2), none, some (.aload_n 0, 1), some (.getstatic 56, 3), none, none, some (.iload 5, 2), none, some (.iaload, 1), some (.iload_n 2, 1), some (.invokevirtual 59, 3), none, none, some (.ifCond .eq 36, 3), none, none, some (.aload_n 0, 1), some (.getstatic 56, 3), none, none, some (.iload 5, 2), none, some (.iconst 1, 1), some (.iadd, 1), some (.iaload, 1), some (.iload_n 3, 1), some (.invokevirtual 59, 3), none, none, some (.ifCond .eq 20, 3), none, none, some (.aload_n 0, 1), some (.getstatic 56, 3), none, none, some (.iload 5, 2), none, some (.iconst 2, 1), some (.iadd, 1), some (.iaload, 1), some (.iload 4, 2), none, some (.invokevirtual 59, 3), none, none, some (.ifCond .ne 5, 3), none, none, some (.iconst (-1), 1), some (.ireturn, 1), some (.aload_n 0, 1), some (.getfield 46, 3), none, none, some (.istore 6, 2), none, some (.aload_n 0, 1), some (.getfield 34, 3), none, none, some (.iload 6, 2), none, some (.iload_n 1, 1), some (.iastore, 1), some (.aload_n 0, 1), some (.getfield 37, 3), none, none, some (.iload 6, 2), none, some (.iconst 3, 1), some (.imul, 1), some (.iload_n 2, 1), some (.iastore, 1), some (.aload_n 0, 1), some (.getfield 37, 3), none, none, some (.iload 6, 2), none, some (.iconst 3, 1), some (.imul, 1), some (.iconst 1, 1), some (.iadd, 1), some (.iload_n 3, 1), some (.iastore, 1), some (.aload_n 0, 1), some (.getfield 37, 3), none, none, some (.iload 6, 2), none, some (.iconst 3, 1), some (.imul, 1), some (.iconst 2, 1), some (.iadd, 1), some (.iload 4, 2), none, some (.iastore, 1), some (.aload_n 0, 1), some (.iload 6, 2), none, some (.invokevirtual 63, 3), none, none, some (.aload_n 0, 1), some (.dup, 1), some (.getfield 46, 3), none, none, some (.iconst 1, 1), some (.iadd, 1), some (.putfield 46, 3), none, none, some (.iload 6, 2), none, some (.ireturn, 1)]
-- RootLoom$Source.fits(II)Z
def xk_24 : List (Option (Instr × Nat)) := [some (.iload_n 1, 1), some (.tableswitch 98 1 5 #[35, 40, 56, 62, 68], 35), none, none, none, none, none, none, none, none, none, none, none, none, none, none, none, none, none, none, none, none, none, none, none, none, none, none, none, none, none, none, none, none, none, none, some (.iload_n 2, 1), some (.invokestatic 49, 3), none, none, some (.ireturn, 1), some (.iload_n 2, 1), some (.ifCond .lt 13, 3), none, none, some (.iload_n 2, 1), some (.bipush 8, 2), none, some (.if_icmp .ge 7, 3), none, none, some (.iconst 1, 1), some (.goto 4, 3), none, none, some (.iconst 0, 1), some (.ireturn, 1), some (.aload_n 0, 1), some (.iload_n 2, 1), some (.invokevirtual 67, 3), none, none, some (.ireturn, 1), some (.aload_n 0, 1), some (.iload_n 2, 1), some (.invokevirtual 70, 3), none, none, some (.ireturn, 1), some (.iload_n 2, 1), some (.iconst (-1), 1), some (.if_icmp .eq 22, 3), none, none, some (.aload_n 0, 1), some (.iload_n 2, 1), some (.invokevirtual 80, 3), none, none, some (.ifCond .eq 18, 3), none, none, some (.aload_n 0, 1), some (.getfield 34, 3), none, none, some (.iload_n 2, 1), some (.iaload, 1), some (.bipush 13, 2), none, some (.if_icmp .ne 7, 3), none, none, some (.iconst 1, 1), some (.goto 4, 3), none, none, some (.iconst 0, 1), some (.ireturn, 1), some (.iconst 1, 1), some (.ireturn, 1)]
-- RootLoom$Source.isFunction(I)Z
def xk_25 : List (Option (Instr × Nat)) := [some (.iload_n 1, 1), some (.ifCond .lt 15, 3), none, none, some (.iload_n 1, 1), some (.aload_n 0, 1), some (.getfield 30, 3), none, none, some (.if_icmp .ge 7, 3), none, none, some (.iconst 1, 1), some (.goto 4, 3), none, none, some (.iconst 0, 1), some (.ireturn, 1)]
-- RootLoom$Source.isExpression(I)Z
def xk_26 : List (Option (Instr × Nat)) := [some (.aload_n 0, 1), some (.iload_n 1, 1), some (.invokevirtual 80, 3), none, none, some (.ifCond .eq 18, 3), none, none, some (.aload_n 0, 1), some (.getfield 34, 3), none, none, some (.iload_n 1, 1), some (.iaload, 1), some (.bipush 13, 2), none, some (.if_icmp .eq 7, 3), none, none, some (.iconst 1, 1), some (.goto 4, 3), none, none, some (.iconst 0, 1), some (.ireturn, 1)]
-- RootLoom$Source.isNode(I)Z
def xk_27 : List (Option (Instr × Nat)) := [some (.iload_n 1, 1), some (.ifCond .lt 15, 3), none, none, some (.iload_n 1, 1), some (.aload_n 0, 1), some (.getfield 46, 3), none, none, some (.if_icmp .ge 7, 3), none, none, some (.iconst 1, 1), some (.goto 4, 3), none, none, some (.iconst 0, 1), some (.ireturn, 1)]
-- RootLoom$Source.measure(I)V
def xk_28 : List (Option (Instr × Nat)) := [some (.aload_n 0, 1), some (.getfield 34, 3), none, none, some (.iload_n 1, 1), some (.iaload, 1), some (.invokestatic 83, 3), none, none, some (.istore_n 2, 1), some (.iconst 1, 1), some (.istore_n 3, 1), some (.iconst 0, 1), some (.istore 4, 2), none, some (.iload 4, 2), none, some (.iconst 3, 1), some (.if_icmp .ge 58, 3), none, none, some (.aload_n 0, 1), some (.iload_n 1, 1), some (.iload 4, 2), none, some (.invokevirtual 87, 3), none, none, some (.istore 5, 2), none, some (.iload 5, 2), none, some (.iconst (-1), 1), some (.if_icmp .eq 37, 3), none, none, some (.iload_n 2, 1), some (.aload_n 0, 1), some (.getfield 40, 3), none, none, some (.iload 5, 2), none, some (.iaload, 1), some (.iadd, 1), some (.istore_n 2, 1), some (.iload_n 3, 1), some (.aload_n 0, 1), some (.getfield 34, 3), none, none, some (.iload_n 1, 1), some (.iaload, 1), some (.iload 4, 2), none, some (.invokestatic 90, 3), none, none, some (.aload_n 0, 1), some (.getfield 43, 3), none, none, some (.iload 5, 2), none, some (.iaload, 1), some (.iadd, 1), some (.invokestatic 93, 3), none, none, some (.istore_n 3, 1), some (.iinc 4 1, 3), none, none, some (.goto (-58), 3), none, none, some (.aload_n 0, 1), some (.getfield 40, 3), none, none, some (.iload_n 1, 1), some (.iload_n 2, 1), some (.sipush 401, 3), none, none, some (.invokestatic 98, 3), none, none, some (.iastore, 1), some (.aload_n 0, 1), some (.getfield 43, 3), none, none, some (.iload_n 1, 1), some (.iload_n 3, 1), some (.iastore, 1), some (.return_, 1)]
-- RootLoom$Source.ownInstructions(I)I
def xk_29 : List (Option (Instr × Nat)) := [some (.iload_n 0, 1), some (.lookupswitch 31 #[(10, 29), (13, 27)], 27), none, none, none, none, none, none, none, none, none, none, none, none, none, none, none, none, none, none, none, none, none, none, none, none, none, none, some (.iconst 0, 1), some (.ireturn, 1), some (.iconst 2, 1), some (.ireturn, 1), some (.iconst 1, 1), some (.ireturn, 1)]
-- RootLoom$Source.childOf(II)I
def xk_30 : List (Option (Instr × Nat)) := [some (.getstatic 56, 3), none, none, some (.aload_n 0, 1), some (.getfield 34, 3), none, none, some (.iload_n 1, 1), some (.iaload, 1), some (.iconst 3, 1), some (.imul, 1), some (.iload_n 2, 1), some (.iadd, 1), some (.iaload, 1), some (.istore_n 3, 1), some (.iload_n 3, 1), some (.iconst 4, 1), some (.if_icmp .eq 8, 3), none, none, some (.iload_n 3, 1), some (.iconst 5, 1), some (.if_icmp .ne 12, 3), none, none, some (.aload_n 0, 1), some (.iload_n 1, 1), some (.iload_n 2, 1), some (.invokevirtual 77, 3), none, none, some (.goto 4, 3), none, none, some (.iconst (-1), 1), some (.ireturn, 1)]
-- RootLoom$Source.partOf(II)I
def xk_31 : List (Option (Instr × Nat)) := [some (.aload_n 0, 1), some (.getfield 37, 3), none, none, some (.iload_n 1, 1), some (.iconst 3, 1), some (.imul, 1), some (.iload_n 2, 1), some (.iadd, 1), some (.iaload, 1), some (.ireturn, 1)]
-- RootLoom$Source.waitingAt(II)I
def xk_32 : List (Option (Instr × Nat)) := [some (.iload_n 0, 1), some (.tableswitch 89 3 15 #[67, 67, 67, 78, 89, 89, 89, 89, 89, 89, 67, 67, 67], 67), none, none, none, none, none, none, none, none, none, none, none, none, none, none, none, none, none, none, none, none, none, none, none, none, none, none, none, none, none, none, none, none, none, none, none, none, none, none, none, none, none, none, none, none, none, none, none, none, none, none, none, none, none, none, none, none, none, none, none, none, none, none, none, none, none, none, some (.iload_n 1, 1), some (.iconst 1, 1), some (.if_icmp .ne 7, 3), none, none, some (.iconst 1, 1), some (.goto 4, 3), none, none, some (.iconst 0, 1), some (.ireturn, 1), some (.iload_n 1, 1), some (.iconst 2, 1), some (.if_icmp .ne 7, 3), none, none, some (.iconst 1, 1), some (.goto 4, 3), none, none, some (.iconst 0, 1), some (.ireturn, 1), some (.iconst 0, 1), some (.ireturn, 1)]
-- RootLoom$Source.setBody(II)Z
def xk_33 : List (Option (Instr × Nat)) := [some (.aload_n 0, 1), some (.iload_n 1, 1), some (.invokevirtual 67, 3), none, none, some (.ifCond .eq 16, 3), none, none, some (.iload_n 2, 1), some (.iconst (-1), 1), some (.if_icmp .eq 13, 3), none, none, some (.aload_n 0, 1), some (.iload_n 2, 1), some (.invokevirtual 70, 3), none, none, some (.ifCond .ne 5, 3), none, none, some (.iconst 0, 1), some (.ireturn, 1), some (.aload_n 0, 1), some (.getfield 27, 3), none, none, some (.iload_n 1, 1), some (.iload_n 2, 1), some (.iastore, 1), some (.iconst 1, 1), some (.ireturn, 1)]
-- RootLoom$Source.parameterType(II)I
def xk_34 : List (Option (Instr × Nat)) := [some (.aload_n 0, 1), some (.getfield 24, 3), none, none, some (.iload_n 1, 1), some (.iconst 3, 1), some (.imul, 1), some (.iload_n 2, 1), some (.iadd, 1), some (.iaload, 1), some (.ireturn, 1)]
-- RootLoom$Source.argumentsOf(I)I
def xk_35 : List (Option (Instr × Nat)) := [some (.iconst 0, 1), some (.istore_n 2, 1), some (.aload_n 0, 1), some (.iload_n 1, 1), some (.iconst 1, 1), some (.invokevirtual 77, 3), none, none, some (.istore_n 3, 1), some (.iload_n 3, 1), some (.iconst (-1), 1), some (.if_icmp .eq 23, 3), none, none, some (.iload_n 2, 1), some (.sipush 150, 3), none, none, some (.if_icmp .ge 16, 3), none, none, some (.iinc 2 1, 3), none, none, some (.aload_n 0, 1), some (.iload_n 3, 1), some (.iconst 1, 1), some (.invokevirtual 77, 3), none, none, some (.istore_n 3, 1), some (.goto (-22), 3), none, none, some (.iload_n 2, 1), some (.ireturn, 1)]
-- RootLoom$Source.takesOnlyInts(I)Z
def xk_36 : List (Option (Instr × Nat)) := [some (.iconst 0, 1), some (.istore_n 2, 1), some (.iload_n 2, 1), some (.aload_n 0, 1), some (.getfield 21, 3), none, none, some (.iload_n 1, 1), some (.iaload, 1), some (.if_icmp .ge 20, 3), none, none, some (.aload_n 0, 1), some (.iload_n 1, 1), some (.iload_n 2, 1), some (.invokevirtual 73, 3), none, none, some (.ifCond .eq 5, 3), none, none, some (.iconst 0, 1), some (.ireturn, 1), some (.iinc 2 1, 3), none, none, some (.goto (-24), 3), none, none, some (.iconst 1, 1), some (.ireturn, 1)]
-- RootLoom$Code.<init>()V
def xk_37 : List (Option (Instr × Nat)) := [some (.aload_n 0, 1), some (.invokespecial 3, 3), none, none, some (.aload_n 0, 1), some (.iconst 0, 1), some (.putfield 9, 3), none, none, some (.aload_n 0, 1), some (.iconst 0, 1), some (.putfield 15, 3), none, none, some (.aload_n 0, 1), some (.iconst 0, 1), some (.putfield 19, 3), none, none, some (.aload_n 0, 1), some (.iconst 0, 1), some (.putfield 22, 3), none, none, some (.aload_n 0, 1), some (.sipush 400, 3), none, none, some (.newarray .int, 2), none, some (.putfield 25, 3), none, none, some (.aload_n 0, 1), some (.sipush 400, 3), none, none, some (.newarray .int, 2), none, some (.putfield 29, 3), none, none, some (.aload_n 0, 1), some (.sipush 400, 3), none, none, some (.newarray .int, 2), none, some (.putfield 32, 3), none, none, some (.aload_n 0, 1), some (.sipush 400, 3), none, none, some (.newarray .int, 2), none, some (.putfield 35, 3), none, none, some (.aload_n 0, 1), some (.bipush 6, 2), none, some (.newarray .int, 2), none, some (.putfield 38, 3), none, none, some (.aload_n 0, 1), some (.bipush 8, 2), none, some (.newarray .int, 2), none, some (.putfield 41, 3), none, none, some (.aload_n 0, 1), some (.bipush 8, 2), none, some (.newarray .int, 2), none, some (.putfield 44, 3), none, none, some (.return_, 1)]
-- RootLoom$Code.clear()V
def xk_38 : List (Option (Instr × Nat)) := [some (.aload_n 0, 1), some (.iconst 0, 1), some (.putfield 9, 3), none, none, some (.aload_n 0, 1), some (.iconst 0, 1), some (.putfield 15, 3), none, none, some (.aload_n 0, 1), some (.iconst 0, 1), some (.putfield 19, 3), none, none, some (.aload_n 0, 1), some (.iconst 0, 1), some (.putfield 22, 3), none, none, some (.iconst 0, 1), some (.istore_n 1, 1), some (.iload_n 1, 1), some (.bipush 6, 2), none, some (.if_icmp .ge 16, 3), none, none, some (.aload_n 0, 1), some (.getfield 38, 3), none, none, some (.iload_n 1, 1), some (.iconst (-1), 1), some (.iastore, 1), some (.iinc 1 1, 3), none, none, some (.goto (-16), 3), none, none, some (.return_, 1)]
-- RootLoom$Code.add(II)I
def xk_39 : List (Option (Instr × Nat)) := [some (.aload_n 0, 1), some (.getfield 15, 3), none, none, some (.istore_n 3, 1), some (.aload_n 0, 1), some (.getfield 25, 3), none, none, some (.iload_n 3, 1), some (.iload_n 1, 1), some (.iastore, 1), some (.aload_n 0, 1), some (.getfield 29, 3), none, none, some (.iload_n 3, 1), some (.iload_n 2, 1), some (.iastore, 1), some (.aload_n 0, 1), some (.dup, 1), some (.getfield 15, 3), none, none, some (.iconst 1, 1), some (.iadd, 1), some (.putfield 15, 3), none, none, some (.iload_n 3, 1), some (.ireturn, 1)]
-- RootLoom$Code.isMapped(I)Z
def xk_40 : List (Option (Instr × Nat)) := [some (.aload_n 0, 1), some (.getfield 25, 3), none, none, some (.iload_n 1, 1), some (.iaload, 1), some (.bipush 6, 2), none, some (.if_icmp .eq 14, 3), none, none, some (.aload_n 0, 1), some (.getfield 25, 3), none, none, some (.iload_n 1, 1), some (.iaload, 1), some (.bipush 13, 2), none, some (.if_icmp .ne 7, 3), none, none, some (.iconst 1, 1), some (.goto 4, 3), none, none, some (.iconst 0, 1), some (.ireturn, 1)]
-- RootLoom$Code.keepTypes(LRootLoom$Source;)V
def xk_41 : List (Option (Instr × Nat)) := [some (.iconst 0, 1), some (.istore_n 2, 1), some (.iload_n 2, 1), some (.bipush 8, 2), none, some (.if_icmp .ge 33, 3), none, none, some (.aload_n 0, 1), some (.getfield 41, 3), none, none, some (.iload_n 2, 1), some (.aload_n 1, 1), some (.getfield 47, 3), none, none, some (.iload_n 2, 1), some (.iaload, 1), some (.iastore, 1), some (.aload_n 0, 1), some (.getfield 44, 3), none, none, some (.iload_n 2, 1), some (.aload_n 1, 1), some (.getfield 50, 3), none, none, some (.iload_n 2, 1), some (.iaload, 1), some (.iastore, 1), some (.iinc 2 1, 3), none, none, some (.goto (-33), 3), none, none, some (.return_, 1)]
-- RootLoom$Code.startOf(I)I
def xk_42 : List (Option (Instr × Nat)) := [some (.aload_n 0, 1), some (.getfield 9, 3), none, none, some (.ifCond .eq 22, 3), none, none, some (.iload_n 1, 1), some (.ifCond .lt 18, 3), none, none, some (.iload_n 1, 1), some (.bipush 6, 2), none, some (.if_icmp .ge 12, 3), none, none, some (.aload_n 0, 1), some (.getfield 38, 3), none, none, some (.iload_n 1, 1), some (.iaload, 1), some (.goto 4, 3), none, none, some (.iconst (-1), 1), some (.ireturn, 1)]
-- RootLoom$Code.has(I)Z
def xk_43 : List (Option (Instr × Nat)) := [some (.aload_n 0, 1), some (.getfield 9, 3), none, none, some (.ifCond .eq 19, 3), none, none, some (.iload_n 1, 1), some (.ifCond .lt 15, 3), none, none, some (.iload_n 1, 1), some (.aload_n 0, 1), some (.getfield 15, 3), none, none, some (.if_icmp .ge 7, 3), none, none, some (.iconst 1, 1), some (.goto 4, 3), none, none, some (.iconst 0, 1), some (.ireturn, 1)]
-- RootLoom$Weaver.<init>(LRootLoom$Source;LRootLoom$Code;)V
def xk_44 : List (Option (Instr × Nat)) := [some (.aload_n 0, 1), some (.invokespecial 3, 3), none, none, some (.aload_n 0, 1), some (.sipush 150, 3), none, none, some (.newarray .int, 2), none, some (.putfield 9, 3), none, none, some (.aload_n 0, 1), some (.sipush 150, 3), none, none, some (.newarray .int, 2), none, some (.putfield 15, 3), none, none, some (.aload_n 0, 1), some (.sipush 150, 3), none, none, some (.newarray .int, 2), none, some (.putfield 18, 3), none, none, some (.aload_n 0, 1), some (.sipush 150, 3), none, none, some (.newarray .int, 2), none, some (.putfield 21, 3), none, none, some (.aload_n 0, 1), some (.iconst 0, 1), some (.putfield 24, 3), none, none, some (.aload_n 0, 1), some (.bipush 16, 2), none, some (.newarray .int, 2), none, some (.putfield 28, 3), none, none, some (.aload_n 0, 1), some (.iconst 0, 1), some (.putfield 31, 3), none, none, some (.aload_n 0, 1), some (.bipush 8, 2), none, some (.newarray .int, 2), none, some (.putfield 34, 3), none, none, some (.aload_n 0, 1), some (.iconst 1, 1), some (.putfield 37, 3), none, none, some (.aload_n 0, 1), some (.sipush 400, 3), none, none, some (.newarray .int, 2), none, some (.putfield 41, 3), none, none, some (.aload_n 0, 1), some (.sipush 401, 3), none, none, some (.newarray .int, 2), none, some (.putfield 44, 3), none, none, some (.aload_n 0, 1), some (.aload_n 1, 1), some (.putfield 47, 3), none, none, some (.aload_n 0, 1), some (.aload_n 2, 1), some (.putfield 51, 3), none, none, some (.return_, 1)]
-- RootLoom$Weaver.weave()I
def xk_45 : List (Option (Instr × Nat)) := [some (.aload_n 0, 1), some (.getfield 51, 3), none, none, some (.invokevirtual 55, 3), none, none, some (.iconst 0, 1), some (.istore_n 1, 1), some (.iconst 0, 1), some (.istore_n 2, 1), some (.iconst 0, 1), some (.istore_n 3, 1), some (.iload_n 3, 1), some (.aload_n 0, 1), some (.getfield 47, 3), none, none, some (.getfield 60, 3), none, none, some (.if_icmp .ge 56, 3), none, none, some (.aload_n 0, 1), some (.getfield 47, 3), none, none, some (.getfield 65, 3), none, none, some (.iload_n 3, 1), some (.iaload, 1), some (.istore 4, 2), none, some (.iload 4, 2), none, some (.iconst (-1), 1), some (.if_icmp .eq 33, 3), none, none, some (.iload_n 1, 1), some (.aload_n 0, 1), some (.getfield 47, 3), none, none, some (.getfield 68, 3), none, none, some (.iload 4, 2), none, some (.iaload, 1), some (.iconst 1, 1), some (.iadd, 1), some (.iadd, 1), some (.istore_n 1, 1), some (.iload_n 2, 1), some (.aload_n 0, 1), some (.getfield 47, 3), none, none, some (.getfield 71, 3), none, none, some (.iload 4, 2), none, some (.iaload, 1), some (.invokestatic 74, 3), none, none, some (.istore_n 2, 1), some (.iinc 3 1, 3), none, none, some (.goto (-61), 3), none, none, some (.iload_n 1, 1), some (.sipush 400, 3), none, none, some (.if_icmp .gt 9, 3), none, none, some (.iload_n 2, 1), some (.bipush 16, 2), none, some (.if_icmp .le 6, 3), none, none, some (.bipush (-2), 2), none, some (.ireturn, 1), some (.iconst 0, 1), some (.istore_n 3, 1), some (.iload_n 3, 1), some (.aload_n 0, 1), some (.getfield 47, 3), none, none, some (.getfield 60, 3), none, none, some (.if_icmp .ge 33, 3), none, none, some (.aload_n 0, 1), some (.getfield 47, 3), none, none, some (.getfield 65, 3), none, none, some (.iload_n 3, 1), some (.iaload, 1), some (.iconst (-1), 1), some (.if_icmp .eq 14, 3), none, none, some (.aload_n 0, 1), some (.iload_n 3, 1), some (.invokevirtual 80, 3), none, none, some (.ifCond .ne 6, 3), none, none, some (.bipush (-3), 2), none, some (.ireturn, 1), some (.iinc 3 1, 3), none, none, some (.goto (-38), 3), none, none, some (.aload_n 0, 1), some (.invokevirtual 84, 3), none, none, some (.aload_n 0, 1), some (.getfield 51, 3), none, none, some (.aload_n 0, 1), some (.getfield 47, 3), none, none, some (.invokevirtual 87, 3), none, none, some (.aload_n 0, 1), some (.getfield 51, 3), none, none, some (.iload_n 2, 1), some (.putfield 91, 3), none, none, some (.aload_n 0, 1), some (.getfield 51, 3), none, none, some (.iconst 1, 1), some (.putfield 94, 3), none, none, some (.aload_n 0, 1), some (.getfield 51, 3), none, none, some (.getfield 97, 3), none, none, some (.ireturn, 1)]
-- RootLoom$Weaver.weaveFunction(I)Z
def xk_46 : List (Option (Instr × Nat)) := [some (.aload_n 0, 1), some (.getfield 51, 3), none, none, some (.getfield 100, 3), none, none, some (.iload_n 1, 1), some (.aload_n 0, 1), some (.getfield 51, 3), none, none, some (.getfield 97, 3), none, none, some (.iastore, 1), some (.iconst 0, 1), some (.istore_n 2, 1), some (.iload_n 2, 1), some (.bipush 8, 2), none, some (.if_icmp .ge 51, 3), none, none, some (.iload_n 2, 1), some (.aload_n 0, 1), some (.getfield 47, 3), none, none, some (.getfield 103, 3), none, none, some (.iload_n 1, 1), some (.iaload, 1), some (.if_icmp .ge 7, 3), none, none, some (.iconst 1, 1), some (.goto 4, 3), none, none, some (.iconst 0, 1), some (.istore_n 3, 1), some (.aload_n 0, 1), some (.getfield 34, 3), none, none, some (.iload_n 2, 1), some (.iload_n 3, 1), some (.ifCond .eq 15, 3), none, none, some (.aload_n 0, 1), some (.getfield 47, 3), none, none, some (.iload_n 1, 1), some (.iload_n 2, 1), some (.invokevirtual 106, 3), none, none, some (.goto 4, 3), none, none, some (.iconst (-1), 1), some (.iastore, 1), some (.iinc 2 1, 3), none, none, some (.goto (-51), 3), none, none, some (.aload_n 0, 1), some (.iconst 0, 1), some (.putfield 31, 3), none, none, some (.aload_n 0, 1), some (.iconst 0, 1), some (.putfield 24, 3), none, none, some (.aload_n 0, 1), some (.iconst 1, 1), some (.putfield 37, 3), none, none, some (.aload_n 0, 1), some (.aload_n 0, 1), some (.getfield 47, 3), none, none, some (.getfield 65, 3), none, none, some (.iload_n 1, 1), some (.iaload, 1), some (.invokevirtual 109, 3), none, none, some (.iconst 0, 1), some (.istore_n 2, 1), some (.iload_n 2, 1), some (.sipush 10000, 3), none, none, some (.if_icmp .ge 69, 3), none, none, some (.aload_n 0, 1), some (.getfield 24, 3), none, none, some (.ifCond .le 62, 3), none, none, some (.aload_n 0, 1), some (.getfield 37, 3), none, none, some (.ifCond .eq 55, 3), none, none, some (.aload_n 0, 1), some (.getfield 24, 3), none, none, some (.iconst 1, 1), some (.isub, 1), some (.istore_n 3, 1), some (.aload_n 0, 1), some (.getfield 15, 3), none, none, some (.iload_n 3, 1), some (.iaload, 1), some (.iconst 3, 1), some (.if_icmp .ne 27, 3), none, none, some (.aload_n 0, 1), some (.dup, 1), some (.getfield 24, 3), none, none, some (.iconst 1, 1), some (.isub, 1), some (.putfield 24, 3), none, none, some (.aload_n 0, 1), some (.aload_n 0, 1), some (.getfield 9, 3), none, none, some (.iload_n 3, 1), some (.iaload, 1), some (.iload_n 3, 1), some (.invokevirtual 113, 3), none, none, some (.goto 8, 3), none, none, some (.aload_n 0, 1), some (.iload_n 3, 1), some (.invokevirtual 117, 3), none, none, some (.iinc 2 1, 3), none, none, some (.goto (-70), 3), none, none, some (.aload_n 0, 1), some (.getfield 37, 3), none, none, some (.ifCond .eq 19, 3), none, none, some (.aload_n 0, 1), some (.invokevirtual 120, 3), none, none, some (.aload_n 0, 1), some (.getfield 47, 3), none, none, some (.getfield 124, 3), none, none, some (.iload_n 1, 1), some (.iaload, 1), some (.if_icmp .eq 5, 3), none, none, some (.iconst 0, 1), some (.ireturn, 1), some (.aload_n 0, 1), some (.getfield 51, 3), none, none, some (.bipush 14, 2), none, some (.iconst 0, 1), some (.invokevirtual 127, 3), none, none, some (.pop, 1), some (.iconst 1, 1), some (.ireturn, 1)]
-- RootLoom$Weaver.begin(I)V
def xk_47 : List (Option (Instr × Nat)) := [some (.aload_n 0, 1), some (.getfield 9, 3), none, none, some (.aload_n 0, 1), some (.getfield 24, 3), none, none, some (.iload_n 1, 1), some (.iastore, 1), some (.aload_n 0, 1), some (.getfield 15, 3), none, none, some (.aload_n 0, 1), some (.getfield 24, 3), none, none, some (.iconst 0, 1), some (.iastore, 1), some (.aload_n 0, 1), some (.dup, 1), some (.getfield 24, 3), none, none, some (.iconst 1, 1), some (.iadd, 1), some (.putfield 24, 3), none, none, some (.return_, 1)]
-- RootLoom$Weaver.finish(II)V
def xk_48 : List (Option (Instr × Nat)) := [some (.aload_n 0, 1), some (.getfield 47, 3), none, none, some (.iload_n 1, 1), some (.iconst 0, 1), some (.invokevirtual 146, 3), none, none, some (.istore_n 3, 1), some (.aload_n 0, 1), some (.getfield 47, 3), none, none, some (.getfield 137, 3), none, none, some (.iload_n 1, 1), some (.iaload, 1), some (.tableswitch 330 0 16 #[81, 99, 117, 125, 133, 141, 149, 157, 187, 217, 241, 249, 259, 330, 275, 291, 307], 81), none, none, none, none, none, none, none, none, none, none, none, none, none, none, none, none, none, none, none, none, none, none, none, none, none, none, none, none, none, none, none, none, none, none, none, none, none, none, none, none, none, none, none, none, none, none, none, none, none, none, none, none, none, none, none, none, none, none, none, none, none, none, none, none, none, none, none, none, none, none, none, none, none, none, none, none, none, none, none, none, some (.aload_n 0, 1), some (.getfield 51, 3), none, none, some (.iconst 0, 1), some (.iload_n 3, 1), some (.invokevirtual 127, 3), none, none, some (.pop, 1), some (.aload_n 0, 1), some (.iconst 0, 1), some (.invokevirtual 152, 3), none, none, some (.goto 234, 3), none, none, some (.aload_n 0, 1), some (.getfield 51, 3), none, none, some (.iconst 1, 1), some (.iconst 0, 1), some (.invokevirtual 127, 3), none, none, some (.pop, 1), some (.aload_n 0, 1), some (.iload_n 3, 1), some (.invokevirtual 152, 3), none, none, some (.goto 216, 3), none, none, some (.aload_n 0, 1), some (.iload_n 3, 1), some (.invokevirtual 155, 3), none, none, some (.goto 208, 3), none, none, some (.aload_n 0, 1), some (.iconst 3, 1), some (.invokevirtual 158, 3), none, none, some (.goto 200, 3), none, none, some (.aload_n 0, 1), some (.iconst 4, 1), some (.invokevirtual 158, 3), none, none, some (.goto 192, 3), none, none, some (.aload_n 0, 1), some (.iconst 5, 1), some (.invokevirtual 158, 3), none, none, some (.goto 184, 3), none, none, some (.aload_n 0, 1), some (.iload_n 3, 1), some (.invokevirtual 161, 3), none, none, some (.goto 176, 3), none, none, some (.aload_n 0, 1), some (.getfield 51, 3), none, none, some (.bipush 7, 2), none, some (.iconst 0, 1), some (.invokevirtual 127, 3), none, none, some (.pop, 1), some (.aload_n 0, 1), some (.aload_n 0, 1), some (.getfield 47, 3), none, none, some (.getfield 164, 3), none, none, some (.aload_n 0, 1), some (.invokevirtual 167, 3), none, none, some (.iaload, 1), some (.invokevirtual 152, 3), none, none, some (.goto 146, 3), none, none, some (.aload_n 0, 1), some (.getfield 51, 3), none, none, some (.bipush 8, 2), none, some (.iconst 0, 1), some (.invokevirtual 127, 3), none, none, some (.pop, 1), some (.aload_n 0, 1), some (.aload_n 0, 1), some (.getfield 47, 3), none, none, some (.getfield 170, 3), none, none, some (.aload_n 0, 1), some (.invokevirtual 167, 3), none, none, some (.iaload, 1), some (.invokevirtual 152, 3), none, none, some (.goto 116, 3), none, none, some (.aload_n 0, 1), some (.getfield 51, 3), none, none, some (.bipush 9, 2), none, some (.iconst 0, 1), some (.invokevirtual 127, 3), none, none, some (.pop, 1), some (.aload_n 0, 1), some (.invokevirtual 167, 3), none, none, some (.pop, 1), some (.aload_n 0, 1), some (.iconst 0, 1), some (.invokevirtual 152, 3), none, none, some (.goto 92, 3), none, none, some (.aload_n 0, 1), some (.iload_n 2, 1), some (.invokevirtual 173, 3), none, none, some (.goto 84, 3), none, none, some (.aload_n 0, 1), some (.getfield 34, 3), none, none, some (.iload_n 3, 1), some (.iconst (-1), 1), some (.iastore, 1), some (.goto 74, 3), none, none, some (.aload_n 0, 1), some (.iload_n 3, 1), some (.aload_n 0, 1), some (.getfield 47, 3), none, none, some (.iload_n 1, 1), some (.invokevirtual 176, 3), none, none, some (.invokevirtual 180, 3), none, none, some (.goto 58, 3), none, none, some (.aload_n 0, 1), some (.bipush 15, 2), none, some (.aload_n 0, 1), some (.getfield 47, 3), none, none, some (.getfield 164, 3), none, none, some (.invokevirtual 183, 3), none, none, some (.goto 42, 3), none, none, some (.aload_n 0, 1), some (.bipush 16, 2), none, some (.aload_n 0, 1), some (.getfield 47, 3), none, none, some (.getfield 170, 3), none, none, some (.invokevirtual 183, 3), none, none, some (.goto 26, 3), none, none, some (.aload_n 0, 1), some (.getfield 51, 3), none, none, some (.bipush 17, 2), none, some (.iconst 0, 1), some (.invokevirtual 127, 3), none, none, some (.pop, 1), some (.aload_n 0, 1), some (.invokevirtual 140, 3), none, none, some (.aload_n 0, 1), some (.iconst 0, 1), some (.invokevirtual 152, 3), none, none, some (.goto 3, 3), none, none, some (.return_, 1)]
-- RootLoom$Weaver.putType(I)V
def xk_49 : List (Option (Instr × Nat)) := [some (.aload_n 0, 1), some (.getfield 31, 3), none, none, some (.bipush 16, 2), none, some (.if_icmp .ne 9, 3), none, none, some (.aload_n 0, 1), some (.iconst 0, 1), some (.putfield 37, 3), none, none, some (.return_, 1), some (.aload_n 0, 1), some (.getfield 28, 3), none, none, some (.aload_n 0, 1), some (.getfield 31, 3), none, none, some (.iload_n 1, 1), some (.iastore, 1), some (.aload_n 0, 1), some (.dup, 1), some (.getfield 31, 3), none, none, some (.iconst 1, 1), some (.iadd, 1), some (.putfield 31, 3), none, none, some (.return_, 1)]
-- RootLoom$Weaver.weaveLoad(I)V
def xk_50 : List (Option (Instr × Nat)) := [some (.aload_n 0, 1), some (.getfield 34, 3), none, none, some (.iload_n 1, 1), some (.iaload, 1), some (.istore_n 2, 1), some (.aload_n 0, 1), some (.iload_n 2, 1), some (.iconst (-1), 1), some (.if_icmp .eq 7, 3), none, none, some (.iconst 1, 1), some (.goto 4, 3), none, none, some (.iconst 0, 1), some (.invokevirtual 187, 3), none, none, some (.aload_n 0, 1), some (.getfield 51, 3), none, none, some (.iconst 2, 1), some (.iload_n 1, 1), some (.invokevirtual 127, 3), none, none, some (.istore_n 3, 1), some (.aload_n 0, 1), some (.getfield 41, 3), none, none, some (.iload_n 3, 1), some (.iload_n 2, 1), some (.ifCond .le 9, 3), none, none, some (.iconst 1, 1), some (.iload_n 1, 1), some (.ishl, 1), some (.goto 4, 3), none, none, some (.iconst 0, 1), some (.iastore, 1), some (.aload_n 0, 1), some (.iload_n 2, 1), some (.invokevirtual 152, 3), none, none, some (.return_, 1)]
-- RootLoom$Weaver.must(Z)V
def xk_51 : List (Option (Instr × Nat)) := [some (.iload_n 1, 1), some (.ifCond .ne 8, 3), none, none, some (.aload_n 0, 1), some (.iconst 0, 1), some (.putfield 37, 3), none, none, some (.return_, 1)]
-- RootLoom$Weaver.weaveSum(I)V
def xk_52 : List (Option (Instr × Nat)) := [some (.aload_n 0, 1), some (.getfield 51, 3), none, none, some (.iload_n 1, 1), some (.iconst 0, 1), some (.invokevirtual 127, 3), none, none, some (.pop, 1), some (.aload_n 0, 1), some (.invokevirtual 140, 3), none, none, some (.aload_n 0, 1), some (.invokevirtual 140, 3), none, none, some (.aload_n 0, 1), some (.iconst 0, 1), some (.invokevirtual 152, 3), none, none, some (.return_, 1)]
-- RootLoom$Weaver.takeInt()V
def xk_53 : List (Option (Instr × Nat)) := [some (.aload_n 0, 1), some (.aload_n 0, 1), some (.invokevirtual 120, 3), none, none, some (.ifCond .ne 7, 3), none, none, some (.iconst 1, 1), some (.goto 4, 3), none, none, some (.iconst 0, 1), some (.invokevirtual 187, 3), none, none, some (.return_, 1)]
-- RootLoom$Weaver.takeType()I
def xk_54 : List (Option (Instr × Nat)) := [some (.aload_n 0, 1), some (.getfield 31, 3), none, none, some (.ifCond .ne 10, 3), none, none, some (.aload_n 0, 1), some (.iconst 0, 1), some (.putfield 37, 3), none, none, some (.iconst 0, 1), some (.ireturn, 1), some (.aload_n 0, 1), some (.dup, 1), some (.getfield 31, 3), none, none, some (.iconst 1, 1), some (.isub, 1), some (.putfield 31, 3), none, none, some (.aload_n 0, 1), some (.getfield 28, 3), none, none, some (.aload_n 0, 1), some (.getfield 31, 3), none, none, some (.iaload, 1), some (.ireturn, 1)]
-- RootLoom$Weaver.weaveNew(I)V
def xk_55 : List (Option (Instr × Nat)) := [some (.aload_n 0, 1), some (.bipush 6, 2), none, some (.iload_n 1, 1), some (.invokevirtual 191, 3), none, none, some (.aload_n 0, 1), some (.aload_n 0, 1), some (.invokevirtual 120, 3), none, none, some (.aload_n 0, 1), some (.getfield 47, 3), none, none, some (.getfield 170, 3), none, none, some (.iload_n 1, 1), some (.iaload, 1), some (.if_icmp .ne 7, 3), none, none, some (.iconst 1, 1), some (.goto 4, 3), none, none, some (.iconst 0, 1), some (.invokevirtual 187, 3), none, none, some (.aload_n 0, 1), some (.aload_n 0, 1), some (.invokevirtual 120, 3), none, none, some (.aload_n 0, 1), some (.getfield 47, 3), none, none, some (.getfield 164, 3), none, none, some (.iload_n 1, 1), some (.iaload, 1), some (.if_icmp .ne 7, 3), none, none, some (.iconst 1, 1), some (.goto 4, 3), none, none, some (.iconst 0, 1), some (.invokevirtual 187, 3), none, none, some (.aload_n 0, 1), some (.iload_n 1, 1), some (.invokevirtual 152, 3), none, none, some (.return_, 1)]
-- RootLoom$Weaver.addMapped(II)V
def xk_56 : List (Option (Instr × Nat)) := [some (.aload_n 0, 1), some (.getfield 51, 3), none, none, some (.iload_n 1, 1), some (.iload_n 2, 1), some (.invokevirtual 127, 3), none, none, some (.istore_n 3, 1), some (.iconst 0, 1), some (.istore 4, 2), none, some (.iconst 0, 1), some (.istore 5, 2), none, some (.iload 5, 2), none, some (.aload_n 0, 1), some (.getfield 31, 3), none, none, some (.if_icmp .ge 28, 3), none, none, some (.aload_n 0, 1), some (.getfield 28, 3), none, none, some (.iload 5, 2), none, some (.iaload, 1), some (.ifCond .le 12, 3), none, none, some (.iload 4, 2), none, some (.iconst 1, 1), some (.iload 5, 2), none, some (.ishl, 1), some (.ior, 1), some (.istore 4, 2), none, some (.iinc 5 1, 3), none, none, some (.goto (-31), 3), none, none, some (.aload_n 0, 1), some (.getfield 51, 3), none, none, some (.getfield 194, 3), none, none, some (.iload_n 3, 1), some (.iload 4, 2), none, some (.iastore, 1), some (.aload_n 0, 1), some (.getfield 51, 3), none, none, some (.dup, 1), some (.getfield 197, 3), none, none, some (.iconst 1, 1), some (.iadd, 1), some (.putfield 197, 3), none, none, some (.return_, 1)]
-- RootLoom$Weaver.takePairType()I
def xk_57 : List (Option (Instr × Nat)) := [some (.aload_n 0, 1), some (.invokevirtual 120, 3), none, none, some (.istore_n 1, 1), some (.aload_n 0, 1), some (.iload_n 1, 1), some (.ifCond .le 7, 3), none, none, some (.iconst 1, 1), some (.goto 4, 3), none, none, some (.iconst 0, 1), some (.invokevirtual 187, 3), none, none, some (.iload_n 1, 1), some (.ifCond .le 7, 3), none, none, some (.iload_n 1, 1), some (.goto 4, 3), none, none, some (.iconst 0, 1), some (.ireturn, 1)]
-- RootLoom$Weaver.joinWays(I)V
def xk_58 : List (Option (Instr × Nat)) := [some (.aload_n 0, 1), some (.aload_n 0, 1), some (.invokevirtual 120, 3), none, none, some (.aload_n 0, 1), some (.getfield 21, 3), none, none, some (.iload_n 1, 1), some (.iaload, 1), some (.if_icmp .ne 7, 3), none, none, some (.iconst 1, 1), some (.goto 4, 3), none, none, some (.iconst 0, 1), some (.invokevirtual 187, 3), none, none, some (.aload_n 0, 1), some (.getfield 51, 3), none, none, some (.getfield 143, 3), none, none, some (.aload_n 0, 1), some (.getfield 18, 3), none, none, some (.iload_n 1, 1), some (.iaload, 1), some (.aload_n 0, 1), some (.getfield 51, 3), none, none, some (.getfield 97, 3), none, none, some (.iastore, 1), some (.aload_n 0, 1), some (.aload_n 0, 1), some (.getfield 21, 3), none, none, some (.iload_n 1, 1), some (.iaload, 1), some (.invokevirtual 152, 3), none, none, some (.return_, 1)]
-- RootLoom$Weaver.weaveCall(II)V
def xk_59 : List (Option (Instr × Nat)) := [some (.aload_n 0, 1), some (.bipush 13, 2), none, some (.iload_n 1, 1), some (.invokevirtual 191, 3), none, none, some (.aload_n 0, 1), some (.aload_n 0, 1), some (.getfield 47, 3), none, none, some (.getfield 65, 3), none, none, some (.iload_n 1, 1), some (.iaload, 1), some (.iconst (-1), 1), some (.if_icmp .eq 20, 3), none, none, some (.iload_n 2, 1), some (.aload_n 0, 1), some (.getfield 47, 3), none, none, some (.getfield 103, 3), none, none, some (.iload_n 1, 1), some (.iaload, 1), some (.if_icmp .ne 7, 3), none, none, some (.iconst 1, 1), some (.goto 4, 3), none, none, some (.iconst 0, 1), some (.invokevirtual 187, 3), none, none, some (.iload_n 2, 1), some (.iconst 1, 1), some (.isub, 1), some (.istore_n 3, 1), some (.iload_n 3, 1), some (.ifCond .lt 41, 3), none, none, some (.aload_n 0, 1), some (.getfield 37, 3), none, none, some (.ifCond .eq 34, 3), none, none, some (.aload_n 0, 1), some (.aload_n 0, 1), some (.invokevirtual 120, 3), none, none, some (.aload_n 0, 1), some (.getfield 47, 3), none, none, some (.iload_n 1, 1), some (.iload_n 3, 1), some (.invokevirtual 106, 3), none, none, some (.if_icmp .ne 7, 3), none, none, some (.iconst 1, 1), some (.goto 4, 3), none, none, some (.iconst 0, 1), some (.invokevirtual 187, 3), none, none, some (.iinc 3 (-1), 3), none, none, some (.goto (-39), 3), none, none, some (.aload_n 0, 1), some (.aload_n 0, 1), some (.getfield 47, 3), none, none, some (.getfield 124, 3), none, none, some (.iload_n 1, 1), some (.iaload, 1), some (.invokevirtual 152, 3), none, none, some (.return_, 1)]
-- RootLoom$Weaver.weavePut(I[I)V
def xk_60 : List (Option (Instr × Nat)) := [some (.aload_n 0, 1), some (.getfield 51, 3), none, none, some (.iload_n 1, 1), some (.iconst 0, 1), some (.invokevirtual 127, 3), none, none, some (.pop, 1), some (.aload_n 0, 1), some (.invokevirtual 120, 3), none, none, some (.istore_n 3, 1), some (.aload_n 0, 1), some (.iload_n 3, 1), some (.aload_n 2, 1), some (.aload_n 0, 1), some (.invokevirtual 167, 3), none, none, some (.iaload, 1), some (.if_icmp .ne 7, 3), none, none, some (.iconst 1, 1), some (.goto 4, 3), none, none, some (.iconst 0, 1), some (.invokevirtual 187, 3), none, none, some (.aload_n 0, 1), some (.iload_n 3, 1), some (.invokevirtual 152, 3), none, none, some (.return_, 1)]
-- RootLoom$Weaver.goDown(I)V
def xk_61 : List (Option (Instr × Nat)) := [some (.aload_n 0, 1), some (.getfield 9, 3), none, none, some (.iload_n 1, 1), some (.iaload, 1), some (.istore_n 2, 1), some (.aload_n 0, 1), some (.getfield 15, 3), none, none, some (.iload_n 1, 1), some (.iaload, 1), some (.istore_n 3, 1), some (.aload_n 0, 1), some (.getfield 15, 3), none, none, some (.iload_n 1, 1), some (.iload_n 3, 1), some (.iconst 1, 1), some (.iadd, 1), some (.iastore, 1), some (.aload_n 0, 1), some (.getfield 47, 3), none, none, some (.iload_n 2, 1), some (.iload_n 3, 1), some (.invokevirtual 130, 3), none, none, some (.istore 4, 2), none, some (.iload 4, 2), none, some (.iconst (-1), 1), some (.if_icmp .eq 16, 3), none, none, some (.aload_n 0, 1), some (.iload_n 2, 1), some (.iload_n 3, 1), some (.iload_n 1, 1), some (.invokevirtual 133, 3), none, none, some (.aload_n 0, 1), some (.iload 4, 2), none, some (.invokevirtual 109, 3), none, none, some (.return_, 1)]
-- RootLoom$Weaver.prepare(III)V
def xk_62 : List (Option (Instr × Nat)) := [some (.aload_n 0, 1), some (.getfield 47, 3), none, none, some (.getfield 137, 3), none, none, some (.iload_n 1, 1), some (.iaload, 1), some (.istore 4, 2), none, some (.iload 4, 2), none, some (.bipush 10, 2), none, some (.if_icmp .ne 31, 3), none, none, some (.iload_n 2, 1), some (.iconst 1, 1), some (.if_icmp .ne 26, 3), none, none, some (.aload_n 0, 1), some (.invokevirtual 140, 3), none, none, some (.aload_n 0, 1), some (.getfield 18, 3), none, none, some (.iload_n 3, 1), some (.aload_n 0, 1), some (.getfield 51, 3), none, none, some (.bipush 10, 2), none, some (.iconst 0, 1), some (.invokevirtual 127, 3), none, none, some (.iastore, 1), some (.goto 125, 3), none, none, some (.iload 4, 2), none, some (.bipush 10, 2), none, some (.if_icmp .ne 62, 3), none, none, some (.iload_n 2, 1), some (.iconst 2, 1), some (.if_icmp .ne 57, 3), none, none, some (.aload_n 0, 1), some (.getfield 21, 3), none, none, some (.iload_n 3, 1), some (.aload_n 0, 1), some (.invokevirtual 120, 3), none, none, some (.iastore, 1), some (.aload_n 0, 1), some (.getfield 51, 3), none, none, some (.bipush 11, 2), none, some (.iconst 0, 1), some (.invokevirtual 127, 3), none, none, some (.istore 5, 2), none, some (.aload_n 0, 1), some (.getfield 51, 3), none, none, some (.getfield 143, 3), none, none, some (.aload_n 0, 1), some (.getfield 18, 3), none, none, some (.iload_n 3, 1), some (.iaload, 1), some (.aload_n 0, 1), some (.getfield 51, 3), none, none, some (.getfield 97, 3), none, none, some (.iastore, 1), some (.aload_n 0, 1), some (.getfield 18, 3), none, none, some (.iload_n 3, 1), some (.iload 5, 2), none, some (.iastore, 1), some (.goto 59, 3), none, none, some (.iload 4, 2), none, some (.bipush 11, 2), none, some (.if_icmp .ne 24, 3), none, none, some (.iload_n 2, 1), some (.iconst 2, 1), some (.if_icmp .ne 19, 3), none, none, some (.aload_n 0, 1), some (.aload_n 0, 1), some (.getfield 47, 3), none, none, some (.iload_n 1, 1), some (.iconst 0, 1), some (.invokevirtual 146, 3), none, none, some (.invokevirtual 149, 3), none, none, some (.goto 31, 3), none, none, some (.iload 4, 2), none, some (.bipush 17, 2), none, some (.if_icmp .ne 24, 3), none, none, some (.iload_n 2, 1), some (.iconst 1, 1), some (.if_icmp .ne 19, 3), none, none, some (.aload_n 0, 1), some (.invokevirtual 120, 3), none, none, some (.pop, 1), some (.aload_n 0, 1), some (.getfield 51, 3), none, none, some (.bipush 18, 2), none, some (.iconst 0, 1), some (.invokevirtual 127, 3), none, none, some (.pop, 1), some (.return_, 1)]
-- RootLoom$Weaver.weaveStore(I)V
def xk_63 : List (Option (Instr × Nat)) := [some (.aload_n 0, 1), some (.aload_n 0, 1), some (.getfield 34, 3), none, none, some (.iload_n 1, 1), some (.iaload, 1), some (.iconst (-1), 1), some (.if_icmp .ne 7, 3), none, none, some (.iconst 1, 1), some (.goto 4, 3), none, none, some (.iconst 0, 1), some (.invokevirtual 187, 3), none, none, some (.aload_n 0, 1), some (.getfield 51, 3), none, none, some (.bipush 12, 2), none, some (.iload_n 1, 1), some (.invokevirtual 127, 3), none, none, some (.pop, 1), some (.aload_n 0, 1), some (.getfield 34, 3), none, none, some (.iload_n 1, 1), some (.aload_n 0, 1), some (.invokevirtual 120, 3), none, none, some (.iastore, 1), some (.return_, 1)]
-- RootLoom$Weaver.findWhatMatters()V
def xk_64 : List (Option (Instr × Nat)) := [some (.aload_n 0, 1), some (.getfield 44, 3), none, none, some (.aload_n 0, 1), some (.getfield 51, 3), none, none, some (.getfield 97, 3), none, none, some (.iconst 0, 1), some (.iastore, 1), some (.aload_n 0, 1), some (.getfield 51, 3), none, none, some (.getfield 97, 3), none, none, some (.iconst 1, 1), some (.isub, 1), some (.istore_n 1, 1), some (.iload_n 1, 1), some (.ifCond .lt 95, 3), none, none, some (.aload_n 0, 1), some (.iload_n 1, 1), some (.invokevirtual 200, 3), none, none, some (.istore_n 2, 1), some (.aload_n 0, 1), some (.getfield 51, 3), none, none, some (.iload_n 1, 1), some (.invokevirtual 203, 3), none, none, some (.ifCond .eq 13, 3), none, none, some (.aload_n 0, 1), some (.getfield 51, 3), none, none, some (.getfield 206, 3), none, none, some (.iload_n 1, 1), some (.iload_n 2, 1), some (.iastore, 1), some (.aload_n 0, 1), some (.getfield 51, 3), none, none, some (.getfield 209, 3), none, none, some (.iload_n 1, 1), some (.iaload, 1), some (.bipush 12, 2), none, some (.if_icmp .ne 19, 3), none, none, some (.iload_n 2, 1), some (.iconst 1, 1), some (.aload_n 0, 1), some (.getfield 51, 3), none, none, some (.getfield 143, 3), none, none, some (.iload_n 1, 1), some (.iaload, 1), some (.ishl, 1), some (.iconst (-1), 1), some (.ixor, 1), some (.iand, 1), some (.istore_n 2, 1), some (.aload_n 0, 1), some (.getfield 51, 3), none, none, some (.getfield 209, 3), none, none, some (.iload_n 1, 1), some (.iaload, 1), some (.iconst 2, 1), some (.if_icmp .ne 12, 3), none, none, some (.iload_n 2, 1), some (.aload_n 0, 1), some (.getfield 41, 3), none, none, some (.iload_n 1, 1), some (.iaload, 1), some (.ior, 1), some (.istore_n 2, 1), some (.aload_n 0, 1), some (.getfield 44, 3), none, none, some (.iload_n 1, 1), some (.iload_n 2, 1), some (.iastore, 1), some (.iinc 1 (-1), 3), none, none, some (.goto (-93), 3), none, none, some (.return_, 1)]
-- RootLoom$Weaver.mattersBehind(I)I
def xk_65 : List (Option (Instr × Nat)) := [some (.aload_n 0, 1), some (.getfield 51, 3), none, none, some (.getfield 209, 3), none, none, some (.iload_n 1, 1), some (.iaload, 1), some (.tableswitch 76 10 14 #[52, 37, 76, 76, 35], 35), none, none, none, none, none, none, none, none, none, none, none, none, none, none, none, none, none, none, none, none, none, none, none, none, none, none, none, none, none, none, none, none, none, none, some (.iconst 0, 1), some (.ireturn, 1), some (.aload_n 0, 1), some (.getfield 44, 3), none, none, some (.aload_n 0, 1), some (.getfield 51, 3), none, none, some (.getfield 143, 3), none, none, some (.iload_n 1, 1), some (.iaload, 1), some (.iaload, 1), some (.ireturn, 1), some (.aload_n 0, 1), some (.getfield 44, 3), none, none, some (.iload_n 1, 1), some (.iconst 1, 1), some (.iadd, 1), some (.iaload, 1), some (.aload_n 0, 1), some (.getfield 44, 3), none, none, some (.aload_n 0, 1), some (.getfield 51, 3), none, none, some (.getfield 143, 3), none, none, some (.iload_n 1, 1), some (.iaload, 1), some (.iaload, 1), some (.ior, 1), some (.ireturn, 1), some (.aload_n 0, 1), some (.getfield 44, 3), none, none, some (.iload_n 1, 1), some (.iconst 1, 1), some (.iadd, 1), some (.iaload, 1), some (.ireturn, 1)]
-- RootLoom$Machine.<init>(LRootLoom$Source;LRootLoom$Code;)V
def xk_66 : List (Option (Instr × Nat)) := [some (.aload_n 0, 1), some (.invokespecial 3, 3), none, none, some (.aload_n 0, 1), some (.new 9, 3), none, none, some (.dup, 1), some (.invokespecial 11, 3), none, none, some (.putfield 12, 3), none, none, some (.aload_n 0, 1), some (.new 18, 3), none, none, some (.dup, 1), some (.invokespecial 20, 3), none, none, some (.putfield 21, 3), none, none, some (.aload_n 0, 1), some (.bipush 60, 2), none, some (.putfield 25, 3), none, none, some (.aload_n 0, 1), some (.iconst 0, 1), some (.putfield 29, 3), none, none, some (.aload_n 0, 1), some (.iconst 0, 1), some (.putfield 32, 3), none, none, some (.aload_n 0, 1), some (.iconst 0, 1), some (.putfield 35, 3), none, none, some (.aload_n 0, 1), some (.iconst (-1), 1), some (.putfield 38, 3), none, none, some (.aload_n 0, 1), some (.iconst 0, 1), some (.putfield 41, 3), none, none, some (.aload_n 0, 1), some (.iconst 0, 1), some (.putfield 44, 3), none, none, some (.aload_n 0, 1), some (.iconst 0, 1), some (.putfield 47, 3), none, none, some (.aload_n 0, 1), some (.iconst 0, 1), some (.putfield 50, 3), none, none, some (.aload_n 0, 1), some (.bipush 64, 2), none, some (.newarray .int, 2), none, some (.putfield 53, 3), none, none, some (.aload_n 0, 1), some (.iconst 0, 1), some (.putfield 57, 3), none, none, some (.aload_n 0, 1), some (.iconst 0, 1), some (.putfield 60, 3), none, none, some (.aload_n 0, 1), some (.iconst 0, 1), some (.putfield 63, 3), none, none, some (.aload_n 0, 1), some (.iconst 0, 1), some (.putfield 66, 3), none, none, some (.aload_n 0, 1), some (.aload_n 1, 1), some (.putfield 69, 3), none, none, some (.aload_n 0, 1), some (.aload_n 2, 1), some (.putfield 73, 3), none, none, some (.return_, 1)]
-- RootLoom$Machine.forget()V
def xk_67 : List (Option (Instr × Nat)) := [some (.aload_n 0, 1), some (.iconst (-1), 1), some (.putfield 38, 3), none, none, some (.return_, 1)]
-- RootLoom$Machine.perform(IIII)I
def xk_68 : List (Option (Instr × Nat)) := [some (.aload_n 0, 1), some (.getfield 12, 3), none, none, some (.invokevirtual 77, 3), none, none, some (.aload_n 0, 1), some (.getfield 21, 3), none, none, some (.iload_n 2, 1), some (.iload_n 3, 1), some (.iload 4, 2), none, some (.invokevirtual 80, 3), none, none, some (.aload_n 0, 1), some (.aload_n 0, 1), some (.getfield 73, 3), none, none, some (.iload_n 1, 1), some (.invokevirtual 84, 3), none, none, some (.putfield 32, 3), none, none, some (.aload_n 0, 1), some (.iconst 0, 1), some (.putfield 35, 3), none, none, some (.aload_n 0, 1), some (.iconst 0, 1), some (.putfield 38, 3), none, none, some (.aload_n 0, 1), some (.iconst 0, 1), some (.putfield 41, 3), none, none, some (.aload_n 0, 1), some (.iconst 0, 1), some (.putfield 44, 3), none, none, some (.aload_n 0, 1), some (.iconst 0, 1), some (.putfield 47, 3), none, none, some (.aload_n 0, 1), some (.iconst 1, 1), some (.putfield 50, 3), none, none, some (.aload_n 0, 1), some (.iconst 0, 1), some (.putfield 57, 3), none, none, some (.aload_n 0, 1), some (.aload_n 0, 1), some (.getfield 69, 3), none, none, some (.getfield 90, 3), none, none, some (.iload_n 1, 1), some (.iaload, 1), some (.putfield 63, 3), none, none, some (.aload_n 0, 1), some (.getfield 38, 3), none, none, some (.ifCond .ne 30, 3), none, none, some (.aload_n 0, 1), some (.getfield 41, 3), none, none, some (.sipush 6000, 3), none, none, some (.if_icmp .ge 20, 3), none, none, some (.aload_n 0, 1), some (.dup, 1), some (.getfield 41, 3), none, none, some (.iconst 1, 1), some (.iadd, 1), some (.putfield 41, 3), none, none, some (.aload_n 0, 1), some (.invokevirtual 95, 3), none, none, some (.goto (-31), 3), none, none, some (.aload_n 0, 1), some (.getfield 38, 3), none, none, some (.ifCond .ne 8, 3), none, none, some (.aload_n 0, 1), some (.iconst 5, 1), some (.putfield 38, 3), none, none, some (.aload_n 0, 1), some (.getfield 38, 3), none, none, some (.ireturn, 1)]
-- RootLoom$Machine.doNext()V
def xk_69 : List (Option (Instr × Nat)) := [some (.aload_n 0, 1), some (.getfield 32, 3), none, none, some (.istore_n 1, 1), some (.aload_n 0, 1), some (.getfield 73, 3), none, none, some (.getfield 114, 3), none, none, some (.iload_n 1, 1), some (.iaload, 1), some (.istore_n 2, 1), some (.aload_n 0, 1), some (.iload_n 1, 1), some (.iconst 1, 1), some (.iadd, 1), some (.putfield 32, 3), none, none, some (.aload_n 0, 1), some (.getfield 73, 3), none, none, some (.getfield 117, 3), none, none, some (.iload_n 1, 1), some (.iaload, 1), some (.tableswitch 320 0 18 #[89, 100, 111, 158, 158, 158, 174, 183, 197, 239, 264, 289, 129, 297, 306, 211, 225, 313, 147], 89), none, none, none, none, none, none, none, none, none, none, none, none, none, none, none, none, none, none, none, none, none, none, none, none, none, none, none, none, none, none, none, none, none, none, none, none, none, none, none, none, none, none, none, none, none, none, none, none, none, none, none, none, none, none, none, none, none, none, none, none, none, none, none, none, none, none, none, none, none, none, none, none, none, none, none, none, none, none, none, none, none, none, none, none, none, none, none, none, some (.aload_n 0, 1), some (.getfield 21, 3), none, none, some (.iload_n 2, 1), some (.invokevirtual 120, 3), none, none, some (.goto 223, 3), none, none, some (.aload_n 0, 1), some (.getfield 21, 3), none, none, some (.iconst 0, 1), some (.invokevirtual 120, 3), none, none, some (.goto 212, 3), none, none, some (.aload_n 0, 1), some (.getfield 21, 3), none, none, some (.aload_n 0, 1), some (.getfield 21, 3), none, none, some (.iload_n 2, 1), some (.invokevirtual 124, 3), none, none, some (.invokevirtual 120, 3), none, none, some (.goto 194, 3), none, none, some (.aload_n 0, 1), some (.getfield 21, 3), none, none, some (.iload_n 2, 1), some (.aload_n 0, 1), some (.getfield 21, 3), none, none, some (.invokevirtual 127, 3), none, none, some (.invokevirtual 130, 3), none, none, some (.goto 176, 3), none, none, some (.aload_n 0, 1), some (.getfield 21, 3), none, none, some (.invokevirtual 127, 3), none, none, some (.pop, 1), some (.goto 165, 3), none, none, some (.aload_n 0, 1), some (.aload_n 0, 1), some (.getfield 73, 3), none, none, some (.getfield 117, 3), none, none, some (.iload_n 1, 1), some (.iaload, 1), some (.invokevirtual 134, 3), none, none, some (.goto 149, 3), none, none, some (.aload_n 0, 1), some (.iload_n 1, 1), some (.iload_n 2, 1), some (.invokevirtual 137, 3), none, none, some (.goto 140, 3), none, none, some (.aload_n 0, 1), some (.aload_n 0, 1), some (.getfield 12, 3), none, none, some (.getfield 105, 3), none, none, some (.invokevirtual 140, 3), none, none, some (.goto 126, 3), none, none, some (.aload_n 0, 1), some (.aload_n 0, 1), some (.getfield 12, 3), none, none, some (.getfield 102, 3), none, none, some (.invokevirtual 140, 3), none, none, some (.goto 112, 3), none, none, some (.aload_n 0, 1), some (.aload_n 0, 1), some (.getfield 12, 3), none, none, some (.getfield 105, 3), none, none, some (.invokevirtual 144, 3), none, none, some (.goto 98, 3), none, none, some (.aload_n 0, 1), some (.aload_n 0, 1), some (.getfield 12, 3), none, none, some (.getfield 102, 3), none, none, some (.invokevirtual 144, 3), none, none, some (.goto 84, 3), none, none, some (.aload_n 0, 1), some (.getfield 21, 3), none, none, some (.aload_n 0, 1), some (.getfield 21, 3), none, none, some (.invokevirtual 127, 3), none, none, some (.ifCond .ne 7, 3), none, none, some (.iconst 1, 1), some (.goto 4, 3), none, none, some (.iconst 0, 1), some (.invokevirtual 120, 3), none, none, some (.goto 59, 3), none, none, some (.aload_n 0, 1), some (.aload_n 0, 1), some (.getfield 21, 3), none, none, some (.invokevirtual 127, 3), none, none, some (.ifCond .ne 7, 3), none, none, some (.iload_n 2, 1), some (.goto 7, 3), none, none, some (.aload_n 0, 1), some (.getfield 32, 3), none, none, some (.putfield 32, 3), none, none, some (.goto 34, 3), none, none, some (.aload_n 0, 1), some (.iload_n 2, 1), some (.putfield 32, 3), none, none, some (.goto 26, 3), none, none, some (.aload_n 0, 1), some (.iload_n 1, 1), some (.iload_n 2, 1), some (.invokevirtual 147, 3), none, none, some (.goto 17, 3), none, none, some (.aload_n 0, 1), some (.invokevirtual 150, 3), none, none, some (.goto 10, 3), none, none, some (.aload_n 0, 1), some (.invokevirtual 153, 3), none, none, some (.goto 3, 3), none, none, some (.return_, 1)]
-- RootLoom$Machine.doSum(I)V
def xk_70 : List (Option (Instr × Nat)) := [some (.aload_n 0, 1), some (.getfield 21, 3), none, none, some (.invokevirtual 127, 3), none, none, some (.istore_n 2, 1), some (.aload_n 0, 1), some (.getfield 21, 3), none, none, some (.invokevirtual 127, 3), none, none, some (.istore_n 3, 1), some (.iload_n 1, 1), some (.lookupswitch 53 #[(3, 27), (4, 40)], 27), none, none, none, none, none, none, none, none, none, none, none, none, none, none, none, none, none, none, none, none, none, none, none, none, none, none, some (.aload_n 0, 1), some (.getfield 21, 3), none, none, some (.iload_n 3, 1), some (.iload_n 2, 1), some (.iadd, 1), some (.invokevirtual 120, 3), none, none, some (.goto 33, 3), none, none, some (.aload_n 0, 1), some (.getfield 21, 3), none, none, some (.iload_n 3, 1), some (.iload_n 2, 1), some (.isub, 1), some (.invokevirtual 120, 3), none, none, some (.goto 20, 3), none, none, some (.aload_n 0, 1), some (.getfield 21, 3), none, none, some (.iload_n 3, 1), some (.iload_n 2, 1), some (.if_icmp .ge 7, 3), none, none, some (.iconst 1, 1), some (.goto 4, 3), none, none, some (.iconst 0, 1), some (.invokevirtual 120, 3), none, none, some (.return_, 1)]
-- RootLoom$Machine.doNew(II)V
def xk_71 : List (Option (Instr × Nat)) := [some (.aload_n 0, 1), some (.invokevirtual 156, 3), none, none, some (.ifCond .ne 10, 3), none, none, some (.aload_n 0, 1), some (.invokevirtual 160, 3), none, none, some (.ifCond .eq 8, 3), none, none, some (.aload_n 0, 1), some (.iload_n 1, 1), some (.invokevirtual 163, 3), none, none, some (.aload_n 0, 1), some (.invokevirtual 160, 3), none, none, some (.ifCond .eq 9, 3), none, none, some (.aload_n 0, 1), some (.iconst 3, 1), some (.putfield 38, 3), none, none, some (.return_, 1), some (.aload_n 0, 1), some (.getfield 21, 3), none, none, some (.invokevirtual 127, 3), none, none, some (.istore_n 3, 1), some (.aload_n 0, 1), some (.getfield 21, 3), none, none, some (.invokevirtual 127, 3), none, none, some (.istore 4, 2), none, some (.aload_n 0, 1), some (.getfield 21, 3), none, none, some (.aload_n 0, 1), some (.getfield 12, 3), none, none, some (.iload_n 2, 1), some (.iload 4, 2), none, some (.iload_n 3, 1), some (.invokevirtual 166, 3), none, none, some (.invokevirtual 120, 3), none, none, some (.return_, 1)]
-- RootLoom$Machine.isForced()Z
def xk_72 : List (Option (Instr × Nat)) := [some (.aload_n 0, 1), some (.dup, 1), some (.getfield 35, 3), none, none, some (.iconst 1, 1), some (.iadd, 1), some (.putfield 35, 3), none, none, some (.aload_n 0, 1), some (.getfield 29, 3), none, none, some (.ifCond .le 19, 3), none, none, some (.aload_n 0, 1), some (.getfield 35, 3), none, none, some (.aload_n 0, 1), some (.getfield 29, 3), none, none, some (.irem, 1), some (.ifCond .ne 7, 3), none, none, some (.iconst 1, 1), some (.goto 4, 3), none, none, some (.iconst 0, 1), some (.ireturn, 1)]
-- RootLoom$Machine.isFull()Z
def xk_73 : List (Option (Instr × Nat)) := [some (.aload_n 0, 1), some (.getfield 12, 3), none, none, some (.invokevirtual 98, 3), none, none, some (.iconst 3, 1), some (.iadd, 1), some (.aload_n 0, 1), some (.getfield 25, 3), none, none, some (.if_icmp .le 7, 3), none, none, some (.iconst 1, 1), some (.goto 4, 3), none, none, some (.iconst 0, 1), some (.ireturn, 1)]
-- RootLoom$Machine.collect(I)V
def xk_74 : List (Option (Instr × Nat)) := [some (.aload_n 0, 1), some (.getfield 12, 3), none, none, some (.invokevirtual 188, 3), none, none, some (.iconst 0, 1), some (.istore_n 2, 1), some (.iload_n 2, 1), some (.aload_n 0, 1), some (.getfield 21, 3), none, none, some (.getfield 170, 3), none, none, some (.if_icmp .gt 38, 3), none, none, some (.aload_n 0, 1), some (.iload_n 2, 1), some (.iload_n 2, 1), some (.aload_n 0, 1), some (.getfield 21, 3), none, none, some (.getfield 170, 3), none, none, some (.if_icmp .ne 7, 3), none, none, some (.iload_n 1, 1), some (.goto 12, 3), none, none, some (.aload_n 0, 1), some (.getfield 21, 3), none, none, some (.getfield 185, 3), none, none, some (.iload_n 2, 1), some (.iaload, 1), some (.invokevirtual 191, 3), none, none, some (.iinc 2 1, 3), none, none, some (.goto (-43), 3), none, none, some (.aload_n 0, 1), some (.getfield 12, 3), none, none, some (.aload_n 0, 1), some (.getfield 73, 3), none, none, some (.getfield 111, 3), none, none, some (.aload_n 0, 1), some (.getfield 73, 3), none, none, some (.getfield 108, 3), none, none, some (.invokevirtual 194, 3), none, none, some (.aload_n 0, 1), some (.dup, 1), some (.getfield 44, 3), none, none, some (.iconst 1, 1), some (.iadd, 1), some (.putfield 44, 3), none, none, some (.aload_n 0, 1), some (.aload_n 0, 1), some (.getfield 12, 3), none, none, some (.invokevirtual 98, 3), none, none, some (.putfield 47, 3), none, none, some (.return_, 1)]
-- RootLoom$Machine.keepFrom(II)V
def xk_75 : List (Option (Instr × Nat)) := [some (.iconst 0, 1), some (.istore_n 3, 1), some (.iload_n 3, 1), some (.bipush 8, 2), none, some (.if_icmp .ge 47, 3), none, none, some (.aload_n 0, 1), some (.getfield 73, 3), none, none, some (.getfield 198, 3), none, none, some (.iload_n 2, 1), some (.iaload, 1), some (.iload_n 3, 1), some (.iushr, 1), some (.iconst 1, 1), some (.iand, 1), some (.iconst 1, 1), some (.if_icmp .ne 24, 3), none, none, some (.aload_n 0, 1), some (.getfield 12, 3), none, none, some (.aload_n 0, 1), some (.getfield 21, 3), none, none, some (.getfield 201, 3), none, none, some (.iload_n 1, 1), some (.bipush 8, 2), none, some (.imul, 1), some (.iload_n 3, 1), some (.iadd, 1), some (.iaload, 1), some (.invokevirtual 204, 3), none, none, some (.iinc 3 1, 3), none, none, some (.goto (-47), 3), none, none, some (.iconst 0, 1), some (.istore_n 3, 1), some (.iload_n 3, 1), some (.aload_n 0, 1), some (.getfield 21, 3), none, none, some (.getfield 207, 3), none, none, some (.iload_n 1, 1), some (.iaload, 1), some (.if_icmp .ge 47, 3), none, none, some (.aload_n 0, 1), some (.getfield 73, 3), none, none, some (.getfield 210, 3), none, none, some (.iload_n 2, 1), some (.iaload, 1), some (.iload_n 3, 1), some (.iushr, 1), some (.iconst 1, 1), some (.iand, 1), some (.iconst 1, 1), some (.if_icmp .ne 24, 3), none, none, some (.aload_n 0, 1), some (.getfield 12, 3), none, none, some (.aload_n 0, 1), some (.getfield 21, 3), none, none, some (.getfield 213, 3), none, none, some (.iload_n 1, 1), some (.bipush 16, 2), none, some (.imul, 1), some (.iload_n 3, 1), some (.iadd, 1), some (.iaload, 1), some (.invokevirtual 204, 3), none, none, some (.iinc 3 1, 3), none, none, some (.goto (-54), 3), none, none, some (.return_, 1)]
-- RootLoom$Machine.doGet([I)V
def xk_76 : List (Option (Instr × Nat)) := [some (.aload_n 0, 1), some (.getfield 21, 3), none, none, some (.invokevirtual 127, 3), none, none, some (.istore_n 2, 1), some (.iload_n 2, 1), some (.ifCond .ne 9, 3), none, none, some (.aload_n 0, 1), some (.iconst 2, 1), some (.putfield 38, 3), none, none, some (.return_, 1), some (.aload_n 0, 1), some (.getfield 21, 3), none, none, some (.aload_n 1, 1), some (.iload_n 2, 1), some (.iaload, 1), some (.invokevirtual 120, 3), none, none, some (.return_, 1)]
-- RootLoom$Machine.doSet([I)V
def xk_77 : List (Option (Instr × Nat)) := [some (.aload_n 0, 1), some (.getfield 21, 3), none, none, some (.invokevirtual 127, 3), none, none, some (.istore_n 2, 1), some (.aload_n 0, 1), some (.getfield 21, 3), none, none, some (.invokevirtual 127, 3), none, none, some (.istore_n 3, 1), some (.iload_n 3, 1), some (.ifCond .ne 9, 3), none, none, some (.aload_n 0, 1), some (.iconst 2, 1), some (.putfield 38, 3), none, none, some (.return_, 1), some (.aload_n 1, 1), some (.iload_n 3, 1), some (.iload_n 2, 1), some (.iastore, 1), some (.aload_n 0, 1), some (.getfield 21, 3), none, none, some (.iload_n 2, 1), some (.invokevirtual 120, 3), none, none, some (.return_, 1)]
-- RootLoom$Machine.doCall(II)V
def xk_78 : List (Option (Instr × Nat)) := [some (.aload_n 0, 1), some (.invokevirtual 156, 3), none, none, some (.ifCond .eq 8, 3), none, none, some (.aload_n 0, 1), some (.iload_n 1, 1), some (.invokevirtual 163, 3), none, none, some (.aload_n 0, 1), some (.getfield 21, 3), none, none, some (.getfield 170, 3), none, none, some (.iconst 1, 1), some (.iadd, 1), some (.bipush 24, 2), none, some (.if_icmp .ne 9, 3), none, none, some (.aload_n 0, 1), some (.iconst 4, 1), some (.putfield 38, 3), none, none, some (.return_, 1), some (.aload_n 0, 1), some (.getfield 21, 3), none, none, some (.iload_n 1, 1), some (.aload_n 0, 1), some (.getfield 69, 3), none, none, some (.getfield 173, 3), none, none, some (.iload_n 2, 1), some (.iaload, 1), some (.invokevirtual 176, 3), none, none, some (.aload_n 0, 1), some (.aload_n 0, 1), some (.getfield 50, 3), none, none, some (.aload_n 0, 1), some (.getfield 21, 3), none, none, some (.getfield 170, 3), none, none, some (.iconst 1, 1), some (.iadd, 1), some (.invokestatic 179, 3), none, none, some (.putfield 50, 3), none, none, some (.aload_n 0, 1), some (.aload_n 0, 1), some (.getfield 73, 3), none, none, some (.iload_n 2, 1), some (.invokevirtual 84, 3), none, none, some (.putfield 32, 3), none, none, some (.return_, 1)]
-- RootLoom$Machine.doReturn()V
def xk_79 : List (Option (Instr × Nat)) := [some (.aload_n 0, 1), some (.getfield 21, 3), none, none, some (.invokevirtual 127, 3), none, none, some (.istore_n 1, 1), some (.aload_n 0, 1), some (.getfield 21, 3), none, none, some (.getfield 170, 3), none, none, some (.ifCond .ne 14, 3), none, none, some (.aload_n 0, 1), some (.iload_n 1, 1), some (.putfield 60, 3), none, none, some (.aload_n 0, 1), some (.iconst 1, 1), some (.putfield 38, 3), none, none, some (.return_, 1), some (.aload_n 0, 1), some (.getfield 21, 3), none, none, some (.dup, 1), some (.getfield 170, 3), none, none, some (.iconst 1, 1), some (.isub, 1), some (.putfield 170, 3), none, none, some (.aload_n 0, 1), some (.getfield 21, 3), none, none, some (.iload_n 1, 1), some (.invokevirtual 120, 3), none, none, some (.aload_n 0, 1), some (.aload_n 0, 1), some (.getfield 21, 3), none, none, some (.getfield 185, 3), none, none, some (.aload_n 0, 1), some (.getfield 21, 3), none, none, some (.getfield 170, 3), none, none, some (.iaload, 1), some (.iconst 1, 1), some (.iadd, 1), some (.putfield 32, 3), none, none, some (.return_, 1)]
-- RootLoom$Machine.doPrint()V
def xk_80 : List (Option (Instr × Nat)) := [some (.aload_n 0, 1), some (.getfield 21, 3), none, none, some (.invokevirtual 127, 3), none, none, some (.istore_n 1, 1), some (.aload_n 0, 1), some (.getfield 57, 3), none, none, some (.bipush 64, 2), none, some (.if_icmp .ge 23, 3), none, none, some (.aload_n 0, 1), some (.getfield 53, 3), none, none, some (.aload_n 0, 1), some (.getfield 57, 3), none, none, some (.iload_n 1, 1), some (.iastore, 1), some (.aload_n 0, 1), some (.dup, 1), some (.getfield 57, 3), none, none, some (.iconst 1, 1), some (.iadd, 1), some (.putfield 57, 3), none, none, some (.aload_n 0, 1), some (.getfield 21, 3), none, none, some (.iload_n 1, 1), some (.invokevirtual 120, 3), none, none, some (.return_, 1)]
-- RootLoom$Machine.report(I)I
def xk_81 : List (Option (Instr × Nat)) := [some (.aload_n 0, 1), some (.getfield 38, 3), none, none, some (.iconst (-1), 1), some (.if_icmp .ne 5, 3), none, none, some (.iconst (-1), 1), some (.ireturn, 1), some (.iload_n 1, 1), some (.tableswitch 79 0 6 #[41, 46, 51, 56, 64, 69, 74], 41), none, none, none, none, none, none, none, none, none, none, none, none, none, none, none, none, none, none, none, none, none, none, none, none, none, none, none, none, none, none, none, none, none, none, none, none, none, none, none, none, some (.aload_n 0, 1), some (.getfield 38, 3), none, none, some (.ireturn, 1), some (.aload_n 0, 1), some (.getfield 41, 3), none, none, some (.ireturn, 1), some (.aload_n 0, 1), some (.getfield 44, 3), none, none, some (.ireturn, 1), some (.aload_n 0, 1), some (.getfield 12, 3), none, none, some (.invokevirtual 98, 3), none, none, some (.ireturn, 1), some (.aload_n 0, 1), some (.getfield 47, 3), none, none, some (.ireturn, 1), some (.aload_n 0, 1), some (.getfield 50, 3), none, none, some (.ireturn, 1), some (.aload_n 0, 1), some (.getfield 57, 3), none, none, some (.ireturn, 1), some (.iconst (-1), 1), some (.ireturn, 1)]
-- RootLoom$Machine.printedAt(I)I
def xk_82 : List (Option (Instr × Nat)) := [some (.aload_n 0, 1), some (.getfield 38, 3), none, none, some (.iconst (-1), 1), some (.if_icmp .eq 24, 3), none, none, some (.iload_n 1, 1), some (.ifCond .lt 20, 3), none, none, some (.iload_n 1, 1), some (.aload_n 0, 1), some (.getfield 57, 3), none, none, some (.if_icmp .ge 12, 3), none, none, some (.aload_n 0, 1), some (.getfield 53, 3), none, none, some (.iload_n 1, 1), some (.iaload, 1), some (.goto 4, 3), none, none, some (.iconst 0, 1), some (.ireturn, 1)]
-- RootLoom$Machine.walk(II)I
def xk_83 : List (Option (Instr × Nat)) := [some (.aload_n 0, 1), some (.getfield 38, 3), none, none, some (.iconst 1, 1), some (.if_icmp .ne 13, 3), none, none, some (.iload_n 2, 1), some (.ifCond .lt 9, 3), none, none, some (.iload_n 2, 1), some (.bipush 20, 2), none, some (.if_icmp .le 5, 3), none, none, some (.iconst (-1), 1), some (.ireturn, 1), some (.aload_n 0, 1), some (.getfield 60, 3), none, none, some (.istore_n 3, 1), some (.aload_n 0, 1), some (.getfield 63, 3), none, none, some (.istore 4, 2), none, some (.iconst 0, 1), some (.istore 5, 2), none, some (.iload 5, 2), none, some (.iload_n 2, 1), some (.if_icmp .ge 94, 3), none, none, some (.iload 4, 2), none, some (.ifCond .eq 7, 3), none, none, some (.iload_n 3, 1), some (.ifCond .ne 5, 3), none, none, some (.iconst (-1), 1), some (.ireturn, 1), some (.iload_n 1, 1), some (.iload 5, 2), none, some (.iushr, 1), some (.iconst 1, 1), some (.iand, 1), some (.iconst 1, 1), some (.if_icmp .ne 7, 3), none, none, some (.iconst 1, 1), some (.goto 4, 3), none, none, some (.iconst 0, 1), some (.istore 6, 2), none, some (.iload 6, 2), none, some (.ifCond .eq 15, 3), none, none, some (.aload_n 0, 1), some (.getfield 12, 3), none, none, some (.getfield 102, 3), none, none, some (.iload_n 3, 1), some (.iaload, 1), some (.goto 12, 3), none, none, some (.aload_n 0, 1), some (.getfield 12, 3), none, none, some (.getfield 105, 3), none, none, some (.iload_n 3, 1), some (.iaload, 1), some (.istore_n 3, 1), some (.iload 6, 2), none, some (.ifCond .eq 16, 3), none, none, some (.aload_n 0, 1), some (.getfield 73, 3), none, none, some (.getfield 108, 3), none, none, some (.iload 4, 2), none, some (.iaload, 1), some (.goto 13, 3), none, none, some (.aload_n 0, 1), some (.getfield 73, 3), none, none, some (.getfield 111, 3), none, none, some (.iload 4, 2), none, some (.iaload, 1), some (.istore 4, 2), none, some (.iinc 5 1, 3), none, none, some (.goto (-94), 3), none, none, some (.aload_n 0, 1), some (.iload_n 3, 1), some (.putfield 66, 3), none, none, some (.iload 4, 2), none, some (.ifCond .ne 5, 3), none, none, some (.iconst 0, 1), some (.ireturn, 1), some (.iload_n 3, 1), some (.ifCond .ne 7, 3), none, none, some (.iconst 1, 1), some (.goto 4, 3), none, none, some (.iconst 2, 1), some (.ireturn, 1)]
-- RootLoom$Pairs.<init>()V
def xk_84 : List (Option (Instr × Nat)) := [some (.aload_n 0, 1), some (.invokespecial 3, 3), none, none, some (.aload_n 0, 1), some (.sipush 201, 3), none, none, some (.newarray .int, 2), none, some (.putfield 9, 3), none, none, some (.aload_n 0, 1), some (.sipush 201, 3), none, none, some (.newarray .int, 2), none, some (.putfield 15, 3), none, none, some (.aload_n 0, 1), some (.sipush 201, 3), none, none, some (.newarray .int, 2), none, some (.putfield 18, 3), none, none, some (.aload_n 0, 1), some (.sipush 200, 3), none, none, some (.newarray .int, 2), none, some (.putfield 21, 3), none, none, some (.aload_n 0, 1), some (.iconst 0, 1), some (.putfield 24, 3), none, none, some (.aload_n 0, 1), some (.sipush 201, 3), none, none, some (.newarray .int, 2), none, some (.putfield 28, 3), none, none, some (.aload_n 0, 1), some (.iconst 0, 1), some (.putfield 31, 3), none, none, some (.aload_n 0, 1), some (.sipush 200, 3), none, none, some (.newarray .int, 2), none, some (.putfield 34, 3), none, none, some (.aload_n 0, 1), some (.iconst 0, 1), some (.putfield 37, 3), none, none, some (.iconst 0, 1), some (.istore_n 1, 1), some (.iload_n 1, 1), some (.sipush 200, 3), none, none, some (.if_icmp .ge 18, 3), none, none, some (.aload_n 0, 1), some (.getfield 21, 3), none, none, some (.iload_n 1, 1), some (.iload_n 1, 1), some (.iconst 1, 1), some (.iadd, 1), some (.iastore, 1), some (.iinc 1 1, 3), none, none, some (.goto (-19), 3), none, none, some (.return_, 1)]
-- RootLoom$Pairs.clear()V
def xk_85 : List (Option (Instr × Nat)) := [some (.aload_n 0, 1), some (.iconst 0, 1), some (.putfield 24, 3), none, none, some (.return_, 1)]
-- RootLoom$Pairs.words()I
def xk_86 : List (Option (Instr × Nat)) := [some (.aload_n 0, 1), some (.getfield 24, 3), none, none, some (.iconst 3, 1), some (.imul, 1), some (.ireturn, 1)]
-- RootLoom$Pairs.beginCollection()V
def xk_87 : List (Option (Instr × Nat)) := [some (.aload_n 0, 1), some (.dup, 1), some (.getfield 31, 3), none, none, some (.iconst 1, 1), some (.iadd, 1), some (.putfield 31, 3), none, none, some (.aload_n 0, 1), some (.iconst 0, 1), some (.putfield 37, 3), none, none, some (.return_, 1)]
-- RootLoom$Pairs.keep(I)V
def xk_88 : List (Option (Instr × Nat)) := [some (.iload_n 1, 1), some (.ifCond .eq 46, 3), none, none, some (.aload_n 0, 1), some (.getfield 28, 3), none, none, some (.iload_n 1, 1), some (.iaload, 1), some (.aload_n 0, 1), some (.getfield 31, 3), none, none, some (.if_icmp .eq 33, 3), none, none, some (.aload_n 0, 1), some (.getfield 28, 3), none, none, some (.iload_n 1, 1), some (.aload_n 0, 1), some (.getfield 31, 3), none, none, some (.iastore, 1), some (.aload_n 0, 1), some (.getfield 34, 3), none, none, some (.aload_n 0, 1), some (.getfield 37, 3), none, none, some (.iload_n 1, 1), some (.iastore, 1), some (.aload_n 0, 1), some (.dup, 1), some (.getfield 37, 3), none, none, some (.iconst 1, 1), some (.iadd, 1), some (.putfield 37, 3), none, none, some (.return_, 1)]
-- RootLoom$Pairs.endCollection([I[I)V
def xk_89 : List (Option (Instr × Nat)) := [some (.iconst 0, 1), some (.istore_n 3, 1), some (.iload_n 3, 1), some (.aload_n 0, 1), some (.getfield 37, 3), none, none, some (.if_icmp .ge 70, 3), none, none, some (.iload_n 3, 1), some (.sipush 200, 3), none, none, some (.if_icmp .ge 63, 3), none, none, some (.aload_n 0, 1), some (.getfield 34, 3), none, none, some (.iload_n 3, 1), some (.iaload, 1), some (.istore 4, 2), none, some (.aload_n 1, 1), some (.aload_n 0, 1), some (.getfield 18, 3), none, none, some (.iload 4, 2), none, some (.iaload, 1), some (.iaload, 1), some (.ifCond .eq 14, 3), none, none, some (.aload_n 0, 1), some (.aload_n 0, 1), some (.getfield 9, 3), none, none, some (.iload 4, 2), none, some (.iaload, 1), some (.invokevirtual 40, 3), none, none, some (.aload_n 2, 1), some (.aload_n 0, 1), some (.getfield 18, 3), none, none, some (.iload 4, 2), none, some (.iaload, 1), some (.iaload, 1), some (.ifCond .eq 14, 3), none, none, some (.aload_n 0, 1), some (.aload_n 0, 1), some (.getfield 15, 3), none, none, some (.iload 4, 2), none, some (.iaload, 1), some (.invokevirtual 40, 3), none, none, some (.iinc 3 1, 3), none, none, some (.goto (-72), 3), none, none, some (.iconst 0, 1), some (.istore_n 3, 1), some (.iconst 0, 1), some (.istore 4, 2), none, some (.iload 4, 2), none, some (.aload_n 0, 1), some (.getfield 24, 3), none, none, some (.if_icmp .ge 56, 3), none, none, some (.aload_n 0, 1), some (.getfield 21, 3), none, none, some (.iload 4, 2), none, some (.iaload, 1), some (.istore 5, 2), none, some (.aload_n 0, 1), some (.getfield 28, 3), none, none, some (.iload 5, 2), none, some (.iaload, 1), some (.aload_n 0, 1), some (.getfield 31, 3), none, none, some (.if_icmp .ne 27, 3), none, none, some (.aload_n 0, 1), some (.getfield 21, 3), none, none, some (.iload 4, 2), none, some (.aload_n 0, 1), some (.getfield 21, 3), none, none, some (.iload_n 3, 1), some (.iaload, 1), some (.iastore, 1), some (.aload_n 0, 1), some (.getfield 21, 3), none, none, some (.iload_n 3, 1), some (.iload 5, 2), none, some (.iastore, 1), some (.iinc 3 1, 3), none, none, some (.iinc 4 1, 3), none, none, some (.goto (-59), 3), none, none, some (.aload_n 0, 1), some (.iload_n 3, 1), some (.putfield 24, 3), none, none, some (.return_, 1)]
-- RootLoom$Pairs.make(III)I
def xk_90 : List (Option (Instr × Nat)) := [some (.aload_n 0, 1), some (.getfield 21, 3), none, none, some (.aload_n 0, 1), some (.getfield 24, 3), none, none, some (.iaload, 1), some (.istore 4, 2), none, some (.aload_n 0, 1), some (.dup, 1), some (.getfield 24, 3), none, none, some (.iconst 1, 1), some (.iadd, 1), some (.putfield 24, 3), none, none, some (.aload_n 0, 1), some (.getfield 18, 3), none, none, some (.iload 4, 2), none, some (.iload_n 1, 1), some (.iastore, 1), some (.aload_n 0, 1), some (.getfield 9, 3), none, none, some (.iload 4, 2), none, some (.iload_n 2, 1), some (.iastore, 1), some (.aload_n 0, 1), some (.getfield 15, 3), none, none, some (.iload 4, 2), none, some (.iload_n 3, 1), some (.iastore, 1), some (.iload 4, 2), none, some (.ireturn, 1)]
-- RootLoom$Frames.<init>()V
def xk_91 : List (Option (Instr × Nat)) := [some (.aload_n 0, 1), some (.invokespecial 3, 3), none, none, some (.aload_n 0, 1), some (.sipush 192, 3), none, none, some (.newarray .int, 2), none, some (.putfield 9, 3), none, none, some (.aload_n 0, 1), some (.sipush 384, 3), none, none, some (.newarray .int, 2), none, some (.putfield 15, 3), none, none, some (.aload_n 0, 1), some (.bipush 24, 2), none, some (.newarray .int, 2), none, some (.putfield 18, 3), none, none, some (.aload_n 0, 1), some (.bipush 24, 2), none, some (.newarray .int, 2), none, some (.putfield 21, 3), none, none, some (.aload_n 0, 1), some (.iconst 0, 1), some (.putfield 24, 3), none, none, some (.return_, 1)]
-- RootLoom$Frames.openFirst(III)V
def xk_92 : List (Option (Instr × Nat)) := [some (.aload_n 0, 1), some (.iconst 0, 1), some (.putfield 24, 3), none, none, some (.aload_n 0, 1), some (.getfield 18, 3), none, none, some (.iconst 0, 1), some (.iconst 0, 1), some (.iastore, 1), some (.aload_n 0, 1), some (.getfield 9, 3), none, none, some (.iconst 0, 1), some (.iload_n 1, 1), some (.iastore, 1), some (.aload_n 0, 1), some (.getfield 9, 3), none, none, some (.iconst 1, 1), some (.iload_n 2, 1), some (.iastore, 1), some (.aload_n 0, 1), some (.getfield 9, 3), none, none, some (.iconst 2, 1), some (.iload_n 3, 1), some (.iastore, 1), some (.return_, 1)]
-- RootLoom$Frames.push(I)V
def xk_93 : List (Option (Instr × Nat)) := [some (.aload_n 0, 1), some (.getfield 15, 3), none, none, some (.aload_n 0, 1), some (.getfield 24, 3), none, none, some (.bipush 16, 2), none, some (.imul, 1), some (.aload_n 0, 1), some (.getfield 18, 3), none, none, some (.aload_n 0, 1), some (.getfield 24, 3), none, none, some (.iaload, 1), some (.iadd, 1), some (.iload_n 1, 1), some (.iastore, 1), some (.aload_n 0, 1), some (.getfield 18, 3), none, none, some (.aload_n 0, 1), some (.getfield 24, 3), none, none, some (.dup2, 1), some (.iaload, 1), some (.iconst 1, 1), some (.iadd, 1), some (.iastore, 1), some (.return_, 1)]
-- RootLoom$Frames.load(I)I
def xk_94 : List (Option (Instr × Nat)) := [some (.aload_n 0, 1), some (.getfield 9, 3), none, none, some (.aload_n 0, 1), some (.getfield 24, 3), none, none, some (.bipush 8, 2), none, some (.imul, 1), some (.iload_n 1, 1), some (.iadd, 1), some (.iaload, 1), some (.ireturn, 1)]
-- RootLoom$Frames.pop()I
def xk_95 : List (Option (Instr × Nat)) := [some (.aload_n 0, 1), some (.getfield 18, 3), none, none, some (.aload_n 0, 1), some (.getfield 24, 3), none, none, some (.dup2, 1), some (.iaload, 1), some (.iconst 1, 1), some (.isub, 1), some (.iastore, 1), some (.aload_n 0, 1), some (.getfield 15, 3), none, none, some (.aload_n 0, 1), some (.getfield 24, 3), none, none, some (.bipush 16, 2), none, some (.imul, 1), some (.aload_n 0, 1), some (.getfield 18, 3), none, none, some (.aload_n 0, 1), some (.getfield 24, 3), none, none, some (.iaload, 1), some (.iadd, 1), some (.iaload, 1), some (.ireturn, 1)]
-- RootLoom$Frames.store(II)V
def xk_96 : List (Option (Instr × Nat)) := [some (.aload_n 0, 1), some (.getfield 9, 3), none, none, some (.aload_n 0, 1), some (.getfield 24, 3), none, none, some (.bipush 8, 2), none, some (.imul, 1), some (.iload_n 1, 1), some (.iadd, 1), some (.iload_n 2, 1), some (.iastore, 1), some (.return_, 1)]
-- RootLoom$Frames.openNext(II)V
def xk_97 : List (Option (Instr × Nat)) := [some (.aload_n 0, 1), some (.getfield 24, 3), none, none, some (.bipush 16, 2), none, some (.imul, 1), some (.aload_n 0, 1), some (.getfield 18, 3), none, none, some (.aload_n 0, 1), some (.getfield 24, 3), none, none, some (.iaload, 1), some (.iadd, 1), some (.iload_n 2, 1), some (.isub, 1), some (.istore_n 3, 1), some (.aload_n 0, 1), some (.getfield 24, 3), none, none, some (.iconst 1, 1), some (.iadd, 1), some (.bipush 8, 2), none, some (.imul, 1), some (.istore 4, 2), none, some (.iconst 0, 1), some (.istore 5, 2), none, some (.iload 5, 2), none, some (.iload_n 2, 1), some (.if_icmp .ge 28, 3), none, none, some (.aload_n 0, 1), some (.getfield 9, 3), none, none, some (.iload 4, 2), none, some (.iload 5, 2), none, some (.iadd, 1), some (.aload_n 0, 1), some (.getfield 15, 3), none, none, some (.iload_n 3, 1), some (.iload 5, 2), none, some (.iadd, 1), some (.iaload, 1), some (.iastore, 1), some (.iinc 5 1, 3), none, none, some (.goto (-28), 3), none, none, some (.aload_n 0, 1), some (.getfield 18, 3), none, none, some (.aload_n 0, 1), some (.getfield 24, 3), none, none, some (.dup2, 1), some (.iaload, 1), some (.iload_n 2, 1), some (.isub, 1), some (.iastore, 1), some (.aload_n 0, 1), some (.getfield 21, 3), none, none, some (.aload_n 0, 1), some (.getfield 24, 3), none, none, some (.iload_n 1, 1), some (.iastore, 1), some (.aload_n 0, 1), some (.dup, 1), some (.getfield 24, 3), none, none, some (.iconst 1, 1), some (.iadd, 1), some (.putfield 24, 3), none, none, some (.aload_n 0, 1), some (.getfield 18, 3), none, none, some (.aload_n 0, 1), some (.getfield 24, 3), none, none, some (.iconst 0, 1), some (.iastore, 1), some (.return_, 1)]
-- RootLoomModel.<init>()V
def xk_98 : List (Option (Instr × Nat)) := [some (.aload_n 0, 1), some (.invokespecial 1, 3), none, none, some (.aload_n 0, 1), some (.bipush 8, 2), none, some (.newarray .int, 2), none, some (.putfield 7, 3), none, none, some (.aload_n 0, 1), some (.bipush 8, 2), none, some (.newarray .int, 2), none, some (.putfield 13, 3), none, none, some (.aload_n 0, 1), some (.bipush 6, 2), none, some (.newarray .int, 2), none, some (.putfield 16, 3), none, none, some (.aload_n 0, 1), some (.bipush 6, 2), none, some (.newarray .int, 2), none, some (.putfield 19, 3), none, none, some (.aload_n 0, 1), some (.bipush 18, 2), none, some (.newarray .int, 2), none, some (.putfield 22, 3), none, none, some (.aload_n 0, 1), some (.bipush 6, 2), none, some (.newarray .int, 2), none, some (.putfield 25, 3), none, none, some (.aload_n 0, 1), some (.sipush 150, 3), none, none, some (.newarray .int, 2), none, some (.putfield 28, 3), none, none, some (.aload_n 0, 1), some (.sipush 150, 3), none, none, some (.newarray .int, 2), none, some (.putfield 31, 3), none, none, some (.aload_n 0, 1), some (.sipush 150, 3), none, none, some (.newarray .int, 2), none, some (.putfield 34, 3), none, none, some (.aload_n 0, 1), some (.sipush 150, 3), none, none, some (.newarray .int, 2), none, some (.putfield 37, 3), none, none, some (.aload_n 0, 1), some (.sipush 150, 3), none, none, some (.newarray .int, 2), none, some (.putfield 40, 3), none, none, some (.aload_n 0, 1), some (.sipush 150, 3), none, none, some (.newarray .int, 2), none, some (.putfield 43, 3), none, none, some (.aload_n 0, 1), some (.sipush 400, 3), none, none, some (.newarray .int, 2), none, some (.putfield 46, 3), none, none, some (.aload_n 0, 1), some (.sipush 400, 3), none, none, some (.newarray .int, 2), none, some (.putfield 49, 3), none, none, some (.aload_n 0, 1), some (.sipush 400, 3), none, none, some (.newarray .int, 2), none, some (.putfield 52, 3), none, none, some (.aload_n 0, 1), some (.sipush 400, 3), none, none, some (.newarray .int, 2), none, some (.putfield 55, 3), none, none, some (.aload_n 0, 1), some (.sipush 400, 3), none, none, some (.newarray .int, 2), none, some (.putfield 58, 3), none, none, some (.aload_n 0, 1), some (.sipush 401, 3), none, none, some (.newarray .int, 2), none, some (.putfield 61, 3), none, none, some (.aload_n 0, 1), some (.bipush 6, 2), none, some (.newarray .int, 2), none, some (.putfield 64, 3), none, none, some (.aload_n 0, 1), some (.bipush 8, 2), none, some (.newarray .int, 2), none, some (.putfield 67, 3), none, none, some (.aload_n 0, 1), some (.bipush 8, 2), none, some (.newarray .int, 2), none, some (.putfield 70, 3), none, none, some (.aload_n 0, 1), some (.sipush 1200, 3), none, none, some (.newarray .int, 2), none, some (.putfield 73, 3), none, none, some (.aload_n 0, 1), some (.sipush 1200, 3), none, none, some (.newarray .int, 2), none, some (.putfield 76, 3), none, none, some (.aload_n 0, 1), some (.bipush 40, 2), none, some (.newarray .int, 2), none, some (.putfield 79, 3), none, none, some (.aload_n 0, 1), some (.bipush 8, 2), none, some (.newarray .int, 2), none, some (.putfield 82, 3), none, none, some (.aload_n 0, 1), some (.sipush 160, 3), none, none, some (.newarray .int, 2), none, some (.putfield 85, 3), none, none, some (.aload_n 0, 1), some (.sipush 160, 3), none, none, some (.newarray .int, 2), none, some (.putfield 88, 3), none, none, some (.aload_n 0, 1), some (.bipush 60, 2), none, some (.putfield 91, 3), none, none, some (.aload_n 0, 1), some (.bipush 64, 2), none, some (.newarray .int, 2), none, some (.putfield 95, 3), none, none, some (.aload_n 0, 1), some (.sipush 200, 3), none, none, some (.newarray .boolean, 2), none, some (.putfield 98, 3), none, none, some (.aload_n 0, 1), some (.sipush 200, 3), none, none, some (.newarray .int, 2), none, some (.putfield 102, 3), none, none, some (.aload_n 0, 1), some (.sipush 200, 3), none, none, some (.newarray .int, 2), none, some (.putfield 105, 3), none, none, some (.aload_n 0, 1), some (.sipush 200, 3), none, none, some (.newarray .int, 2), none, some (.putfield 108, 3), none, none, some (.aload_n 0, 1), some (.sipush 200, 3), none, none, some (.newarray .boolean, 2), none, some (.putfield 111, 3), none, none, some (.aload_n 0, 1), some (.sipush 200, 3), none, none, some (.newarray .int, 2), none, some (.putfield 114, 3), none, none, some (.aload_n 0, 1), some (.bipush 24, 2), none, some (.newarray .int, 2), none, some (.putfield 117, 3), none, none, some (.aload_n 0, 1), some (.bipush 24, 2), none, some (.newarray .int, 2), none, some (.putfield 120, 3), none, none, some (.aload_n 0, 1), some (.sipush 192, 3), none, none, some (.newarray .int, 2), none, some (.putfield 123, 3), none, none, some (.aload_n 0, 1), some (.sipush 384, 3), none, none, some (.newarray .int, 2), none, some (.putfield 126, 3), none, none, some (.return_, 1)]
-- RootLoomModel.thrown()I
def xk_99 : List (Option (Instr × Nat)) := [some (.aload_n 0, 1), some (.getfield 129, 3), none, none, some (.ireturn, 1)]
-- RootLoomModel.type(III)Z
def xk_100 : List (Option (Instr × Nat)) := [some (.aload_n 0, 1), some (.iconst 0, 1), some (.putfield 129, 3), none, none, some (.iload_n 1, 1), some (.iconst 1, 1), some (.bipush 7, 2), none, some (.invokestatic 132, 3), none, none, some (.ifCond .eq 23, 3), none, none, some (.iload_n 2, 1), some (.iconst 0, 1), some (.bipush 7, 2), none, some (.invokestatic 132, 3), none, none, some (.ifCond .eq 13, 3), none, none, some (.iload_n 3, 1), some (.iconst 0, 1), some (.bipush 7, 2), none, some (.invokestatic 132, 3), none, none, some (.ifCond .ne 5, 3), none, none, some (.iconst 0, 1), some (.ireturn, 1), some (.aload_n 0, 1), some (.getfield 7, 3), none, none, some (.iload_n 1, 1), some (.iload_n 2, 1), some (.iastore, 1), some (.aload_n 0, 1), some (.getfield 13, 3), none, none, some (.iload_n 1, 1), some (.iload_n 3, 1), some (.iastore, 1), some (.iconst 1, 1), some (.ireturn, 1)]
-- RootLoomModel.in(III)Z
def xk_101 : List (Option (Instr × Nat)) := [some (.iload_n 0, 1), some (.iload_n 1, 1), some (.if_icmp .lt 12, 3), none, none, some (.iload_n 0, 1), some (.iload_n 2, 1), some (.if_icmp .gt 7, 3), none, none, some (.iconst 1, 1), some (.goto 4, 3), none, none, some (.iconst 0, 1), some (.ireturn, 1)]
-- RootLoomModel.function(IIIII)I
def xk_102 : List (Option (Instr × Nat)) := [some (.aload_n 0, 1), some (.iconst 0, 1), some (.putfield 129, 3), none, none, some (.aload_n 0, 1), some (.getfield 136, 3), none, none, some (.bipush 6, 2), none, some (.if_icmp .ge 73, 3), none, none, some (.iload_n 1, 1), some (.iconst 0, 1), some (.bipush 7, 2), none, some (.invokestatic 132, 3), none, none, some (.ifCond .eq 63, 3), none, none, some (.iload_n 2, 1), some (.iconst 0, 1), some (.iconst 3, 1), some (.invokestatic 132, 3), none, none, some (.ifCond .eq 54, 3), none, none, some (.iload_n 2, 1), some (.iconst 1, 1), some (.if_icmp .lt 13, 3), none, none, some (.iload_n 3, 1), some (.iconst 0, 1), some (.bipush 7, 2), none, some (.invokestatic 132, 3), none, none, some (.ifCond .eq 39, 3), none, none, some (.iload_n 2, 1), some (.iconst 2, 1), some (.if_icmp .lt 14, 3), none, none, some (.iload 4, 2), none, some (.iconst 0, 1), some (.bipush 7, 2), none, some (.invokestatic 132, 3), none, none, some (.ifCond .eq 23, 3), none, none, some (.iload_n 2, 1), some (.iconst 3, 1), some (.if_icmp .lt 14, 3), none, none, some (.iload 5, 2), none, some (.iconst 0, 1), some (.bipush 7, 2), none, some (.invokestatic 132, 3), none, none, some (.ifCond .eq 7, 3), none, none, some (.iconst 1, 1), some (.goto 4, 3), none, none, some (.iconst 0, 1), some (.istore 6, 2), none, some (.iload 6, 2), none, some (.ifCond .ne 5, 3), none, none, some (.iconst (-1), 1), some (.ireturn, 1), some (.aload_n 0, 1), some (.getfield 16, 3), none, none, some (.aload_n 0, 1), some (.getfield 136, 3), none, none, some (.iload_n 1, 1), some (.iastore, 1), some (.aload_n 0, 1), some (.getfield 19, 3), none, none, some (.aload_n 0, 1), some (.getfield 136, 3), none, none, some (.iload_n 2, 1), some (.iastore, 1), some (.aload_n 0, 1), some (.getfield 22, 3), none, none, some (.iconst 3, 1), some (.aload_n 0, 1), some (.getfield 136, 3), none, none, some (.imul, 1), some (.iload_n 3, 1), some (.iastore, 1), some (.aload_n 0, 1), some (.getfield 22, 3), none, none, some (.iconst 3, 1), some (.aload_n 0, 1), some (.getfield 136, 3), none, none, some (.imul, 1), some (.iconst 1, 1), some (.iadd, 1), some (.iload 4, 2), none, some (.iastore, 1), some (.aload_n 0, 1), some (.getfield 22, 3), none, none, some (.iconst 3, 1), some (.aload_n 0, 1), some (.getfield 136, 3), none, none, some (.imul, 1), some (.iconst 2, 1), some (.iadd, 1), some (.iload 5, 2), none, some (.iastore, 1), some (.aload_n 0, 1), some (.getfield 25, 3), none, none, some (.aload_n 0, 1), some (.getfield 136, 3), none, none, some (.iconst (-1), 1), some (.iastore, 1), some (.aload_n 0, 1), some (.dup, 1), some (.getfield 136, 3), none, none, some (.iconst 1, 1), some (.iadd, 1), some (.putfield 136, 3), none, none, some (.aload_n 0, 1), some (.getfield 136, 3), none, none, some (.iconst 1, 1), some (.isub, 1), some (.ireturn, 1)]
-- RootLoomModel.node(IIII)I
def xk_103 : List (Option (Instr × Nat)) := [some (.aload_n 0, 1), some (.iconst 0, 1), some (.putfield 129, 3), none, none, some (.aload_n 0, 1), some (.getfield 139, 3), none, none, some (.sipush 150, 3), none, none, some (.if_icmp .eq 15, 3), none, none, some (.aload_n 0, 1), some (.iload_n 1, 1), some (.iload_n 2, 1), some (.iload_n 3, 1), some (.iload 4, 2), none, some (.invokevirtual 149, 3), none, none, some (.ifCond .ne 5, 3), none, none, some (.iconst (-1), 1), some (.ireturn, 1), some (.aload_n 0, 1), some (.getfield 28, 3), none, none, some (.aload_n 0, 1), some (.getfield 139, 3), none, none, some (.iload_n 1, 1), some (.iastore, 1), some (.aload_n 0, 1), some (.getfield 31, 3), none, none, some (.aload_n 0, 1), some (.getfield 139, 3), none, none, some (.iload_n 2, 1), some (.iastore, 1), some (.aload_n 0, 1), some (.getfield 34, 3), none, none, some (.aload_n 0, 1), some (.getfield 139, 3), none, none, some (.iload_n 3, 1), some (.iastore, 1), some (.aload_n 0, 1), some (.getfield 37, 3), none, none, some (.aload_n 0, 1), some (.getfield 139, 3), none, none, some (.iload 4, 2), none, some (.iastore, 1), some (.aload_n 0, 1), some (.dup, 1), some (.getfield 139, 3), none, none, some (.iconst 1, 1), some (.iadd, 1), some (.putfield 139, 3), none, none, some (.aload_n 0, 1), some (.getfield 139, 3), none, none, some (.iconst 1, 1), some (.isub, 1), some (.ireturn, 1)]
-- RootLoomModel.mayBe(IIII)Z
def xk_104 : List (Option (Instr × Nat)) := [some (.iload_n 1, 1), some (.tableswitch 280 0 17 #[87, 89, 97, 258, 258, 258, 105, 138, 138, 138, 144, 175, 208, 236, 258, 258, 138, 258], 87), none, none, none, none, none, none, none, none, none, none, none, none, none, none, none, none, none, none, none, none, none, none, none, none, none, none, none, none, none, none, none, none, none, none, none, none, none, none, none, none, none, none, none, none, none, none, none, none, none, none, none, none, none, none, none, none, none, none, none, none, none, none, none, none, none, none, none, none, none, none, none, none, none, none, none, none, none, none, none, none, none, none, none, none, none, none, some (.iconst 1, 1), some (.ireturn, 1), some (.iload_n 2, 1), some (.iconst 1, 1), some (.bipush 7, 2), none, some (.invokestatic 132, 3), none, none, some (.ireturn, 1), some (.iload_n 2, 1), some (.iconst 0, 1), some (.bipush 7, 2), none, some (.invokestatic 132, 3), none, none, some (.ireturn, 1), some (.iload_n 2, 1), some (.iconst 1, 1), some (.bipush 7, 2), none, some (.invokestatic 132, 3), none, none, some (.ifCond .eq 24, 3), none, none, some (.aload_n 0, 1), some (.iload_n 3, 1), some (.invokevirtual 142, 3), none, none, some (.ifCond .eq 16, 3), none, none, some (.aload_n 0, 1), some (.iload 4, 2), none, some (.invokevirtual 142, 3), none, none, some (.ifCond .eq 7, 3), none, none, some (.iconst 1, 1), some (.goto 4, 3), none, none, some (.iconst 0, 1), some (.ireturn, 1), some (.aload_n 0, 1), some (.iload_n 2, 1), some (.invokevirtual 142, 3), none, none, some (.ireturn, 1), some (.aload_n 0, 1), some (.iload_n 2, 1), some (.invokevirtual 142, 3), none, none, some (.ifCond .eq 24, 3), none, none, some (.aload_n 0, 1), some (.iload_n 3, 1), some (.invokevirtual 142, 3), none, none, some (.ifCond .eq 16, 3), none, none, some (.aload_n 0, 1), some (.iload 4, 2), none, some (.invokevirtual 142, 3), none, none, some (.ifCond .eq 7, 3), none, none, some (.iconst 1, 1), some (.goto 4, 3), none, none, some (.iconst 0, 1), some (.ireturn, 1), some (.iload_n 2, 1), some (.iconst 0, 1), some (.bipush 7, 2), none, some (.invokestatic 132, 3), none, none, some (.ifCond .eq 24, 3), none, none, some (.aload_n 0, 1), some (.iload_n 3, 1), some (.invokevirtual 142, 3), none, none, some (.ifCond .eq 16, 3), none, none, some (.aload_n 0, 1), some (.iload 4, 2), none, some (.invokevirtual 142, 3), none, none, some (.ifCond .eq 7, 3), none, none, some (.iconst 1, 1), some (.goto 4, 3), none, none, some (.iconst 0, 1), some (.ireturn, 1), some (.iload_n 2, 1), some (.iconst 0, 1), some (.aload_n 0, 1), some (.getfield 136, 3), none, none, some (.iconst 1, 1), some (.isub, 1), some (.invokestatic 132, 3), none, none, some (.ifCond .eq 15, 3), none, none, some (.aload_n 0, 1), some (.iload_n 3, 1), some (.invokevirtual 146, 3), none, none, some (.ifCond .eq 7, 3), none, none, some (.iconst 1, 1), some (.goto 4, 3), none, none, some (.iconst 0, 1), some (.ireturn, 1), some (.aload_n 0, 1), some (.iload_n 2, 1), some (.invokevirtual 142, 3), none, none, some (.ifCond .eq 15, 3), none, none, some (.aload_n 0, 1), some (.iload_n 3, 1), some (.invokevirtual 146, 3), none, none, some (.ifCond .eq 7, 3), none, none, some (.iconst 1, 1), some (.goto 4, 3), none, none, some (.iconst 0, 1), some (.ireturn, 1), some (.aload_n 0, 1), some (.iload_n 2, 1), some (.invokevirtual 142, 3), none, none, some (.ifCond .eq 15, 3), none, none, some (.aload_n 0, 1), some (.iload_n 3, 1), some (.invokevirtual 142, 3), none, none, some (.ifCond .eq 7, 3), none, none, some (.iconst 1, 1), some (.goto 4, 3), none, none, some (.iconst 0, 1), some (.ireturn, 1), some (.iconst 0, 1), some (.ireturn, 1)]
-- RootLoomModel.isExpression(I)Z
def xk_105 : List (Option (Instr × Nat)) := [some (.iload_n 1, 1), some (.iconst 0, 1), some (.aload_n 0, 1), some (.getfield 139, 3), none, none, some (.iconst 1, 1), some (.isub, 1), some (.invokestatic 132, 3), none, none, some (.ifCond .eq 18, 3), none, none, some (.aload_n 0, 1), some (.getfield 28, 3), none, none, some (.iload_n 1, 1), some (.iaload, 1), some (.bipush 13, 2), none, some (.if_icmp .eq 7, 3), none, none, some (.iconst 1, 1), some (.goto 4, 3), none, none, some (.iconst 0, 1), some (.ireturn, 1)]
-- RootLoomModel.isArgument(I)Z
def xk_106 : List (Option (Instr × Nat)) := [some (.iload_n 1, 1), some (.iconst (-1), 1), some (.if_icmp .eq 28, 3), none, none, some (.iload_n 1, 1), some (.iconst 0, 1), some (.aload_n 0, 1), some (.getfield 139, 3), none, none, some (.iconst 1, 1), some (.isub, 1), some (.invokestatic 132, 3), none, none, some (.ifCond .eq 18, 3), none, none, some (.aload_n 0, 1), some (.getfield 28, 3), none, none, some (.iload_n 1, 1), some (.iaload, 1), some (.bipush 13, 2), none, some (.if_icmp .ne 7, 3), none, none, some (.iconst 1, 1), some (.goto 4, 3), none, none, some (.iconst 0, 1), some (.ireturn, 1)]
-- RootLoomModel.body(II)Z
def xk_107 : List (Option (Instr × Nat)) := [some (.aload_n 0, 1), some (.iconst 0, 1), some (.putfield 129, 3), none, none, some (.iload_n 1, 1), some (.iconst 0, 1), some (.aload_n 0, 1), some (.getfield 136, 3), none, none, some (.iconst 1, 1), some (.isub, 1), some (.invokestatic 132, 3), none, none, some (.ifCond .eq 16, 3), none, none, some (.iload_n 2, 1), some (.iconst (-1), 1), some (.if_icmp .eq 13, 3), none, none, some (.aload_n 0, 1), some (.iload_n 2, 1), some (.invokevirtual 142, 3), none, none, some (.ifCond .ne 5, 3), none, none, some (.iconst 0, 1), some (.ireturn, 1), some (.aload_n 0, 1), some (.getfield 25, 3), none, none, some (.iload_n 1, 1), some (.iload_n 2, 1), some (.iastore, 1), some (.iconst 1, 1), some (.ireturn, 1)]
-- RootLoomModel.lay()I
def xk_108 : List (Option (Instr × Nat)) := [some (.aload_n 0, 1), some (.iconst 0, 1), some (.putfield 129, 3), none, none, some (.aload_n 0, 1), some (.iconst 0, 1), some (.putfield 227, 3), none, none, some (.aload_n 0, 1), some (.iconst 0, 1), some (.putfield 230, 3), none, none, some (.aload_n 0, 1), some (.iconst 0, 1), some (.putfield 171, 3), none, none, some (.aload_n 0, 1), some (.invokevirtual 233, 3), none, none, some (.ifCond .eq 6, 3), none, none, some (.bipush (-2), 2), none, some (.ireturn, 1), some (.aload_n 0, 1), some (.iconst 0, 1), some (.putfield 174, 3), none, none, some (.iconst 0, 1), some (.istore_n 1, 1), some (.iload_n 1, 1), some (.bipush 6, 2), none, some (.if_icmp .ge 38, 3), none, none, some (.aload_n 0, 1), some (.getfield 64, 3), none, none, some (.iload_n 1, 1), some (.iconst (-1), 1), some (.iastore, 1), some (.iload_n 1, 1), some (.aload_n 0, 1), some (.getfield 136, 3), none, none, some (.if_icmp .ge 17, 3), none, none, some (.aload_n 0, 1), some (.getfield 25, 3), none, none, some (.iload_n 1, 1), some (.iaload, 1), some (.ifCond .lt 8, 3), none, none, some (.aload_n 0, 1), some (.iload_n 1, 1), some (.invokevirtual 237, 3), none, none, some (.iinc 1 1, 3), none, none, some (.goto (-38), 3), none, none, some (.aload_n 0, 1), some (.getfield 174, 3), none, none, some (.ifCond .eq 6, 3), none, none, some (.bipush (-3), 2), none, some (.ireturn, 1), some (.aload_n 0, 1), some (.iconst 1, 1), some (.putfield 230, 3), none, none, some (.iconst 0, 1), some (.istore_n 1, 1), some (.iload_n 1, 1), some (.bipush 8, 2), none, some (.if_icmp .ge 33, 3), none, none, some (.aload_n 0, 1), some (.getfield 67, 3), none, none, some (.iload_n 1, 1), some (.aload_n 0, 1), some (.getfield 7, 3), none, none, some (.iload_n 1, 1), some (.iaload, 1), some (.iastore, 1), some (.aload_n 0, 1), some (.getfield 70, 3), none, none, some (.iload_n 1, 1), some (.aload_n 0, 1), some (.getfield 13, 3), none, none, some (.iload_n 1, 1), some (.iaload, 1), some (.iastore, 1), some (.iinc 1 1, 3), none, none, some (.goto (-33), 3), none, none, some (.aload_n 0, 1), some (.invokevirtual 240, 3), none, none, some (.aload_n 0, 1), some (.getfield 171, 3), none, none, some (.ireturn, 1)]
-- RootLoomModel.isTooLarge()Z
def xk_109 : List (Option (Instr × Nat)) := [some (.iconst 0, 1), some (.istore_n 1, 1), some (.iconst 0, 1), some (.istore_n 2, 1), some (.iconst 0, 1), some (.istore_n 3, 1), some (.iload_n 3, 1), some (.aload_n 0, 1), some (.getfield 139, 3), none, none, some (.if_icmp .ge 14, 3), none, none, some (.aload_n 0, 1), some (.iload_n 3, 1), some (.invokevirtual 161, 3), none, none, some (.iinc 3 1, 3), none, none, some (.goto (-16), 3), none, none, some (.iconst 0, 1), some (.istore_n 3, 1), some (.iload_n 3, 1), some (.aload_n 0, 1), some (.getfield 136, 3), none, none, some (.if_icmp .ge 53, 3), none, none, some (.aload_n 0, 1), some (.getfield 25, 3), none, none, some (.iload_n 3, 1), some (.iaload, 1), some (.ifCond .ge 6, 3), none, none, some (.goto 35, 3), none, none, some (.iload_n 1, 1), some (.aload_n 0, 1), some (.getfield 40, 3), none, none, some (.aload_n 0, 1), some (.getfield 25, 3), none, none, some (.iload_n 3, 1), some (.iaload, 1), some (.iaload, 1), some (.iconst 1, 1), some (.iadd, 1), some (.iadd, 1), some (.istore_n 1, 1), some (.iload_n 2, 1), some (.aload_n 0, 1), some (.getfield 43, 3), none, none, some (.aload_n 0, 1), some (.getfield 25, 3), none, none, some (.iload_n 3, 1), some (.iaload, 1), some (.iaload, 1), some (.invokestatic 153, 3), none, none, some (.istore_n 2, 1), some (.iinc 3 1, 3), none, none, some (.goto (-55), 3), none, none, some (.aload_n 0, 1), some (.iload_n 2, 1), some (.putfield 165, 3), none, none, some (.iload_n 1, 1), some (.sipush 400, 3), none, none, some (.if_icmp .gt 9, 3), none, none, some (.iload_n 2, 1), some (.bipush 16, 2), none, some (.if_icmp .le 7, 3), none, none, some (.iconst 1, 1), some (.goto 4, 3), none, none, some (.iconst 0, 1), some (.ireturn, 1)]
-- RootLoomModel.measure(I)V
def xk_110 : List (Option (Instr × Nat)) := [some (.aload_n 0, 1), some (.getfield 31, 3), none, none, some (.iload_n 1, 1), some (.iaload, 1), some (.istore_n 2, 1), some (.aload_n 0, 1), some (.getfield 34, 3), none, none, some (.iload_n 1, 1), some (.iaload, 1), some (.istore_n 3, 1), some (.aload_n 0, 1), some (.getfield 37, 3), none, none, some (.iload_n 1, 1), some (.iaload, 1), some (.istore 4, 2), none, some (.aload_n 0, 1), some (.getfield 28, 3), none, none, some (.iload_n 1, 1), some (.iaload, 1), some (.tableswitch 448 0 17 #[88, 88, 88, 448, 448, 448, 105, 154, 154, 154, 183, 246, 293, 342, 448, 448, 154, 403], 88), none, none, none, none, none, none, none, none, none, none, none, none, none, none, none, none, none, none, none, none, none, none, none, none, none, none, none, none, none, none, none, none, none, none, none, none, none, none, none, none, none, none, none, none, none, none, none, none, none, none, none, none, none, none, none, none, none, none, none, none, none, none, none, none, none, none, none, none, none, none, none, none, none, none, none, none, none, none, none, none, none, none, none, none, none, none, none, some (.aload_n 0, 1), some (.getfield 40, 3), none, none, some (.iload_n 1, 1), some (.iconst 1, 1), some (.iastore, 1), some (.aload_n 0, 1), some (.getfield 43, 3), none, none, some (.iload_n 1, 1), some (.iconst 1, 1), some (.iastore, 1), some (.goto 390, 3), none, none, some (.aload_n 0, 1), some (.getfield 40, 3), none, none, some (.iload_n 1, 1), some (.aload_n 0, 1), some (.getfield 40, 3), none, none, some (.iload_n 3, 1), some (.iaload, 1), some (.aload_n 0, 1), some (.getfield 40, 3), none, none, some (.iload 4, 2), none, some (.iaload, 1), some (.iadd, 1), some (.iconst 1, 1), some (.iadd, 1), some (.iastore, 1), some (.aload_n 0, 1), some (.getfield 43, 3), none, none, some (.iload_n 1, 1), some (.aload_n 0, 1), some (.getfield 43, 3), none, none, some (.iload_n 3, 1), some (.iaload, 1), some (.iconst 1, 1), some (.aload_n 0, 1), some (.getfield 43, 3), none, none, some (.iload 4, 2), none, some (.iaload, 1), some (.iadd, 1), some (.invokestatic 153, 3), none, none, some (.iastore, 1), some (.goto 341, 3), none, none, some (.aload_n 0, 1), some (.getfield 40, 3), none, none, some (.iload_n 1, 1), some (.aload_n 0, 1), some (.getfield 40, 3), none, none, some (.iload_n 2, 1), some (.iaload, 1), some (.iconst 1, 1), some (.iadd, 1), some (.iastore, 1), some (.aload_n 0, 1), some (.getfield 43, 3), none, none, some (.iload_n 1, 1), some (.aload_n 0, 1), some (.getfield 43, 3), none, none, some (.iload_n 2, 1), some (.iaload, 1), some (.iastore, 1), some (.goto 312, 3), none, none, some (.aload_n 0, 1), some (.getfield 40, 3), none, none, some (.iload_n 1, 1), some (.aload_n 0, 1), some (.getfield 40, 3), none, none, some (.iload_n 2, 1), some (.iaload, 1), some (.aload_n 0, 1), some (.getfield 40, 3), none, none, some (.iload_n 3, 1), some (.iaload, 1), some (.iadd, 1), some (.aload_n 0, 1), some (.getfield 40, 3), none, none, some (.iload 4, 2), none, some (.iaload, 1), some (.iadd, 1), some (.iconst 2, 1), some (.iadd, 1), some (.iastore, 1), some (.aload_n 0, 1), some (.getfield 43, 3), none, none, some (.iload_n 1, 1), some (.aload_n 0, 1), some (.getfield 43, 3), none, none, some (.iload_n 2, 1), some (.iaload, 1), some (.aload_n 0, 1), some (.getfield 43, 3), none, none, some (.iload_n 3, 1), some (.iaload, 1), some (.aload_n 0, 1), some (.getfield 43, 3), none, none, some (.iload 4, 2), none, some (.iaload, 1), some (.invokestatic 153, 3), none, none, some (.invokestatic 153, 3), none, none, some (.iastore, 1), some (.goto 249, 3), none, none, some (.aload_n 0, 1), some (.getfield 40, 3), none, none, some (.iload_n 1, 1), some (.aload_n 0, 1), some (.getfield 40, 3), none, none, some (.iload_n 3, 1), some (.iaload, 1), some (.aload_n 0, 1), some (.getfield 40, 3), none, none, some (.iload 4, 2), none, some (.iaload, 1), some (.iadd, 1), some (.iconst 1, 1), some (.iadd, 1), some (.iastore, 1), some (.aload_n 0, 1), some (.getfield 43, 3), none, none, some (.iload_n 1, 1), some (.aload_n 0, 1), some (.getfield 43, 3), none, none, some (.iload_n 3, 1), some (.iaload, 1), some (.aload_n 0, 1), some (.getfield 43, 3), none, none, some (.iload 4, 2), none, some (.iaload, 1), some (.invokestatic 153, 3), none, none, some (.iastore, 1), some (.goto 202, 3), none, none, some (.aload_n 0, 1), some (.getfield 40, 3), none, none, some (.iload_n 1, 1), some (.iconst 1, 1), some (.iload_n 3, 1), some (.ifCond .ge 7, 3), none, none, some (.iconst 0, 1), some (.goto 9, 3), none, none, some (.aload_n 0, 1), some (.getfield 40, 3), none, none, some (.iload_n 3, 1), some (.iaload, 1), some (.iadd, 1), some (.iastore, 1), some (.aload_n 0, 1), some (.getfield 43, 3), none, none, some (.iload_n 1, 1), some (.iconst 1, 1), some (.iload_n 3, 1), some (.ifCond .ge 7, 3), none, none, some (.iconst 0, 1), some (.goto 9, 3), none, none, some (.aload_n 0, 1), some (.getfield 43, 3), none, none, some (.iload_n 3, 1), some (.iaload, 1), some (.invokestatic 153, 3), none, none, some (.iastore, 1), some (.goto 153, 3), none, none, some (.aload_n 0, 1), some (.getfield 40, 3), none, none, some (.iload_n 1, 1), some (.aload_n 0, 1), some (.getfield 40, 3), none, none, some (.iload_n 2, 1), some (.iaload, 1), some (.iload_n 3, 1), some (.ifCond .ge 7, 3), none, none, some (.iconst 0, 1), some (.goto 9, 3), none, none, some (.aload_n 0, 1), some (.getfield 40, 3), none, none, some (.iload_n 3, 1), some (.iaload, 1), some (.iadd, 1), some (.iastore, 1), some (.aload_n 0, 1), some (.getfield 43, 3), none, none, some (.iload_n 1, 1), some (.aload_n 0, 1), some (.getfield 43, 3), none, none, some (.iload_n 2, 1), some (.iaload, 1), some (.iload_n 3, 1), some (.ifCond .ge 7, 3), none, none, some (.iconst 1, 1), some (.goto 11, 3), none, none, some (.iconst 1, 1), some (.aload_n 0, 1), some (.getfield 43, 3), none, none, some (.iload_n 3, 1), some (.iaload, 1), some (.iadd, 1), some (.invokestatic 153, 3), none, none, some (.iastore, 1), some (.goto 92, 3), none, none, some (.aload_n 0, 1), some (.getfield 40, 3), none, none, some (.iload_n 1, 1), some (.aload_n 0, 1), some (.getfield 40, 3), none, none, some (.iload_n 2, 1), some (.iaload, 1), some (.aload_n 0, 1), some (.getfield 40, 3), none, none, some (.iload_n 3, 1), some (.iaload, 1), some (.iadd, 1), some (.iconst 1, 1), some (.iadd, 1), some (.iastore, 1), some (.aload_n 0, 1), some (.getfield 43, 3), none, none, some (.iload_n 1, 1), some (.aload_n 0, 1), some (.getfield 43, 3), none, none, some (.iload_n 2, 1), some (.iaload, 1), some (.aload_n 0, 1), some (.getfield 43, 3), none, none, some (.iload_n 3, 1), some (.iaload, 1), some (.invokestatic 153, 3), none, none, some (.iastore, 1), some (.goto 47, 3), none, none, some (.aload_n 0, 1), some (.getfield 40, 3), none, none, some (.iload_n 1, 1), some (.aload_n 0, 1), some (.getfield 40, 3), none, none, some (.iload_n 2, 1), some (.iaload, 1), some (.aload_n 0, 1), some (.getfield 40, 3), none, none, some (.iload_n 3, 1), some (.iaload, 1), some (.iadd, 1), some (.iconst 1, 1), some (.iadd, 1), some (.iastore, 1), some (.aload_n 0, 1), some (.getfield 43, 3), none, none, some (.iload_n 1, 1), some (.aload_n 0, 1), some (.getfield 43, 3), none, none, some (.iload_n 2, 1), some (.iaload, 1), some (.iconst 1, 1), some (.aload_n 0, 1), some (.getfield 43, 3), none, none, some (.iload_n 3, 1), some (.iaload, 1), some (.iadd, 1), some (.invokestatic 153, 3), none, none, some (.iastore, 1), some (.aload_n 0, 1), some (.getfield 40, 3), none, none, some (.iload_n 1, 1), some (.aload_n 0, 1), some (.getfield 40, 3), none, none, some (.iload_n 1, 1), some (.iaload, 1), some (.invokestatic 157, 3), none, none, some (.iastore, 1), some (.aload_n 0, 1), some (.getfield 43, 3), none, none, some (.iload_n 1, 1), some (.aload_n 0, 1), some (.getfield 43, 3), none, none, some (.iload_n 1, 1), some (.iaload, 1), some (.invokestatic 157, 3), none, none, some (.iastore, 1), some (.return_, 1)]
-- RootLoomModel.larger(II)I
def xk_111 : List (Option (Instr × Nat)) := [some (.iload_n 0, 1), some (.iload_n 1, 1), some (.if_icmp .le 7, 3), none, none, some (.iload_n 0, 1), some (.goto 4, 3), none, none, some (.iload_n 1, 1), some (.ireturn, 1)]
-- RootLoomModel.cut(I)I
def xk_112 : List (Option (Instr × Nat)) := [some (.iload_n 0, 1), some (.sipush 1000, 3), none, none, some (.if_icmp .le 9, 3), none, none, some (.sipush 1000, 3), none, none, some (.goto 4, 3), none, none, some (.iload_n 0, 1), some (.ireturn, 1)]
-- RootLoomModel.layFunction(I)V
def xk_113 : List (Option (Instr × Nat)) := [some (.aload_n 0, 1), some (.getfield 64, 3), none, none, some (.iload_n 1, 1), some (.aload_n 0, 1), some (.getfield 171, 3), none, none, some (.iastore, 1), some (.iconst 0, 1), some (.istore_n 2, 1), some (.iload_n 2, 1), some (.bipush 8, 2), none, some (.if_icmp .ge 39, 3), none, none, some (.aload_n 0, 1), some (.getfield 82, 3), none, none, some (.iload_n 2, 1), some (.iload_n 2, 1), some (.aload_n 0, 1), some (.getfield 19, 3), none, none, some (.iload_n 1, 1), some (.iaload, 1), some (.if_icmp .ge 16, 3), none, none, some (.aload_n 0, 1), some (.getfield 22, 3), none, none, some (.iconst 3, 1), some (.iload_n 1, 1), some (.imul, 1), some (.iload_n 2, 1), some (.iadd, 1), some (.iaload, 1), some (.goto 4, 3), none, none, some (.iconst (-1), 1), some (.iastore, 1), some (.iinc 2 1, 3), none, none, some (.goto (-39), 3), none, none, some (.aload_n 0, 1), some (.iconst 0, 1), some (.putfield 178, 3), none, none, some (.aload_n 0, 1), some (.iconst 0, 1), some (.putfield 206, 3), none, none, some (.aload_n 0, 1), some (.iconst 0, 1), some (.putfield 168, 3), none, none, some (.aload_n 0, 1), some (.iconst 0, 1), some (.aload_n 0, 1), some (.getfield 25, 3), none, none, some (.iload_n 1, 1), some (.iaload, 1), some (.invokevirtual 192, 3), none, none, some (.aload_n 0, 1), some (.getfield 168, 3), none, none, some (.ifCond .le 118, 3), none, none, some (.aload_n 0, 1), some (.dup, 1), some (.getfield 168, 3), none, none, some (.iconst 1, 1), some (.isub, 1), some (.putfield 168, 3), none, none, some (.aload_n 0, 1), some (.getfield 73, 3), none, none, some (.aload_n 0, 1), some (.getfield 168, 3), none, none, some (.iaload, 1), some (.istore_n 2, 1), some (.aload_n 0, 1), some (.getfield 76, 3), none, none, some (.aload_n 0, 1), some (.getfield 168, 3), none, none, some (.iaload, 1), some (.istore_n 3, 1), some (.iload_n 2, 1), some (.ifCond .ne 11, 3), none, none, some (.aload_n 0, 1), some (.iload_n 3, 1), some (.invokevirtual 215, 3), none, none, some (.goto 73, 3), none, none, some (.iload_n 2, 1), some (.iconst 1, 1), some (.if_icmp .ne 37, 3), none, none, some (.aload_n 0, 1), some (.getfield 34, 3), none, none, some (.iload_n 3, 1), some (.iaload, 1), some (.ifCond .lt 14, 3), none, none, some (.aload_n 0, 1), some (.iconst 1, 1), some (.aload_n 0, 1), some (.getfield 34, 3), none, none, some (.iload_n 3, 1), some (.iaload, 1), some (.invokevirtual 192, 3), none, none, some (.aload_n 0, 1), some (.iconst 0, 1), some (.aload_n 0, 1), some (.getfield 31, 3), none, none, some (.iload_n 3, 1), some (.iaload, 1), some (.invokevirtual 192, 3), none, none, some (.goto 34, 3), none, none, some (.iload_n 2, 1), some (.iconst 2, 1), some (.if_icmp .ne 11, 3), none, none, some (.aload_n 0, 1), some (.iload_n 3, 1), some (.invokevirtual 218, 3), none, none, some (.goto 21, 3), none, none, some (.iload_n 2, 1), some (.iconst 3, 1), some (.if_icmp .ne 11, 3), none, none, some (.aload_n 0, 1), some (.iload_n 3, 1), some (.invokevirtual 221, 3), none, none, some (.goto 8, 3), none, none, some (.aload_n 0, 1), some (.iload_n 3, 1), some (.invokevirtual 224, 3), none, none, some (.goto (-119), 3), none, none, some (.aload_n 0, 1), some (.aload_n 0, 1), some (.invokevirtual 199, 3), none, none, some (.aload_n 0, 1), some (.getfield 16, 3), none, none, some (.iload_n 1, 1), some (.iaload, 1), some (.if_icmp .ne 7, 3), none, none, some (.iconst 1, 1), some (.goto 4, 3), none, none, some (.iconst 0, 1), some (.invokevirtual 188, 3), none, none, some (.aload_n 0, 1), some (.bipush 14, 2), none, some (.iconst 0, 1), some (.invokevirtual 181, 3), none, none, some (.return_, 1)]
-- RootLoomModel.later(II)V
def xk_114 : List (Option (Instr × Nat)) := [some (.aload_n 0, 1), some (.getfield 73, 3), none, none, some (.aload_n 0, 1), some (.getfield 168, 3), none, none, some (.iload_n 1, 1), some (.iastore, 1), some (.aload_n 0, 1), some (.getfield 76, 3), none, none, some (.aload_n 0, 1), some (.getfield 168, 3), none, none, some (.iload_n 2, 1), some (.iastore, 1), some (.aload_n 0, 1), some (.dup, 1), some (.getfield 168, 3), none, none, some (.iconst 1, 1), some (.iadd, 1), some (.putfield 168, 3), none, none, some (.return_, 1)]
-- RootLoomModel.visit(I)V
def xk_115 : List (Option (Instr × Nat)) := [some (.aload_n 0, 1), some (.getfield 31, 3), none, none, some (.iload_n 1, 1), some (.iaload, 1), some (.istore_n 2, 1), some (.aload_n 0, 1), some (.getfield 28, 3), none, none, some (.iload_n 1, 1), some (.iaload, 1), some (.tableswitch 333 0 17 #[87, 101, 115, 333, 333, 333, 156, 333, 333, 333, 187, 187, 278, 333, 333, 333, 333, 307], 87), none, none, none, none, none, none, none, none, none, none, none, none, none, none, none, none, none, none, none, none, none, none, none, none, none, none, none, none, none, none, none, none, none, none, none, none, none, none, none, none, none, none, none, none, none, none, none, none, none, none, none, none, none, none, none, none, none, none, none, none, none, none, none, none, none, none, none, none, none, none, none, none, none, none, none, none, none, none, none, none, none, none, none, none, none, none, some (.aload_n 0, 1), some (.iconst 0, 1), some (.iload_n 2, 1), some (.invokevirtual 181, 3), none, none, some (.aload_n 0, 1), some (.iconst 0, 1), some (.invokevirtual 185, 3), none, none, some (.goto 291, 3), none, none, some (.aload_n 0, 1), some (.iconst 1, 1), some (.iconst 0, 1), some (.invokevirtual 181, 3), none, none, some (.aload_n 0, 1), some (.iload_n 2, 1), some (.invokevirtual 185, 3), none, none, some (.goto 277, 3), none, none, some (.aload_n 0, 1), some (.iconst 2, 1), some (.iload_n 2, 1), some (.invokevirtual 181, 3), none, none, some (.aload_n 0, 1), some (.aload_n 0, 1), some (.getfield 82, 3), none, none, some (.iload_n 2, 1), some (.iaload, 1), some (.ifCond .lt 7, 3), none, none, some (.iconst 1, 1), some (.goto 4, 3), none, none, some (.iconst 0, 1), some (.invokevirtual 188, 3), none, none, some (.aload_n 0, 1), some (.aload_n 0, 1), some (.getfield 82, 3), none, none, some (.iload_n 2, 1), some (.iaload, 1), some (.iconst 0, 1), some (.invokestatic 153, 3), none, none, some (.invokevirtual 185, 3), none, none, some (.goto 236, 3), none, none, some (.aload_n 0, 1), some (.iconst 2, 1), some (.iload_n 1, 1), some (.invokevirtual 192, 3), none, none, some (.aload_n 0, 1), some (.iconst 0, 1), some (.aload_n 0, 1), some (.getfield 37, 3), none, none, some (.iload_n 1, 1), some (.iaload, 1), some (.invokevirtual 192, 3), none, none, some (.aload_n 0, 1), some (.iconst 0, 1), some (.aload_n 0, 1), some (.getfield 34, 3), none, none, some (.iload_n 1, 1), some (.iaload, 1), some (.invokevirtual 192, 3), none, none, some (.goto 205, 3), none, none, some (.aload_n 0, 1), some (.iconst 4, 1), some (.iload_n 1, 1), some (.invokevirtual 192, 3), none, none, some (.aload_n 0, 1), some (.iconst 0, 1), some (.aload_n 0, 1), some (.getfield 37, 3), none, none, some (.iload_n 1, 1), some (.iaload, 1), some (.invokevirtual 192, 3), none, none, some (.aload_n 0, 1), some (.getfield 28, 3), none, none, some (.iload_n 1, 1), some (.iaload, 1), some (.bipush 10, 2), none, some (.if_icmp .ne 9, 3), none, none, some (.aload_n 0, 1), some (.iconst 3, 1), some (.iload_n 1, 1), some (.invokevirtual 192, 3), none, none, some (.aload_n 0, 1), some (.getfield 28, 3), none, none, some (.iload_n 1, 1), some (.iaload, 1), some (.bipush 10, 2), none, some (.if_icmp .ne 14, 3), none, none, some (.aload_n 0, 1), some (.iconst 0, 1), some (.aload_n 0, 1), some (.getfield 34, 3), none, none, some (.iload_n 1, 1), some (.iaload, 1), some (.invokevirtual 192, 3), none, none, some (.aload_n 0, 1), some (.iconst 2, 1), some (.iload_n 1, 1), some (.invokevirtual 192, 3), none, none, some (.aload_n 0, 1), some (.iconst 0, 1), some (.aload_n 0, 1), some (.getfield 28, 3), none, none, some (.iload_n 1, 1), some (.iaload, 1), some (.bipush 10, 2), none, some (.if_icmp .ne 7, 3), none, none, some (.iload_n 2, 1), some (.goto 9, 3), none, none, some (.aload_n 0, 1), some (.getfield 34, 3), none, none, some (.iload_n 1, 1), some (.iaload, 1), some (.invokevirtual 192, 3), none, none, some (.goto 114, 3), none, none, some (.aload_n 0, 1), some (.iconst 2, 1), some (.iload_n 1, 1), some (.invokevirtual 192, 3), none, none, some (.aload_n 0, 1), some (.getfield 34, 3), none, none, some (.iload_n 1, 1), some (.iaload, 1), some (.ifCond .lt 99, 3), none, none, some (.aload_n 0, 1), some (.iconst 1, 1), some (.aload_n 0, 1), some (.getfield 34, 3), none, none, some (.iload_n 1, 1), some (.iaload, 1), some (.invokevirtual 192, 3), none, none, some (.goto 85, 3), none, none, some (.aload_n 0, 1), some (.iconst 0, 1), some (.aload_n 0, 1), some (.getfield 34, 3), none, none, some (.iload_n 1, 1), some (.iaload, 1), some (.invokevirtual 192, 3), none, none, some (.aload_n 0, 1), some (.iconst 2, 1), some (.iload_n 1, 1), some (.invokevirtual 192, 3), none, none, some (.aload_n 0, 1), some (.iconst 0, 1), some (.iload_n 2, 1), some (.invokevirtual 192, 3), none, none, some (.goto 59, 3), none, none, some (.aload_n 0, 1), some (.iconst 2, 1), some (.iload_n 1, 1), some (.invokevirtual 192, 3), none, none, some (.aload_n 0, 1), some (.getfield 28, 3), none, none, some (.iload_n 1, 1), some (.iaload, 1), some (.bipush 7, 2), none, some (.if_icmp .lt 25, 3), none, none, some (.aload_n 0, 1), some (.getfield 28, 3), none, none, some (.iload_n 1, 1), some (.iaload, 1), some (.bipush 14, 2), none, some (.if_icmp .eq 14, 3), none, none, some (.aload_n 0, 1), some (.getfield 28, 3), none, none, some (.iload_n 1, 1), some (.iaload, 1), some (.bipush 15, 2), none, some (.if_icmp .ne 14, 3), none, none, some (.aload_n 0, 1), some (.iconst 0, 1), some (.aload_n 0, 1), some (.getfield 34, 3), none, none, some (.iload_n 1, 1), some (.iaload, 1), some (.invokevirtual 192, 3), none, none, some (.aload_n 0, 1), some (.iconst 0, 1), some (.iload_n 2, 1), some (.invokevirtual 192, 3), none, none, some (.return_, 1)]
-- RootLoomModel.say(II)V
def xk_116 : List (Option (Instr × Nat)) := [some (.aload_n 0, 1), some (.getfield 46, 3), none, none, some (.aload_n 0, 1), some (.getfield 171, 3), none, none, some (.iload_n 1, 1), some (.iastore, 1), some (.aload_n 0, 1), some (.getfield 49, 3), none, none, some (.aload_n 0, 1), some (.getfield 171, 3), none, none, some (.iload_n 2, 1), some (.iastore, 1), some (.aload_n 0, 1), some (.getfield 52, 3), none, none, some (.aload_n 0, 1), some (.getfield 171, 3), none, none, some (.iconst 0, 1), some (.iastore, 1), some (.aload_n 0, 1), some (.getfield 55, 3), none, none, some (.aload_n 0, 1), some (.getfield 171, 3), none, none, some (.iconst 0, 1), some (.iastore, 1), some (.aload_n 0, 1), some (.getfield 58, 3), none, none, some (.aload_n 0, 1), some (.getfield 171, 3), none, none, some (.iconst 0, 1), some (.iastore, 1), some (.aload_n 0, 1), some (.dup, 1), some (.getfield 171, 3), none, none, some (.iconst 1, 1), some (.iadd, 1), some (.putfield 171, 3), none, none, some (.return_, 1)]
-- RootLoomModel.pushType(I)V
def xk_117 : List (Option (Instr × Nat)) := [some (.aload_n 0, 1), some (.getfield 79, 3), none, none, some (.aload_n 0, 1), some (.getfield 178, 3), none, none, some (.iload_n 1, 1), some (.iastore, 1), some (.aload_n 0, 1), some (.dup, 1), some (.getfield 178, 3), none, none, some (.iconst 1, 1), some (.iadd, 1), some (.putfield 178, 3), none, none, some (.return_, 1)]
-- RootLoomModel.need(Z)V
def xk_118 : List (Option (Instr × Nat)) := [some (.aload_n 0, 1), some (.aload_n 0, 1), some (.getfield 174, 3), none, none, some (.ifCond .ne 7, 3), none, none, some (.iload_n 1, 1), some (.ifCond .ne 7, 3), none, none, some (.iconst 1, 1), some (.goto 4, 3), none, none, some (.iconst 0, 1), some (.putfield 174, 3), none, none, some (.return_, 1)]
-- RootLoomModel.behind(I)V
def xk_119 : List (Option (Instr × Nat)) := [some (.aload_n 0, 1), some (.getfield 28, 3), none, none, some (.iload_n 1, 1), some (.iaload, 1), some (.istore_n 2, 1), some (.iload_n 2, 1), some (.bipush 12, 2), none, some (.if_icmp .ne 11, 3), none, none, some (.aload_n 0, 1), some (.iload_n 1, 1), some (.invokevirtual 203, 3), none, none, some (.goto 150, 3), none, none, some (.iload_n 2, 1), some (.bipush 10, 2), none, some (.if_icmp .ne 52, 3), none, none, some (.aload_n 0, 1), some (.aload_n 0, 1), some (.invokevirtual 199, 3), none, none, some (.ifCond .ne 7, 3), none, none, some (.iconst 1, 1), some (.goto 4, 3), none, none, some (.iconst 0, 1), some (.invokevirtual 188, 3), none, none, some (.aload_n 0, 1), some (.getfield 85, 3), none, none, some (.aload_n 0, 1), some (.getfield 206, 3), none, none, some (.aload_n 0, 1), some (.getfield 171, 3), none, none, some (.iastore, 1), some (.aload_n 0, 1), some (.dup, 1), some (.getfield 206, 3), none, none, some (.iconst 1, 1), some (.iadd, 1), some (.putfield 206, 3), none, none, some (.aload_n 0, 1), some (.bipush 10, 2), none, some (.iconst 0, 1), some (.invokevirtual 181, 3), none, none, some (.goto 95, 3), none, none, some (.iload_n 2, 1), some (.bipush 11, 2), none, some (.if_icmp .ne 58, 3), none, none, some (.aload_n 0, 1), some (.invokevirtual 199, 3), none, none, some (.istore_n 3, 1), some (.aload_n 0, 1), some (.bipush 12, 2), none, some (.aload_n 0, 1), some (.getfield 31, 3), none, none, some (.iload_n 1, 1), some (.iaload, 1), some (.invokevirtual 181, 3), none, none, some (.aload_n 0, 1), some (.aload_n 0, 1), some (.getfield 82, 3), none, none, some (.aload_n 0, 1), some (.getfield 31, 3), none, none, some (.iload_n 1, 1), some (.iaload, 1), some (.iaload, 1), some (.ifCond .ge 7, 3), none, none, some (.iconst 1, 1), some (.goto 4, 3), none, none, some (.iconst 0, 1), some (.invokevirtual 188, 3), none, none, some (.aload_n 0, 1), some (.getfield 82, 3), none, none, some (.aload_n 0, 1), some (.getfield 31, 3), none, none, some (.iload_n 1, 1), some (.iaload, 1), some (.iload_n 3, 1), some (.iastore, 1), some (.goto 34, 3), none, none, some (.iload_n 2, 1), some (.bipush 7, 2), none, some (.if_icmp .lt 15, 3), none, none, some (.iload_n 2, 1), some (.bipush 14, 2), none, some (.if_icmp .eq 9, 3), none, none, some (.iload_n 2, 1), some (.bipush 15, 2), none, some (.if_icmp .ne 11, 3), none, none, some (.aload_n 0, 1), some (.iload_n 1, 1), some (.invokevirtual 209, 3), none, none, some (.goto 8, 3), none, none, some (.aload_n 0, 1), some (.iload_n 1, 1), some (.invokevirtual 212, 3), none, none, some (.return_, 1)]
-- RootLoomModel.callBehind(I)V
def xk_120 : List (Option (Instr × Nat)) := [some (.aload_n 0, 1), some (.getfield 31, 3), none, none, some (.iload_n 1, 1), some (.iaload, 1), some (.istore_n 2, 1), some (.iconst 0, 1), some (.istore_n 3, 1), some (.aload_n 0, 1), some (.getfield 34, 3), none, none, some (.iload_n 1, 1), some (.iaload, 1), some (.istore 4, 2), none, some (.iload 4, 2), none, some (.ifCond .lt 18, 3), none, none, some (.iinc 3 1, 3), none, none, some (.aload_n 0, 1), some (.getfield 34, 3), none, none, some (.iload 4, 2), none, some (.iaload, 1), some (.istore 4, 2), none, some (.goto (-17), 3), none, none, some (.aload_n 0, 1), some (.aload_n 0, 1), some (.getfield 25, 3), none, none, some (.iload_n 2, 1), some (.iaload, 1), some (.ifCond .lt 17, 3), none, none, some (.iload_n 3, 1), some (.aload_n 0, 1), some (.getfield 19, 3), none, none, some (.iload_n 2, 1), some (.iaload, 1), some (.if_icmp .ne 7, 3), none, none, some (.iconst 1, 1), some (.goto 4, 3), none, none, some (.iconst 0, 1), some (.invokevirtual 188, 3), none, none, some (.aload_n 0, 1), some (.bipush 13, 2), none, some (.iload_n 2, 1), some (.iload_n 3, 1), some (.invokevirtual 195, 3), none, none, some (.iload_n 3, 1), some (.iconst 1, 1), some (.isub, 1), some (.istore 4, 2), none, some (.iload 4, 2), none, some (.ifCond .lt 46, 3), none, none, some (.aload_n 0, 1), some (.invokevirtual 199, 3), none, none, some (.istore 5, 2), none, some (.aload_n 0, 1), some (.iload 4, 2), none, some (.iconst 2, 1), some (.if_icmp .gt 19, 3), none, none, some (.iload 5, 2), none, some (.aload_n 0, 1), some (.getfield 22, 3), none, none, some (.iconst 3, 1), some (.iload_n 2, 1), some (.imul, 1), some (.iload 4, 2), none, some (.iadd, 1), some (.iaload, 1), some (.if_icmp .ne 7, 3), none, none, some (.iconst 1, 1), some (.goto 4, 3), none, none, some (.iconst 0, 1), some (.invokevirtual 188, 3), none, none, some (.iinc 4 (-1), 3), none, none, some (.goto (-45), 3), none, none, some (.aload_n 0, 1), some (.aload_n 0, 1), some (.getfield 16, 3), none, none, some (.iload_n 2, 1), some (.iaload, 1), some (.invokevirtual 185, 3), none, none, some (.return_, 1)]
-- RootLoomModel.sayMapped(III)V
def xk_121 : List (Option (Instr × Nat)) := [some (.aload_n 0, 1), some (.iload_n 1, 1), some (.iload_n 2, 1), some (.invokevirtual 181, 3), none, none, some (.aload_n 0, 1), some (.getfield 52, 3), none, none, some (.aload_n 0, 1), some (.getfield 171, 3), none, none, some (.iconst 1, 1), some (.isub, 1), some (.iload_n 3, 1), some (.iastore, 1), some (.iconst 0, 1), some (.istore 4, 2), none, some (.iload 4, 2), none, some (.bipush 8, 2), none, some (.if_icmp .ge 41, 3), none, none, some (.aload_n 0, 1), some (.getfield 55, 3), none, none, some (.aload_n 0, 1), some (.getfield 171, 3), none, none, some (.iconst 1, 1), some (.isub, 1), some (.dup2, 1), some (.iaload, 1), some (.aload_n 0, 1), some (.getfield 82, 3), none, none, some (.iload 4, 2), none, some (.iaload, 1), some (.ifCond .le 10, 3), none, none, some (.iconst 1, 1), some (.iload 4, 2), none, some (.ishl, 1), some (.goto 4, 3), none, none, some (.iconst 0, 1), some (.ior, 1), some (.iastore, 1), some (.iinc 4 1, 3), none, none, some (.goto (-42), 3), none, none, some (.iconst 0, 1), some (.istore 4, 2), none, some (.iload 4, 2), none, some (.aload_n 0, 1), some (.getfield 178, 3), none, none, some (.if_icmp .ge 41, 3), none, none, some (.aload_n 0, 1), some (.getfield 58, 3), none, none, some (.aload_n 0, 1), some (.getfield 171, 3), none, none, some (.iconst 1, 1), some (.isub, 1), some (.dup2, 1), some (.iaload, 1), some (.aload_n 0, 1), some (.getfield 79, 3), none, none, some (.iload 4, 2), none, some (.iaload, 1), some (.ifCond .le 10, 3), none, none, some (.iconst 1, 1), some (.iload 4, 2), none, some (.ishl, 1), some (.goto 4, 3), none, none, some (.iconst 0, 1), some (.ior, 1), some (.iastore, 1), some (.iinc 4 1, 3), none, none, some (.goto (-44), 3), none, none, some (.return_, 1)]
-- RootLoomModel.popType()I
def xk_122 : List (Option (Instr × Nat)) := [some (.aload_n 0, 1), some (.dup, 1), some (.getfield 178, 3), none, none, some (.iconst 1, 1), some (.isub, 1), some (.putfield 178, 3), none, none, some (.aload_n 0, 1), some (.getfield 79, 3), none, none, some (.aload_n 0, 1), some (.getfield 178, 3), none, none, some (.iaload, 1), some (.ireturn, 1)]
-- RootLoomModel.twoBehind(I)V
def xk_123 : List (Option (Instr × Nat)) := [some (.aload_n 0, 1), some (.getfield 28, 3), none, none, some (.iload_n 1, 1), some (.iaload, 1), some (.istore_n 2, 1), some (.iload_n 2, 1), some (.bipush 6, 2), none, some (.if_icmp .ne 19, 3), none, none, some (.aload_n 0, 1), some (.bipush 6, 2), none, some (.aload_n 0, 1), some (.getfield 31, 3), none, none, some (.iload_n 1, 1), some (.iaload, 1), some (.iconst 2, 1), some (.invokevirtual 195, 3), none, none, some (.goto 31, 3), none, none, some (.aload_n 0, 1), some (.iload_n 2, 1), some (.bipush 6, 2), none, some (.if_icmp .ge 7, 3), none, none, some (.iload_n 2, 1), some (.goto 16, 3), none, none, some (.iload_n 2, 1), some (.bipush 14, 2), none, some (.if_icmp .ne 8, 3), none, none, some (.bipush 15, 2), none, some (.goto 5, 3), none, none, some (.bipush 16, 2), none, some (.iconst 0, 1), some (.invokevirtual 181, 3), none, none, some (.aload_n 0, 1), some (.invokevirtual 199, 3), none, none, some (.istore_n 3, 1), some (.aload_n 0, 1), some (.invokevirtual 199, 3), none, none, some (.istore 4, 2), none, some (.iload_n 2, 1), some (.bipush 6, 2), none, some (.if_icmp .ne 56, 3), none, none, some (.aload_n 0, 1), some (.iload 4, 2), none, some (.aload_n 0, 1), some (.getfield 7, 3), none, none, some (.aload_n 0, 1), some (.getfield 31, 3), none, none, some (.iload_n 1, 1), some (.iaload, 1), some (.iaload, 1), some (.if_icmp .ne 22, 3), none, none, some (.iload_n 3, 1), some (.aload_n 0, 1), some (.getfield 13, 3), none, none, some (.aload_n 0, 1), some (.getfield 31, 3), none, none, some (.iload_n 1, 1), some (.iaload, 1), some (.iaload, 1), some (.if_icmp .ne 7, 3), none, none, some (.iconst 1, 1), some (.goto 4, 3), none, none, some (.iconst 0, 1), some (.invokevirtual 188, 3), none, none, some (.aload_n 0, 1), some (.aload_n 0, 1), some (.getfield 31, 3), none, none, some (.iload_n 1, 1), some (.iaload, 1), some (.invokevirtual 185, 3), none, none, some (.goto 81, 3), none, none, some (.iload_n 2, 1), some (.bipush 6, 2), none, some (.if_icmp .ge 29, 3), none, none, some (.aload_n 0, 1), some (.iload 4, 2), none, some (.ifCond .ne 11, 3), none, none, some (.iload_n 3, 1), some (.ifCond .ne 7, 3), none, none, some (.iconst 1, 1), some (.goto 4, 3), none, none, some (.iconst 0, 1), some (.invokevirtual 188, 3), none, none, some (.aload_n 0, 1), some (.iconst 0, 1), some (.invokevirtual 185, 3), none, none, some (.goto 49, 3), none, none, some (.aload_n 0, 1), some (.iload 4, 2), none, some (.ifCond .le 34, 3), none, none, some (.iload_n 3, 1), some (.iload_n 2, 1), some (.bipush 14, 2), none, some (.if_icmp .ne 13, 3), none, none, some (.aload_n 0, 1), some (.getfield 7, 3), none, none, some (.iload 4, 2), none, some (.iaload, 1), some (.goto 10, 3), none, none, some (.aload_n 0, 1), some (.getfield 13, 3), none, none, some (.iload 4, 2), none, some (.iaload, 1), some (.if_icmp .ne 7, 3), none, none, some (.iconst 1, 1), some (.goto 4, 3), none, none, some (.iconst 0, 1), some (.invokevirtual 188, 3), none, none, some (.aload_n 0, 1), some (.iload_n 3, 1), some (.invokevirtual 185, 3), none, none, some (.return_, 1)]
-- RootLoomModel.oneBehind(I)V
def xk_124 : List (Option (Instr × Nat)) := [some (.aload_n 0, 1), some (.getfield 28, 3), none, none, some (.iload_n 1, 1), some (.iaload, 1), some (.istore_n 2, 1), some (.aload_n 0, 1), some (.invokevirtual 199, 3), none, none, some (.istore_n 3, 1), some (.iload_n 2, 1), some (.bipush 16, 2), none, some (.if_icmp .ne 31, 3), none, none, some (.aload_n 0, 1), some (.bipush 17, 2), none, some (.iconst 0, 1), some (.invokevirtual 181, 3), none, none, some (.aload_n 0, 1), some (.iload_n 3, 1), some (.ifCond .ne 7, 3), none, none, some (.iconst 1, 1), some (.goto 4, 3), none, none, some (.iconst 0, 1), some (.invokevirtual 188, 3), none, none, some (.aload_n 0, 1), some (.iconst 0, 1), some (.invokevirtual 185, 3), none, none, some (.goto 73, 3), none, none, some (.iload_n 2, 1), some (.bipush 17, 2), none, some (.if_icmp .ne 13, 3), none, none, some (.aload_n 0, 1), some (.bipush 18, 2), none, some (.iconst 0, 1), some (.invokevirtual 181, 3), none, none, some (.goto 57, 3), none, none, some (.aload_n 0, 1), some (.iload_n 2, 1), some (.iconst 0, 1), some (.invokevirtual 181, 3), none, none, some (.aload_n 0, 1), some (.iload_n 3, 1), some (.ifCond .le 7, 3), none, none, some (.iconst 1, 1), some (.goto 4, 3), none, none, some (.iconst 0, 1), some (.invokevirtual 188, 3), none, none, some (.aload_n 0, 1), some (.iload_n 2, 1), some (.bipush 9, 2), none, some (.if_icmp .ne 7, 3), none, none, some (.iconst 0, 1), some (.goto 24, 3), none, none, some (.iload_n 2, 1), some (.bipush 7, 2), none, some (.if_icmp .ne 12, 3), none, none, some (.aload_n 0, 1), some (.getfield 7, 3), none, none, some (.iload_n 3, 1), some (.iaload, 1), some (.goto 9, 3), none, none, some (.aload_n 0, 1), some (.getfield 13, 3), none, none, some (.iload_n 3, 1), some (.iaload, 1), some (.invokevirtual 185, 3), none, none, some (.return_, 1)]
-- RootLoomModel.second(I)V
def xk_125 : List (Option (Instr × Nat)) := [some (.aload_n 0, 1), some (.getfield 171, 3), none, none, some (.istore_n 2, 1), some (.aload_n 0, 1), some (.bipush 11, 2), none, some (.iconst 0, 1), some (.invokevirtual 181, 3), none, none, some (.aload_n 0, 1), some (.getfield 49, 3), none, none, some (.aload_n 0, 1), some (.getfield 85, 3), none, none, some (.aload_n 0, 1), some (.getfield 206, 3), none, none, some (.iconst 1, 1), some (.isub, 1), some (.iaload, 1), some (.aload_n 0, 1), some (.getfield 171, 3), none, none, some (.iastore, 1), some (.aload_n 0, 1), some (.getfield 85, 3), none, none, some (.aload_n 0, 1), some (.getfield 206, 3), none, none, some (.iconst 1, 1), some (.isub, 1), some (.iload_n 2, 1), some (.iastore, 1), some (.aload_n 0, 1), some (.getfield 88, 3), none, none, some (.aload_n 0, 1), some (.getfield 206, 3), none, none, some (.iconst 1, 1), some (.isub, 1), some (.aload_n 0, 1), some (.invokevirtual 199, 3), none, none, some (.iastore, 1), some (.return_, 1)]
-- RootLoomModel.last(I)V
def xk_126 : List (Option (Instr × Nat)) := [some (.aload_n 0, 1), some (.getfield 28, 3), none, none, some (.iload_n 1, 1), some (.iaload, 1), some (.bipush 11, 2), none, some (.if_icmp .ne 16, 3), none, none, some (.aload_n 0, 1), some (.getfield 82, 3), none, none, some (.aload_n 0, 1), some (.getfield 31, 3), none, none, some (.iload_n 1, 1), some (.iaload, 1), some (.iconst (-1), 1), some (.iastore, 1), some (.return_, 1), some (.aload_n 0, 1), some (.dup, 1), some (.getfield 206, 3), none, none, some (.iconst 1, 1), some (.isub, 1), some (.putfield 206, 3), none, none, some (.aload_n 0, 1), some (.getfield 49, 3), none, none, some (.aload_n 0, 1), some (.getfield 85, 3), none, none, some (.aload_n 0, 1), some (.getfield 206, 3), none, none, some (.iaload, 1), some (.aload_n 0, 1), some (.getfield 171, 3), none, none, some (.iastore, 1), some (.aload_n 0, 1), some (.aload_n 0, 1), some (.getfield 79, 3), none, none, some (.aload_n 0, 1), some (.getfield 178, 3), none, none, some (.iconst 1, 1), some (.isub, 1), some (.iaload, 1), some (.aload_n 0, 1), some (.getfield 88, 3), none, none, some (.aload_n 0, 1), some (.getfield 206, 3), none, none, some (.iaload, 1), some (.if_icmp .ne 7, 3), none, none, some (.iconst 1, 1), some (.goto 4, 3), none, none, some (.iconst 0, 1), some (.invokevirtual 188, 3), none, none, some (.return_, 1)]
-- RootLoomModel.seeWhatMatters()V
def xk_127 : List (Option (Instr × Nat)) := [some (.aload_n 0, 1), some (.getfield 61, 3), none, none, some (.aload_n 0, 1), some (.getfield 171, 3), none, none, some (.iconst 0, 1), some (.iastore, 1), some (.aload_n 0, 1), some (.getfield 171, 3), none, none, some (.iconst 1, 1), some (.isub, 1), some (.istore_n 1, 1), some (.iload_n 1, 1), some (.ifCond .lt 149, 3), none, none, some (.aload_n 0, 1), some (.getfield 46, 3), none, none, some (.iload_n 1, 1), some (.iaload, 1), some (.bipush 14, 2), none, some (.if_icmp .ne 7, 3), none, none, some (.iconst 0, 1), some (.goto 36, 3), none, none, some (.aload_n 0, 1), some (.getfield 46, 3), none, none, some (.iload_n 1, 1), some (.iaload, 1), some (.bipush 11, 2), none, some (.if_icmp .ne 17, 3), none, none, some (.aload_n 0, 1), some (.getfield 61, 3), none, none, some (.aload_n 0, 1), some (.getfield 49, 3), none, none, some (.iload_n 1, 1), some (.iaload, 1), some (.iaload, 1), some (.goto 11, 3), none, none, some (.aload_n 0, 1), some (.getfield 61, 3), none, none, some (.iload_n 1, 1), some (.iconst 1, 1), some (.iadd, 1), some (.iaload, 1), some (.istore_n 2, 1), some (.aload_n 0, 1), some (.getfield 46, 3), none, none, some (.iload_n 1, 1), some (.iaload, 1), some (.bipush 10, 2), none, some (.if_icmp .ne 17, 3), none, none, some (.iload_n 2, 1), some (.aload_n 0, 1), some (.getfield 61, 3), none, none, some (.aload_n 0, 1), some (.getfield 49, 3), none, none, some (.iload_n 1, 1), some (.iaload, 1), some (.iaload, 1), some (.ior, 1), some (.istore_n 2, 1), some (.aload_n 0, 1), some (.getfield 55, 3), none, none, some (.iload_n 1, 1), some (.aload_n 0, 1), some (.getfield 55, 3), none, none, some (.iload_n 1, 1), some (.iaload, 1), some (.iload_n 2, 1), some (.iand, 1), some (.iastore, 1), some (.aload_n 0, 1), some (.getfield 46, 3), none, none, some (.iload_n 1, 1), some (.iaload, 1), some (.iconst 2, 1), some (.if_icmp .ne 14, 3), none, none, some (.iload_n 2, 1), some (.iconst 1, 1), some (.aload_n 0, 1), some (.getfield 49, 3), none, none, some (.iload_n 1, 1), some (.iaload, 1), some (.ishl, 1), some (.ior, 1), some (.istore_n 2, 1), some (.aload_n 0, 1), some (.getfield 46, 3), none, none, some (.iload_n 1, 1), some (.iaload, 1), some (.bipush 12, 2), none, some (.if_icmp .ne 16, 3), none, none, some (.iload_n 2, 1), some (.iconst 1, 1), some (.aload_n 0, 1), some (.getfield 49, 3), none, none, some (.iload_n 1, 1), some (.iaload, 1), some (.ishl, 1), some (.iconst (-1), 1), some (.ixor, 1), some (.iand, 1), some (.istore_n 2, 1), some (.aload_n 0, 1), some (.getfield 61, 3), none, none, some (.iload_n 1, 1), some (.iload_n 2, 1), some (.iastore, 1), some (.iinc 1 (-1), 3), none, none, some (.goto (-147), 3), none, none, some (.return_, 1)]
-- RootLoomModel.laid(I)I
def xk_128 : List (Option (Instr × Nat)) := [some (.aload_n 0, 1), some (.iconst 0, 1), some (.putfield 129, 3), none, none, some (.aload_n 0, 1), some (.getfield 230, 3), none, none, some (.ifCond .eq 12, 3), none, none, some (.iload_n 1, 1), some (.iconst 0, 1), some (.iconst 2, 1), some (.invokestatic 132, 3), none, none, some (.ifCond .ne 5, 3), none, none, some (.iconst (-1), 1), some (.ireturn, 1), some (.iconst 0, 1), some (.istore_n 2, 1), some (.iconst 0, 1), some (.istore_n 3, 1), some (.iload_n 3, 1), some (.aload_n 0, 1), some (.getfield 171, 3), none, none, some (.if_icmp .ge 25, 3), none, none, some (.iload_n 2, 1), some (.aload_n 0, 1), some (.iload_n 3, 1), some (.invokevirtual 243, 3), none, none, some (.ifCond .eq 7, 3), none, none, some (.iconst 1, 1), some (.goto 4, 3), none, none, some (.iconst 0, 1), some (.iadd, 1), some (.istore_n 2, 1), some (.iinc 3 1, 3), none, none, some (.goto (-27), 3), none, none, some (.iload_n 1, 1), some (.ifCond .ne 10, 3), none, none, some (.aload_n 0, 1), some (.getfield 171, 3), none, none, some (.goto 16, 3), none, none, some (.iload_n 1, 1), some (.iconst 1, 1), some (.if_icmp .ne 7, 3), none, none, some (.iload_n 2, 1), some (.goto 7, 3), none, none, some (.aload_n 0, 1), some (.getfield 165, 3), none, none, some (.ireturn, 1)]
-- RootLoomModel.isMapped(I)Z
def xk_129 : List (Option (Instr × Nat)) := [some (.aload_n 0, 1), some (.getfield 46, 3), none, none, some (.iload_n 1, 1), some (.iaload, 1), some (.bipush 6, 2), none, some (.if_icmp .eq 14, 3), none, none, some (.aload_n 0, 1), some (.getfield 46, 3), none, none, some (.iload_n 1, 1), some (.iaload, 1), some (.bipush 13, 2), none, some (.if_icmp .ne 7, 3), none, none, some (.iconst 1, 1), some (.goto 4, 3), none, none, some (.iconst 0, 1), some (.ireturn, 1)]
-- RootLoomModel.instruction(II)I
def xk_130 : List (Option (Instr × Nat)) := [some (.aload_n 0, 1), some (.aload_n 0, 1), some (.iload_n 1, 1), some (.invokevirtual 246, 3), none, none, some (.ifCond .ne 7, 3), none, none, some (.iconst 1, 1), some (.goto 17, 3), none, none, some (.iload_n 2, 1), some (.ifCond .eq 12, 3), none, none, some (.iload_n 2, 1), some (.iconst 1, 1), some (.if_icmp .eq 7, 3), none, none, some (.iconst 2, 1), some (.goto 4, 3), none, none, some (.iconst 0, 1), some (.putfield 129, 3), none, none, some (.aload_n 0, 1), some (.getfield 129, 3), none, none, some (.ifCond .le 5, 3), none, none, some (.iconst 0, 1), some (.ireturn, 1), some (.iload_n 2, 1), some (.ifCond .ne 12, 3), none, none, some (.aload_n 0, 1), some (.getfield 46, 3), none, none, some (.iload_n 1, 1), some (.iaload, 1), some (.goto 9, 3), none, none, some (.aload_n 0, 1), some (.getfield 49, 3), none, none, some (.iload_n 1, 1), some (.iaload, 1), some (.ireturn, 1)]
-- RootLoomModel.isThere(I)Z
def xk_131 : List (Option (Instr × Nat)) := [some (.aload_n 0, 1), some (.getfield 230, 3), none, none, some (.ifCond .eq 21, 3), none, none, some (.iload_n 1, 1), some (.iconst 0, 1), some (.aload_n 0, 1), some (.getfield 171, 3), none, none, some (.iconst 1, 1), some (.isub, 1), some (.invokestatic 132, 3), none, none, some (.ifCond .eq 7, 3), none, none, some (.iconst 1, 1), some (.goto 4, 3), none, none, some (.iconst 0, 1), some (.ireturn, 1)]
-- RootLoomModel.entry(I)I
def xk_132 : List (Option (Instr × Nat)) := [some (.aload_n 0, 1), some (.iconst 0, 1), some (.putfield 129, 3), none, none, some (.aload_n 0, 1), some (.getfield 230, 3), none, none, some (.ifCond .eq 21, 3), none, none, some (.iload_n 1, 1), some (.iconst 0, 1), some (.iconst 5, 1), some (.invokestatic 132, 3), none, none, some (.ifCond .eq 12, 3), none, none, some (.aload_n 0, 1), some (.getfield 64, 3), none, none, some (.iload_n 1, 1), some (.iaload, 1), some (.goto 4, 3), none, none, some (.iconst (-1), 1), some (.ireturn, 1)]
-- RootLoomModel.map(II)I
def xk_133 : List (Option (Instr × Nat)) := [some (.aload_n 0, 1), some (.iconst 0, 1), some (.putfield 129, 3), none, none, some (.aload_n 0, 1), some (.iload_n 1, 1), some (.invokevirtual 246, 3), none, none, some (.ifCond .eq 20, 3), none, none, some (.aload_n 0, 1), some (.iload_n 1, 1), some (.invokevirtual 243, 3), none, none, some (.ifCond .eq 12, 3), none, none, some (.iload_n 2, 1), some (.ifCond .eq 10, 3), none, none, some (.iload_n 2, 1), some (.iconst 1, 1), some (.if_icmp .eq 5, 3), none, none, some (.iconst (-1), 1), some (.ireturn, 1), some (.iload_n 2, 1), some (.ifCond .ne 12, 3), none, none, some (.aload_n 0, 1), some (.getfield 55, 3), none, none, some (.iload_n 1, 1), some (.iaload, 1), some (.goto 9, 3), none, none, some (.aload_n 0, 1), some (.getfield 58, 3), none, none, some (.iload_n 1, 1), some (.iaload, 1), some (.ireturn, 1)]
-- RootLoomModel.heap(I)Z
def xk_134 : List (Option (Instr × Nat)) := [some (.aload_n 0, 1), some (.iconst 0, 1), some (.putfield 129, 3), none, none, some (.iload_n 1, 1), some (.iconst 3, 1), some (.sipush 600, 3), none, none, some (.invokestatic 132, 3), none, none, some (.ifCond .ne 5, 3), none, none, some (.iconst 0, 1), some (.ireturn, 1), some (.aload_n 0, 1), some (.iload_n 1, 1), some (.putfield 91, 3), none, none, some (.iconst 1, 1), some (.ireturn, 1)]
-- RootLoomModel.force(I)Z
def xk_135 : List (Option (Instr × Nat)) := [some (.aload_n 0, 1), some (.iconst 0, 1), some (.putfield 129, 3), none, none, some (.iload_n 1, 1), some (.ifCond .ge 5, 3), none, none, some (.iconst 0, 1), some (.ireturn, 1), some (.aload_n 0, 1), some (.iload_n 1, 1), some (.putfield 249, 3), none, none, some (.iconst 1, 1), some (.ireturn, 1)]
-- RootLoomModel.run(IIII)I
def xk_136 : List (Option (Instr × Nat)) := [some (.aload_n 0, 1), some (.iconst 0, 1), some (.putfield 129, 3), none, none, some (.aload_n 0, 1), some (.getfield 230, 3), none, none, some (.ifCond .eq 25, 3), none, none, some (.iload_n 1, 1), some (.iconst 0, 1), some (.iconst 5, 1), some (.invokestatic 132, 3), none, none, some (.ifCond .eq 16, 3), none, none, some (.aload_n 0, 1), some (.getfield 64, 3), none, none, some (.iload_n 1, 1), some (.iaload, 1), some (.ifCond .lt 7, 3), none, none, some (.iconst 1, 1), some (.goto 4, 3), none, none, some (.iconst 0, 1), some (.istore 5, 2), none, some (.iconst 0, 1), some (.istore 6, 2), none, some (.iload 5, 2), none, some (.ifCond .eq 41, 3), none, none, some (.iload 6, 2), none, some (.aload_n 0, 1), some (.getfield 19, 3), none, none, some (.iload_n 1, 1), some (.iaload, 1), some (.if_icmp .ge 30, 3), none, none, some (.aload_n 0, 1), some (.getfield 22, 3), none, none, some (.iconst 3, 1), some (.iload_n 1, 1), some (.imul, 1), some (.iload 6, 2), none, some (.iadd, 1), some (.iaload, 1), some (.ifCond .ne 7, 3), none, none, some (.iconst 1, 1), some (.goto 4, 3), none, none, some (.iconst 0, 1), some (.istore 5, 2), none, some (.iinc 6 1, 3), none, none, some (.goto (-40), 3), none, none, some (.iload 5, 2), none, some (.ifCond .ne 5, 3), none, none, some (.iconst (-1), 1), some (.ireturn, 1), some (.aload_n 0, 1), some (.iconst 0, 1), some (.putfield 227, 3), none, none, some (.aload_n 0, 1), some (.iconst 0, 1), some (.putfield 316, 3), none, none, some (.aload_n 0, 1), some (.iconst 0, 1), some (.putfield 258, 3), none, none, some (.aload_n 0, 1), some (.iconst 0, 1), some (.putfield 273, 3), none, none, some (.aload_n 0, 1), some (.iconst 0, 1), some (.putfield 301, 3), none, none, some (.aload_n 0, 1), some (.iconst 0, 1), some (.putfield 270, 3), none, none, some (.iconst 0, 1), some (.istore 6, 2), none, some (.iload 6, 2), none, some (.sipush 200, 3), none, none, some (.if_icmp .ge 17, 3), none, none, some (.aload_n 0, 1), some (.getfield 98, 3), none, none, some (.iload 6, 2), none, some (.iconst 0, 1), some (.bastore, 1), some (.iinc 6 1, 3), none, none, some (.goto (-19), 3), none, none, some (.aload_n 0, 1), some (.iconst 0, 1), some (.putfield 261, 3), none, none, some (.aload_n 0, 1), some (.iconst 1, 1), some (.putfield 295, 3), none, none, some (.aload_n 0, 1), some (.iconst 0, 1), some (.putfield 276, 3), none, none, some (.aload_n 0, 1), some (.getfield 120, 3), none, none, some (.iconst 0, 1), some (.iconst 0, 1), some (.iastore, 1), some (.iconst 0, 1), some (.istore 6, 2), none, some (.iload 6, 2), none, some (.bipush 8, 2), none, some (.if_icmp .ge 17, 3), none, none, some (.aload_n 0, 1), some (.getfield 123, 3), none, none, some (.iload 6, 2), none, some (.iconst 0, 1), some (.iastore, 1), some (.iinc 6 1, 3), none, none, some (.goto (-18), 3), none, none, some (.aload_n 0, 1), some (.getfield 123, 3), none, none, some (.iconst 0, 1), some (.iload_n 2, 1), some (.iastore, 1), some (.aload_n 0, 1), some (.getfield 123, 3), none, none, some (.iconst 1, 1), some (.iload_n 3, 1), some (.iastore, 1), some (.aload_n 0, 1), some (.getfield 123, 3), none, none, some (.iconst 2, 1), some (.iload 4, 2), none, some (.iastore, 1), some (.aload_n 0, 1), some (.aload_n 0, 1), some (.getfield 16, 3), none, none, some (.iload_n 1, 1), some (.iaload, 1), some (.putfield 328, 3), none, none, some (.aload_n 0, 1), some (.aload_n 0, 1), some (.getfield 64, 3), none, none, some (.iload_n 1, 1), some (.iaload, 1), some (.putfield 264, 3), none, none, some (.aload_n 0, 1), some (.invokevirtual 331, 3), none, none, some (.aload_n 0, 1), some (.getfield 227, 3), none, none, some (.ireturn, 1)]
-- RootLoomModel.go()V
def xk_137 : List (Option (Instr × Nat)) := [some (.aload_n 0, 1), some (.getfield 227, 3), none, none, some (.ifCond .ne 114, 3), none, none, some (.aload_n 0, 1), some (.getfield 316, 3), none, none, some (.sipush 6000, 3), none, none, some (.if_icmp .ne 9, 3), none, none, some (.aload_n 0, 1), some (.iconst 5, 1), some (.putfield 227, 3), none, none, some (.return_, 1), some (.aload_n 0, 1), some (.dup, 1), some (.getfield 316, 3), none, none, some (.iconst 1, 1), some (.iadd, 1), some (.putfield 316, 3), none, none, some (.aload_n 0, 1), some (.getfield 46, 3), none, none, some (.aload_n 0, 1), some (.getfield 264, 3), none, none, some (.iaload, 1), some (.bipush 13, 2), none, some (.if_icmp .ne 28, 3), none, none, some (.aload_n 0, 1), some (.aload_n 0, 1), some (.getfield 49, 3), none, none, some (.aload_n 0, 1), some (.getfield 264, 3), none, none, some (.iaload, 1), some (.aload_n 0, 1), some (.getfield 52, 3), none, none, some (.aload_n 0, 1), some (.getfield 264, 3), none, none, some (.iaload, 1), some (.invokevirtual 319, 3), none, none, some (.goto (-69), 3), none, none, some (.aload_n 0, 1), some (.getfield 46, 3), none, none, some (.aload_n 0, 1), some (.getfield 264, 3), none, none, some (.iaload, 1), some (.bipush 14, 2), none, some (.if_icmp .ne 10, 3), none, none, some (.aload_n 0, 1), some (.invokevirtual 322, 3), none, none, some (.goto (-90), 3), none, none, some (.aload_n 0, 1), some (.aload_n 0, 1), some (.getfield 46, 3), none, none, some (.aload_n 0, 1), some (.getfield 264, 3), none, none, some (.iaload, 1), some (.aload_n 0, 1), some (.getfield 49, 3), none, none, some (.aload_n 0, 1), some (.getfield 264, 3), none, none, some (.iaload, 1), some (.invokevirtual 325, 3), none, none, some (.goto (-115), 3), none, none, some (.return_, 1)]
-- RootLoomModel.call(II)V
def xk_138 : List (Option (Instr × Nat)) := [some (.aload_n 0, 1), some (.iconst 1, 1), some (.invokevirtual 282, 3), none, none, some (.ifCond .eq 7, 3), none, none, some (.aload_n 0, 1), some (.invokevirtual 286, 3), none, none, some (.aload_n 0, 1), some (.getfield 261, 3), none, none, some (.iconst 1, 1), some (.iadd, 1), some (.bipush 24, 2), none, some (.if_icmp .ne 9, 3), none, none, some (.aload_n 0, 1), some (.iconst 4, 1), some (.putfield 227, 3), none, none, some (.return_, 1), some (.aload_n 0, 1), some (.getfield 261, 3), none, none, some (.istore_n 3, 1), some (.aload_n 0, 1), some (.getfield 120, 3), none, none, some (.iload_n 3, 1), some (.dup2, 1), some (.iaload, 1), some (.iload_n 2, 1), some (.isub, 1), some (.iastore, 1), some (.aload_n 0, 1), some (.dup, 1), some (.getfield 261, 3), none, none, some (.iconst 1, 1), some (.iadd, 1), some (.putfield 261, 3), none, none, some (.aload_n 0, 1), some (.aload_n 0, 1), some (.getfield 295, 3), none, none, some (.aload_n 0, 1), some (.getfield 261, 3), none, none, some (.iconst 1, 1), some (.iadd, 1), some (.invokestatic 153, 3), none, none, some (.putfield 295, 3), none, none, some (.iconst 0, 1), some (.istore 4, 2), none, some (.iload 4, 2), none, some (.bipush 8, 2), none, some (.if_icmp .ge 53, 3), none, none, some (.aload_n 0, 1), some (.getfield 123, 3), none, none, some (.bipush 8, 2), none, some (.aload_n 0, 1), some (.getfield 261, 3), none, none, some (.imul, 1), some (.iload 4, 2), none, some (.iadd, 1), some (.iload 4, 2), none, some (.iload_n 2, 1), some (.if_icmp .ge 25, 3), none, none, some (.aload_n 0, 1), some (.getfield 126, 3), none, none, some (.bipush 16, 2), none, some (.iload_n 3, 1), some (.imul, 1), some (.aload_n 0, 1), some (.getfield 120, 3), none, none, some (.iload_n 3, 1), some (.iaload, 1), some (.iadd, 1), some (.iload 4, 2), none, some (.iadd, 1), some (.iaload, 1), some (.goto 4, 3), none, none, some (.iconst 0, 1), some (.iastore, 1), some (.iinc 4 1, 3), none, none, some (.goto (-54), 3), none, none, some (.aload_n 0, 1), some (.getfield 120, 3), none, none, some (.aload_n 0, 1), some (.getfield 261, 3), none, none, some (.iconst 0, 1), some (.iastore, 1), some (.aload_n 0, 1), some (.getfield 117, 3), none, none, some (.aload_n 0, 1), some (.getfield 261, 3), none, none, some (.aload_n 0, 1), some (.getfield 264, 3), none, none, some (.iconst 1, 1), some (.iadd, 1), some (.iastore, 1), some (.aload_n 0, 1), some (.aload_n 0, 1), some (.getfield 64, 3), none, none, some (.iload_n 1, 1), some (.iaload, 1), some (.putfield 264, 3), none, none, some (.return_, 1)]
-- RootLoomModel.isDue(Z)Z
def xk_139 : List (Option (Instr × Nat)) := [some (.aload_n 0, 1), some (.dup, 1), some (.getfield 276, 3), none, none, some (.iconst 1, 1), some (.iadd, 1), some (.putfield 276, 3), none, none, some (.aload_n 0, 1), some (.getfield 249, 3), none, none, some (.ifCond .le 15, 3), none, none, some (.aload_n 0, 1), some (.getfield 276, 3), none, none, some (.aload_n 0, 1), some (.getfield 249, 3), none, none, some (.irem, 1), some (.ifCond .eq 7, 3), none, none, some (.iload_n 1, 1), some (.ifCond .ne 7, 3), none, none, some (.iconst 1, 1), some (.goto 4, 3), none, none, some (.iconst 0, 1), some (.ireturn, 1)]
-- RootLoomModel.collect()V
def xk_140 : List (Option (Instr × Nat)) := [some (.aload_n 0, 1), some (.dup, 1), some (.getfield 258, 3), none, none, some (.iconst 1, 1), some (.iadd, 1), some (.putfield 258, 3), none, none, some (.iconst 0, 1), some (.istore_n 1, 1), some (.iload_n 1, 1), some (.sipush 200, 3), none, none, some (.if_icmp .ge 16, 3), none, none, some (.aload_n 0, 1), some (.getfield 111, 3), none, none, some (.iload_n 1, 1), some (.iconst 0, 1), some (.bastore, 1), some (.iinc 1 1, 3), none, none, some (.goto (-17), 3), none, none, some (.aload_n 0, 1), some (.iconst 0, 1), some (.putfield 252, 3), none, none, some (.iconst 0, 1), some (.istore_n 1, 1), some (.iload_n 1, 1), some (.aload_n 0, 1), some (.getfield 261, 3), none, none, some (.if_icmp .gt 52, 3), none, none, some (.iload_n 1, 1), some (.aload_n 0, 1), some (.getfield 261, 3), none, none, some (.if_icmp .ne 10, 3), none, none, some (.aload_n 0, 1), some (.getfield 264, 3), none, none, some (.goto 13, 3), none, none, some (.aload_n 0, 1), some (.getfield 117, 3), none, none, some (.iload_n 1, 1), some (.iconst 1, 1), some (.iadd, 1), some (.iaload, 1), some (.iconst 1, 1), some (.isub, 1), some (.istore_n 2, 1), some (.aload_n 0, 1), some (.iload_n 1, 1), some (.aload_n 0, 1), some (.getfield 55, 3), none, none, some (.iload_n 2, 1), some (.iaload, 1), some (.aload_n 0, 1), some (.getfield 58, 3), none, none, some (.iload_n 2, 1), some (.iaload, 1), some (.invokevirtual 267, 3), none, none, some (.iinc 1 1, 3), none, none, some (.goto (-54), 3), none, none, some (.aload_n 0, 1), some (.getfield 252, 3), none, none, some (.ifCond .le 74, 3), none, none, some (.aload_n 0, 1), some (.dup, 1), some (.getfield 252, 3), none, none, some (.iconst 1, 1), some (.isub, 1), some (.putfield 252, 3), none, none, some (.aload_n 0, 1), some (.getfield 114, 3), none, none, some (.aload_n 0, 1), some (.getfield 252, 3), none, none, some (.iaload, 1), some (.istore_n 1, 1), some (.aload_n 0, 1), some (.getfield 67, 3), none, none, some (.aload_n 0, 1), some (.getfield 102, 3), none, none, some (.iload_n 1, 1), some (.iaload, 1), some (.iaload, 1), some (.ifCond .le 13, 3), none, none, some (.aload_n 0, 1), some (.aload_n 0, 1), some (.getfield 105, 3), none, none, some (.iload_n 1, 1), some (.iaload, 1), some (.invokevirtual 255, 3), none, none, some (.aload_n 0, 1), some (.getfield 70, 3), none, none, some (.aload_n 0, 1), some (.getfield 102, 3), none, none, some (.iload_n 1, 1), some (.iaload, 1), some (.iaload, 1), some (.ifCond .le 13, 3), none, none, some (.aload_n 0, 1), some (.aload_n 0, 1), some (.getfield 108, 3), none, none, some (.iload_n 1, 1), some (.iaload, 1), some (.invokevirtual 255, 3), none, none, some (.goto (-75), 3), none, none, some (.aload_n 0, 1), some (.iconst 0, 1), some (.putfield 270, 3), none, none, some (.iconst 0, 1), some (.istore_n 1, 1), some (.iload_n 1, 1), some (.sipush 200, 3), none, none, some (.if_icmp .ge 61, 3), none, none, some (.aload_n 0, 1), some (.getfield 98, 3), none, none, some (.iload_n 1, 1), some (.aload_n 0, 1), some (.getfield 98, 3), none, none, some (.iload_n 1, 1), some (.baload, 1), some (.ifCond .eq 16, 3), none, none, some (.aload_n 0, 1), some (.getfield 111, 3), none, none, some (.iload_n 1, 1), some (.baload, 1), some (.ifCond .eq 7, 3), none, none, some (.iconst 1, 1), some (.goto 4, 3), none, none, some (.iconst 0, 1), some (.bastore, 1), some (.aload_n 0, 1), some (.dup, 1), some (.getfield 270, 3), none, none, some (.aload_n 0, 1), some (.getfield 98, 3), none, none, some (.iload_n 1, 1), some (.baload, 1), some (.ifCond .eq 7, 3), none, none, some (.iconst 1, 1), some (.goto 4, 3), none, none, some (.iconst 0, 1), some (.iadd, 1), some (.putfield 270, 3), none, none, some (.iinc 1 1, 3), none, none, some (.goto (-62), 3), none, none, some (.aload_n 0, 1), some (.iconst 3, 1), some (.aload_n 0, 1), some (.getfield 270, 3), none, none, some (.imul, 1), some (.putfield 273, 3), none, none, some (.return_, 1)]
-- RootLoomModel.stayOf(III)V
def xk_141 : List (Option (Instr × Nat)) := [some (.iconst 0, 1), some (.istore 4, 2), none, some (.iload 4, 2), none, some (.bipush 8, 2), none, some (.if_icmp .ge 35, 3), none, none, some (.iload_n 2, 1), some (.iload 4, 2), none, some (.ishr, 1), some (.iconst 1, 1), some (.iand, 1), some (.iconst 1, 1), some (.if_icmp .ne 19, 3), none, none, some (.aload_n 0, 1), some (.aload_n 0, 1), some (.getfield 123, 3), none, none, some (.bipush 8, 2), none, some (.iload_n 1, 1), some (.imul, 1), some (.iload 4, 2), none, some (.iadd, 1), some (.iaload, 1), some (.invokevirtual 255, 3), none, none, some (.iinc 4 1, 3), none, none, some (.goto (-36), 3), none, none, some (.iconst 0, 1), some (.istore 4, 2), none, some (.iload 4, 2), none, some (.aload_n 0, 1), some (.getfield 120, 3), none, none, some (.iload_n 1, 1), some (.iaload, 1), some (.if_icmp .ge 35, 3), none, none, some (.iload_n 3, 1), some (.iload 4, 2), none, some (.ishr, 1), some (.iconst 1, 1), some (.iand, 1), some (.iconst 1, 1), some (.if_icmp .ne 19, 3), none, none, some (.aload_n 0, 1), some (.aload_n 0, 1), some (.getfield 126, 3), none, none, some (.bipush 16, 2), none, some (.iload_n 1, 1), some (.imul, 1), some (.iload 4, 2), none, some (.iadd, 1), some (.iaload, 1), some (.invokevirtual 255, 3), none, none, some (.iinc 4 1, 3), none, none, some (.goto (-40), 3), none, none, some (.return_, 1)]
-- RootLoomModel.stay(I)V
def xk_142 : List (Option (Instr × Nat)) := [some (.iload_n 1, 1), some (.ifCond .lt 12, 3), none, none, some (.aload_n 0, 1), some (.getfield 111, 3), none, none, some (.iload_n 1, 1), some (.baload, 1), some (.ifCond .eq 4, 3), none, none, some (.return_, 1), some (.aload_n 0, 1), some (.getfield 111, 3), none, none, some (.iload_n 1, 1), some (.iconst 1, 1), some (.bastore, 1), some (.aload_n 0, 1), some (.getfield 114, 3), none, none, some (.aload_n 0, 1), some (.getfield 252, 3), none, none, some (.iload_n 1, 1), some (.iastore, 1), some (.aload_n 0, 1), some (.dup, 1), some (.getfield 252, 3), none, none, some (.iconst 1, 1), some (.iadd, 1), some (.putfield 252, 3), none, none, some (.return_, 1)]
-- RootLoomModel.giveBack()V
def xk_143 : List (Option (Instr × Nat)) := [some (.aload_n 0, 1), some (.invokevirtual 289, 3), none, none, some (.istore_n 1, 1), some (.aload_n 0, 1), some (.getfield 261, 3), none, none, some (.ifCond .ne 14, 3), none, none, some (.aload_n 0, 1), some (.iload_n 1, 1), some (.putfield 298, 3), none, none, some (.aload_n 0, 1), some (.iconst 1, 1), some (.putfield 227, 3), none, none, some (.return_, 1), some (.aload_n 0, 1), some (.aload_n 0, 1), some (.getfield 117, 3), none, none, some (.aload_n 0, 1), some (.getfield 261, 3), none, none, some (.iaload, 1), some (.putfield 264, 3), none, none, some (.aload_n 0, 1), some (.dup, 1), some (.getfield 261, 3), none, none, some (.iconst 1, 1), some (.isub, 1), some (.putfield 261, 3), none, none, some (.aload_n 0, 1), some (.iload_n 1, 1), some (.invokevirtual 292, 3), none, none, some (.return_, 1)]
-- RootLoomModel.pop()I
def xk_144 : List (Option (Instr × Nat)) := [some (.aload_n 0, 1), some (.getfield 120, 3), none, none, some (.aload_n 0, 1), some (.getfield 261, 3), none, none, some (.dup2, 1), some (.iaload, 1), some (.iconst 1, 1), some (.isub, 1), some (.iastore, 1), some (.aload_n 0, 1), some (.getfield 126, 3), none, none, some (.bipush 16, 2), none, some (.aload_n 0, 1), some (.getfield 261, 3), none, none, some (.imul, 1), some (.aload_n 0, 1), some (.getfield 120, 3), none, none, some (.aload_n 0, 1), some (.getfield 261, 3), none, none, some (.iaload, 1), some (.iadd, 1), some (.iaload, 1), some (.ireturn, 1)]
-- RootLoomModel.push(I)V
def xk_145 : List (Option (Instr × Nat)) := [some (.aload_n 0, 1), some (.getfield 126, 3), none, none, some (.bipush 16, 2), none, some (.aload_n 0, 1), some (.getfield 261, 3), none, none, some (.imul, 1), some (.aload_n 0, 1), some (.getfield 120, 3), none, none, some (.aload_n 0, 1), some (.getfield 261, 3), none, none, some (.iaload, 1), some (.iadd, 1), some (.iload_n 1, 1), some (.iastore, 1), some (.aload_n 0, 1), some (.getfield 120, 3), none, none, some (.aload_n 0, 1), some (.getfield 261, 3), none, none, some (.dup2, 1), some (.iaload, 1), some (.iconst 1, 1), some (.iadd, 1), some (.iastore, 1), some (.return_, 1)]
-- RootLoomModel.perform(II)V
def xk_146 : List (Option (Instr × Nat)) := [some (.aload_n 0, 1), some (.getfield 264, 3), none, none, some (.iconst 1, 1), some (.iadd, 1), some (.istore_n 3, 1), some (.iload_n 1, 1), some (.tableswitch 221 0 18 #[92, 100, 108, 129, 129, 129, 137, 221, 221, 145, 164, 180, 185, 221, 221, 221, 221, 206, 213], 92), none, none, none, none, none, none, none, none, none, none, none, none, none, none, none, none, none, none, none, none, none, none, none, none, none, none, none, none, none, none, none, none, none, none, none, none, none, none, none, none, none, none, none, none, none, none, none, none, none, none, none, none, none, none, none, none, none, none, none, none, none, none, none, none, none, none, none, none, none, none, none, none, none, none, none, none, none, none, none, none, none, none, none, none, none, none, none, none, none, none, none, some (.aload_n 0, 1), some (.iload_n 2, 1), some (.invokevirtual 292, 3), none, none, some (.goto 129, 3), none, none, some (.aload_n 0, 1), some (.iconst (-1), 1), some (.invokevirtual 292, 3), none, none, some (.goto 121, 3), none, none, some (.aload_n 0, 1), some (.aload_n 0, 1), some (.getfield 123, 3), none, none, some (.bipush 8, 2), none, some (.aload_n 0, 1), some (.getfield 261, 3), none, none, some (.imul, 1), some (.iload_n 2, 1), some (.iadd, 1), some (.iaload, 1), some (.invokevirtual 292, 3), none, none, some (.goto 100, 3), none, none, some (.aload_n 0, 1), some (.iload_n 1, 1), some (.invokevirtual 304, 3), none, none, some (.goto 92, 3), none, none, some (.aload_n 0, 1), some (.iload_n 2, 1), some (.invokevirtual 307, 3), none, none, some (.goto 84, 3), none, none, some (.aload_n 0, 1), some (.aload_n 0, 1), some (.invokevirtual 289, 3), none, none, some (.ifCond .ge 7, 3), none, none, some (.iconst 1, 1), some (.goto 4, 3), none, none, some (.iconst 0, 1), some (.invokevirtual 292, 3), none, none, some (.goto 65, 3), none, none, some (.aload_n 0, 1), some (.invokevirtual 289, 3), none, none, some (.ifCond .ne 7, 3), none, none, some (.iload_n 2, 1), some (.goto 4, 3), none, none, some (.iload_n 3, 1), some (.istore_n 3, 1), some (.goto 49, 3), none, none, some (.iload_n 2, 1), some (.istore_n 3, 1), some (.goto 44, 3), none, none, some (.aload_n 0, 1), some (.getfield 123, 3), none, none, some (.bipush 8, 2), none, some (.aload_n 0, 1), some (.getfield 261, 3), none, none, some (.imul, 1), some (.iload_n 2, 1), some (.iadd, 1), some (.aload_n 0, 1), some (.invokevirtual 289, 3), none, none, some (.iastore, 1), some (.goto 23, 3), none, none, some (.aload_n 0, 1), some (.invokevirtual 310, 3), none, none, some (.goto 16, 3), none, none, some (.aload_n 0, 1), some (.invokevirtual 289, 3), none, none, some (.istore_n 2, 1), some (.goto 8, 3), none, none, some (.aload_n 0, 1), some (.iload_n 1, 1), some (.invokevirtual 313, 3), none, none, some (.aload_n 0, 1), some (.iload_n 3, 1), some (.putfield 264, 3), none, none, some (.return_, 1)]
-- RootLoomModel.count(I)V
def xk_147 : List (Option (Instr × Nat)) := [some (.aload_n 0, 1), some (.invokevirtual 289, 3), none, none, some (.istore_n 2, 1), some (.aload_n 0, 1), some (.invokevirtual 289, 3), none, none, some (.istore_n 3, 1), some (.aload_n 0, 1), some (.iload_n 1, 1), some (.iconst 3, 1), some (.if_icmp .ne 9, 3), none, none, some (.iload_n 3, 1), some (.iload_n 2, 1), some (.iadd, 1), some (.goto 24, 3), none, none, some (.iload_n 1, 1), some (.iconst 4, 1), some (.if_icmp .ne 9, 3), none, none, some (.iload_n 3, 1), some (.iload_n 2, 1), some (.isub, 1), some (.goto 13, 3), none, none, some (.iload_n 3, 1), some (.iload_n 2, 1), some (.if_icmp .ge 7, 3), none, none, some (.iconst 1, 1), some (.goto 4, 3), none, none, some (.iconst 0, 1), some (.invokevirtual 292, 3), none, none, some (.return_, 1)]
-- RootLoomModel.make(I)V
def xk_148 : List (Option (Instr × Nat)) := [some (.aload_n 0, 1), some (.aload_n 0, 1), some (.invokevirtual 279, 3), none, none, some (.invokevirtual 282, 3), none, none, some (.ifCond .eq 7, 3), none, none, some (.aload_n 0, 1), some (.invokevirtual 286, 3), none, none, some (.aload_n 0, 1), some (.invokevirtual 279, 3), none, none, some (.ifCond .ne 9, 3), none, none, some (.aload_n 0, 1), some (.iconst 3, 1), some (.putfield 227, 3), none, none, some (.return_, 1), some (.iconst 0, 1), some (.istore_n 2, 1), some (.aload_n 0, 1), some (.getfield 98, 3), none, none, some (.iload_n 2, 1), some (.baload, 1), some (.ifCond .eq 9, 3), none, none, some (.iinc 2 1, 3), none, none, some (.goto (-12), 3), none, none, some (.aload_n 0, 1), some (.getfield 98, 3), none, none, some (.iload_n 2, 1), some (.iconst 1, 1), some (.bastore, 1), some (.aload_n 0, 1), some (.dup, 1), some (.getfield 270, 3), none, none, some (.iconst 1, 1), some (.iadd, 1), some (.putfield 270, 3), none, none, some (.aload_n 0, 1), some (.getfield 102, 3), none, none, some (.iload_n 2, 1), some (.iload_n 1, 1), some (.iastore, 1), some (.aload_n 0, 1), some (.getfield 108, 3), none, none, some (.iload_n 2, 1), some (.aload_n 0, 1), some (.invokevirtual 289, 3), none, none, some (.iastore, 1), some (.aload_n 0, 1), some (.getfield 105, 3), none, none, some (.iload_n 2, 1), some (.aload_n 0, 1), some (.invokevirtual 289, 3), none, none, some (.iastore, 1), some (.aload_n 0, 1), some (.iload_n 2, 1), some (.invokevirtual 292, 3), none, none, some (.return_, 1)]
-- RootLoomModel.hasRoom()Z
def xk_149 : List (Option (Instr × Nat)) := [some (.iconst 3, 1), some (.aload_n 0, 1), some (.getfield 270, 3), none, none, some (.imul, 1), some (.iconst 3, 1), some (.iadd, 1), some (.aload_n 0, 1), some (.getfield 91, 3), none, none, some (.if_icmp .gt 7, 3), none, none, some (.iconst 1, 1), some (.goto 4, 3), none, none, some (.iconst 0, 1), some (.ireturn, 1)]
-- RootLoomModel.putOut()V
def xk_150 : List (Option (Instr × Nat)) := [some (.aload_n 0, 1), some (.invokevirtual 289, 3), none, none, some (.istore_n 1, 1), some (.aload_n 0, 1), some (.getfield 301, 3), none, none, some (.bipush 64, 2), none, some (.if_icmp .ge 23, 3), none, none, some (.aload_n 0, 1), some (.getfield 95, 3), none, none, some (.aload_n 0, 1), some (.getfield 301, 3), none, none, some (.iload_n 1, 1), some (.iastore, 1), some (.aload_n 0, 1), some (.dup, 1), some (.getfield 301, 3), none, none, some (.iconst 1, 1), some (.iadd, 1), some (.putfield 301, 3), none, none, some (.aload_n 0, 1), some (.iload_n 1, 1), some (.invokevirtual 292, 3), none, none, some (.return_, 1)]
-- RootLoomModel.reach(I)V
def xk_151 : List (Option (Instr × Nat)) := [some (.iload_n 1, 1), some (.bipush 15, 2), none, some (.if_icmp .eq 9, 3), none, none, some (.iload_n 1, 1), some (.bipush 16, 2), none, some (.if_icmp .ne 7, 3), none, none, some (.iconst 1, 1), some (.goto 4, 3), none, none, some (.iconst 0, 1), some (.istore_n 2, 1), some (.iload_n 2, 1), some (.ifCond .eq 10, 3), none, none, some (.aload_n 0, 1), some (.invokevirtual 289, 3), none, none, some (.goto 4, 3), none, none, some (.iconst 0, 1), some (.istore_n 3, 1), some (.aload_n 0, 1), some (.invokevirtual 289, 3), none, none, some (.istore 4, 2), none, some (.iload 4, 2), none, some (.ifCond .ge 9, 3), none, none, some (.aload_n 0, 1), some (.iconst 2, 1), some (.putfield 227, 3), none, none, some (.return_, 1), some (.iload_n 1, 1), some (.bipush 15, 2), none, some (.if_icmp .ne 11, 3), none, none, some (.aload_n 0, 1), some (.getfield 105, 3), none, none, some (.iload 4, 2), none, some (.iload_n 3, 1), some (.iastore, 1), some (.iload_n 1, 1), some (.bipush 16, 2), none, some (.if_icmp .ne 11, 3), none, none, some (.aload_n 0, 1), some (.getfield 108, 3), none, none, some (.iload 4, 2), none, some (.iload_n 3, 1), some (.iastore, 1), some (.aload_n 0, 1), some (.iload_n 2, 1), some (.ifCond .eq 7, 3), none, none, some (.iload_n 3, 1), some (.goto 26, 3), none, none, some (.iload_n 1, 1), some (.bipush 7, 2), none, some (.if_icmp .ne 13, 3), none, none, some (.aload_n 0, 1), some (.getfield 105, 3), none, none, some (.iload 4, 2), none, some (.iaload, 1), some (.goto 10, 3), none, none, some (.aload_n 0, 1), some (.getfield 108, 3), none, none, some (.iload 4, 2), none, some (.iaload, 1), some (.invokevirtual 292, 3), none, none, some (.return_, 1)]
-- RootLoomModel.latest(I)I
def xk_152 : List (Option (Instr × Nat)) := [some (.aload_n 0, 1), some (.iconst 0, 1), some (.putfield 129, 3), none, none, some (.aload_n 0, 1), some (.getfield 227, 3), none, none, some (.ifCond .ne 5, 3), none, none, some (.iconst (-1), 1), some (.ireturn, 1), some (.iload_n 1, 1), some (.tableswitch 78 0 6 #[41, 46, 51, 56, 63, 68, 73], 41), none, none, none, none, none, none, none, none, none, none, none, none, none, none, none, none, none, none, none, none, none, none, none, none, none, none, none, none, none, none, none, none, none, none, none, none, none, none, none, none, some (.aload_n 0, 1), some (.getfield 227, 3), none, none, some (.ireturn, 1), some (.aload_n 0, 1), some (.getfield 316, 3), none, none, some (.ireturn, 1), some (.aload_n 0, 1), some (.getfield 258, 3), none, none, some (.ireturn, 1), some (.iconst 3, 1), some (.aload_n 0, 1), some (.getfield 270, 3), none, none, some (.imul, 1), some (.ireturn, 1), some (.aload_n 0, 1), some (.getfield 273, 3), none, none, some (.ireturn, 1), some (.aload_n 0, 1), some (.getfield 295, 3), none, none, some (.ireturn, 1), some (.aload_n 0, 1), some (.getfield 301, 3), none, none, some (.ireturn, 1), some (.iconst (-1), 1), some (.ireturn, 1)]
-- RootLoomModel.out(I)I
def xk_153 : List (Option (Instr × Nat)) := [some (.aload_n 0, 1), some (.iconst 0, 1), some (.putfield 129, 3), none, none, some (.aload_n 0, 1), some (.getfield 227, 3), none, none, some (.ifCond .le 26, 3), none, none, some (.iload_n 1, 1), some (.iconst 0, 1), some (.aload_n 0, 1), some (.getfield 301, 3), none, none, some (.iconst 1, 1), some (.isub, 1), some (.invokestatic 132, 3), none, none, some (.ifCond .eq 12, 3), none, none, some (.aload_n 0, 1), some (.getfield 95, 3), none, none, some (.iload_n 1, 1), some (.iaload, 1), some (.goto 4, 3), none, none, some (.iconst 0, 1), some (.ireturn, 1)]
-- RootLoomModel.tell(II)I
def xk_154 : List (Option (Instr × Nat)) := [some (.aload_n 0, 1), some (.iconst 0, 1), some (.putfield 129, 3), none, none, some (.aload_n 0, 1), some (.iload_n 1, 1), some (.iload_n 2, 1), some (.invokevirtual 340, 3), none, none, some (.ireturn, 1)]
-- RootLoomModel.follow(II)I
def xk_155 : List (Option (Instr × Nat)) := [some (.aload_n 0, 1), some (.getfield 227, 3), none, none, some (.iconst 1, 1), some (.if_icmp .ne 13, 3), none, none, some (.iload_n 2, 1), some (.iconst 0, 1), some (.bipush 20, 2), none, some (.invokestatic 132, 3), none, none, some (.ifCond .ne 5, 3), none, none, some (.iconst (-1), 1), some (.ireturn, 1), some (.aload_n 0, 1), some (.aload_n 0, 1), some (.getfield 328, 3), none, none, some (.putfield 334, 3), none, none, some (.aload_n 0, 1), some (.aload_n 0, 1), some (.getfield 298, 3), none, none, some (.putfield 337, 3), none, none, some (.iconst 0, 1), some (.istore_n 3, 1), some (.iload_n 3, 1), some (.iload_n 2, 1), some (.if_icmp .ge 103, 3), none, none, some (.aload_n 0, 1), some (.getfield 334, 3), none, none, some (.ifCond .eq 10, 3), none, none, some (.aload_n 0, 1), some (.getfield 337, 3), none, none, some (.ifCond .ge 5, 3), none, none, some (.iconst (-1), 1), some (.ireturn, 1), some (.aload_n 0, 1), some (.getfield 337, 3), none, none, some (.istore 4, 2), none, some (.iload_n 1, 1), some (.iload_n 3, 1), some (.ishr, 1), some (.iconst 1, 1), some (.iand, 1), some (.iconst 1, 1), some (.if_icmp .ne 7, 3), none, none, some (.iconst 1, 1), some (.goto 4, 3), none, none, some (.iconst 0, 1), some (.istore 5, 2), none, some (.aload_n 0, 1), some (.iload 5, 2), none, some (.ifCond .eq 13, 3), none, none, some (.aload_n 0, 1), some (.getfield 108, 3), none, none, some (.iload 4, 2), none, some (.iaload, 1), some (.goto 10, 3), none, none, some (.aload_n 0, 1), some (.getfield 105, 3), none, none, some (.iload 4, 2), none, some (.iaload, 1), some (.putfield 337, 3), none, none, some (.aload_n 0, 1), some (.iload 5, 2), none, some (.ifCond .eq 15, 3), none, none, some (.aload_n 0, 1), some (.getfield 70, 3), none, none, some (.aload_n 0, 1), some (.getfield 334, 3), none, none, some (.iaload, 1), some (.goto 12, 3), none, none, some (.aload_n 0, 1), some (.getfield 67, 3), none, none, some (.aload_n 0, 1), some (.getfield 334, 3), none, none, some (.iaload, 1), some (.putfield 334, 3), none, none, some (.iinc 3 1, 3), none, none, some (.goto (-102), 3), none, none, some (.aload_n 0, 1), some (.getfield 334, 3), none, none, some (.ifCond .ne 7, 3), none, none, some (.iconst 0, 1), some (.goto 15, 3), none, none, some (.aload_n 0, 1), some (.getfield 337, 3), none, none, some (.ifCond .ge 7, 3), none, none, some (.iconst 1, 1), some (.goto 4, 3), none, none, some (.iconst 2, 1), some (.ireturn, 1)]
-- RootLoomModel.value(II)I
def xk_156 : List (Option (Instr × Nat)) := [some (.aload_n 0, 1), some (.iconst 0, 1), some (.putfield 129, 3), none, none, some (.aload_n 0, 1), some (.iload_n 1, 1), some (.iload_n 2, 1), some (.invokevirtual 340, 3), none, none, some (.ifCond .ne 10, 3), none, none, some (.aload_n 0, 1), some (.getfield 337, 3), none, none, some (.goto 4, 3), none, none, some (.iconst 0, 1), some (.ireturn, 1)]
-- java/lang/Math.max(II)I
def xk_157 : List (Option (Instr × Nat)) := [some (.iload_n 0, 1), some (.iload_n 1, 1), some (.if_icmp .lt 7, 3), none, none, some (.iload_n 0, 1), some (.goto 4, 3), none, none, some (.iload_n 1, 1), some (.ireturn, 1)]
-- java/lang/Math.min(II)I
def xk_158 : List (Option (Instr × Nat)) := [some (.iload_n 0, 1), some (.iload_n 1, 1), some (.if_icmp .gt 7, 3), none, none, some (.iload_n 0, 1), some (.goto 4, 3), none, none, some (.iload_n 1, 1), some (.ireturn, 1)]
def xi_ct : List (List (Option (Instr × Nat))) := [xk_0, xk_1, xk_2, xk_3, xk_4, xk_5, xk_6, xk_7, xk_8, xk_9, xk_10, xk_11, xk_12, xk_13, xk_14, xk_15, xk_16, xk_17, xk_18, xk_19, xk_20, xk_21, xk_22, xk_23, xk_24, xk_25, xk_26, xk_27, xk_28, xk_29, xk_30, xk_31, xk_32, xk_33, xk_34, xk_35, xk_36, xk_37, xk_38, xk_39, xk_40, xk_41, xk_42, xk_43, xk_44, xk_45, xk_46, xk_47, xk_48, xk_49, xk_50, xk_51, xk_52, xk_53, xk_54, xk_55, xk_56, xk_57, xk_58, xk_59, xk_60, xk_61, xk_62, xk_63, xk_64, xk_65, xk_66, xk_67, xk_68, xk_69, xk_70, xk_71, xk_72, xk_73, xk_74, xk_75, xk_76, xk_77, xk_78, xk_79, xk_80, xk_81, xk_82, xk_83, xk_84, xk_85, xk_86, xk_87, xk_88, xk_89, xk_90, xk_91, xk_92, xk_93, xk_94, xk_95, xk_96, xk_97, xk_98, xk_99, xk_100, xk_101, xk_102, xk_103, xk_104, xk_105, xk_106, xk_107, xk_108, xk_109, xk_110, xk_111, xk_112, xk_113, xk_114, xk_115, xk_116, xk_117, xk_118, xk_119, xk_120, xk_121, xk_122, xk_123, xk_124, xk_125, xk_126, xk_127, xk_128, xk_129, xk_130, xk_131, xk_132, xk_133, xk_134, xk_135, xk_136, xk_137, xk_138, xk_139, xk_140, xk_141, xk_142, xk_143, xk_144, xk_145, xk_146, xk_147, xk_148, xk_149, xk_150, xk_151, xk_152, xk_153, xk_154, xk_155, xk_156, xk_157, xk_158]
def xi_it (n pc : Nat) : Option (Instr × Nat) := match xi_ct[n]? with
  | some l => match l[pc]? with
    | some o => o
    | none => none
  | none => none
def xi_chkc (b : ByteArray) : Nat → List (Option (Instr × Nat)) → Bool
  | _, [] => true
  | pc, none :: r => xi_chkc b (pc + 1) r
  | pc, some q :: r => (match decode b pc with
    | .ok z => decide (z = q)
    | .error _ => false) && xi_chkc b (pc + 1) r
theorem xi_chkc_ok {b : ByteArray} : ∀ {l : List (Option (Instr × Nat))} {p0 k : Nat} {q : Instr × Nat}, xi_chkc b p0 l = true → l[k]? = some (some q) → decode b (p0 + k) = .ok q
  | [], _, _, _, _, h => by simp at h
  | none :: r, p0, 0, q, _, h => by simp at h
  | none :: r, p0, k + 1, q, hc, h => by
    rw [List.getElem?_cons_succ] at h
    have := xi_chkc_ok (l := r) (p0 := p0 + 1) (k := k) hc h
    rw [show p0 + (k + 1) = p0 + 1 + k by omega]
    exact this
  | some z :: r, p0, 0, q, hc, h => by
    simp only [List.getElem?_cons_zero, Option.some.injEq] at h
    subst h
    unfold xi_chkc at hc
    rw [Bool.and_eq_true] at hc
    have h1 := hc.1
    rw [Nat.add_zero]
    cases hd : decode b p0 with
    | ok y => rw [hd] at h1; rw [of_decide_eq_true h1]
    | error y => rw [hd] at h1; cases h1
  | some z :: r, p0, k + 1, q, hc, h => by
    rw [List.getElem?_cons_succ] at h
    unfold xi_chkc at hc
    rw [Bool.and_eq_true] at hc
    have := xi_chkc_ok (l := r) (p0 := p0 + 1) (k := k) hc.2 h
    rw [show p0 + (k + 1) = p0 + 1 + k by omega]
    exact this
theorem xq_0 : xi_chkc code 0 xk_0 = true := by decide +kernel
theorem xq_1 : xi_chkc prog_1_method_1_code 0 xk_1 = true := by decide +kernel
theorem xq_2 : xi_chkc prog_1_method_2_code 0 xk_2 = true := by decide +kernel
theorem xq_3 : xi_chkc prog_1_method_3_code 0 xk_3 = true := by decide +kernel
theorem xq_4 : xi_chkc prog_1_method_4_code 0 xk_4 = true := by decide +kernel
theorem xq_5 : xi_chkc prog_1_method_5_code 0 xk_5 = true := by decide +kernel
theorem xq_6 : xi_chkc prog_1_method_6_code 0 xk_6 = true := by decide +kernel
theorem xq_7 : xi_chkc prog_1_method_7_code 0 xk_7 = true := by decide +kernel
theorem xq_8 : xi_chkc prog_1_method_9_code 0 xk_8 = true := by decide +kernel
theorem xq_9 : xi_chkc prog_1_method_10_code 0 xk_9 = true := by decide +kernel
theorem xq_10 : xi_chkc prog_1_method_11_code 0 xk_10 = true := by decide +kernel
theorem xq_11 : xi_chkc prog_1_method_12_code 0 xk_11 = true := by decide +kernel
theorem xq_12 : xi_chkc prog_1_method_13_code 0 xk_12 = true := by decide +kernel
theorem xq_13 : xi_chkc prog_1_method_14_code 0 xk_13 = true := by decide +kernel
theorem xq_14 : xi_chkc prog_1_method_15_code 0 xk_14 = true := by decide +kernel
theorem xq_15 : xi_chkc prog_1_method_16_code 0 xk_15 = true := by decide +kernel
theorem xq_16 : xi_chkc prog_1_method_17_code 0 xk_16 = true := by decide +kernel
theorem xq_17 : xi_chkc prog_1_method_8_code 0 xk_17 = true := by decide +kernel
theorem xq_18 : xi_chkc prog_6_method_1_code 0 xk_18 = true := by decide +kernel
theorem xq_19 : xi_chkc prog_6_method_2_code 0 xk_19 = true := by decide +kernel
theorem xq_20 : xi_chkc prog_6_method_16_code 0 xk_20 = true := by decide +kernel
theorem xq_21 : xi_chkc prog_6_method_15_code 0 xk_21 = true := by decide +kernel
theorem xq_22 : xi_chkc prog_6_method_3_code 0 xk_22 = true := by decide +kernel
theorem xq_23 : xi_chkc prog_6_method_4_code 0 xk_23 = true := by decide +kernel
theorem xq_24 : xi_chkc prog_6_method_11_code 0 xk_24 = true := by decide +kernel
theorem xq_25 : xi_chkc prog_6_method_17_code 0 xk_25 = true := by decide +kernel
theorem xq_26 : xi_chkc prog_6_method_19_code 0 xk_26 = true := by decide +kernel
theorem xq_27 : xi_chkc prog_6_method_18_code 0 xk_27 = true := by decide +kernel
theorem xq_28 : xi_chkc prog_6_method_12_code 0 xk_28 = true := by decide +kernel
theorem xq_29 : xi_chkc prog_6_method_13_code 0 xk_29 = true := by decide +kernel
theorem xq_30 : xi_chkc prog_6_method_9_code 0 xk_30 = true := by decide +kernel
theorem xq_31 : xi_chkc prog_6_method_8_code 0 xk_31 = true := by decide +kernel
theorem xq_32 : xi_chkc prog_6_method_14_code 0 xk_32 = true := by decide +kernel
theorem xq_33 : xi_chkc prog_6_method_5_code 0 xk_33 = true := by decide +kernel
theorem xq_34 : xi_chkc prog_6_method_7_code 0 xk_34 = true := by decide +kernel
theorem xq_35 : xi_chkc prog_6_method_10_code 0 xk_35 = true := by decide +kernel
theorem xq_36 : xi_chkc prog_6_method_6_code 0 xk_36 = true := by decide +kernel
theorem xq_37 : xi_chkc prog_2_method_1_code 0 xk_37 = true := by decide +kernel
theorem xq_38 : xi_chkc prog_2_method_2_code 0 xk_38 = true := by decide +kernel
theorem xq_39 : xi_chkc prog_2_method_3_code 0 xk_39 = true := by decide +kernel
theorem xq_40 : xi_chkc prog_2_method_6_code 0 xk_40 = true := by decide +kernel
theorem xq_41 : xi_chkc prog_2_method_4_code 0 xk_41 = true := by decide +kernel
theorem xq_42 : xi_chkc prog_2_method_7_code 0 xk_42 = true := by decide +kernel
theorem xq_43 : xi_chkc prog_2_method_5_code 0 xk_43 = true := by decide +kernel
theorem xq_44 : xi_chkc prog_7_method_1_code 0 xk_44 = true := by decide +kernel
theorem xq_45 : xi_chkc prog_7_method_2_code 0 xk_45 = true := by decide +kernel
theorem xq_46 : xi_chkc prog_7_method_3_code 0 xk_46 = true := by decide +kernel
theorem xq_47 : xi_chkc prog_7_method_4_code 0 xk_47 = true := by decide +kernel
theorem xq_48 : xi_chkc prog_7_method_7_code 0 xk_48 = true := by decide +kernel
theorem xq_49 : xi_chkc prog_7_method_20_code 0 xk_49 = true := by decide +kernel
theorem xq_50 : xi_chkc prog_7_method_8_code 0 xk_50 = true := by decide +kernel
theorem xq_51 : xi_chkc prog_7_method_16_code 0 xk_51 = true := by decide +kernel
theorem xq_52 : xi_chkc prog_7_method_10_code 0 xk_52 = true := by decide +kernel
theorem xq_53 : xi_chkc prog_7_method_17_code 0 xk_53 = true := by decide +kernel
theorem xq_54 : xi_chkc prog_7_method_19_code 0 xk_54 = true := by decide +kernel
theorem xq_55 : xi_chkc prog_7_method_11_code 0 xk_55 = true := by decide +kernel
theorem xq_56 : xi_chkc prog_7_method_15_code 0 xk_56 = true := by decide +kernel
theorem xq_57 : xi_chkc prog_7_method_18_code 0 xk_57 = true := by decide +kernel
theorem xq_58 : xi_chkc prog_7_method_14_code 0 xk_58 = true := by decide +kernel
theorem xq_59 : xi_chkc prog_7_method_13_code 0 xk_59 = true := by decide +kernel
theorem xq_60 : xi_chkc prog_7_method_12_code 0 xk_60 = true := by decide +kernel
theorem xq_61 : xi_chkc prog_7_method_5_code 0 xk_61 = true := by decide +kernel
theorem xq_62 : xi_chkc prog_7_method_6_code 0 xk_62 = true := by decide +kernel
theorem xq_63 : xi_chkc prog_7_method_9_code 0 xk_63 = true := by decide +kernel
theorem xq_64 : xi_chkc prog_7_method_21_code 0 xk_64 = true := by decide +kernel
theorem xq_65 : xi_chkc prog_7_method_22_code 0 xk_65 = true := by decide +kernel
theorem xq_66 : xi_chkc prog_4_method_1_code 0 xk_66 = true := by decide +kernel
theorem xq_67 : xi_chkc prog_4_method_2_code 0 xk_67 = true := by decide +kernel
theorem xq_68 : xi_chkc prog_4_method_3_code 0 xk_68 = true := by decide +kernel
theorem xq_69 : xi_chkc prog_4_method_7_code 0 xk_69 = true := by decide +kernel
theorem xq_70 : xi_chkc prog_4_method_8_code 0 xk_70 = true := by decide +kernel
theorem xq_71 : xi_chkc prog_4_method_9_code 0 xk_71 = true := by decide +kernel
theorem xq_72 : xi_chkc prog_4_method_15_code 0 xk_72 = true := by decide +kernel
theorem xq_73 : xi_chkc prog_4_method_16_code 0 xk_73 = true := by decide +kernel
theorem xq_74 : xi_chkc prog_4_method_17_code 0 xk_74 = true := by decide +kernel
theorem xq_75 : xi_chkc prog_4_method_18_code 0 xk_75 = true := by decide +kernel
theorem xq_76 : xi_chkc prog_4_method_12_code 0 xk_76 = true := by decide +kernel
theorem xq_77 : xi_chkc prog_4_method_13_code 0 xk_77 = true := by decide +kernel
theorem xq_78 : xi_chkc prog_4_method_10_code 0 xk_78 = true := by decide +kernel
theorem xq_79 : xi_chkc prog_4_method_11_code 0 xk_79 = true := by decide +kernel
theorem xq_80 : xi_chkc prog_4_method_14_code 0 xk_80 = true := by decide +kernel
theorem xq_81 : xi_chkc prog_4_method_4_code 0 xk_81 = true := by decide +kernel
theorem xq_82 : xi_chkc prog_4_method_5_code 0 xk_82 = true := by decide +kernel
theorem xq_83 : xi_chkc prog_4_method_6_code 0 xk_83 = true := by decide +kernel
theorem xq_84 : xi_chkc prog_5_method_1_code 0 xk_84 = true := by decide +kernel
theorem xq_85 : xi_chkc prog_5_method_2_code 0 xk_85 = true := by decide +kernel
theorem xq_86 : xi_chkc prog_5_method_3_code 0 xk_86 = true := by decide +kernel
theorem xq_87 : xi_chkc prog_5_method_5_code 0 xk_87 = true := by decide +kernel
theorem xq_88 : xi_chkc prog_5_method_6_code 0 xk_88 = true := by decide +kernel
theorem xq_89 : xi_chkc prog_5_method_7_code 0 xk_89 = true := by decide +kernel
theorem xq_90 : xi_chkc prog_5_method_4_code 0 xk_90 = true := by decide +kernel
theorem xq_91 : xi_chkc prog_3_method_1_code 0 xk_91 = true := by decide +kernel
theorem xq_92 : xi_chkc prog_3_method_2_code 0 xk_92 = true := by decide +kernel
theorem xq_93 : xi_chkc prog_3_method_4_code 0 xk_93 = true := by decide +kernel
theorem xq_94 : xi_chkc prog_3_method_6_code 0 xk_94 = true := by decide +kernel
theorem xq_95 : xi_chkc prog_3_method_5_code 0 xk_95 = true := by decide +kernel
theorem xq_96 : xi_chkc prog_3_method_7_code 0 xk_96 = true := by decide +kernel
theorem xq_97 : xi_chkc prog_3_method_3_code 0 xk_97 = true := by decide +kernel
theorem xq_98 : xi_chkc prog_9_method_1_code 0 xk_98 = true := by decide +kernel
theorem xq_99 : xi_chkc prog_9_method_2_code 0 xk_99 = true := by decide +kernel
theorem xq_100 : xi_chkc prog_9_method_4_code 0 xk_100 = true := by decide +kernel
theorem xq_101 : xi_chkc prog_9_method_3_code 0 xk_101 = true := by decide +kernel
theorem xq_102 : xi_chkc prog_9_method_5_code 0 xk_102 = true := by decide +kernel
theorem xq_103 : xi_chkc prog_9_method_9_code 0 xk_103 = true := by decide +kernel
theorem xq_104 : xi_chkc prog_9_method_8_code 0 xk_104 = true := by decide +kernel
theorem xq_105 : xi_chkc prog_9_method_6_code 0 xk_105 = true := by decide +kernel
theorem xq_106 : xi_chkc prog_9_method_7_code 0 xk_106 = true := by decide +kernel
theorem xq_107 : xi_chkc prog_9_method_10_code 0 xk_107 = true := by decide +kernel
theorem xq_108 : xi_chkc prog_9_method_30_code 0 xk_108 = true := by decide +kernel
theorem xq_109 : xi_chkc prog_9_method_14_code 0 xk_109 = true := by decide +kernel
theorem xq_110 : xi_chkc prog_9_method_13_code 0 xk_110 = true := by decide +kernel
theorem xq_111 : xi_chkc prog_9_method_12_code 0 xk_111 = true := by decide +kernel
theorem xq_112 : xi_chkc prog_9_method_11_code 0 xk_112 = true := by decide +kernel
theorem xq_113 : xi_chkc prog_9_method_28_code 0 xk_113 = true := by decide +kernel
theorem xq_114 : xi_chkc prog_9_method_15_code 0 xk_114 = true := by decide +kernel
theorem xq_115 : xi_chkc prog_9_method_21_code 0 xk_115 = true := by decide +kernel
theorem xq_116 : xi_chkc prog_9_method_16_code 0 xk_116 = true := by decide +kernel
theorem xq_117 : xi_chkc prog_9_method_18_code 0 xk_117 = true := by decide +kernel
theorem xq_118 : xi_chkc prog_9_method_17_code 0 xk_118 = true := by decide +kernel
theorem xq_119 : xi_chkc prog_9_method_25_code 0 xk_119 = true := by decide +kernel
theorem xq_120 : xi_chkc prog_9_method_22_code 0 xk_120 = true := by decide +kernel
theorem xq_121 : xi_chkc prog_9_method_20_code 0 xk_121 = true := by decide +kernel
theorem xq_122 : xi_chkc prog_9_method_19_code 0 xk_122 = true := by decide +kernel
theorem xq_123 : xi_chkc prog_9_method_23_code 0 xk_123 = true := by decide +kernel
theorem xq_124 : xi_chkc prog_9_method_24_code 0 xk_124 = true := by decide +kernel
theorem xq_125 : xi_chkc prog_9_method_26_code 0 xk_125 = true := by decide +kernel
theorem xq_126 : xi_chkc prog_9_method_27_code 0 xk_126 = true := by decide +kernel
theorem xq_127 : xi_chkc prog_9_method_29_code 0 xk_127 = true := by decide +kernel
theorem xq_128 : xi_chkc prog_9_method_32_code 0 xk_128 = true := by decide +kernel
theorem xq_129 : xi_chkc prog_9_method_31_code 0 xk_129 = true := by decide +kernel
theorem xq_130 : xi_chkc prog_9_method_34_code 0 xk_130 = true := by decide +kernel
theorem xq_131 : xi_chkc prog_9_method_33_code 0 xk_131 = true := by decide +kernel
theorem xq_132 : xi_chkc prog_9_method_35_code 0 xk_132 = true := by decide +kernel
theorem xq_133 : xi_chkc prog_9_method_36_code 0 xk_133 = true := by decide +kernel
theorem xq_134 : xi_chkc prog_9_method_37_code 0 xk_134 = true := by decide +kernel
theorem xq_135 : xi_chkc prog_9_method_38_code 0 xk_135 = true := by decide +kernel
theorem xq_136 : xi_chkc prog_9_method_54_code 0 xk_136 = true := by decide +kernel
theorem xq_137 : xi_chkc prog_9_method_53_code 0 xk_137 = true := by decide +kernel
theorem xq_138 : xi_chkc prog_9_method_47_code 0 xk_138 = true := by decide +kernel
theorem xq_139 : xi_chkc prog_9_method_44_code 0 xk_139 = true := by decide +kernel
theorem xq_140 : xi_chkc prog_9_method_41_code 0 xk_140 = true := by decide +kernel
theorem xq_141 : xi_chkc prog_9_method_40_code 0 xk_141 = true := by decide +kernel
theorem xq_142 : xi_chkc prog_9_method_39_code 0 xk_142 = true := by decide +kernel
theorem xq_143 : xi_chkc prog_9_method_48_code 0 xk_143 = true := by decide +kernel
theorem xq_144 : xi_chkc prog_9_method_43_code 0 xk_144 = true := by decide +kernel
theorem xq_145 : xi_chkc prog_9_method_42_code 0 xk_145 = true := by decide +kernel
theorem xq_146 : xi_chkc prog_9_method_52_code 0 xk_146 = true := by decide +kernel
theorem xq_147 : xi_chkc prog_9_method_51_code 0 xk_147 = true := by decide +kernel
theorem xq_148 : xi_chkc prog_9_method_46_code 0 xk_148 = true := by decide +kernel
theorem xq_149 : xi_chkc prog_9_method_45_code 0 xk_149 = true := by decide +kernel
theorem xq_150 : xi_chkc prog_9_method_50_code 0 xk_150 = true := by decide +kernel
theorem xq_151 : xi_chkc prog_9_method_49_code 0 xk_151 = true := by decide +kernel
theorem xq_152 : xi_chkc prog_9_method_55_code 0 xk_152 = true := by decide +kernel
theorem xq_153 : xi_chkc prog_9_method_56_code 0 xk_153 = true := by decide +kernel
theorem xq_154 : xi_chkc prog_9_method_58_code 0 xk_154 = true := by decide +kernel
theorem xq_155 : xi_chkc prog_9_method_57_code 0 xk_155 = true := by decide +kernel
theorem xq_156 : xi_chkc prog_9_method_59_code 0 xk_156 = true := by decide +kernel
theorem xq_157 : xi_chkc prog_13_method_65_code 0 xk_157 = true := by decide +kernel
theorem xq_158 : xi_chkc prog_13_method_69_code 0 xk_158 = true := by decide +kernel
theorem xi_ct_ok : ∀ (n : Nat) (M : xi_M) (l : List (Option (Instr × Nat))), xi_ml[n]? = some M → xi_ct[n]? = some l → xi_chkc M.2.1 0 l = true
  | 0, _, _, rfl, rfl => xq_0
  | 1, _, _, rfl, rfl => xq_1
  | 2, _, _, rfl, rfl => xq_2
  | 3, _, _, rfl, rfl => xq_3
  | 4, _, _, rfl, rfl => xq_4
  | 5, _, _, rfl, rfl => xq_5
  | 6, _, _, rfl, rfl => xq_6
  | 7, _, _, rfl, rfl => xq_7
  | 8, _, _, rfl, rfl => xq_8
  | 9, _, _, rfl, rfl => xq_9
  | 10, _, _, rfl, rfl => xq_10
  | 11, _, _, rfl, rfl => xq_11
  | 12, _, _, rfl, rfl => xq_12
  | 13, _, _, rfl, rfl => xq_13
  | 14, _, _, rfl, rfl => xq_14
  | 15, _, _, rfl, rfl => xq_15
  | 16, _, _, rfl, rfl => xq_16
  | 17, _, _, rfl, rfl => xq_17
  | 18, _, _, rfl, rfl => xq_18
  | 19, _, _, rfl, rfl => xq_19
  | 20, _, _, rfl, rfl => xq_20
  | 21, _, _, rfl, rfl => xq_21
  | 22, _, _, rfl, rfl => xq_22
  | 23, _, _, rfl, rfl => xq_23
  | 24, _, _, rfl, rfl => xq_24
  | 25, _, _, rfl, rfl => xq_25
  | 26, _, _, rfl, rfl => xq_26
  | 27, _, _, rfl, rfl => xq_27
  | 28, _, _, rfl, rfl => xq_28
  | 29, _, _, rfl, rfl => xq_29
  | 30, _, _, rfl, rfl => xq_30
  | 31, _, _, rfl, rfl => xq_31
  | 32, _, _, rfl, rfl => xq_32
  | 33, _, _, rfl, rfl => xq_33
  | 34, _, _, rfl, rfl => xq_34
  | 35, _, _, rfl, rfl => xq_35
  | 36, _, _, rfl, rfl => xq_36
  | 37, _, _, rfl, rfl => xq_37
  | 38, _, _, rfl, rfl => xq_38
  | 39, _, _, rfl, rfl => xq_39
  | 40, _, _, rfl, rfl => xq_40
  | 41, _, _, rfl, rfl => xq_41
  | 42, _, _, rfl, rfl => xq_42
  | 43, _, _, rfl, rfl => xq_43
  | 44, _, _, rfl, rfl => xq_44
  | 45, _, _, rfl, rfl => xq_45
  | 46, _, _, rfl, rfl => xq_46
  | 47, _, _, rfl, rfl => xq_47
  | 48, _, _, rfl, rfl => xq_48
  | 49, _, _, rfl, rfl => xq_49
  | 50, _, _, rfl, rfl => xq_50
  | 51, _, _, rfl, rfl => xq_51
  | 52, _, _, rfl, rfl => xq_52
  | 53, _, _, rfl, rfl => xq_53
  | 54, _, _, rfl, rfl => xq_54
  | 55, _, _, rfl, rfl => xq_55
  | 56, _, _, rfl, rfl => xq_56
  | 57, _, _, rfl, rfl => xq_57
  | 58, _, _, rfl, rfl => xq_58
  | 59, _, _, rfl, rfl => xq_59
  | 60, _, _, rfl, rfl => xq_60
  | 61, _, _, rfl, rfl => xq_61
  | 62, _, _, rfl, rfl => xq_62
  | 63, _, _, rfl, rfl => xq_63
  | 64, _, _, rfl, rfl => xq_64
  | 65, _, _, rfl, rfl => xq_65
  | 66, _, _, rfl, rfl => xq_66
  | 67, _, _, rfl, rfl => xq_67
  | 68, _, _, rfl, rfl => xq_68
  | 69, _, _, rfl, rfl => xq_69
  | 70, _, _, rfl, rfl => xq_70
  | 71, _, _, rfl, rfl => xq_71
  | 72, _, _, rfl, rfl => xq_72
  | 73, _, _, rfl, rfl => xq_73
  | 74, _, _, rfl, rfl => xq_74
  | 75, _, _, rfl, rfl => xq_75
  | 76, _, _, rfl, rfl => xq_76
  | 77, _, _, rfl, rfl => xq_77
  | 78, _, _, rfl, rfl => xq_78
  | 79, _, _, rfl, rfl => xq_79
  | 80, _, _, rfl, rfl => xq_80
  | 81, _, _, rfl, rfl => xq_81
  | 82, _, _, rfl, rfl => xq_82
  | 83, _, _, rfl, rfl => xq_83
  | 84, _, _, rfl, rfl => xq_84
  | 85, _, _, rfl, rfl => xq_85
  | 86, _, _, rfl, rfl => xq_86
  | 87, _, _, rfl, rfl => xq_87
  | 88, _, _, rfl, rfl => xq_88
  | 89, _, _, rfl, rfl => xq_89
  | 90, _, _, rfl, rfl => xq_90
  | 91, _, _, rfl, rfl => xq_91
  | 92, _, _, rfl, rfl => xq_92
  | 93, _, _, rfl, rfl => xq_93
  | 94, _, _, rfl, rfl => xq_94
  | 95, _, _, rfl, rfl => xq_95
  | 96, _, _, rfl, rfl => xq_96
  | 97, _, _, rfl, rfl => xq_97
  | 98, _, _, rfl, rfl => xq_98
  | 99, _, _, rfl, rfl => xq_99
  | 100, _, _, rfl, rfl => xq_100
  | 101, _, _, rfl, rfl => xq_101
  | 102, _, _, rfl, rfl => xq_102
  | 103, _, _, rfl, rfl => xq_103
  | 104, _, _, rfl, rfl => xq_104
  | 105, _, _, rfl, rfl => xq_105
  | 106, _, _, rfl, rfl => xq_106
  | 107, _, _, rfl, rfl => xq_107
  | 108, _, _, rfl, rfl => xq_108
  | 109, _, _, rfl, rfl => xq_109
  | 110, _, _, rfl, rfl => xq_110
  | 111, _, _, rfl, rfl => xq_111
  | 112, _, _, rfl, rfl => xq_112
  | 113, _, _, rfl, rfl => xq_113
  | 114, _, _, rfl, rfl => xq_114
  | 115, _, _, rfl, rfl => xq_115
  | 116, _, _, rfl, rfl => xq_116
  | 117, _, _, rfl, rfl => xq_117
  | 118, _, _, rfl, rfl => xq_118
  | 119, _, _, rfl, rfl => xq_119
  | 120, _, _, rfl, rfl => xq_120
  | 121, _, _, rfl, rfl => xq_121
  | 122, _, _, rfl, rfl => xq_122
  | 123, _, _, rfl, rfl => xq_123
  | 124, _, _, rfl, rfl => xq_124
  | 125, _, _, rfl, rfl => xq_125
  | 126, _, _, rfl, rfl => xq_126
  | 127, _, _, rfl, rfl => xq_127
  | 128, _, _, rfl, rfl => xq_128
  | 129, _, _, rfl, rfl => xq_129
  | 130, _, _, rfl, rfl => xq_130
  | 131, _, _, rfl, rfl => xq_131
  | 132, _, _, rfl, rfl => xq_132
  | 133, _, _, rfl, rfl => xq_133
  | 134, _, _, rfl, rfl => xq_134
  | 135, _, _, rfl, rfl => xq_135
  | 136, _, _, rfl, rfl => xq_136
  | 137, _, _, rfl, rfl => xq_137
  | 138, _, _, rfl, rfl => xq_138
  | 139, _, _, rfl, rfl => xq_139
  | 140, _, _, rfl, rfl => xq_140
  | 141, _, _, rfl, rfl => xq_141
  | 142, _, _, rfl, rfl => xq_142
  | 143, _, _, rfl, rfl => xq_143
  | 144, _, _, rfl, rfl => xq_144
  | 145, _, _, rfl, rfl => xq_145
  | 146, _, _, rfl, rfl => xq_146
  | 147, _, _, rfl, rfl => xq_147
  | 148, _, _, rfl, rfl => xq_148
  | 149, _, _, rfl, rfl => xq_149
  | 150, _, _, rfl, rfl => xq_150
  | 151, _, _, rfl, rfl => xq_151
  | 152, _, _, rfl, rfl => xq_152
  | 153, _, _, rfl, rfl => xq_153
  | 154, _, _, rfl, rfl => xq_154
  | 155, _, _, rfl, rfl => xq_155
  | 156, _, _, rfl, rfl => xq_156
  | 157, _, _, rfl, rfl => xq_157
  | 158, _, _, rfl, rfl => xq_158
  | _ + 159, _, _, h, _ => nomatch h
theorem xi_hit : ∀ n M pc i len, xi_ml[n]? = some M → xi_it n pc = some (i, len) → decode M.2.1 pc = .ok (i, len) := by
  intro n M pc i len hM h
  unfold xi_it at h
  split at h
  · next l hl =>
    split at h
    · next o ho =>
      subst h
      have := xi_chkc_ok (xi_ct_ok n M l hM hl) ho
      rw [Nat.zero_add] at this
      exact this
    · cases h
  · cases h
end
section
/-! Words for the making of exceptions. -/
def xh_y : MethodName := ⟨"RootLoomLaw", "instruction", "(LRootLoom;II[J)I"⟩
def xh_c : Cond := .codeWith xh_y method_3_code 5 (some .int) [(0, 10, 13, 13), (0, 10, 17, 15)]
def xe_at (ic : Nat) (X : String) : List Cond := Bundle.ownAtoms0 "RootLoom" ic X ["java/lang/RuntimeException", "java/lang/Exception"]
def xi_wy : List Cond := (xe_at 82 "java/lang/IndexOutOfBoundsException" ++ xe_at 85 "java/lang/IllegalArgumentException").filter goodWord ++ [.classLink "RootLoom" 80 "java/lang/IndexOutOfBoundsException", .initialized "java/lang/IndexOutOfBoundsException", .classLink "RootLoom" 83 "java/lang/IllegalArgumentException", .initialized "java/lang/IllegalArgumentException", .classLink "RootLoomLaw" 13 "java/lang/IndexOutOfBoundsException", .classLink "RootLoomLaw" 15 "java/lang/IllegalArgumentException", xh_c, .static xh_y, .methodLink "RootLoomLaw" 51 xh_y, .initialized "RootLoomLaw"]
end
section
/-! A small interpreter over named cells. A name: 0 the table PARTS, 1 the script, k + 2 the world's k-th cell; the k-th cell lies at address base + k. -/
-- a cell: an array (0 int, 1 boolean, 2 long) with its contents, or an object (number of its class, fields)
abbrev xi_E : Type := (Nat × (List Int32 ⊕ List Int64)) ⊕ (Nat × List Value)
abbrev xi_W : Type := List xi_E
abbrev xi_L : Type := List (Option Value)
-- place, locals, pile, world
abbrev xi_S : Type := Nat × xi_L × List Value × xi_W
-- the run's own numbers: classes' numbers and slots, array classes, base, address of PARTS, of the script, their contents, the launch
abbrev xi_Y : Type := va_G × (Nat → ClassId) × Nat × Nat × Nat × List Int32 × List Int32 × Launch
def xi_ad (Y : xi_Y) (k : Nat) : Nat := match k with
  | 0 => Y.2.2.2.1
  | 1 => Y.2.2.2.2.1
  | k + 2 => Y.2.2.1 + k
def xi_v (Y : xi_Y) (v : Value) : Value := match v with
  | .ref k => .ref (xi_ad Y k)
  | .int x => .int x
  | .long x => .long x
  | .float x => .float x
  | .double x => .double x
  | .null => .null
  | .retAddr x => .retAddr x
def xi_c (Y : xi_Y) (x : xi_E) : va_E := match x with
  | .inl (t, .inl f) => .inl (Y.2.1 t, f.length, .inl (fun i => f.getD i 0))
  | .inl (t, .inr f) => .inl (Y.2.1 t, f.length, .inr (.inl (fun i => f.getD i 0)))
  | .inr (ci, fs) => .inr (ci, fs.map (xi_v Y))
-- slots of a cell, of a world
def xi_sc (x : xi_E) : Nat := match x with
  | .inl (_, .inl f) => f.length
  | .inl (_, .inr f) => f.length
  | .inr (_, fs) => fs.length
def xi_sl (w : xi_W) : Nat := (w.map xi_sc).sum
-- locals
def xi_ld (L : xi_L) (k : Nat) : Option Value := match L[k]? with
  | some (some v) => some v
  | _ => none
def xi_ldi (k len pc : Nat) (L : xi_L) (st : List Value) (w : xi_W) : Option xi_S := match xi_ld L k with
  | some (.int x) => some (pc + len, L, .int x :: st, w)
  | _ => none
def xi_lda (k len pc : Nat) (L : xi_L) (st : List Value) (w : xi_W) : Option xi_S := match xi_ld L k with
  | some (.ref x) => some (pc + len, L, .ref x :: st, w)
  | _ => none
def xi_sti (k len pc : Nat) (L : xi_L) (st : List Value) (w : xi_W) : Option xi_S := match st with
  | .int x :: r => if k < L.length then some (pc + len, L.set k (some (.int x)), r, w) else none
  | _ => none
def xi_sta (k len pc : Nat) (L : xi_L) (st : List Value) (w : xi_W) : Option xi_S := match st with
  | .ref x :: r => if k < L.length then some (pc + len, L.set k (some (.ref x)), r, w) else none
  | _ => none
def xi_inc (k : Nat) (n : Int) (pc : Nat) (L : xi_L) (st : List Value) (w : xi_W) : Option xi_S := match xi_ld L k with
  | some (.int x) => some (pc + 3, L.set k (some (.int (x + Int32.ofInt n))), st, w)
  | _ => none
-- arithmetic
def xi_bin (op : Int32 → Int32 → Int32) (pc : Nat) (L : xi_L) (st : List Value) (w : xi_W) : Option xi_S := match st with
  | .int y :: .int x :: r => some (pc + 1, L, .int (op x y) :: r, w)
  | _ => none
def xi_rem (pc : Nat) (L : xi_L) (st : List Value) (w : xi_W) : Option xi_S := match st with
  | .int y :: .int x :: r => if y = 0 then none else some (pc + 1, L, .int (x - x / y * y) :: r, w)
  | _ => none
def xi_i2l (pc : Nat) (L : xi_L) (st : List Value) (w : xi_W) : Option xi_S := match st with
  | .int x :: r => some (pc + 1, L, .long x.toInt64 :: r, w)
  | _ => none
def xi_lcmp (pc : Nat) (L : xi_L) (st : List Value) (w : xi_W) : Option xi_S := match st with
  | .long y :: .long x :: r => some (pc + 1, L, .int (lg_cmp x y) :: r, w)
  | _ => none
def xi_dup (pc : Nat) (L : xi_L) (st : List Value) (w : xi_W) : Option xi_S := match st with
  | v :: r => if v.category = 1 then some (pc + 1, L, v :: v :: r, w) else none
  | _ => none
def xi_dup2 (pc : Nat) (L : xi_L) (st : List Value) (w : xi_W) : Option xi_S := match st with
  | v :: u :: r => if v.category = 1 ∧ u.category = 1 then some (pc + 1, L, v :: u :: v :: u :: r, w) else none
  | _ => none
def xi_pop (pc : Nat) (L : xi_L) (st : List Value) (w : xi_W) : Option xi_S := match st with
  | v :: r => if v.category = 1 then some (pc + 1, L, r, w) else none
  | _ => none
-- jumps
def xi_go1 (off : Int) (pc : Nat) (L : xi_L) (st : List Value) (w : xi_W) : Option xi_S :=
  if 0 ≤ (pc : Int) + off then some (((pc : Int) + off).toNat, L, st, w) else none
def xi_if1 (t : Int32 → Bool) (off : Int) (pc : Nat) (L : xi_L) (st : List Value) (w : xi_W) : Option xi_S := match st with
  | .int x :: r => if 0 ≤ (pc : Int) + off then some (if t x = true then ((pc : Int) + off).toNat else pc + 3, L, r, w) else none
  | _ => none
def xi_if2 (t : Int32 → Int32 → Bool) (off : Int) (pc : Nat) (L : xi_L) (st : List Value) (w : xi_W) : Option xi_S := match st with
  | .int y :: .int x :: r => if 0 ≤ (pc : Int) + off then some (if t x y = true then ((pc : Int) + off).toNat else pc + 3, L, r, w) else none
  | _ => none
def xi_tab (d lo hi : Int) (offs : Array Int) (pc : Nat) (L : xi_L) (st : List Value) (w : xi_W) : Option xi_S := match st with
  | .int x :: r => if x.toInt < lo ∨ hi < x.toInt then xi_go1 d pc L r w else match offs[(x.toInt - lo).toNat]? with
    | some o => xi_go1 o pc L r w
    | none => none
  | _ => none
def xi_lok (d : Int) (ps : Array (Int × Int)) (pc : Nat) (L : xi_L) (st : List Value) (w : xi_W) : Option xi_S := match st with
  | .int x :: r => if (ps.toList.zip (ps.toList.drop 1)).all (fun (a, next) => a.1 < next.1) = true then xi_go1 (Op.lookupswitch.offset ps.toList d x.toInt) pc L r w else none
  | _ => none
-- the world
def xi_cell (w : xi_W) (a : Nat) : Option xi_E := match a with
  | k + 2 => w[k]?
  | _ => none
def xi_put (w : xi_W) (a : Nat) (x : xi_E) : xi_W := w.set (a - 2) x
-- an int array by its name
def xi_ia (Z S : List Int32) (w : xi_W) (a : Nat) : Option (List Int32) := match a with
  | 0 => some Z
  | 1 => some S
  | k + 2 => match w[k]? with
    | some (.inl (0, .inl f)) => some f
    | _ => none
def xi_iald (Z S : List Int32) (pc : Nat) (L : xi_L) (st : List Value) (w : xi_W) : Option xi_S := match st with
  | .int j :: .ref a :: r => match xi_ia Z S w a with
    | some f => if j < 0 ∨ f.length ≤ j.toNatClampNeg then none else some (pc + 1, L, .int (f.getD j.toNatClampNeg 0) :: r, w)
    | none => none
  | _ => none
def xi_zald (pc : Nat) (L : xi_L) (st : List Value) (w : xi_W) : Option xi_S := match st with
  | .int j :: .ref a :: r => match xi_cell w a with
    | some (.inl (1, .inl f)) => if j < 0 ∨ f.length ≤ j.toNatClampNeg then none else some (pc + 1, L, .int (f.getD j.toNatClampNeg 0) :: r, w)
    | _ => none
  | _ => none
def xi_lald (pc : Nat) (L : xi_L) (st : List Value) (w : xi_W) : Option xi_S := match st with
  | .int j :: .ref a :: r => match xi_cell w a with
    | some (.inl (2, .inr f)) => if j < 0 ∨ f.length ≤ j.toNatClampNeg then none else some (pc + 1, L, .long (f.getD j.toNatClampNeg 0) :: r, w)
    | _ => none
  | _ => none
def xi_iast (pc : Nat) (L : xi_L) (st : List Value) (w : xi_W) : Option xi_S := match st with
  | .int x :: .int j :: .ref a :: r => match xi_cell w a with
    | some (.inl (0, .inl f)) => if j < 0 ∨ f.length ≤ j.toNatClampNeg then none else some (pc + 1, L, r, xi_put w a (.inl (0, .inl (f.set j.toNatClampNeg x))))
    | _ => none
  | _ => none
def xi_zast (pc : Nat) (L : xi_L) (st : List Value) (w : xi_W) : Option xi_S := match st with
  | .int x :: .int j :: .ref a :: r => match xi_cell w a with
    | some (.inl (1, .inl f)) => if j < 0 ∨ f.length ≤ j.toNatClampNeg then none else some (pc + 1, L, r, xi_put w a (.inl (1, .inl (f.set j.toNatClampNeg (vp_nar .boolean x)))))
    | _ => none
  | _ => none
def xi_last (pc : Nat) (L : xi_L) (st : List Value) (w : xi_W) : Option xi_S := match st with
  | .long x :: .int j :: .ref a :: r => match xi_cell w a with
    | some (.inl (2, .inr f)) => if j < 0 ∨ f.length ≤ j.toNatClampNeg then none else some (pc + 1, L, r, xi_put w a (.inl (2, .inr (f.set j.toNatClampNeg x))))
    | _ => none
  | _ => none
def xi_alen (Z S : List Int32) (pc : Nat) (L : xi_L) (st : List Value) (w : xi_W) : Option xi_S := match st with
  | .ref a :: r => match xi_ia Z S w a with
    | some f => some (pc + 1, L, .int (Int32.ofNat f.length) :: r, w)
    | none => none
  | _ => none
def xi_get (q : Option (Nat × Nat)) (pc : Nat) (L : xi_L) (st : List Value) (w : xi_W) : Option xi_S := match q with
  | some (ci, k) => match st with
    | .ref a :: r => match xi_cell w a with
      | some (.inr (cj, fs)) => if cj = ci then match fs[k]? with
        | some v => some (pc + 3, L, v :: r, w)
        | none => none
        else none
      | _ => none
    | _ => none
  | none => none
-- may a field of this type take this value, as it is
def xi_fok (ty : FieldType) (v : Value) : Bool := match ty, v with
  | .int, .int _ => true
  | .boolean, .int x => decide (x = 0) || decide (x = 1)
  | .long, .long _ => true
  | .array _, .ref _ => true
  | .object _, .ref _ => true
  | _, _ => false
-- okf: the field isn't final, or this is its own class's constructor
def xi_set (q : Option (Nat × Nat)) (ty : FieldType) (okf : Bool) (pc : Nat) (L : xi_L) (st : List Value) (w : xi_W) : Option xi_S := match q with
  | some (ci, k) => match st with
    | v :: .ref a :: r => match xi_cell w a with
      | some (.inr (cj, fs)) => if cj = ci ∧ k < fs.length ∧ okf = true ∧ xi_fok ty v = true then some (pc + 3, L, r, xi_put w a (.inr (cj, fs.set k v))) else none
      | _ => none
    | _ => none
  | none => none
def xi_new (q : Option Nat) (dfl : Nat → List Value) (pc : Nat) (L : xi_L) (st : List Value) (w : xi_W) : Option xi_S := match q with
  | some ci => some (pc + 3, L, .ref (w.length + 2) :: st, w ++ [.inr (ci, dfl ci)])
  | none => none
def xi_newa (t : ArrayType) (pc : Nat) (L : xi_L) (st : List Value) (w : xi_W) : Option xi_S := match st with
  | .int n :: r => if n < 0 ∨ 100000 < n.toNatClampNeg then none else match t with
    | .int => some (pc + 2, L, .ref (w.length + 2) :: r, w ++ [.inl (0, .inl (List.replicate n.toNatClampNeg 0))])
    | .boolean => some (pc + 2, L, .ref (w.length + 2) :: r, w ++ [.inl (1, .inl (List.replicate n.toNatClampNeg 0))])
    | .long => some (pc + 2, L, .ref (w.length + 2) :: r, w ++ [.inl (2, .inr (List.replicate n.toNatClampNeg 0))])
    | _ => none
  | _ => none
def xi_oin (b : Bool) (pc : Nat) (L : xi_L) (st : List Value) (w : xi_W) : Option xi_S := match st with
  | .ref _ :: r => if b = true ∧ (r.map fun v => v.category).sum ≤ 8 then some (pc + 3, L, r, w) else none
  | _ => none
-- what a method's links mean: (0, class, field), (1, ..) PARTS, (2, class, ..) new, (3, method, nest's word or 0), (4, ..) Object's constructor
def xi_lk (M : xi_M) (n : Nat) : Option (Nat × Nat × Nat) := match xi_ll[M.2.2.2.2.2.2.2]? with
  | some r => (r.2.find? (fun q => q.1 == n)).map (fun q => q.2)
  | none => none
def xi_fd (M : xi_M) (n : Nat) : Option (Nat × Nat) := match xi_lk M n with
  | some (0, ci, k) => match xi_cl[ci]? with
    | some r => if k < r.2.2 then some (ci, k) else none
    | none => none
  | _ => none
def xi_fin (ci k : Nat) : Bool := match xi_cl[ci]? with
  | some r => (r.2.1 k).2.2.2
  | none => true
def xi_okf (M : xi_M) (q : Option (Nat × Nat)) : Bool := match q with
  | some (ci, k) => !xi_fin ci k || (M.2.2.2.2.1 == 2 && M.2.2.2.2.2.2.1 == ci)
  | none => false
def xi_fty (q : Option (Nat × Nat)) : FieldType := match q with
  | some (ci, k) => xi_tt ci k
  | none => .int
def xi_nw (M : xi_M) (n : Nat) : Option Nat := match xi_lk M n with
  | some (2, ci, _) => match xi_cl[ci]? with
    | some _ => some ci
    | none => none
  | _ => none
def xi_dfl (ci : Nat) : List Value := match xi_cl[ci]? with
  | some r => (List.range r.2.2).map (fun k => defaultValue (xi_tt ci k))
  | none => []
def xi_ob (M : xi_M) (n : Nat) : Bool := match xi_lk M n with
  | some (4, _, _) => true
  | _ => false
def xi_isZ (M : xi_M) (n : Nat) : Bool := match xi_lk M n with
  | some (1, _, _) => true
  | _ => false
def xi_gst (b : Bool) (pc : Nat) (L : xi_L) (st : List Value) (w : xi_W) : Option xi_S := if b = true then some (pc + 3, L, .ref 0 :: st, w) else none
-- how long an instruction is; a switch may be of any length
def xi_sw (i : Instr) : Bool := match i with
  | .tableswitch _ _ _ _ => true
  | .lookupswitch _ _ => true
  | _ => false
def xi_len (i : Instr) : Nat := match i with
  | .bipush _ => 2
  | .sipush _ => 3
  | .iload _ => 2
  | .aload _ => 2
  | .istore _ => 2
  | .astore _ => 2
  | .iinc _ _ => 3
  | .goto _ => 3
  | .ifCond _ _ => 3
  | .if_icmp _ _ => 3
  | .getfield _ => 3
  | .putfield _ => 3
  | .getstatic _ => 3
  | .new _ => 3
  | .newarray _ => 2
  | .invokevirtual _ => 3
  | .invokespecial _ => 3
  | .invokestatic _ => 3
  | _ => 1
-- one step that neither calls nor returns
def xi_stp (Z S : List Int32) (M : xi_M) (i : Instr) (A : xi_S) : Option xi_S :=
  match i with
  | .iconst n => some (A.1 + 1, A.2.1, .int (Int32.ofInt n) :: A.2.2.1, A.2.2.2)
  | .bipush n => some (A.1 + 2, A.2.1, .int (Int8.ofInt n).toInt32 :: A.2.2.1, A.2.2.2)
  | .sipush n => some (A.1 + 3, A.2.1, .int (Int16.ofInt n).toInt32 :: A.2.2.1, A.2.2.2)
  | .iload k => xi_ldi k 2 A.1 A.2.1 A.2.2.1 A.2.2.2
  | .iload_n k => xi_ldi k.val 1 A.1 A.2.1 A.2.2.1 A.2.2.2
  | .aload k => xi_lda k 2 A.1 A.2.1 A.2.2.1 A.2.2.2
  | .aload_n k => xi_lda k.val 1 A.1 A.2.1 A.2.2.1 A.2.2.2
  | .istore k => xi_sti k 2 A.1 A.2.1 A.2.2.1 A.2.2.2
  | .istore_n k => xi_sti k.val 1 A.1 A.2.1 A.2.2.1 A.2.2.2
  | .astore k => xi_sta k 2 A.1 A.2.1 A.2.2.1 A.2.2.2
  | .astore_n k => xi_sta k.val 1 A.1 A.2.1 A.2.2.1 A.2.2.2
  | .iinc k n => xi_inc k n A.1 A.2.1 A.2.2.1 A.2.2.2
  | .iadd => xi_bin (fun x y => x + y) A.1 A.2.1 A.2.2.1 A.2.2.2
  | .isub => xi_bin (fun x y => x - y) A.1 A.2.1 A.2.2.1 A.2.2.2
  | .imul => xi_bin (fun x y => x * y) A.1 A.2.1 A.2.2.1 A.2.2.2
  | .iand => xi_bin (fun x y => x &&& y) A.1 A.2.1 A.2.2.1 A.2.2.2
  | .ior => xi_bin (fun x y => x ||| y) A.1 A.2.1 A.2.2.1 A.2.2.2
  | .ixor => xi_bin (fun x y => x ^^^ y) A.1 A.2.1 A.2.2.1 A.2.2.2
  | .ishl => xi_bin (fun x y => x <<< (y &&& 31)) A.1 A.2.1 A.2.2.1 A.2.2.2
  | .ishr => xi_bin (fun x y => x >>> (y &&& 31)) A.1 A.2.1 A.2.2.1 A.2.2.2
  | .iushr => xi_bin (fun x y => (x.toUInt32 >>> (y.toUInt32 &&& Int32.toUInt32 31)).toInt32) A.1 A.2.1 A.2.2.1 A.2.2.2
  | .irem => xi_rem A.1 A.2.1 A.2.2.1 A.2.2.2
  | .i2l => xi_i2l A.1 A.2.1 A.2.2.1 A.2.2.2
  | .lcmp => xi_lcmp A.1 A.2.1 A.2.2.1 A.2.2.2
  | .dup => xi_dup A.1 A.2.1 A.2.2.1 A.2.2.2
  | .dup2 => xi_dup2 A.1 A.2.1 A.2.2.1 A.2.2.2
  | .pop => xi_pop A.1 A.2.1 A.2.2.1 A.2.2.2
  | .goto o => xi_go1 o A.1 A.2.1 A.2.2.1 A.2.2.2
  | .ifCond .eq o => xi_if1 (fun x => decide (x = 0)) o A.1 A.2.1 A.2.2.1 A.2.2.2
  | .ifCond .ne o => xi_if1 (fun x => decide (¬ x = 0)) o A.1 A.2.1 A.2.2.1 A.2.2.2
  | .ifCond .lt o => xi_if1 (fun x => decide (x < 0)) o A.1 A.2.1 A.2.2.1 A.2.2.2
  | .ifCond .ge o => xi_if1 (fun x => decide (0 ≤ x)) o A.1 A.2.1 A.2.2.1 A.2.2.2
  | .ifCond .gt o => xi_if1 (fun x => decide (0 < x)) o A.1 A.2.1 A.2.2.1 A.2.2.2
  | .ifCond .le o => xi_if1 (fun x => decide (x ≤ 0)) o A.1 A.2.1 A.2.2.1 A.2.2.2
  | .if_icmp .eq o => xi_if2 (fun x y => decide (x = y)) o A.1 A.2.1 A.2.2.1 A.2.2.2
  | .if_icmp .ne o => xi_if2 (fun x y => decide (¬ x = y)) o A.1 A.2.1 A.2.2.1 A.2.2.2
  | .if_icmp .lt o => xi_if2 (fun x y => decide (x < y)) o A.1 A.2.1 A.2.2.1 A.2.2.2
  | .if_icmp .ge o => xi_if2 (fun x y => decide (y ≤ x)) o A.1 A.2.1 A.2.2.1 A.2.2.2
  | .if_icmp .gt o => xi_if2 (fun x y => decide (y < x)) o A.1 A.2.1 A.2.2.1 A.2.2.2
  | .if_icmp .le o => xi_if2 (fun x y => decide (x ≤ y)) o A.1 A.2.1 A.2.2.1 A.2.2.2
  | .tableswitch d lo hi offs => xi_tab d lo hi offs A.1 A.2.1 A.2.2.1 A.2.2.2
  | .lookupswitch d ps => xi_lok d ps A.1 A.2.1 A.2.2.1 A.2.2.2
  | .getfield n => xi_get (xi_fd M n) A.1 A.2.1 A.2.2.1 A.2.2.2
  | .putfield n => xi_set (xi_fd M n) (xi_fty (xi_fd M n)) (xi_okf M (xi_fd M n)) A.1 A.2.1 A.2.2.1 A.2.2.2
  | .getstatic n => xi_gst (xi_isZ M n) A.1 A.2.1 A.2.2.1 A.2.2.2
  | .iaload => xi_iald Z S A.1 A.2.1 A.2.2.1 A.2.2.2
  | .baload => xi_zald A.1 A.2.1 A.2.2.1 A.2.2.2
  | .laload => xi_lald A.1 A.2.1 A.2.2.1 A.2.2.2
  | .iastore => xi_iast A.1 A.2.1 A.2.2.1 A.2.2.2
  | .bastore => xi_zast A.1 A.2.1 A.2.2.1 A.2.2.2
  | .lastore => xi_last A.1 A.2.1 A.2.2.1 A.2.2.2
  | .arraylength => xi_alen Z S A.1 A.2.1 A.2.2.1 A.2.2.2
  | .new n => xi_new (xi_nw M n) xi_dfl A.1 A.2.1 A.2.2.1 A.2.2.2
  | .newarray t => xi_newa t A.1 A.2.1 A.2.2.1 A.2.2.2
  | .invokespecial n => xi_oin (xi_ob M n && A.2.1.length == M.2.2.1) A.1 A.2.1 A.2.2.1 A.2.2.2
  | _ => none
-- a call: the callee's number, its arguments, what stays below them
def xi_np (M : xi_M) : Nat := if M.2.2.2.2.1 = 1 then M.2.2.2.2.2.1 else M.2.2.2.2.2.1 + 1
def xi_rcv0 (M : xi_M) (as : List Value) (w : xi_W) : Bool := match as with
  | .ref a :: _ => match xi_cell w a with
    | some (.inr (cj, _)) => cj == M.2.2.2.2.2.2.1
    | _ => false
  | _ => false
def xi_rcv2 (as : List Value) : Bool := match as with
  | .ref _ :: _ => true
  | _ => false
def xi_rcv (M : xi_M) (as : List Value) (w : xi_W) : Bool := match M.2.2.2.2.1 with
  | 0 => xi_rcv0 M as w
  | 1 => true
  | 2 => xi_rcv2 as
  | _ => false
def xi_kd (i : Instr) : Option (Nat × Nat) := match i with
  | .invokevirtual n => some (n, 0)
  | .invokestatic n => some (n, 1)
  | .invokespecial n => some (n, 2)
  | _ => none
def xi_inv (M : xi_M) (i : Instr) (A : xi_S) : Option (Nat × xi_M × List Value × List Value) := match xi_kd i with
  | some (n, kd) => match xi_lk M n with
    | some (3, j, _) => match xi_ml[j]? with
      | some Mj => if Mj.2.2.2.2.1 = kd ∧ A.2.1.length = M.2.2.1 ∧ xi_np Mj ≤ A.2.2.1.length ∧ xi_np Mj ≤ Mj.2.2.1 ∧ ((A.2.2.1.drop (xi_np Mj)).map fun v => v.category).sum ≤ 8 ∧ ((A.2.2.1.take (xi_np Mj)).all fun v => v.category == 1) = true ∧ xi_rcv Mj (A.2.2.1.take (xi_np Mj)).reverse A.2.2.2 = true
        then some (j, Mj, (A.2.2.1.take (xi_np Mj)).reverse, A.2.2.1.drop (xi_np Mj)) else none
      | none => none
    | _ => none
  | none => none
def xi_ent (M : xi_M) (as : List Value) : xi_L := as.map some ++ List.replicate (M.2.2.1 - as.length) none
-- what a method answers that stands at its return
def xi_ret (M : xi_M) (i : Instr) (A : xi_S) : Option (Option Value) := match i with
  | .ireturn => match A.2.2.1 with
    | [.int v] => match M.2.2.2.1 with
      | some .int => some (some (.int v))
      | some .boolean => if xi_fok .boolean (.int v) = true then some (some (.int v)) else none
      | _ => none
    | _ => none
  | .return_ => match A.2.2.1 with
    | [] => match M.2.2.2.1 with
      | none => some none
      | _ => none
    | _ => none
  | _ => none
-- the code: by place; a length as it must be
def xi_at (it : Nat → Nat → Option (Instr × Nat)) (n pc : Nat) : Option Instr := match it n pc with
  | some (i, len) => if xi_sw i = true ∨ xi_len i = len then some i else none
  | none => none
-- where a callee has come to its return: its answer, its world
def xi_end (it : Nat → Nat → Option (Instr × Nat)) (j : Nat) (Mj : xi_M) (T : xi_S) : Option (Option Value × xi_W) := match T with
  | (pc, L, st, w) => match xi_at it j pc with
    | none => none
    | some i => match xi_ret Mj i (pc, L, st, w) with
      | none => none
      | some o => some (o, w)
-- on and on, as far as it goes: fuel, depth of calls, the method
def xi_go (it : Nat → Nat → Option (Instr × Nat)) (Z S : List Int32) : Nat → Nat → Nat → xi_S → xi_S
  | 0, _, _, A => A
  | f + 1, d, n, A => match xi_ml[n]? with
    | none => A
    | some M => match xi_at it n A.1 with
      | none => A
      | some i => match xi_stp Z S M i A with
        | some B => xi_go it Z S f d n B
        | none => match d with
          | 0 => A
          | d' + 1 => match xi_inv M i A with
            | none => A
            | some (j, Mj, as, r) => match xi_end it j Mj (xi_go it Z S f d' j (0, xi_ent Mj as, [], A.2.2.2)) with
              | none => A
              | some (o, w') => xi_go it Z S f (d' + 1) n (A.1 + 3, A.2.1, o.toList ++ r, w')
end
section
/-! The words that all methods need, out of the tables. -/
def xi_lw (own : String) (q : Nat × Nat × Nat × Nat) : List Cond := match q with
  | (n, 0, ci, k) => match xi_cl[ci]? with
    | some r => [.fieldLink own n (r.2.1 k).1 (r.2.1 k).2.1 (r.2.1 k).2.2.1]
    | none => []
  | (n, 2, ci, _) => match xi_cl[ci]? with
    | some r => [.classLink own n r.1, .instantiable r.1 r.2.2, .initialized r.1]
    | none => []
  | (n, 3, j, 0) => match xi_ml[j]? with
    | some Mj => [.methodLink own n Mj.1]
    | none => []
  | (n, 4, _, _) => [.methodLink own n Lib.objectInit]
  | _ => []
def xi_kw (M : xi_M) : List Cond := match M.2.2.2.2.1 with
  | 0 => [.code M.1 M.2.1 M.2.2.1 M.2.2.2.1, .initialized M.1.cls, .instanceMethod M.1, .selects M.1.cls M.1 M.1]
  | 1 => [.code M.1 M.2.1 M.2.2.1 M.2.2.2.1, .initialized M.1.cls, .static M.1]
  | 2 => [.code M.1 M.2.1 M.2.2.1 M.2.2.2.1, .initialized M.1.cls, .instanceMethod M.1]
  | _ => []
def xi_W0 : List Cond := [.arrayClass .int, .arrayClass .boolean, .arrayClass .long, .instanceMethod Lib.objectInit, .code Lib.objectInit ⟨#[0xb1]⟩ 1 none] ++ (xi_cl.flatMap (fun r => u_ws r.1 r.2.1 r.2.2) ++ (xi_ml.flatMap xi_kw ++ (xi_ll.flatMap (fun r => r.2.flatMap (xi_lw r.1)) ++ xi_wy)))
theorem xi_W0_all : xi_W0.all goodWord = true := by decide +kernel
theorem xi_okW (w : Cond) (h : w ∈ xi_W0) : (w.onTables && w.keeps) = true ∨ ∃ ty, w = .arrayClass ty := good_of_word (List.all_eq_true.mp xi_W0_all w h)
theorem xi_W0_i : Cond.arrayClass .int ∈ xi_W0 := List.mem_append_left _ (List.mem_of_getElem? (i := 0) rfl)
theorem xi_W0_z : Cond.arrayClass .boolean ∈ xi_W0 := List.mem_append_left _ (List.mem_of_getElem? (i := 1) rfl)
theorem xi_W0_l : Cond.arrayClass .long ∈ xi_W0 := List.mem_append_left _ (List.mem_of_getElem? (i := 2) rfl)
theorem xi_W0_oi : Cond.instanceMethod Lib.objectInit ∈ xi_W0 := List.mem_append_left _ (List.mem_of_getElem? (i := 3) rfl)
theorem xi_W0_oc : Cond.code Lib.objectInit ⟨#[0xb1]⟩ 1 none ∈ xi_W0 := List.mem_append_left _ (List.mem_of_getElem? (i := 4) rfl)
theorem xi_W0_cl {ci : Nat} {r : vw_C} (h : xi_cl[ci]? = some r) : ∀ w ∈ u_ws r.1 r.2.1 r.2.2, w ∈ xi_W0 := fun _ hw =>
  List.mem_append_right _ (List.mem_append_left _ (List.mem_flatMap.mpr ⟨r, List.mem_of_getElem? h, hw⟩))
theorem xi_W0_m {n : Nat} {M : xi_M} (h : xi_ml[n]? = some M) : ∀ w ∈ xi_kw M, w ∈ xi_W0 := fun _ hw =>
  List.mem_append_right _ (List.mem_append_right _ (List.mem_append_left _ (List.mem_flatMap.mpr ⟨M, List.mem_of_getElem? h, hw⟩)))
theorem xi_lk_mem {n x : Nat} {M : xi_M} {q : Nat × Nat × Nat} (h : xi_ml[n]? = some M) (hq : xi_lk M x = some q) : ∃ r ∈ xi_ll, r.1 = M.1.cls ∧ (x, q) ∈ r.2 := by
  obtain ⟨r, hr, he⟩ := (xi_okM M (List.mem_of_getElem? h)).2.2.2.2.2.2.2
  unfold xi_lk at hq
  rw [hr] at hq
  dsimp only at hq
  refine ⟨r, List.mem_of_getElem? hr, he, ?_⟩
  cases hf : r.2.find? (fun q => q.1 == x) with
  | none => rw [hf] at hq; cases hq
  | some z =>
    rw [hf] at hq
    cases hq
    have h1 := List.find?_some hf
    have h2 : z.1 = x := by simpa using h1
    rw [← h2]
    exact List.mem_of_find?_eq_some hf
theorem xi_W0_lk {n x : Nat} {M : xi_M} {q : Nat × Nat × Nat} (h : xi_ml[n]? = some M) (hq : xi_lk M x = some q) : ∀ w ∈ xi_lw M.1.cls (x, q), w ∈ xi_W0 := by
  intro w hw
  obtain ⟨r, hr, he, hm⟩ := xi_lk_mem h hq
  refine List.mem_append_right _ (List.mem_append_right _ (List.mem_append_right _ (List.mem_append_left _ (List.mem_flatMap.mpr ⟨r, hr, List.mem_flatMap.mpr ⟨(x, q), hm, ?_⟩⟩))))
  rw [he]
  exact hw
theorem xi_fd_spec {n x ci k : Nat} {M : xi_M} (h : xi_ml[n]? = some M) (hq : xi_fd M x = some (ci, k)) : ∃ r : vw_C, xi_cl[ci]? = some r ∧ k < r.2.2 ∧ Cond.fieldLink M.1.cls x (r.2.1 k).1 (r.2.1 k).2.1 (r.2.1 k).2.2.1 ∈ xi_W0 := by
  unfold xi_fd at hq
  split at hq
  · next c1 k1 hl =>
    split at hq
    · next r hr =>
      split at hq
      · next hk =>
        cases hq
        refine ⟨r, hr, hk, xi_W0_lk h hl _ ?_⟩
        simp only [xi_lw, hr, List.mem_singleton]
      · cases hq
    · cases hq
  · cases hq
theorem xi_nw_spec {n x ci : Nat} {M : xi_M} (h : xi_ml[n]? = some M) (hq : xi_nw M x = some ci) : ∃ r : vw_C, xi_cl[ci]? = some r ∧ Cond.classLink M.1.cls x r.1 ∈ xi_W0 ∧ Cond.instantiable r.1 r.2.2 ∈ xi_W0 ∧ Cond.initialized r.1 ∈ xi_W0 := by
  unfold xi_nw at hq
  split at hq
  · next c1 k1 hl =>
    split at hq
    · next r hr =>
      cases hq
      refine ⟨r, hr, xi_W0_lk h hl _ ?_, xi_W0_lk h hl _ ?_, xi_W0_lk h hl _ ?_⟩ <;> simp [xi_lw, hr]
    · cases hq
  · cases hq
theorem xi_ob_spec {n x : Nat} {M : xi_M} (h : xi_ml[n]? = some M) (hq : xi_ob M x = true) : Cond.methodLink M.1.cls x Lib.objectInit ∈ xi_W0 := by
  unfold xi_ob at hq
  split at hq
  · next hl =>
    refine xi_W0_lk h hl _ ?_
    simp [xi_lw]
  · cases hq
-- nest mates' words
def xi_nml (own : String) (q : Nat × Nat × Nat × Nat) : List (String × Nat × MethodName × String) := match q with
  | (n, 3, j, z + 1) => match xi_ml[j]? with
    | some Mj => [(own, n, Mj.1, xi_host (z + 1))]
    | none => []
  | _ => []
def xi_nm : List (String × Nat × MethodName × String) := xi_ll.flatMap (fun r => r.2.flatMap (xi_nml r.1))
def xi_nfl (own : String) (q : Nat × Nat × Nat × Nat) : List (String × Nat × String × String × String × String) := match q with
  | (n, 1, z, _) => [(own, n, xi_ZC, xi_Zn, "[I", xi_host z)]
  | _ => []
def xi_nf : List (String × Nat × String × String × String × String) := xi_ll.flatMap (fun r => r.2.flatMap (xi_nfl r.1))
theorem xi_isZ_spec {n x : Nat} {M : xi_M} (h : xi_ml[n]? = some M) (hq : xi_isZ M x = true) : ∃ host, (M.1.cls, x, xi_ZC, xi_Zn, "[I", host) ∈ xi_nf := by
  unfold xi_isZ at hq
  split at hq
  · next z y hl =>
    obtain ⟨r, hr, he, hm⟩ := xi_lk_mem h hl
    exact ⟨xi_host z, List.mem_flatMap.mpr ⟨r, hr, List.mem_flatMap.mpr ⟨_, hm, by simp [xi_nfl, he]⟩⟩⟩
  · cases hq
end
section
/-! What an exception's making asks of a state, beside the tables' words. -/
def xe_I : String := "java/lang/IndexOutOfBoundsException"
def xe_A : String := "java/lang/IllegalArgumentException"
def xe_names : List String := ["java/lang/RuntimeException", "java/lang/Exception"]
def xe_dl : List MethodName := [⟨"java/lang/RuntimeException", "<init>", "()V"⟩, ⟨"java/lang/Exception", "<init>", "()V"⟩, ⟨"java/lang/Throwable", "<init>", "()V"⟩]
def xe_cs : List (String × String) := [(xe_I, xe_I), (xe_A, xe_A)]
def xe_Z (C n d : String) (b : Nat) (U : State) : Prop := ∃ (c i a : Nat) (k : Class) (f : Field) (cell : Cell) (v : Value), U.vm.findClass C = some c ∧ U.fieldFound? C n d = some (c, k, i, f) ∧ f.isStatic = true ∧ k.statics = some a ∧ U.heap[a]? = some cell ∧ cell.vm.isStatics = true ∧ cell.cls = c ∧ f.slot < cell.slots.size ∧ k.staticTypes[f.slot]? = some f.type ∧ cell.slots[f.slot]? = some v ∧ v.isRef = true ∧ a < b
theorem xe_Z.moved {C n d : String} {b : Nat} {s U : State} (hvm : s.vm.Alike U.vm) (hq : ∀ a : Nat, a < s.heap.size → a < b → U.heap[a]? = s.heap[a]?) (h : xe_Z C n d b s) : xe_Z C n d b U := by
  obtain ⟨c, i, a, k, f, cell, v, h1, h2, h3, h4, h5, h6, h7, h8, h9, h10, h11, h12⟩ := h
  obtain ⟨k', hi', he⟩ := State.fieldFound?_setVm hvm h2
  exact ⟨c, i, a, k', f, cell, v, by rw [hvm.findClass]; exact h1, hi', h3, by rw [he]; exact h4, by rw [hq a (Array.getElem?_eq_some_iff.mp h5).1 h12]; exact h5, h6, h7, h8, by rw [he]; exact h9, h10, h11, h12⟩
theorem xe_Z.lays {C n d : String} {b : Nat} {s : State} {args : Array Value} (h : xe_Z C n d b s) : (Cond.laysStatic C n d).before args s = true := by
  obtain ⟨c, i, a, k, f, cell, v, h1, h2, h3, h4, h5, h6, h7, h8, h9, h10, h11, h12⟩ := h
  exact Cond.laysStatic_of h1 h2 h3 h4 h5 h6 h7 h8 h9
theorem xe_Z.ref {C n d : String} {b : Nat} {s : State} {args : Array Value} (h : xe_Z C n d b s) : (Cond.isRef (.static C n d)).before args s = true := by
  obtain ⟨c, i, a, k, f, cell, v, h1, h2, h3, h4, h5, h6, h7, h8, h9, h10, h11, h12⟩ := h
  have hev := Term.static_eval (args := args) (first := s) (o := none) (idx := []) h2 h3 h4 h5 h6 h10
  simp only [Cond.before, Cond.holds, Cond.value, hev]
  cases v <;> first | rfl | cases h11
theorem xe_Z.of {C n d : String} {s : State} {args : Array Value} (hl : (Cond.laysStatic C n d).before args s = true) (hr : (Cond.isRef (.static C n d)).before args s = true) : xe_Z C n d s.heap.size s := by
  obtain ⟨c, k, i, f, a, cell, h1, h2, h3, h4, h5, h6, h7, h8, h9⟩ := Cond.laysStatic_spec hl
  have hs : cell.slots[f.slot]? = some cell.slots[f.slot] := Array.getElem?_eq_getElem h8
  have hev := Term.static_eval (args := args) (first := s) (o := none) (idx := []) h2 h3 h4 h5 h6 hs
  simp only [Cond.before, Cond.holds, Cond.value, hev] at hr
  refine ⟨c, i, a, k, f, cell, _, h1, h2, h3, h4, h5, h6, h7, h8, h9, hs, ?_, (Array.getElem?_eq_some_iff.mp h5).1⟩
  generalize cell.slots[f.slot] = v at hr
  cases v <;> first | rfl | simp at hr
def xe_N (U : State) : Prop := ∃ cA cI : ClassId, U.vm.findClass xe_A = some cA ∧ U.vm.findClass xe_I = some cI ∧ U.vm.assignable cA cI = false
theorem xe_N.moved {s U : State} (hvm : s.vm.Alike U.vm) (h : xe_N s) : xe_N U := by
  obtain ⟨cA, cI, h1, h2, h3⟩ := h
  exact ⟨cA, cI, by rw [hvm.findClass]; exact h1, by rw [hvm.findClass]; exact h2, by rw [hvm.assignable]; exact h3⟩
def xe_G (b : Nat) (U : State) : Prop := (∀ x ∈ xe_dl, va_Nw (.declares x) U) ∧ (∀ q ∈ xe_cs, va_Nw (.castable q.1 q.2) U) ∧ xe_Z "java/lang/Throwable" "UNASSIGNED_STACK" "[Ljava/lang/StackTraceElement;" b U ∧ xe_Z "java/lang/Throwable" "SUPPRESSED_SENTINEL" "Ljava/util/List;" b U ∧ xe_N U
theorem xe_G.moved {b : Nat} {s U : State} (hW : s.WarmedH U.vm) (hq : ∀ a : Nat, a < s.heap.size → a < b → U.heap[a]? = s.heap[a]?) (h : xe_G b s) : xe_G b U :=
  ⟨fun x hx => va_Nw.warmD hW (h.1 x hx), fun q hx => va_Nw.warmC hW (h.2.1 q hx), xe_Z.moved hW.alike hq h.2.2.1, xe_Z.moved hW.alike hq h.2.2.2.1, h.2.2.2.2.moved hW.alike⟩
theorem xe_G.same {b : Nat} {s U : State} (hv : s.vm = U.vm) (hh : U.heap = s.heap) (h : xe_G b s) : xe_G b U :=
  ⟨fun x hx => va_Nw.same rfl hv (h.1 x hx), fun q hx => va_Nw.same rfl hv (h.2.1 q hx), xe_Z.moved (by rw [hv]; exact Vm.Alike.refl _) (fun a _ _ => by rw [hh]) h.2.2.1, xe_Z.moved (by rw [hv]; exact Vm.Alike.refl _) (fun a _ _ => by rw [hh]) h.2.2.2.1, h.2.2.2.2.moved (by rw [hv]; exact Vm.Alike.refl _)⟩
end
section
/-! The interpreter is sound: what it comes to, the machine comes to. -/
theorem xi_cat (Y : xi_Y) (v : Value) : (xi_v Y v).category = v.category := by cases v <;> rfl
theorem xi_cats (Y : xi_Y) (st : List Value) : ((st.map (xi_v Y)).map fun v => v.category).sum = (st.map fun v => v.category).sum := by
  rw [List.map_map]
  congr 1
  exact List.map_congr_left fun v _ => xi_cat Y v
def xi_A (Y : xi_Y) : Nat → Prop := fun q => Y.2.2.1 ≤ q
def xi_tys (Y : xi_Y) : List (ClassId × FieldType) := [(Y.2.1 0, .int), (Y.2.1 1, .boolean), (Y.2.1 2, .long)]
def xi_Hs (Y : xi_Y) (w : xi_W) (H : Heap) : Prop := H.size = Y.2.2.1 + w.length ∧ ∀ (k : Nat) (x : xi_E), w[k]? = some x → va_at Y.1 xi_cl (Y.2.2.1 + k, xi_c Y x) H
theorem xi_cell_some {w : xi_W} {a : Nat} {x : xi_E} (h : xi_cell w a = some x) : ∃ k, a = k + 2 ∧ w[k]? = some x := by
  unfold xi_cell at h
  split at h
  · exact ⟨_, rfl, h⟩
  · cases h
theorem xi_Hs.one {Y : xi_Y} {w : xi_W} {H : Heap} {k : Nat} {x : xi_E} (hH : xi_Hs Y w H) (h : w[k]? = some x) : va_P Y.1 xi_cl [(Y.2.2.1 + k, xi_c Y x)] H := by
  intro i q hq
  cases i with
  | zero =>
    simp only [List.getElem?_cons_zero, Option.some.injEq] at hq
    subst hq
    exact hH.2 k x h
  | succ i => simp at hq
theorem xi_Hs.upd {Y : xi_Y} {w : xi_W} {H H1 : Heap} {k : Nat} {x y : xi_E} (hH : xi_Hs Y w H) (h : w[k]? = some x) (z : H1.size = H.size) (oq : ∀ q : Nat, q ≠ Y.2.2.1 + k → H1[q]? = H[q]?) (hn : va_at Y.1 xi_cl (Y.2.2.1 + k, xi_c Y y) H1) : xi_Hs Y (w.set k y) H1 := by
  have hl := (List.getElem?_eq_some_iff.mp h).1
  refine ⟨by rw [z, hH.1, List.length_set], fun j u hj => ?_⟩
  by_cases hjk : j = k
  · subst hjk
    rw [List.getElem?_set_self hl] at hj
    cases hj
    exact hn
  · rw [List.getElem?_set_ne (Ne.symm hjk)] at hj
    exact (hH.2 j u hj).kept (oq _ (by show Y.2.2.1 + j ≠ Y.2.2.1 + k; omega))
theorem xi_Hs.push {Y : xi_Y} {w : xi_W} {H H1 : Heap} {x : xi_E} (hH : xi_Hs Y w H) (z : H1.size = H.size + 1) (oq : ∀ q : Nat, q < H.size → H1[q]? = H[q]?) (hn : va_at Y.1 xi_cl (Y.2.2.1 + w.length, xi_c Y x) H1) : xi_Hs Y (w ++ [x]) H1 := by
  refine ⟨by rw [z, hH.1, List.length_append]; rfl, fun j u hj => ?_⟩
  by_cases hl : j < w.length
  · rw [List.getElem?_append_left hl] at hj
    exact (hH.2 j u hj).kept (oq _ (by show Y.2.2.1 + j < H.size; rw [hH.1]; omega))
  · rw [List.getElem?_append_right (by omega)] at hj
    have hz : j - w.length < 1 := (List.getElem?_eq_some_iff.mp hj).1
    have hj0 : j = w.length := by omega
    subst hj0
    rw [Nat.sub_self] at hj
    cases hj
    exact hn
-- static facts of a state
def xi_G (Y : xi_Y) (U : State) : Prop :=
  va_K Y.1 xi_cl (xi_tys Y) U ∧ (∀ q ∈ xi_nm, va_Nw (.methodLinkNest q.1 q.2.1 q.2.2.1 q.2.2.2) U) ∧ (∀ q ∈ xi_nf, va_Nw (.fieldLinkNest q.1 q.2.1 q.2.2.1 q.2.2.2.1 q.2.2.2.2.1 q.2.2.2.2.2) U) ∧
  va_Z xi_ZC xi_Zn "[I" (.ref Y.2.2.2.1) (xi_A Y) U U.heap ∧ va_T .int Y.2.2.2.1 Y.2.2.2.2.2.1.length (fun j => .int (Y.2.2.2.2.2.1.getD j 0)) (xi_A Y) U U.heap ∧
  va_X Y.2.2.2.2.1 Y.2.2.2.2.2.2.1.length (fun j => Y.2.2.2.2.2.2.1.getD j 0) U U.heap ∧ Y.2.2.2.2.1 < Y.2.2.1 ∧ Y.2.2.1 ≤ U.heap.size ∧ xe_G Y.2.2.1 U
theorem xi_G.moved {Y : xi_Y} {s U : State} {locs : List Loc} (h : xi_G Y s) (hS : va_S (xi_A Y) s.heap U.heap locs) (hW : s.WarmedH U.vm) : xi_G Y U := by
  obtain ⟨h1, h2, h3, h4, h5, h6, h7, h8, h9⟩ := h
  refine ⟨va_K.moved hW.alike h1, fun q hq => va_Nw.warmM hW (h2 q hq), fun q hq => va_Nw.warmF hW (h3 q hq), (va_Z.moved hW.alike h4).kept hS.2.1, (va_T.moved hW.alike h5).kept hS.2.1, (va_X.moved hW.alike h6).kept ?_, h7, Nat.le_trans h8 hS.1, h9.moved hW (fun a ha hb => hS.2.1 a ha (Nat.not_le.mpr hb))⟩
  exact hS.2.1 _ (Nat.lt_of_lt_of_le h7 h8) (fun z => absurd z (Nat.not_le.mpr h7))
theorem xi_G.same {Y : xi_Y} {s U : State} (h : xi_G Y s) (hv : s.vm = U.vm) (hh : U.heap = s.heap) : xi_G Y U := by
  have hA : s.vm.Alike U.vm := by rw [hv]; exact Vm.Alike.refl _
  obtain ⟨h1, h2, h3, h4, h5, h6, h7, h8, h9⟩ := h
  refine ⟨va_K.moved hA h1, fun q hq => va_Nw.same rfl hv (h2 q hq), fun q hq => va_Nw.same rfl hv (h3 q hq), ?_, ?_, ?_, h7, by rw [hh]; exact h8, h9.same hv hh⟩
  · rw [hh]; exact va_Z.moved hA h4
  · rw [hh]; exact va_T.moved hA h5
  · rw [hh]; exact va_X.moved hA h6
-- locals
def xi_lv (Y : xi_Y) (L : xi_L) (ls : Array Slot) : Prop := ls.size = L.length ∧ lv_wf ls ∧ ∀ (k : Nat) (v : Value), L[k]? = some (some v) → ls[k]? = some (.val (xi_v Y v)) ∧ v.category = 1
def xi_prs (Y : xi_Y) (L : xi_L) : List (Nat × Value) := (List.range L.length).filterMap fun k => match L[k]? with
  | some (some v) => some (k, xi_v Y v)
  | _ => none
theorem xi_prs_mem {Y : xi_Y} {L : xi_L} {k : Nat} {v : Value} (h : L[k]? = some (some v)) : (k, xi_v Y v) ∈ xi_prs Y L :=
  List.mem_filterMap.mpr ⟨k, List.mem_range.mpr (List.getElem?_eq_some_iff.mp h).1, by simp only [h]⟩
theorem xi_lv.has {Y : xi_Y} {L : xi_L} {ls : Array Slot} (h : xi_lv Y L ls) : lv_has ls L.length (xi_prs Y L) := by
  refine ⟨h.1, h.2.1, fun q hq => ?_⟩
  obtain ⟨k, -, hk⟩ := List.mem_filterMap.mp hq
  split at hk
  · next v hv =>
    cases hk
    exact (h.2.2 k v hv).1
  · cases hk
theorem xi_lv.store {Y : xi_Y} {L : xi_L} {ls ls' : Array Slot} {k : Nat} {v : Value} (h : xi_lv Y L ls) (hk : k < L.length) (hc : v.category = 1)
    (h' : lv_has ls' L.length ((k, xi_v Y v) :: (xi_prs Y L).filter (fun q => !(q.1 == k) && !(q.1 + 1 == k && q.2.category == 2)))) : xi_lv Y (L.set k (some v)) ls' := by
  obtain ⟨h1, h2, h3⟩ := h'
  refine ⟨by rw [h1, List.length_set], h2, fun j u hj => ?_⟩
  by_cases hjk : j = k
  · subst hjk
    rw [List.getElem?_set_self hk] at hj
    cases hj
    exact ⟨h3 _ List.mem_cons_self, hc⟩
  · rw [List.getElem?_set_ne (Ne.symm hjk)] at hj
    have hcu := (h.2.2 j u hj).2
    exact ⟨h3 (j, xi_v Y u) (List.mem_cons_of_mem _ (List.mem_filter.mpr ⟨xi_prs_mem hj, by simp [hjk, xi_cat, hcu]⟩)), hcu⟩
theorem xi_lv.at {Y : xi_Y} {L : xi_L} {ls : Array Slot} {k : Nat} {v : Value} (h : xi_lv Y L ls) (hk : xi_ld L k = some v) : L[k]? = some (some v) := by
  unfold xi_ld at hk
  split at hk
  · next u hu => cases hk; exact hu
  · cases hk
-- a frame's facts
def xi_Fr (Y : xi_Y) (d n : Nat) (p : Program) (l : Launch) (R : Room) (s : State) (m : MethodId) (args : Array Value) (meth : Method) (c : Code) : Prop :=
  ∃ M : xi_M, xi_ml[n]? = some M ∧ p.tables.exec = Jvm.exec ∧ c.code = M.2.1 ∧ c.maxLocals = M.2.2.1 ∧ s.vm.findClass M.1.cls = some m.cls ∧ meth.name = M.1.name ∧ (∀ w ∈ xi_W0, w.before args s = true) ∧ xi_G Y s ∧ d + 1 ≤ R.frames ∧ (d + 1) * xi_K ≤ R.locals ∧ l = Y.2.2.2.2.2.2.2
-- from one state to another
def xi_To (Y : xi_Y) (d n : Nat) (A B : xi_S) : Prop :=
  A.2.2.2.length ≤ B.2.2.2.length ∧ xi_sl A.2.2.2 ≤ xi_sl B.2.2.2 ∧
  ∀ (p : Program) (l : Launch) (e : Env) (R : Room) (s : State) (m : MethodId) (args : Array Value) (below : List Frame) (meth : Method) (c : Code) (Q : State → Prop),
    xi_Fr Y d n p l R s m args meth c →
    ∀ (H : Heap) (locs : List Loc) (cells slots cells' slots' : Nat) (ls : Array Slot),
      xi_Hs Y A.2.2.2 H → va_S (xi_A Y) s.heap H locs → xi_lv Y A.2.1 ls →
      cells' + A.2.2.2.length = cells + B.2.2.2.length → slots' + xi_sl A.2.2.2 = slots + xi_sl B.2.2.2 → cells' ≤ R.cells → slots' ≤ R.slots →
      (∀ (H' : Heap) (locs' : List Loc) (ls' : Array Slot), xi_Hs Y B.2.2.2 H' → va_S (xi_A Y) s.heap H' locs' → xi_lv Y B.2.1 ls' → W p l e R s m args below meth c H' locs' cells' slots' Q (F0 m B.1 ls' (B.2.2.1.map (xi_v Y)))) →
      W p l e R s m args below meth c H locs cells slots Q (F0 m A.1 ls (A.2.2.1.map (xi_v Y)))
theorem xi_To.rf (Y : xi_Y) (d n : Nat) (A : xi_S) : xi_To Y d n A A := by
  refine ⟨Nat.le_refl _, Nat.le_refl _, fun p l e R s m args below meth c Q hF H locs cells slots cells' slots' ls hH hS hl hc hs h1 h2 kk => ?_⟩
  have e1 : cells' = cells := by omega
  have e2 : slots' = slots := by omega
  subst e1; subst e2
  exact kk H locs ls hH hS hl
theorem xi_To.trans {Y : xi_Y} {d n : Nat} {A B C : xi_S} (h1 : xi_To Y d n A B) (h2 : xi_To Y d n B C) : xi_To Y d n A C := by
  obtain ⟨a1, a2, a3⟩ := h1
  obtain ⟨b1, b2, b3⟩ := h2
  refine ⟨Nat.le_trans a1 b1, Nat.le_trans a2 b2, fun p l e R s m args below meth c Q hF H locs cells slots cells' slots' ls hH hS hl hc hs h1 h2 kk => ?_⟩
  refine a3 p l e R s m args below meth c Q hF H locs cells slots (cells + (B.2.2.2.length - A.2.2.2.length)) (slots + (xi_sl B.2.2.2 - xi_sl A.2.2.2)) ls hH hS hl (by omega) (by omega) (by omega) (by omega) fun H' locs' ls' hH' hS' hl' => ?_
  exact b3 p l e R s m args below meth c Q hF H' locs' _ _ cells' slots' ls' hH' hS' hl' (by omega) (by omega) h1 h2 kk
theorem xi_To.same {Y : xi_Y} {d n pc pc' : Nat} {L L' : xi_L} {st st' : List Value} {w : xi_W}
    (k : ∀ (p : Program) (l : Launch) (e : Env) (R : Room) (s : State) (m : MethodId) (args : Array Value) (below : List Frame) (meth : Method) (c : Code) (Q : State → Prop), xi_Fr Y d n p l R s m args meth c →
      ∀ (H : Heap) (locs : List Loc) (cells slots : Nat) (ls : Array Slot), xi_Hs Y w H → va_S (xi_A Y) s.heap H locs → xi_lv Y L ls →
      (∀ ls' : Array Slot, xi_lv Y L' ls' → W p l e R s m args below meth c H locs cells slots Q (F0 m pc' ls' (st'.map (xi_v Y)))) → W p l e R s m args below meth c H locs cells slots Q (F0 m pc ls (st.map (xi_v Y)))) : xi_To Y d n (pc, L, st, w) (pc', L', st', w) := by
  refine ⟨Nat.le_refl _, Nat.le_refl _, fun p l e R s m args below meth c Q hF H locs cells slots cells' slots' ls hH hS hl hc hs h1 h2 kk => ?_⟩
  dsimp only at hc hs hH hl kk ⊢
  have e1 : cells' = cells := by omega
  have e2 : slots' = slots := by omega
  subst e1; subst e2
  exact k p l e R s m args below meth c Q hF H locs _ _ ls hH hS hl fun ls' hl' => kk H locs ls' hH hS hl'
end
section
/-! One step at a time. -/
def xi_Row (M : xi_M) (pc pc' : Nat) (ls : Array Slot) (a b : List Value) : Prop := ∀ (p : Program) (l : Launch) (e : Env) (R : Room) (s : State) (m : MethodId) (args : Array Value) (below : List Frame) (meth : Method) (c : Code) (H : Heap) (locs : List Loc) (cells slots : Nat) (Q : State → Prop),
  p.tables.exec = Jvm.exec → c.code = M.2.1 → W p l e R s m args below meth c H locs cells slots Q (F0 m pc' ls b) → W p l e R s m args below meth c H locs cells slots Q (F0 m pc ls a)
def xi_RowS (Y : xi_Y) (M : xi_M) (L : xi_L) (k pc pc' : Nat) (v : Value) : Prop := ∀ (p : Program) (l : Launch) (e : Env) (R : Room) (s : State) (m : MethodId) (args : Array Value) (below : List Frame) (meth : Method) (c : Code) (H : Heap) (locs : List Loc) (cells slots : Nat) (Q : State → Prop) (ls : Array Slot) (rest : List Value),
  p.tables.exec = Jvm.exec → c.code = M.2.1 → lv_has ls L.length (xi_prs Y L) → k < L.length →
  (∀ ls' : Array Slot, lv_has ls' L.length ((k, xi_v Y v) :: (xi_prs Y L).filter (fun q => !(q.1 == k) && !(q.1 + 1 == k && q.2.category == 2))) → W p l e R s m args below meth c H locs cells slots Q (F0 m pc' ls' rest)) → W p l e R s m args below meth c H locs cells slots Q (F0 m pc ls (xi_v Y v :: rest))
section XS
variable {Y : xi_Y} {d n : Nat} {M : xi_M} {pc pc' : Nat} {L : xi_L} {st st' : List Value} {w : xi_W} {B : xi_S}
theorem xi_row (hM : xi_ml[n]? = some M) (h : ∀ ls, xi_lv Y L ls → xi_Row M pc pc' ls (st.map (xi_v Y)) (st'.map (xi_v Y))) : xi_To Y d n (pc, L, st, w) (pc', L, st', w) :=
  xi_To.same fun p l e R s m args below meth c Q hF H locs cells slots ls hH hS hl k => by
    obtain ⟨M', hM', hx, hb, -⟩ := hF
    cases hM.symm.trans hM'
    exact h ls hl p l e R s m args below meth c H locs cells slots Q hx hb (k ls hl)
theorem xi_sto (hM : xi_ml[n]? = some M) {k : Nat} {v : Value} {r : List Value} (hk : k < L.length) (hc : v.category = 1) (hrow : xi_RowS Y M L k pc pc' v) : xi_To Y d n (pc, L, v :: r, w) (pc', L.set k (some v), r, w) :=
  xi_To.same fun p l e R s m args below meth c Q hF H locs cells slots ls hH hS hl kk => by
    obtain ⟨M', hM', hx, hb, -⟩ := hF
    cases hM.symm.trans hM'
    exact hrow p l e R s m args below meth c H locs cells slots Q ls _ hx hb hl.has hk (fun ls' h' => kk ls' (hl.store hk hc h'))
theorem xi_ldi_ok (hM : xi_ml[n]? = some M) {k len : Nat} (hrow : ∀ (ls : Array Slot) (rest : List Value) (x : Int32), ls[k]? = some (.val (.int x)) → xi_Row M pc (pc + len) ls rest (.int x :: rest)) (h : xi_ldi k len pc L st w = some B) : xi_To Y d n (pc, L, st, w) B := by
  unfold xi_ldi at h
  split at h
  · next x hx =>
    cases h
    exact xi_row hM fun ls hl => hrow ls _ x (hl.2.2 k _ (hl.at hx)).1
  · cases h
theorem xi_lda_ok (hM : xi_ml[n]? = some M) {k len : Nat} (hrow : ∀ (ls : Array Slot) (rest : List Value) (x : Nat), ls[k]? = some (.val (.ref x)) → xi_Row M pc (pc + len) ls rest (.ref x :: rest)) (h : xi_lda k len pc L st w = some B) : xi_To Y d n (pc, L, st, w) B := by
  unfold xi_lda at h
  split at h
  · next x hx =>
    cases h
    exact xi_row hM fun ls hl => hrow ls _ (xi_ad Y x) (hl.2.2 k _ (hl.at hx)).1
  · cases h
theorem xi_sti_ok (hM : xi_ml[n]? = some M) {k len : Nat} (hrow : ∀ x : Int32, xi_RowS Y M L k pc (pc + len) (.int x)) (h : xi_sti k len pc L st w = some B) : xi_To Y d n (pc, L, st, w) B := by
  unfold xi_sti at h
  split at h
  · split at h
    · next hk => cases h; exact xi_sto hM hk rfl (hrow _)
    · cases h
  · cases h
theorem xi_sta_ok (hM : xi_ml[n]? = some M) {k len : Nat} (hrow : ∀ x : Nat, xi_RowS Y M L k pc (pc + len) (.ref x)) (h : xi_sta k len pc L st w = some B) : xi_To Y d n (pc, L, st, w) B := by
  unfold xi_sta at h
  split at h
  · split at h
    · next hk => cases h; exact xi_sto hM hk rfl (hrow _)
    · cases h
  · cases h
theorem xi_inc_ok (hM : xi_ml[n]? = some M) {k : Nat} {z : Int} (hd : decode M.2.1 pc = .ok (.iinc k z, 3)) (h : xi_inc k z pc L st w = some B) : xi_To Y d n (pc, L, st, w) B := by
  unfold xi_inc at h
  split at h
  · next x hx =>
    cases h
    refine xi_To.same fun p l e R s m args below meth c Q hF H locs cells slots ls hH hS hl kk => ?_
    obtain ⟨M', hM', hx', hb, -⟩ := hF
    cases hM.symm.trans hM'
    have hat := hl.at hx
    have hk : k < L.length := (List.getElem?_eq_some_iff.mp hat).1
    obtain ⟨q, hq⟩ := List.getElem?_of_mem (xi_prs_mem (Y := Y) hat)
    exact lv_iinc hx' hb hd hl.has hq rfl hk rfl fun ls' h' => kk ls' (hl.store (v := .int (x + Int32.ofInt z)) hk rfl h')
  · cases h
theorem xi_bin_ok (hM : xi_ml[n]? = some M) {op : Int32 → Int32 → Int32} (hrow : ∀ (ls : Array Slot) (rest : List Value) (x y : Int32), xi_Row M pc (pc + 1) ls (.int y :: .int x :: rest) (.int (op x y) :: rest)) (h : xi_bin op pc L st w = some B) : xi_To Y d n (pc, L, st, w) B := by
  unfold xi_bin at h
  split at h
  · cases h
    exact xi_row hM fun ls hl => hrow ls _ _ _
  · cases h
theorem xi_rem_ok (hM : xi_ml[n]? = some M) (hd : decode M.2.1 pc = .ok (.irem, 1)) (h : xi_rem pc L st w = some B) : xi_To Y d n (pc, L, st, w) B := by
  unfold xi_rem at h
  split at h
  · split at h
    · cases h
    · next hy =>
      cases h
      exact xi_row hM fun ls hl p l e R s m args below meth c H locs cells slots Q hx hb k => lv_irem hx hb hd hy k
  · cases h
theorem xi_i2l_ok (hM : xi_ml[n]? = some M) (hd : decode M.2.1 pc = .ok (.i2l, 1)) (h : xi_i2l pc L st w = some B) : xi_To Y d n (pc, L, st, w) B := by
  unfold xi_i2l at h
  split at h
  · cases h
    exact xi_row hM fun ls hl p l e R s m args below meth c H locs cells slots Q hx hb k => lv_i2l hx hb hd rfl k
  · cases h
theorem xi_lcmp_ok (hM : xi_ml[n]? = some M) (hd : decode M.2.1 pc = .ok (.lcmp, 1)) (h : xi_lcmp pc L st w = some B) : xi_To Y d n (pc, L, st, w) B := by
  unfold xi_lcmp at h
  split at h
  · cases h
    exact xi_row hM fun ls hl p l e R s m args below meth c H locs cells slots Q hx hb k => W.lcmp hx hb hd k
  · cases h
theorem xi_dup_ok (hM : xi_ml[n]? = some M) (hd : decode M.2.1 pc = .ok (.dup, 1)) (h : xi_dup pc L st w = some B) : xi_To Y d n (pc, L, st, w) B := by
  unfold xi_dup at h
  split at h
  · split at h
    · next hc =>
      cases h
      exact xi_row hM fun ls hl p l e R s m args below meth c H locs cells slots Q hx hb k => lv_dup hx hb hd (by rw [xi_cat]; exact hc) k
    · cases h
  · cases h
theorem xi_dup2_ok (hM : xi_ml[n]? = some M) (hd : decode M.2.1 pc = .ok (.dup2, 1)) (h : xi_dup2 pc L st w = some B) : xi_To Y d n (pc, L, st, w) B := by
  unfold xi_dup2 at h
  split at h
  · split at h
    · next hc =>
      cases h
      exact xi_row hM fun ls hl p l e R s m args below meth c H locs cells slots Q hx hb k => lv_dup2_11 hx hb hd (by rw [xi_cat]; exact hc.1) (by rw [xi_cat]; exact hc.2) k
    · cases h
  · cases h
theorem xi_pop_ok (hM : xi_ml[n]? = some M) (hd : decode M.2.1 pc = .ok (.pop, 1)) (h : xi_pop pc L st w = some B) : xi_To Y d n (pc, L, st, w) B := by
  unfold xi_pop at h
  split at h
  · split at h
    · next hc =>
      cases h
      exact xi_row hM fun ls hl p l e R s m args below meth c H locs cells slots Q hx hb k => lv_pop hx hb hd (by rw [xi_cat]; exact hc) k
    · cases h
  · cases h
theorem xi_go1_ok (hM : xi_ml[n]? = some M) {st2 : List Value} {off : Int} (hrow : ∀ (ls : Array Slot) (tgt : Nat), (pc : Int) + off = (tgt : Int) → xi_Row M pc tgt ls (st2.map (xi_v Y)) (st.map (xi_v Y))) (h : xi_go1 off pc L st w = some B) : xi_To Y d n (pc, L, st2, w) B := by
  unfold xi_go1 at h
  split at h
  · next hp =>
    cases h
    exact xi_row hM fun ls hl => hrow ls _ (Int.toNat_of_nonneg hp).symm
  · cases h
theorem xi_if1_ok (hM : xi_ml[n]? = some M) {t : Int32 → Bool} {off : Int} (hrow : ∀ (ls : Array Slot) (rest : List Value) (x : Int32) (tgt : Nat), (pc : Int) + off = (tgt : Int) → (t x = true → xi_Row M pc tgt ls (.int x :: rest) rest) ∧ (t x = false → xi_Row M pc (pc + 3) ls (.int x :: rest) rest)) (h : xi_if1 t off pc L st w = some B) : xi_To Y d n (pc, L, st, w) B := by
  unfold xi_if1 at h
  split at h
  · next x r =>
    split at h
    · next hp =>
      cases h
      cases ht : t x
      · rw [if_neg (by simp)]
        exact xi_row hM fun ls hl => (hrow ls _ x _ (Int.toNat_of_nonneg hp).symm).2 ht
      · rw [if_pos rfl]
        exact xi_row hM fun ls hl => (hrow ls _ x _ (Int.toNat_of_nonneg hp).symm).1 ht
    · cases h
  · cases h
theorem xi_if2_ok (hM : xi_ml[n]? = some M) {t : Int32 → Int32 → Bool} {off : Int} (hrow : ∀ (ls : Array Slot) (rest : List Value) (x y : Int32) (tgt : Nat), (pc : Int) + off = (tgt : Int) → (t x y = true → xi_Row M pc tgt ls (.int y :: .int x :: rest) rest) ∧ (t x y = false → xi_Row M pc (pc + 3) ls (.int y :: .int x :: rest) rest)) (h : xi_if2 t off pc L st w = some B) : xi_To Y d n (pc, L, st, w) B := by
  unfold xi_if2 at h
  split at h
  · next y x r =>
    split at h
    · next hp =>
      cases h
      cases ht : t x y
      · rw [if_neg (by simp)]
        exact xi_row hM fun ls hl => (hrow ls _ x y _ (Int.toNat_of_nonneg hp).symm).2 ht
      · rw [if_pos rfl]
        exact xi_row hM fun ls hl => (hrow ls _ x y _ (Int.toNat_of_nonneg hp).symm).1 ht
    · cases h
  · cases h
theorem xi_tab_ok (hM : xi_ml[n]? = some M) {dd lo hi : Int} {offs : Array Int} {len : Nat} (hd : decode M.2.1 pc = .ok (.tableswitch dd lo hi offs, len)) (h : xi_tab dd lo hi offs pc L st w = some B) : xi_To Y d n (pc, L, st, w) B := by
  unfold xi_tab at h
  split at h
  · next x r =>
    split at h
    · next ho => exact xi_go1_ok hM (fun ls tgt ht p l e R s m args below meth c H locs cells slots Q hx hb k => lv_tableOut hx hb hd ho ht k) h
    · next ho =>
      split at h
      · next o hq => exact xi_go1_ok hM (fun ls tgt ht p l e R s m args below meth c H locs cells slots Q hx hb k => lv_tableIn hx hb hd (fun z => ho (Or.inl z)) (fun z => ho (Or.inr z)) hq ht k) h
      · cases h
  · cases h
theorem xi_lok_ok (hM : xi_ml[n]? = some M) {dd : Int} {ps : Array (Int × Int)} {len : Nat} (hd : decode M.2.1 pc = .ok (.lookupswitch dd ps, len)) (h : xi_lok dd ps pc L st w = some B) : xi_To Y d n (pc, L, st, w) B := by
  unfold xi_lok at h
  split at h
  · next x r =>
    split at h
    · next ho => exact xi_go1_ok hM (fun ls tgt ht p l e R s m args below meth c H locs cells slots Q hx hb k => lv_lookup hx hb hd ho rfl ht k) h
    · cases h
  · cases h
theorem xi_gst_ok (hM : xi_ml[n]? = some M) {x : Nat} (hd : decode M.2.1 pc = .ok (.getstatic x, 3)) (h : xi_gst (xi_isZ M x) pc L st w = some B) : xi_To Y d n (pc, L, st, w) B := by
  unfold xi_gst at h
  split at h
  · next hz =>
    cases h
    refine xi_To.same fun p l e R s m args below meth c Q hF H locs cells slots ls hH hS hl kk => ?_
    obtain ⟨M', hM', hx, hb, -, hown, -, hts, hG, -⟩ := hF
    cases hM.symm.trans hM'
    obtain ⟨host, hq⟩ := xi_isZ_spec hM hz
    exact va_getsN hx hb hG.2.2.2.1 hS hown (va_Nw.use rfl (hG.2.2.1 _ hq)) (fun _ h => h) hd (kk ls hl)
  · cases h
theorem xi_iald_ok (hM : xi_ml[n]? = some M) {Z S : List Int32} (eZ : Z = Y.2.2.2.2.2.1) (eS : S = Y.2.2.2.2.2.2.1) (hd : decode M.2.1 pc = .ok (.iaload, 1)) (h : xi_iald Z S pc L st w = some B) : xi_To Y d n (pc, L, st, w) B := by
  subst eZ; subst eS
  unfold xi_iald at h
  split at h
  · next j a r =>
    split at h
    · next f hf =>
      split at h
      · cases h
      · next hin =>
        cases h
        refine xi_To.same fun p l e R s m args below meth c Q hF H locs cells slots ls hH hS hl kk => ?_
        obtain ⟨M', hM', hx, hb, -, -, -, -, hG, -⟩ := hF
        cases hM.symm.trans hM'
        have k := kk ls hl
        unfold xi_ia at hf
        split at hf
        · cases hf
          exact va_ti hx hb hG.2.2.2.2.1 hS hin rfl hd k
        · cases hf
          exact va_sld hx hb hG.2.2.2.2.2.1 (Nat.lt_of_lt_of_le hG.2.2.2.2.2.2.1 hG.2.2.2.2.2.2.2.1) (fun z => absurd z (Nat.not_le.mpr hG.2.2.2.2.2.2.1)) hS hin hd k
        · next k0 =>
          split at hf
          · next f0 hw =>
            cases hf
            exact va_iald (a := Y.2.2.1 + k0) (cA := Y.2.1 0) (n := f.length) (f := fun i => f.getD i 0) hx hb hG.1 (hH.one hw) 0 0 rfl rfl hin hd k
          · cases hf
    · cases h
  · cases h
theorem xi_zald_ok (hM : xi_ml[n]? = some M) (hd : decode M.2.1 pc = .ok (.baload, 1)) (h : xi_zald pc L st w = some B) : xi_To Y d n (pc, L, st, w) B := by
  unfold xi_zald at h
  split at h
  · next j a r =>
    split at h
    · next f hf =>
      split at h
      · cases h
      · next hin =>
        cases h
        refine xi_To.same fun p l e R s m args below meth c Q hF H locs cells slots ls hH hS hl kk => ?_
        obtain ⟨M', hM', hx, hb, -, -, -, -, hG, -⟩ := hF
        cases hM.symm.trans hM'
        obtain ⟨k0, rfl, hw⟩ := xi_cell_some hf
        exact va_zald (a := Y.2.2.1 + k0) (cA := Y.2.1 1) (n := f.length) (f := fun i => f.getD i 0) hx hb hG.1 (hH.one hw) 0 1 rfl rfl hin hd (kk ls hl)
    · cases h
  · cases h
theorem xi_lald_ok (hM : xi_ml[n]? = some M) (hd : decode M.2.1 pc = .ok (.laload, 1)) (h : xi_lald pc L st w = some B) : xi_To Y d n (pc, L, st, w) B := by
  unfold xi_lald at h
  split at h
  · next j a r =>
    split at h
    · next f hf =>
      split at h
      · cases h
      · next hin =>
        cases h
        refine xi_To.same fun p l e R s m args below meth c Q hF H locs cells slots ls hH hS hl kk => ?_
        obtain ⟨M', hM', hx, hb, -, -, -, -, hG, -⟩ := hF
        cases hM.symm.trans hM'
        obtain ⟨k0, rfl, hw⟩ := xi_cell_some hf
        exact va_lald (a := Y.2.2.1 + k0) (cA := Y.2.1 2) (n := f.length) (f := fun i => f.getD i 0) hx hb hG.1 (hH.one hw) 0 2 rfl rfl hin hd (kk ls hl)
    · cases h
  · cases h
theorem xi_alen_ok (hM : xi_ml[n]? = some M) {Z S : List Int32} (eZ : Z = Y.2.2.2.2.2.1) (eS : S = Y.2.2.2.2.2.2.1) (hd : decode M.2.1 pc = .ok (.arraylength, 1)) (h : xi_alen Z S pc L st w = some B) : xi_To Y d n (pc, L, st, w) B := by
  subst eZ; subst eS
  unfold xi_alen at h
  split at h
  · next a r =>
    split at h
    · next f hf =>
      cases h
      refine xi_To.same fun p l e R s m args below meth c Q hF H locs cells slots ls hH hS hl kk => ?_
      obtain ⟨M', hM', hx, hb, -, -, -, -, hG, -⟩ := hF
      cases hM.symm.trans hM'
      have k := kk ls hl
      unfold xi_ia at hf
      split at hf
      · cases hf
        exact va_tlen hx hb hG.2.2.2.2.1 hS rfl hd k
      · cases hf
        exact va_slen hx hb hG.2.2.2.2.2.1 (Nat.lt_of_lt_of_le hG.2.2.2.2.2.2.1 hG.2.2.2.2.2.2.2.1) (fun z => absurd z (Nat.not_le.mpr hG.2.2.2.2.2.2.1)) hS hd k
      · next k0 =>
        split at hf
        · next f0 hw =>
          cases hf
          exact va_alen (a := Y.2.2.1 + k0) (cA := Y.2.1 0) (x := (f.length, .inl (fun i => f.getD i 0))) (ty := .int) hx hb hG.1 (hH.one hw) 0 0 rfl rfl rfl hd k
        · cases hf
    · cases h
  · cases h
end XS
end
section
/-! Steps that write or make cells. -/
theorem xi_lset {f : List Int64} {i j : Nat} (x : Int64) (hc : i < f.length) : (f.set i x).getD j 0 = if j = i then x else f.getD j 0 := by
  by_cases hjc : j = i
  · subst hjc
    simp [List.getD_eq_getElem?_getD, hc]
  · have hcj : i ≠ j := fun q => hjc q.symm
    simp [List.getD_eq_getElem?_getD, List.getElem?_set, hjc, hcj]
theorem xi_arr_i (cA : ClassId) {f : List Int32} {i : Nat} (x : Int32) (h : i < f.length) : (arrV cA f.length (fun j => .int (f.getD j 0))).setSlot i (.int x) = arrV cA (f.set i x).length (fun j => .int ((f.set i x).getD j 0)) := by
  rw [arrV_store, List.length_set]
  congr 1
  funext j
  rw [set_getD x h]
  unfold updV
  by_cases hj : j = i
  · rw [if_pos hj, if_pos hj]
  · rw [if_neg hj, if_neg hj]
theorem xi_arr_l (cA : ClassId) {f : List Int64} {i : Nat} (x : Int64) (h : i < f.length) : (arrV cA f.length (fun j => .long (f.getD j 0))).setSlot i (.long x) = arrV cA (f.set i x).length (fun j => .long ((f.set i x).getD j 0)) := by
  rw [arrV_store, List.length_set]
  congr 1
  funext j
  rw [xi_lset x h]
  unfold updV
  by_cases hj : j = i
  · rw [if_pos hj, if_pos hj]
  · rw [if_neg hj, if_neg hj]
theorem xi_zero_i (cA : ClassId) (N : Nat) : arrV cA (List.replicate N (0 : Int32)).length (fun j => .int ((List.replicate N (0 : Int32)).getD j 0)) = arrV cA N (fun _ => .int 0) := by
  rw [List.length_replicate]
  congr 1
  funext j
  congr 1
  rw [List.getD_eq_getElem?_getD, List.getElem?_replicate]
  split <;> rfl
theorem xi_zero_l (cA : ClassId) (N : Nat) : arrV cA (List.replicate N (0 : Int64)).length (fun j => .long ((List.replicate N (0 : Int64)).getD j 0)) = arrV cA N (fun _ => .long 0) := by
  rw [List.length_replicate]
  congr 1
  funext j
  congr 1
  rw [List.getD_eq_getElem?_getD, List.getElem?_replicate]
  split <;> rfl
-- slots of a world
theorem xi_sl_set {w : xi_W} {k : Nat} {x y : xi_E} (h : w[k]? = some x) (e : xi_sc y = xi_sc x) : xi_sl (w.set k y) = xi_sl w := by
  unfold xi_sl
  rw [List.map_set]
  have hl := (List.getElem?_eq_some_iff.mp h).1
  have h2 : (w.map xi_sc)[k]? = some (xi_sc y) := by rw [List.getElem?_map, h, e]; rfl
  congr 1
  apply List.ext_getElem?
  intro j
  by_cases hj : j = k
  · subst hj
    rw [List.getElem?_set_self (by rw [List.length_map]; exact hl), h2]
  · rw [List.getElem?_set_ne (Ne.symm hj)]
theorem xi_sl_app (w : xi_W) (x : xi_E) : xi_sl (w ++ [x]) = xi_sl w + xi_sc x := by
  unfold xi_sl
  rw [List.map_append, List.sum_append]
  simp
theorem xi_fok_spec {ty : FieldType} {v : Value} (h : xi_fok ty v = true) : narrow ty v = v ∧ fits ty v = true := by
  unfold xi_fok at h
  split at h
  · exact ⟨rfl, rfl⟩
  · next x =>
    simp only [Bool.or_eq_true, decide_eq_true_eq] at h
    rcases h with rfl | rfl
    · exact ⟨by decide, by decide⟩
    · exact ⟨by decide, by decide⟩
  · exact ⟨rfl, rfl⟩
  · exact ⟨rfl, rfl⟩
  · exact ⟨rfl, rfl⟩
  · cases h
theorem xi_nar (Y : xi_Y) {ty : FieldType} {v : Value} (h : narrow ty v = v) : narrow ty (xi_v Y v) = xi_v Y v := by
  cases v with
  | ref a => cases ty <;> rfl
  | _ => exact h
theorem xi_fit (Y : xi_Y) (ty : FieldType) (v : Value) : fits ty (xi_v Y v) = fits ty v := by
  cases v <;> cases ty <;> rfl
section XT
variable {Y : xi_Y} {d n : Nat} {M : xi_M} {pc pc' : Nat} {L : xi_L} {st st' : List Value} {w : xi_W} {B : xi_S}
-- a step that writes one cell
theorem xi_To.wr {k0 : Nat} {x y : xi_E} (hw : w[k0]? = some x) (hsc : xi_sc y = xi_sc x)
    (k : ∀ (p : Program) (l : Launch) (e : Env) (R : Room) (s : State) (m : MethodId) (args : Array Value) (below : List Frame) (meth : Method) (c : Code) (Q : State → Prop), xi_Fr Y d n p l R s m args meth c →
      ∀ (H : Heap) (locs : List Loc) (cells slots : Nat) (ls : Array Slot), xi_Hs Y w H → va_S (xi_A Y) s.heap H locs → xi_lv Y L ls →
      (∀ (H1 : Heap) (i : Nat), H1.size = H.size → (∀ q : Nat, q ≠ Y.2.2.1 + k0 → H1[q]? = H[q]?) → va_at Y.1 xi_cl (Y.2.2.1 + k0, xi_c Y y) H1 → W p l e R s m args below meth c H1 (locs ++ [⟨Y.2.2.1 + k0, i⟩]) cells slots Q (F0 m pc' ls (st'.map (xi_v Y)))) →
      W p l e R s m args below meth c H locs cells slots Q (F0 m pc ls (st.map (xi_v Y)))) : xi_To Y d n (pc, L, st, w) (pc', L, st', w.set k0 y) := by
  have hsl := xi_sl_set hw hsc
  refine ⟨?_, ?_, fun p l e R s m args below meth c Q hF H locs cells slots cells' slots' ls hH hS hl hc hs h1 h2 kk => ?_⟩
  · show w.length ≤ (w.set k0 y).length
    rw [List.length_set]; exact Nat.le_refl _
  · show xi_sl w ≤ xi_sl (w.set k0 y)
    rw [hsl]; exact Nat.le_refl _
  · dsimp only at hc hs hH hl kk ⊢
    rw [List.length_set] at hc
    rw [hsl] at hs
    have e1 : cells' = cells := by omega
    have e2 : slots' = slots := by omega
    subst e1; subst e2
    exact k p l e R s m args below meth c Q hF H locs _ _ ls hH hS hl fun H1 i z oq hn => kk H1 _ ls (hH.upd hw z oq hn) (hS.put z oq (show Y.2.2.1 ≤ Y.2.2.1 + k0 from Nat.le_add_right _ _)) hl
-- a step that makes one cell
theorem xi_To.mk {x : xi_E}
    (k : ∀ (p : Program) (l : Launch) (e : Env) (R : Room) (s : State) (m : MethodId) (args : Array Value) (below : List Frame) (meth : Method) (c : Code) (Q : State → Prop), xi_Fr Y d n p l R s m args meth c →
      ∀ (H : Heap) (locs : List Loc) (cells slots : Nat) (ls : Array Slot), xi_Hs Y w H → va_S (xi_A Y) s.heap H locs → xi_lv Y L ls → cells + 1 ≤ R.cells → slots + xi_sc x ≤ R.slots →
      (∀ H1 : Heap, H1.size = Y.2.2.1 + w.length + 1 → (∀ q : Nat, q < Y.2.2.1 + w.length → H1[q]? = H[q]?) → va_at Y.1 xi_cl (Y.2.2.1 + w.length, xi_c Y x) H1 → W p l e R s m args below meth c H1 locs (cells + 1) (slots + xi_sc x) Q (F0 m pc' ls (st'.map (xi_v Y)))) →
      W p l e R s m args below meth c H locs cells slots Q (F0 m pc ls (st.map (xi_v Y)))) : xi_To Y d n (pc, L, st, w) (pc', L, st', w ++ [x]) := by
  have hsl := xi_sl_app w x
  refine ⟨?_, ?_, fun p l e R s m args below meth c Q hF H locs cells slots cells' slots' ls hH hS hl hc hs h1 h2 kk => ?_⟩
  · show w.length ≤ (w ++ [x]).length
    rw [List.length_append]; exact Nat.le_add_right _ _
  · show xi_sl w ≤ xi_sl (w ++ [x])
    rw [hsl]; exact Nat.le_add_right _ _
  · dsimp only at hc hs hH hl kk ⊢
    rw [List.length_append, List.length_singleton] at hc
    rw [hsl] at hs
    have e1 : cells' = cells + 1 := by omega
    have e2 : slots' = slots + xi_sc x := by omega
    subst e1; subst e2
    refine k p l e R s m args below meth c Q hF H locs _ _ ls hH hS hl h1 h2 fun H1 z oq hn => kk H1 _ ls (hH.push (by rw [z, hH.1]) (fun q hq => oq q (by rw [← hH.1]; exact hq)) hn) ?_ hl
    exact ⟨Nat.le_trans hS.1 (by rw [z, hH.1]; omega), fun q h1 h2 => (oq q (by rw [← hH.1]; exact Nat.lt_of_lt_of_le h1 hS.1)).trans (hS.2.1 q h1 h2), hS.2.2⟩
theorem xi_iast_ok (hM : xi_ml[n]? = some M) (hd : decode M.2.1 pc = .ok (.iastore, 1)) (h : xi_iast pc L st w = some B) : xi_To Y d n (pc, L, st, w) B := by
  unfold xi_iast at h
  split at h
  · next x j a r =>
    split at h
    · next f hf =>
      split at h
      · cases h
      · next hin =>
        cases h
        obtain ⟨k0, rfl, hw⟩ := xi_cell_some hf
        have hlt : j.toNatClampNeg < f.length := Nat.not_le.mp fun q => hin (Or.inr q)
        refine xi_To.wr (k0 := k0) hw (by show (f.set _ _).length = f.length; rw [List.length_set]) fun p l e R s m args below meth c Q hF H locs cells slots ls hH hS hl kk => ?_
        obtain ⟨M', hM', hx, hb, -, -, -, -, hG, -⟩ := hF
        cases hM.symm.trans hM'
        refine W.iast hx hb (hH.2 k0 _ hw) ((hG.1.2 0 _ rfl).1 f.length (fun j => .int (f.getD j 0))) (fun q => by cases q) (by show ¬ (j < 0 ∨ (arrV _ _ _).slots.size ≤ _); rw [arrV_size]; exact hin) rfl rfl hd fun H1 e1 z oq => ?_
        refine kk H1 _ z oq ?_
        show H1[(Y.2.2.1 + k0 : Nat)]? = some (vp_cell (Y.2.1 0) ((f.set j.toNatClampNeg x).length, .inl (fun i => (f.set j.toNatClampNeg x).getD i 0)))
        rw [vp_cell_i]
        rw [← xi_arr_i _ _ hlt]
        exact e1
    · cases h
  · cases h
theorem xi_zast_ok (hM : xi_ml[n]? = some M) (hd : decode M.2.1 pc = .ok (.bastore, 1)) (h : xi_zast pc L st w = some B) : xi_To Y d n (pc, L, st, w) B := by
  unfold xi_zast at h
  split at h
  · next x j a r =>
    split at h
    · next f hf =>
      split at h
      · cases h
      · next hin =>
        cases h
        obtain ⟨k0, rfl, hw⟩ := xi_cell_some hf
        have hlt : j.toNatClampNeg < f.length := Nat.not_le.mp fun q => hin (Or.inr q)
        refine xi_To.wr (k0 := k0) hw (by show (f.set _ _).length = f.length; rw [List.length_set]) fun p l e R s m args below meth c Q hF H locs cells slots ls hH hS hl kk => ?_
        obtain ⟨M', hM', hx, hb, -, -, -, -, hG, -⟩ := hF
        cases hM.symm.trans hM'
        refine W.zast hx hb (hH.2 k0 _ hw) ((hG.1.2 1 _ rfl).1 f.length (fun j => .int (f.getD j 0))) (fun q => by cases q) (by show ¬ (j < 0 ∨ (arrV _ _ _).slots.size ≤ _); rw [arrV_size]; exact hin) rfl rfl hd fun H1 e1 z oq => ?_
        refine kk H1 _ z oq ?_
        show H1[(Y.2.2.1 + k0 : Nat)]? = some (vp_cell (Y.2.1 1) ((f.set j.toNatClampNeg (vp_nar .boolean x)).length, .inl (fun i => (f.set j.toNatClampNeg (vp_nar .boolean x)).getD i 0)))
        rw [vp_cell_i]
        rw [← xi_arr_i _ _ hlt]
        exact e1
    · cases h
  · cases h
theorem xi_last_ok (hM : xi_ml[n]? = some M) (hd : decode M.2.1 pc = .ok (.lastore, 1)) (h : xi_last pc L st w = some B) : xi_To Y d n (pc, L, st, w) B := by
  unfold xi_last at h
  split at h
  · next x j a r =>
    split at h
    · next f hf =>
      split at h
      · cases h
      · next hin =>
        cases h
        obtain ⟨k0, rfl, hw⟩ := xi_cell_some hf
        have hlt : j.toNatClampNeg < f.length := Nat.not_le.mp fun q => hin (Or.inr q)
        refine xi_To.wr (k0 := k0) hw (by show (f.set _ _).length = f.length; rw [List.length_set]) fun p l e R s m args below meth c Q hF H locs cells slots ls hH hS hl kk => ?_
        obtain ⟨M', hM', hx, hb, -, -, -, -, hG, -⟩ := hF
        cases hM.symm.trans hM'
        refine W.last hx hb (hH.2 k0 _ hw) ((hG.1.2 2 _ rfl).1 f.length (fun j => .long (f.getD j 0))) (fun q => by cases q) (by show ¬ (j < 0 ∨ (arrV _ _ _).slots.size ≤ _); rw [arrV_size]; exact hin) rfl rfl hd fun H1 e1 z oq => ?_
        refine kk H1 _ z oq ?_
        show H1[(Y.2.2.1 + k0 : Nat)]? = some (vp_cell (Y.2.1 2) ((f.set j.toNatClampNeg x).length, .inr (.inl (fun i => (f.set j.toNatClampNeg x).getD i 0))))
        rw [vp_cell_l]
        rw [← xi_arr_l _ _ hlt]
        exact e1
    · cases h
  · cases h
theorem xi_get_ok (hM : xi_ml[n]? = some M) {x : Nat} (hd : decode M.2.1 pc = .ok (.getfield x, 3)) (h : xi_get (xi_fd M x) pc L st w = some B) : xi_To Y d n (pc, L, st, w) B := by
  unfold xi_get at h
  split at h
  · next ci k hq =>
    split at h
    · next a r =>
      split at h
      · next cj fs hf =>
        split at h
        · next hcj =>
          split at h
          · next v hv =>
            cases h
            subst hcj
            obtain ⟨k0, rfl, hw⟩ := xi_cell_some hf
            refine xi_To.same fun p l e R s m args below meth c Q hF H locs cells slots ls hH hS hl kk => ?_
            obtain ⟨M', hM', hx, hb, -, hown, -, hts, hG, -⟩ := hF
            cases hM.symm.trans hM'
            obtain ⟨⟨C, T, N⟩, hr, hkN, hlink⟩ := xi_fd_spec hM hq
            exact va_get (a := Y.2.2.1 + k0) hx hb hts (xi_W0_cl hr) hown hG.1 (hH.one hw) 0 rfl hr k hkN (hts _ hlink) (fun _ h => h) (by rw [List.getElem?_map, hv]; rfl) hd (kk ls hl)
          · cases h
        · cases h
      · cases h
    · cases h
  · cases h
theorem xi_set_ok (hM : xi_ml[n]? = some M) {x : Nat} (hd : decode M.2.1 pc = .ok (.putfield x, 3)) (h : xi_set (xi_fd M x) (xi_fty (xi_fd M x)) (xi_okf M (xi_fd M x)) pc L st w = some B) : xi_To Y d n (pc, L, st, w) B := by
  cases hq : xi_fd M x with
  | none => rw [hq] at h; cases h
  | some q =>
    obtain ⟨ci, k⟩ := q
    rw [hq] at h
    unfold xi_set at h
    dsimp only at h
    split at h
    · next v a r =>
      split at h
      · next cj fs hf =>
        split at h
        · next hg =>
          cases h
          obtain ⟨hcj, hkl, hok, hfk⟩ := hg
          obtain ⟨hn, hfit⟩ := xi_fok_spec hfk
          subst hcj
          obtain ⟨k0, rfl, hw⟩ := xi_cell_some hf
          refine xi_To.wr (k0 := k0) hw (by show (fs.set _ _).length = fs.length; rw [List.length_set]) fun p l e R s m args below meth c Q hF H locs cells slots ls hH hS hl kk => ?_
          obtain ⟨M', hM', hx, hb, -, hown, hname, hts, hG, -⟩ := hF
          cases hM.symm.trans hM'
          obtain ⟨⟨C, T, N⟩, hr, hkN, hlink⟩ := xi_fd_spec hM hq
          dsimp only at hkN hlink
          obtain ⟨hty, hnm, hdc⟩ := xi_okC cj _ hr
          dsimp only at hty hnm hdc
          have hin := xi_W0_cl hr
          dsimp only at hin
          have hap := va_apart (own := M.1.cls) hts hin (xi_tt cj) hty hnm hG.1 hr
          obtain ⟨r', g1, cell, q1, q2, q3, q4⟩ := hH.2 k0 _ hw
          have hr' : r' = (C, T, N) := Option.some.inj (g1.symm.trans hr)
          subst hr'
          obtain ⟨hSl, hfc, kC, hkC, hkind⟩ := hG.1.1 cj _ hr
          obtain ⟨cf, kf, fi, f, hi, hsl⟩ := hSl k hkN
          have hst := (u_facts hfc hkC (u_lays hts hin hkN) hi).1
          have hn' := xi_nar Y hn
          have hfit' := (xi_fit Y (xi_tt cj k) v).trans hfit
          have hlay := hts _ (hin _ (u_in_lay hkN))
          unfold u_lay at hlay
          have fin : ∀ (H' : Heap), H'[Y.2.2.1 + k0]? = some (cell.setSlot f.slot (xi_v Y v)) → va_at Y.1 xi_cl (Y.2.2.1 + k0, xi_c Y (.inr (cj, fs.set k v))) H' := by
            intro H' e1
            rw [hsl] at e1
            refine ⟨_, hr, t_OB.to (V := updV (vp_V (fs.map (xi_v Y))) k (xi_v Y v)) ⟨_, e1, q2, q3, t_set q4 hap hkN (xi_v Y v)⟩ (fun j _ => ?_)⟩
            rw [vp_updV_set (by rw [List.length_map]; exact hkl), List.map_set]
          cases hfl : (T k).2.2.2 with
          | false =>
            rw [if_neg (by rw [hfl]; decide)] at hlay
            have h6 := u_store hfc hkC hkind hlay hi (hty k hkN) hn' hfit'
            exact W.putK hx hb (f := f) ⟨hown, hts _ hlink, ⟨_, _, _, hi⟩, hst⟩ (by rw [q2]; exact h6) q1 q3 (by rw [hsl]; exact k2_hasslot (q4 k hkN)) rfl rfl hd fun H' e1 e2 e3 => kk H' _ e2 e3 (fin H' e1)
          | true =>
            rw [if_pos hfl] at hlay
            have hok2 : (M.2.2.2.2.1 == 2 && M.2.2.2.2.2.2.1 == cj) = true := by
              have h9 : xi_fin cj k = true := by unfold xi_fin; rw [hr]; exact hfl
              unfold xi_okf at hok
              dsimp only at hok
              rw [h9] at hok
              simpa using hok
            simp only [Bool.and_eq_true, beq_iff_eq] at hok2
            obtain ⟨hkd, hci⟩ := hok2
            obtain ⟨-, -, -, -, -, m6, m7, -⟩ := xi_okM M (List.mem_of_getElem? hM)
            have hini := (m6 hkd).1
            obtain ⟨r9, hr9, hc9⟩ := m7 (by rw [hkd]; decide) (by rw [hkd]; decide)
            rw [hci, hr] at hr9
            cases hr9
            have hcf : m.cls = cf := by
              obtain ⟨_, _, c', _, _, _, -, -, hf', -, -, -, hown2, -⟩ := Cond.laysFinal_spec hlay
              have e1 : c' = cf := by have := hi.symm.trans hf'; simp at this; exact this.1.symm
              rw [hdc k hkN] at hown2
              rw [← hc9] at hown
              rw [← e1]; exact Option.some.inj (hown.symm.trans hown2)
            have h6 := u_fits hfc hkC hkind (Or.inr hlay) hi (hty k hkN) hn' hfit'
            exact W.putFinK hx hb hown (hts _ hlink) hi hst hcf (hname.trans hini) (by rw [q2]; exact h6) q1 q3 (by rw [hsl]; exact k2_hasslot (q4 k hkN)) rfl rfl hd fun H' e1 e2 e3 => kk H' _ e2 e3 (fin H' e1)
        · cases h
      · cases h
    · cases h
theorem xi_new_ok (hM : xi_ml[n]? = some M) {x : Nat} (hd : decode M.2.1 pc = .ok (.new x, 3)) (h : xi_new (xi_nw M x) xi_dfl pc L st w = some B) : xi_To Y d n (pc, L, st, w) B := by
  unfold xi_new at h
  split at h
  · next ci hq =>
    cases h
    obtain ⟨⟨C, T, N⟩, hr, w1, w2, w3⟩ := xi_nw_spec hM hq
    dsimp only at w1 w2 w3
    have hdf : xi_dfl ci = (List.range N).map (fun k => defaultValue (xi_tt ci k)) := by unfold xi_dfl; rw [hr]
    have hsc : xi_sc (.inr (ci, xi_dfl ci)) = N := by show (xi_dfl ci).length = N; rw [hdf, List.length_map, List.length_range]
    refine xi_To.mk fun p l e R s m args below meth c Q hF H locs cells slots ls hH hS hl hc hs kk => ?_
    obtain ⟨M', hM', hx, hb, -, hown, -, hts, hG, -⟩ := hF
    cases hM.symm.trans hM'
    rw [hsc] at hs kk
    have hKn := hG.1.1 ci _ hr
    refine W.newcK hx hb hown (hts _ w1) (hts _ w2) (hts _ w3) rfl hd hc hs hKn.2.1 hH.1 fun H1 kC hkC e1 z1 o1 => ?_
    obtain ⟨hty, -⟩ := xi_okC ci _ hr
    refine kk H1 z1 o1 ⟨_, hr, (u_born (xi_tt ci) hts (xi_W0_cl hr) hKn hkC e1 hty).to fun j hj => ?_⟩
    show _ = vp_V ((xi_dfl ci).map (xi_v Y)) j
    rw [hdf]
    have hj' : j < N := hj
    simp only [vp_V, List.map_map, List.getD_eq_getElem?_getD, List.getElem?_map, List.getElem?_range hj', Option.map_some, Option.getD_some, Function.comp]
    cases xi_tt ci j <;> rfl
  · cases h
theorem xi_newa_ok (hM : xi_ml[n]? = some M) {t : ArrayType} (hd : decode M.2.1 pc = .ok (.newarray t, 2)) (h : xi_newa t pc L st w = some B) : xi_To Y d n (pc, L, st, w) B := by
  unfold xi_newa at h
  split at h
  · next z r =>
    split at h
    · cases h
    · next hz =>
      have hz1 : ¬ z < 0 := fun q => hz (Or.inl q)
      have hz2 : z.toNatClampNeg ≤ 100000 := Nat.not_lt.mp fun q => hz (Or.inr q)
      split at h
      · cases h
        refine xi_To.mk fun p l e R s m args below meth c Q hF H locs cells slots ls hH hS hl hc hs kk => ?_
        obtain ⟨M', hM', hx, hb, -, hown, -, hts, hG, -⟩ := hF
        cases hM.symm.trans hM'
        have hsc : xi_sc (.inl (0, .inl (List.replicate z.toNatClampNeg 0))) = z.toNatClampNeg := List.length_replicate
        rw [hsc] at hs kk
        refine va_newaK (atype := .int) hx hb (hts _ xi_W0_i) rfl hd rfl hz1 rfl (by show z.toNatClampNeg * 4 ≤ 536870912; omega) hc hs hH.1 fun H1 cA e1 z1 o1 hAr hNm => ?_
        have hcA : cA = Y.2.1 0 := Option.some.inj (hNm.symm.trans (hG.1.2 0 _ rfl).2)
        subst hcA
        refine kk H1 z1 o1 ?_
        show H1[(Y.2.2.1 + w.length : Nat)]? = some (vp_cell (Y.2.1 0) ((List.replicate z.toNatClampNeg (0 : Int32)).length, .inl (fun i => (List.replicate z.toNatClampNeg (0 : Int32)).getD i 0)))
        rw [vp_cell_i]
        rw [xi_zero_i]
        exact e1
      · cases h
        refine xi_To.mk fun p l e R s m args below meth c Q hF H locs cells slots ls hH hS hl hc hs kk => ?_
        obtain ⟨M', hM', hx, hb, -, hown, -, hts, hG, -⟩ := hF
        cases hM.symm.trans hM'
        have hsc : xi_sc (.inl (1, .inl (List.replicate z.toNatClampNeg 0))) = z.toNatClampNeg := List.length_replicate
        rw [hsc] at hs kk
        refine va_newaK (atype := .boolean) hx hb (hts _ xi_W0_z) rfl hd rfl hz1 rfl (by show z.toNatClampNeg * 1 ≤ 536870912; omega) hc hs hH.1 fun H1 cA e1 z1 o1 hAr hNm => ?_
        have hcA : cA = Y.2.1 1 := Option.some.inj (hNm.symm.trans (hG.1.2 1 _ rfl).2)
        subst hcA
        refine kk H1 z1 o1 ?_
        show H1[(Y.2.2.1 + w.length : Nat)]? = some (vp_cell (Y.2.1 1) ((List.replicate z.toNatClampNeg (0 : Int32)).length, .inl (fun i => (List.replicate z.toNatClampNeg (0 : Int32)).getD i 0)))
        rw [vp_cell_i]
        rw [xi_zero_i]
        exact e1
      · cases h
        refine xi_To.mk fun p l e R s m args below meth c Q hF H locs cells slots ls hH hS hl hc hs kk => ?_
        obtain ⟨M', hM', hx, hb, -, hown, -, hts, hG, -⟩ := hF
        cases hM.symm.trans hM'
        have hsc : xi_sc (.inl (2, .inr (List.replicate z.toNatClampNeg 0))) = z.toNatClampNeg := List.length_replicate
        rw [hsc] at hs kk
        refine va_newaK (atype := .long) hx hb (hts _ xi_W0_l) rfl hd rfl hz1 rfl (by show z.toNatClampNeg * 8 ≤ 536870912; omega) hc hs hH.1 fun H1 cA e1 z1 o1 hAr hNm => ?_
        have hcA : cA = Y.2.1 2 := Option.some.inj (hNm.symm.trans (hG.1.2 2 _ rfl).2)
        subst hcA
        refine kk H1 z1 o1 ?_
        show H1[(Y.2.2.1 + w.length : Nat)]? = some (vp_cell (Y.2.1 2) ((List.replicate z.toNatClampNeg (0 : Int64)).length, .inr (.inl (fun i => (List.replicate z.toNatClampNeg (0 : Int64)).getD i 0))))
        rw [vp_cell_l]
        rw [xi_zero_l]
        exact e1
      · cases h
  · cases h
theorem xi_oin_ok (hM : xi_ml[n]? = some M) {x : Nat} (hd : decode M.2.1 pc = .ok (.invokespecial x, 3)) (h : xi_oin (xi_ob M x && L.length == M.2.2.1) pc L st w = some B) : xi_To Y d n (pc, L, st, w) B := by
  unfold xi_oin at h
  split at h
  · next a r =>
    split at h
    · next hg =>
      cases h
      obtain ⟨hg1, hg2⟩ := hg
      simp only [Bool.and_eq_true, beq_iff_eq] at hg1
      obtain ⟨ho, hlen⟩ := hg1
      have w1 := xi_ob_spec hM ho
      refine xi_To.same fun p l e R s m args below meth c Q hF H locs cells slots ls hH hS hl kk => ?_
      obtain ⟨M', hM', hx, hb, hml, hown, -, hts, hG, hf, hlo, -⟩ := hF
      cases hM.symm.trans hM'
      have hr := lv_room (m := m) (pc := pc) (ls := ls) (rest := (Value.ref a :: r).map (xi_v Y)) (st := r.map (xi_v Y)) (by rw [xi_cats]; exact hg2)
      have hK : xi_K ≤ (d + 1) * xi_K := Nat.le_mul_of_pos_left _ (Nat.succ_pos d)
      exact W.objInit hx hb hown (hts _ w1) (hts _ xi_W0_oi) (hts _ xi_W0_oc) rfl (by show ls.size = _; rw [hml, hl.1, hlen]) rfl hd (by omega) (by have := xi_K_ok; omega) (kk ls hl)
    · cases h
  · cases h
end XT
end
section
/-! Every step of the interpreter is a step of the machine. -/
theorem xi_stp_ok {Y : xi_Y} {d n : Nat} {M : xi_M} (hM : xi_ml[n]? = some M) {i : Instr} {len : Nat} {A B : xi_S} (hd : decode M.2.1 A.1 = .ok (i, len)) (hlen : xi_sw i = true ∨ xi_len i = len) (h : xi_stp Y.2.2.2.2.2.1 Y.2.2.2.2.2.2.1 M i A = some B) : xi_To Y d n A B := by
  obtain ⟨pc, L, st, w⟩ := A
  dsimp only at hd
  cases i with
  | tableswitch dd lo hi offs => exact xi_tab_ok hM hd h
  | lookupswitch dd ps => exact xi_lok_ok hM hd h
  | iconst k =>
    rcases hlen with hlen | rfl
    · cases hlen
    · cases h; exact xi_row hM fun ls hl p l e R s m args below meth c H locs cells slots Q hx hb k => lv_iconst hx hb hd rfl k
  | bipush k =>
    rcases hlen with hlen | rfl
    · cases hlen
    · cases h; exact xi_row hM fun ls hl p l e R s m args below meth c H locs cells slots Q hx hb k => lv_bipush hx hb hd rfl k
  | sipush k =>
    rcases hlen with hlen | rfl
    · cases hlen
    · cases h; exact xi_row hM fun ls hl p l e R s m args below meth c H locs cells slots Q hx hb k => lv_sipush hx hb hd rfl k
  | iload k =>
    rcases hlen with hlen | rfl
    · cases hlen
    · exact xi_ldi_ok hM (fun ls rest x hl p l e R s m args below meth c H locs cells slots Q hx hb k => lv_iload hx hb hd hl k) h
  | iload_n k =>
    rcases hlen with hlen | rfl
    · cases hlen
    · exact xi_ldi_ok hM (fun ls rest x hl p l e R s m args below meth c H locs cells slots Q hx hb k => lv_iload_n hx hb hd rfl hl k) h
  | aload k =>
    rcases hlen with hlen | rfl
    · cases hlen
    · exact xi_lda_ok hM (fun ls rest x hl p l e R s m args below meth c H locs cells slots Q hx hb k => lv_aload hx hb hd hl k) h
  | aload_n k =>
    rcases hlen with hlen | rfl
    · cases hlen
    · exact xi_lda_ok hM (fun ls rest x hl p l e R s m args below meth c H locs cells slots Q hx hb k => lv_aload_n hx hb hd rfl hl k) h
  | istore k =>
    rcases hlen with hlen | rfl
    · cases hlen
    · exact xi_sti_ok hM (fun x p l e R s m args below meth c H locs cells slots Q ls rest hx hb hl hk kk => lv_istore hx hb hd hl hk rfl kk) h
  | istore_n k =>
    rcases hlen with hlen | rfl
    · cases hlen
    · exact xi_sti_ok hM (fun x p l e R s m args below meth c H locs cells slots Q ls rest hx hb hl hk kk => lv_istore_n hx hb hd rfl hl hk rfl kk) h
  | astore k =>
    rcases hlen with hlen | rfl
    · cases hlen
    · exact xi_sta_ok hM (fun x p l e R s m args below meth c H locs cells slots Q ls rest hx hb hl hk kk => lv_astore hx hb hd hl hk rfl kk) h
  | astore_n k =>
    rcases hlen with hlen | rfl
    · cases hlen
    · exact xi_sta_ok hM (fun x p l e R s m args below meth c H locs cells slots Q ls rest hx hb hl hk kk => lv_astore_n hx hb hd rfl hl hk rfl kk) h
  | iinc k z =>
    rcases hlen with hlen | rfl
    · cases hlen
    · exact xi_inc_ok hM hd h
  | iadd =>
    rcases hlen with hlen | rfl
    · cases hlen
    · exact xi_bin_ok hM (fun ls rest x y p l e R s m args below meth c H locs cells slots Q hx hb k => lv_iadd hx hb hd k) h
  | isub =>
    rcases hlen with hlen | rfl
    · cases hlen
    · exact xi_bin_ok hM (fun ls rest x y p l e R s m args below meth c H locs cells slots Q hx hb k => lv_isub hx hb hd k) h
  | imul =>
    rcases hlen with hlen | rfl
    · cases hlen
    · exact xi_bin_ok hM (fun ls rest x y p l e R s m args below meth c H locs cells slots Q hx hb k => lv_imul hx hb hd k) h
  | iand =>
    rcases hlen with hlen | rfl
    · cases hlen
    · exact xi_bin_ok hM (fun ls rest x y p l e R s m args below meth c H locs cells slots Q hx hb k => lv_iand hx hb hd k) h
  | ior =>
    rcases hlen with hlen | rfl
    · cases hlen
    · exact xi_bin_ok hM (fun ls rest x y p l e R s m args below meth c H locs cells slots Q hx hb k => lv_ior hx hb hd k) h
  | ixor =>
    rcases hlen with hlen | rfl
    · cases hlen
    · exact xi_bin_ok hM (fun ls rest x y p l e R s m args below meth c H locs cells slots Q hx hb k => lv_ixor hx hb hd k) h
  | ishl =>
    rcases hlen with hlen | rfl
    · cases hlen
    · exact xi_bin_ok hM (fun ls rest x y p l e R s m args below meth c H locs cells slots Q hx hb k => lv_ishl hx hb hd k) h
  | ishr =>
    rcases hlen with hlen | rfl
    · cases hlen
    · exact xi_bin_ok hM (fun ls rest x y p l e R s m args below meth c H locs cells slots Q hx hb k => lv_ishr hx hb hd k) h
  | iushr =>
    rcases hlen with hlen | rfl
    · cases hlen
    · exact xi_bin_ok hM (fun ls rest x y p l e R s m args below meth c H locs cells slots Q hx hb k => lv_iushr hx hb hd rfl k) h
  | irem =>
    rcases hlen with hlen | rfl
    · cases hlen
    · exact xi_rem_ok hM hd h
  | i2l =>
    rcases hlen with hlen | rfl
    · cases hlen
    · exact xi_i2l_ok hM hd h
  | lcmp =>
    rcases hlen with hlen | rfl
    · cases hlen
    · exact xi_lcmp_ok hM hd h
  | dup =>
    rcases hlen with hlen | rfl
    · cases hlen
    · exact xi_dup_ok hM hd h
  | dup2 =>
    rcases hlen with hlen | rfl
    · cases hlen
    · exact xi_dup2_ok hM hd h
  | pop =>
    rcases hlen with hlen | rfl
    · cases hlen
    · exact xi_pop_ok hM hd h
  | goto o =>
    rcases hlen with hlen | rfl
    · cases hlen
    · exact xi_go1_ok hM (fun ls tgt ht p l e R s m args below meth c H locs cells slots Q hx hb k => lv_goto hx hb hd ht k) h
  | ifCond cc o =>
    rcases hlen with hlen | rfl
    · cases hlen
    · cases cc with
      | eq => exact xi_if1_ok hM (fun ls rest x tgt ht => ⟨fun t1 p l e R s m args below meth c H locs cells slots Q hx hb k => lv_if_eq hx hb hd ht (fun _ => k) (fun q => absurd (of_decide_eq_true t1) q), fun t1 p l e R s m args below meth c H locs cells slots Q hx hb k => lv_if_eq hx hb hd ht (fun q => absurd q (of_decide_eq_false t1)) (fun _ => k)⟩) h
      | ne => exact xi_if1_ok hM (fun ls rest x tgt ht => ⟨fun t1 p l e R s m args below meth c H locs cells slots Q hx hb k => lv_if_ne hx hb hd ht (fun _ => k) (fun q => absurd q (of_decide_eq_true t1)), fun t1 p l e R s m args below meth c H locs cells slots Q hx hb k => lv_if_ne hx hb hd ht (fun q => absurd q (of_decide_eq_false t1)) (fun _ => k)⟩) h
      | lt => exact xi_if1_ok hM (fun ls rest x tgt ht => ⟨fun t1 p l e R s m args below meth c H locs cells slots Q hx hb k => lv_if_lt hx hb hd ht (fun _ => k) (fun q => absurd (of_decide_eq_true t1) q), fun t1 p l e R s m args below meth c H locs cells slots Q hx hb k => lv_if_lt hx hb hd ht (fun q => absurd q (of_decide_eq_false t1)) (fun _ => k)⟩) h
      | ge => exact xi_if1_ok hM (fun ls rest x tgt ht => ⟨fun t1 p l e R s m args below meth c H locs cells slots Q hx hb k => lv_if_ge hx hb hd ht (fun _ => k) (fun q => absurd (of_decide_eq_true t1) q), fun t1 p l e R s m args below meth c H locs cells slots Q hx hb k => lv_if_ge hx hb hd ht (fun q => absurd q (of_decide_eq_false t1)) (fun _ => k)⟩) h
      | gt => exact xi_if1_ok hM (fun ls rest x tgt ht => ⟨fun t1 p l e R s m args below meth c H locs cells slots Q hx hb k => lv_if_gt hx hb hd ht (fun _ => k) (fun q => absurd (of_decide_eq_true t1) q), fun t1 p l e R s m args below meth c H locs cells slots Q hx hb k => lv_if_gt hx hb hd ht (fun q => absurd q (of_decide_eq_false t1)) (fun _ => k)⟩) h
      | le => exact xi_if1_ok hM (fun ls rest x tgt ht => ⟨fun t1 p l e R s m args below meth c H locs cells slots Q hx hb k => lv_if_le hx hb hd ht (fun _ => k) (fun q => absurd (of_decide_eq_true t1) q), fun t1 p l e R s m args below meth c H locs cells slots Q hx hb k => lv_if_le hx hb hd ht (fun q => absurd q (of_decide_eq_false t1)) (fun _ => k)⟩) h
  | if_icmp cc o =>
    rcases hlen with hlen | rfl
    · cases hlen
    · cases cc with
      | eq => exact xi_if2_ok hM (fun ls rest x y tgt ht => ⟨fun t1 p l e R s m args below meth c H locs cells slots Q hx hb k => lv_icmp_eq hx hb hd ht (fun _ => k) (fun q => absurd (of_decide_eq_true t1) q), fun t1 p l e R s m args below meth c H locs cells slots Q hx hb k => lv_icmp_eq hx hb hd ht (fun q => absurd q (of_decide_eq_false t1)) (fun _ => k)⟩) h
      | ne => exact xi_if2_ok hM (fun ls rest x y tgt ht => ⟨fun t1 p l e R s m args below meth c H locs cells slots Q hx hb k => lv_icmp_ne hx hb hd ht (fun _ => k) (fun q => absurd q (of_decide_eq_true t1)), fun t1 p l e R s m args below meth c H locs cells slots Q hx hb k => lv_icmp_ne hx hb hd ht (fun q => absurd q (of_decide_eq_false t1)) (fun _ => k)⟩) h
      | lt => exact xi_if2_ok hM (fun ls rest x y tgt ht => ⟨fun t1 p l e R s m args below meth c H locs cells slots Q hx hb k => lv_icmp_lt hx hb hd ht (fun _ => k) (fun q => absurd (of_decide_eq_true t1) q), fun t1 p l e R s m args below meth c H locs cells slots Q hx hb k => lv_icmp_lt hx hb hd ht (fun q => absurd q (of_decide_eq_false t1)) (fun _ => k)⟩) h
      | ge => exact xi_if2_ok hM (fun ls rest x y tgt ht => ⟨fun t1 p l e R s m args below meth c H locs cells slots Q hx hb k => lv_icmp_ge hx hb hd ht (fun _ => k) (fun q => absurd (of_decide_eq_true t1) q), fun t1 p l e R s m args below meth c H locs cells slots Q hx hb k => lv_icmp_ge hx hb hd ht (fun q => absurd q (of_decide_eq_false t1)) (fun _ => k)⟩) h
      | gt => exact xi_if2_ok hM (fun ls rest x y tgt ht => ⟨fun t1 p l e R s m args below meth c H locs cells slots Q hx hb k => lv_icmp_gt hx hb hd ht (fun _ => k) (fun q => absurd (of_decide_eq_true t1) q), fun t1 p l e R s m args below meth c H locs cells slots Q hx hb k => lv_icmp_gt hx hb hd ht (fun q => absurd q (of_decide_eq_false t1)) (fun _ => k)⟩) h
      | le => exact xi_if2_ok hM (fun ls rest x y tgt ht => ⟨fun t1 p l e R s m args below meth c H locs cells slots Q hx hb k => lv_icmp_le hx hb hd ht (fun _ => k) (fun q => absurd (of_decide_eq_true t1) q), fun t1 p l e R s m args below meth c H locs cells slots Q hx hb k => lv_icmp_le hx hb hd ht (fun q => absurd q (of_decide_eq_false t1)) (fun _ => k)⟩) h
  | getfield x =>
    rcases hlen with hlen | rfl
    · cases hlen
    · exact xi_get_ok hM hd h
  | putfield x =>
    rcases hlen with hlen | rfl
    · cases hlen
    · exact xi_set_ok hM hd h
  | getstatic x =>
    rcases hlen with hlen | rfl
    · cases hlen
    · exact xi_gst_ok hM hd h
  | iaload =>
    rcases hlen with hlen | rfl
    · cases hlen
    · exact xi_iald_ok hM rfl rfl hd h
  | baload =>
    rcases hlen with hlen | rfl
    · cases hlen
    · exact xi_zald_ok hM hd h
  | laload =>
    rcases hlen with hlen | rfl
    · cases hlen
    · exact xi_lald_ok hM hd h
  | iastore =>
    rcases hlen with hlen | rfl
    · cases hlen
    · exact xi_iast_ok hM hd h
  | bastore =>
    rcases hlen with hlen | rfl
    · cases hlen
    · exact xi_zast_ok hM hd h
  | lastore =>
    rcases hlen with hlen | rfl
    · cases hlen
    · exact xi_last_ok hM hd h
  | arraylength =>
    rcases hlen with hlen | rfl
    · cases hlen
    · exact xi_alen_ok hM rfl rfl hd h
  | new x =>
    rcases hlen with hlen | rfl
    · cases hlen
    · exact xi_new_ok hM hd h
  | newarray t =>
    rcases hlen with hlen | rfl
    · cases hlen
    · exact xi_newa_ok hM hd h
  | invokespecial x =>
    rcases hlen with hlen | rfl
    · cases hlen
    · exact xi_oin_ok hM hd h
  | _ => exact nomatch (show (none : Option xi_S) = some B from h)
end
section
/-! Calls: a callee's contract out of its way to its return; a caller's step out of the contract. -/
def xi_rm (d mc ms : Nat) : Room := { frames := d + 1, cells := mc, slots := ms, locals := (d + 1) * xi_K }
def xi_Pc (Y : xi_Y) (as : List Value) (w : xi_W) : Array Value → State → Prop := fun a U => a = (as.map (xi_v Y)).toArray ∧ xi_Hs Y w U.heap ∧ xi_G Y U
def xi_Qc (Y : xi_Y) (o : Option Value) (w' : xi_W) : Array Value → State → Outcome → State → Prop := fun _ st oc t => oc = .returned (o.map (xi_v Y)) ∧ xi_Hs Y w' t.heap ∧ va_F (xi_A Y) st t
def xi_cw (M : xi_M) : List Cond := .code M.1 M.2.1 M.2.2.1 M.2.2.2.1 :: xi_W0
-- method j, called with as in the world w, answers o and leaves w'
def xi_C (Y : xi_Y) (d j : Nat) (as : List Value) (w : xi_W) (o : Option Value) (w' : xi_W) : Prop :=
  w.length ≤ w'.length ∧ xi_sl w ≤ xi_sl w' ∧ ∀ M : xi_M, xi_ml[j]? = some M →
    Met Y.2.2.2.2.2.2.2 M.1 (xi_cw M) (xi_rm d (w'.length - w.length) (xi_sl w' - xi_sl w)) (xi_Pc Y as w) (xi_Qc Y o w') (w'.length - w.length) (xi_sl w' - xi_sl w) (xi_A Y)
theorem xi_blind (Y : xi_Y) (as : List Value) (w : xi_W) : FrameBlind (xi_Pc Y as w) := fun a U g mk q => ⟨q.1, q.2.1, q.2.2.same rfl rfl⟩
theorem xi_lsl {Y : xi_Y} : ∀ {as : List Value}, (∀ v ∈ as, v.category = 1) → (lg_sl (as.map (xi_v Y))).length = as.length
  | [], _ => rfl
  | v :: as, h => by
    have h1 : (xi_v Y v).category = 1 := by rw [xi_cat]; exact h v List.mem_cons_self
    have ih := xi_lsl (Y := Y) (as := as) fun u hu => h u (List.mem_cons_of_mem _ hu)
    unfold lg_sl at ih ⊢
    rw [List.map_cons, List.flatMap_cons, List.length_append, ih, if_neg (by rw [h1]; decide), List.length_cons]
    simp [Nat.add_comm]
theorem xi_largs {Y : xi_Y} : ∀ {as : List Value} {i k : Nat} {v : Value}, (∀ v ∈ as, v.category = 1) → as[k]? = some v → (i + k, xi_v Y v) ∈ lv_args i (as.map (xi_v Y))
  | [], _, _, _, _, h => by simp at h
  | u :: as, i, 0, v, _, h => by
    simp only [List.getElem?_cons_zero, Option.some.injEq] at h
    subst h
    exact List.mem_cons_self
  | u :: as, i, k + 1, v, hc, h => by
    rw [List.getElem?_cons_succ] at h
    have h1 : (xi_v Y u).category = 1 := by rw [xi_cat]; exact hc u List.mem_cons_self
    have ih := xi_largs (Y := Y) (i := i + 1) (fun z hz => hc z (List.mem_cons_of_mem _ hz)) h
    rw [List.map_cons]
    unfold lv_args
    rw [if_neg (by rw [h1]; decide)]
    refine List.mem_cons_of_mem _ ?_
    rw [show i + (k + 1) = i + 1 + k by omega]
    exact ih
theorem xi_lv_ent {Y : xi_Y} {M : xi_M} {as : List Value} (hc : ∀ v ∈ as, v.category = 1) (hl : as.length ≤ M.2.2.1) : xi_lv Y (xi_ent M as) ((lg_sl (as.map (xi_v Y)) ++ List.replicate (M.2.2.1 - (lg_sl (as.map (xi_v Y))).length) Slot.unset).toArray) := by
  have h := lv_entry (as.map (xi_v Y)) (n := M.2.2.1) (by rw [xi_lsl hc]; exact hl)
  refine ⟨h.1.trans ?_, h.2.1, fun k v hk => ?_⟩
  · unfold xi_ent
    rw [List.length_append, List.length_map, List.length_replicate]
    omega
  · unfold xi_ent at hk
    by_cases hk2 : k < (as.map some).length
    · rw [List.getElem?_append_left hk2, List.getElem?_map] at hk
      cases ha : as[k]? with
      | none => rw [ha] at hk; cases hk
      | some u =>
        rw [ha] at hk
        cases hk
        have h3 := h.2.2 _ (xi_largs (Y := Y) (i := 0) hc ha)
        rw [Nat.zero_add] at h3
        exact ⟨h3, hc v (List.mem_of_getElem? ha)⟩
    · rw [List.getElem?_append_right (by omega), List.getElem?_replicate] at hk
      split at hk <;> cases hk
theorem xi_C.of {it : Nat → Nat → Option (Instr × Nat)} (hit : ∀ n M pc i len, xi_ml[n]? = some M → it n pc = some (i, len) → decode M.2.1 pc = .ok (i, len)) {Y : xi_Y} {d j : Nat} {M : xi_M} (hM : xi_ml[j]? = some M) {as : List Value} {w w' : xi_W} {o : Option Value} {T : xi_S}
    (h : xi_To Y d j (0, xi_ent M as, [], w) T) (he : xi_end it j M T = some (o, w')) (hc : ∀ v ∈ as, v.category = 1) (hl : as.length ≤ M.2.2.1) : xi_C Y d j as w o w' := by
  obtain ⟨pc, L, st, w2⟩ := T
  unfold xi_end at he
  dsimp only at he
  split at he
  · cases he
  · next i hi =>
    split at he
    · cases he
    · next o2 ho =>
      cases he
      obtain ⟨h1, h2, h3⟩ := h
      dsimp only at h1 h2
      refine ⟨h1, h2, fun M' hM' => ?_⟩
      cases hM.symm.trans hM'
      obtain ⟨m1, -⟩ := xi_okM M (List.mem_of_getElem? hM)
      refine va_MetF (cc := M.2.1) (maxL := M.2.2.1) (ret := M.2.2.2.1) m1 rfl ?_
      intro p e s m args below meth c s₁ B hml hv
      obtain ⟨rfl, hH, hG⟩ := hv
      have hts := atoms_spec (ws := xi_cw M) B.pre
      have hF : xi_Fr Y d j p Y.2.2.2.2.2.2.2 (xi_rm d (w'.length - w.length) (xi_sl w' - xi_sl w)) s m (as.map (xi_v Y)).toArray meth c :=
        ⟨M, hM, B.exec, B.bytes, hml, findClass_of_methodNamed B.named, (name_of_methodNamed B.named B.method).1, fun w hw => hts w (List.mem_cons_of_mem _ hw), hG, Nat.le_refl _, Nat.le_refl _, rfl⟩
      rw [lg_entry_eq]
      have hlv := xi_lv_ent (Y := Y) (M := M) hc hl
      generalize (lg_sl (as.map (xi_v Y)) ++ List.replicate (M.2.2.1 - (lg_sl (as.map (xi_v Y))).length) Slot.unset).toArray = ls at hlv ⊢
      refine h3 p Y.2.2.2.2.2.2.2 e (xi_rm d (w'.length - w.length) (xi_sl w' - xi_sl w)) s m _ below meth c _ hF s.heap [] 0 0 (w'.length - w.length) (xi_sl w' - xi_sl w) ls hH va_S.rf hlv (by dsimp only; omega) (by dsimp only; omega) (Nat.le_refl _) (Nat.le_refl _) fun H' locs' ls' hH' hS' hl' => ?_
      dsimp only at hH' hl' ⊢
      have hlocks := B.notSynchronized
      have hr := B.returns
      have hd : ∃ len, decode M.2.1 pc = .ok (i, len) ∧ (xi_sw i = true ∨ xi_len i = len) := by
        unfold xi_at at hi
        split at hi
        · next i3 len hi3 =>
          split at hi
          · next hlen => cases hi; exact ⟨len, hit j M pc _ len hM hi3, hlen⟩
          · cases hi
        · cases hi
      obtain ⟨len, hd, hlen⟩ := hd
      unfold xi_ret at ho
      split at ho
      · rcases hlen with hlen | rfl
        · cases hlen
        dsimp only at ho
        split at ho
        · next v =>
          split at ho
          · next hret =>
            cases ho
            rw [hret] at hr
            exact W.iret B.exec B.bytes hr (fun t ht hW => ⟨rfl, by rw [ht]; exact hH', hS'.F ht⟩) hS'.2.2 hd
          · next hret =>
            split at ho
            · next hn =>
              cases ho
              rw [hret] at hr
              exact W.zret B.exec B.bytes hr (xi_fok_spec hn).1 (fun t ht hW => ⟨rfl, by rw [ht]; exact hH', hS'.F ht⟩) hS'.2.2 hd
            · cases ho
          · cases ho
        · cases ho
      · rcases hlen with hlen | rfl
        · cases hlen
        dsimp only at ho
        split at ho
        · split at ho
          · next hret =>
            cases ho
            rw [hret] at hr
            exact W.vret B.exec B.bytes hr (fun t ht hW => ⟨rfl, by rw [ht]; exact hH', hS'.F ht⟩) hS'.2.2 hd
          · cases ho
        · cases ho
      · cases ho
section XB
variable {p : Program} {l : Launch} {e : Env} {R : Room} {s : State} {m : MethodId} {args : Array Value} {below : List Frame} {meth : Method} {c : Code} {H : Heap} {locs : List Loc} {cells slots mc ms : Nat} {Q : State → Prop}
theorem xi_back {Y : xi_Y} {o : Option Value} {w' : xi_W} {pc : Nat} {ls : Array Slot} {st0 rest : List Value} {a : Array Value}
    (hr : va_Run p l e R s m args below meth c H locs cells slots mc ms (F0 m pc ls st0) rest (xi_Qc Y o w' a) (xi_A Y)) (hS : va_S (xi_A Y) s.heap H locs)
    (kk : ∀ (H' : Heap) (locs' : List Loc), xi_Hs Y w' H' → va_S (xi_A Y) s.heap H' locs' → W p l e R s m args below meth c H' locs' (cells + mc) (slots + ms) Q (F0 m (pc + 3) ls ((o.map (xi_v Y)).toList ++ rest))) : W p l e R s m args below meth c H locs cells slots Q (F0 m pc ls st0) := by
  intro T hT X
  obtain ⟨v, st₀, t, T', Lc, h0, X', hL, e1, e2, ⟨hv, hH', hz, hk⟩, st⟩ := hr T hT X
  cases hv
  rw [h0] at hz hk
  obtain ⟨t2, a1, b1⟩ := kk T'.heap (locs ++ Lc) (by rw [e1]; exact hH') ⟨Nat.le_trans hS.1 (by rw [e1]; exact hz), fun q h1 h2 => by rw [e1, hk q (Nat.lt_of_lt_of_le h1 hS.1) h2]; exact hS.2.1 q h1 h2, fun q hq => by
      rcases List.mem_append.mp hq with h | h
      · exact hS.2.2 q h
      · exact hL q h⟩ T' rfl X'
  exact ⟨t2, st t2 a1, b1⟩
end XB
theorem xi_good {Mj : xi_M} (h : Cond.code Mj.1 Mj.2.1 Mj.2.2.1 Mj.2.2.2.1 ∈ xi_W0) : GoodIn xi_W0 (xi_cw Mj) := by
  intro w hw
  rcases List.mem_cons.mp hw with rfl | hw
  · exact ⟨h, xi_okW _ h⟩
  · exact ⟨hw, xi_okW w hw⟩
theorem xi_inv_spec {M Mj : xi_M} {i : Instr} {A : xi_S} {j : Nat} {as r : List Value} (h : xi_inv M i A = some (j, Mj, as, r)) : ∃ x z, xi_kd i = some (x, Mj.2.2.2.2.1) ∧ xi_lk M x = some (3, j, z) ∧ xi_ml[j]? = some Mj ∧ A.2.1.length = M.2.2.1 ∧ A.2.2.1 = as.reverse ++ r ∧ as.length = xi_np Mj ∧ as.length ≤ Mj.2.2.1 ∧ (r.map fun v => v.category).sum ≤ 8 ∧ (∀ v ∈ as, v.category = 1) ∧ xi_rcv Mj as A.2.2.2 = true := by
  unfold xi_inv at h
  split at h
  · next x kd hk =>
    split at h
    · next j' z hl =>
      split at h
      · next Mj' hj =>
        split at h
        · next hg =>
          cases h
          obtain ⟨g1, g2, g3, g4, g5, g6, g7⟩ := hg
          have hlen : (A.2.2.1.take (xi_np Mj)).length = xi_np Mj := by rw [List.length_take]; omega
          refine ⟨x, z, by rw [g1]; exact hk, hl, hj, g2, ?_, ?_, ?_, g5, ?_, g7⟩
          · rw [List.reverse_reverse, List.take_append_drop]
          · rw [List.length_reverse, hlen]
          · rw [List.length_reverse, hlen]; exact g4
          · intro v hv
            have h9 := List.all_eq_true.mp g6 v (List.mem_reverse.mp hv)
            simpa using h9
        · cases h
      · cases h
    · cases h
  · cases h
theorem xi_inv_link {n x j z : Nat} {M Mj : xi_M} (hM : xi_ml[n]? = some M) (hl : xi_lk M x = some (3, j, z)) (hj : xi_ml[j]? = some Mj) : Cond.methodLink M.1.cls x Mj.1 ∈ xi_W0 ∨ ∃ host, (M.1.cls, x, Mj.1, host) ∈ xi_nm := by
  cases z with
  | zero =>
    left
    refine xi_W0_lk hM hl _ ?_
    simp [xi_lw, hj]
  | succ z =>
    right
    refine ⟨xi_host (z + 1), ?_⟩
    obtain ⟨r, hr, he, hm⟩ := xi_lk_mem hM hl
    refine List.mem_flatMap.mpr ⟨r, hr, List.mem_flatMap.mpr ⟨_, hm, ?_⟩⟩
    simp [xi_nml, hj, he]
theorem xi_rcv0_spec {M : xi_M} {as : List Value} {w : xi_W} (h : xi_rcv0 M as w = true) : ∃ (k0 : Nat) (as' fs : List Value), as = .ref (k0 + 2) :: as' ∧ w[k0]? = some (.inr (M.2.2.2.2.2.2.1, fs)) := by
  unfold xi_rcv0 at h
  split at h
  · next a r =>
    split at h
    · next cj fs hc =>
      obtain ⟨k0, rfl, hw⟩ := xi_cell_some hc
      have hcj : cj = M.2.2.2.2.2.2.1 := by simpa using h
      subst hcj
      exact ⟨k0, r, fs, rfl, hw⟩
    · cases h
  · cases h
theorem xi_rcv2_spec {as : List Value} (h : xi_rcv2 as = true) : ∃ (a : Nat) (as' : List Value), as = .ref a :: as' := by
  unfold xi_rcv2 at h
  split at h
  · exact ⟨_, _, rfl⟩
  · cases h
theorem xi_call {Y : xi_Y} {d n j : Nat} {M Mj : xi_M} (hM : xi_ml[n]? = some M) {i : Instr} {len : Nat} {A : xi_S} {as r : List Value} (hd : decode M.2.1 A.1 = .ok (i, len)) (hlen : xi_sw i = true ∨ xi_len i = len) (hi : xi_inv M i A = some (j, Mj, as, r)) {o : Option Value} {w' : xi_W} (hC : xi_C Y d j as A.2.2.2 o w') :
    xi_To Y (d + 1) n A (A.1 + 3, A.2.1, o.toList ++ r, w') := by
  obtain ⟨x, z, hk, hl, hj, hL, hst, hal, ham, hcr, hca, hrc⟩ := xi_inv_spec hi
  obtain ⟨pc, L, st, w⟩ := A
  dsimp only at hd hL hst hrc hC ⊢
  subst hst
  obtain ⟨c1, c2, c3⟩ := hC
  refine ⟨c1, c2, fun p l e R s m args below meth c Q hF H locs cells slots cells' slots' ls hH hS hlv hc hs h1 h2 kk => ?_⟩
  dsimp only at hc hs hH hlv kk ⊢
  obtain ⟨M', hM', hx, hb, hml, hown, hname, hts, hG, hf, hlo, hle⟩ := hF
  subst hle
  cases hM.symm.trans hM'
  have hMet := c3 Mj hj
  obtain ⟨m1, m2, m3, m4, m5, m6, m7, -⟩ := xi_okM Mj (List.mem_of_getElem? hj)
  have hw0 := xi_W0_m hj
  have hR : (xi_rm d (w'.length - w.length) (xi_sl w' - xi_sl w)).frames + 1 ≤ R.frames ∧ 8 + (Mj.2.2.1 + 11) + (xi_rm d (w'.length - w.length) (xi_sl w' - xi_sl w)).locals ≤ R.locals := by
    refine ⟨hf, ?_⟩
    show 8 + (Mj.2.2.1 + 11) + (d + 1) * xi_K ≤ R.locals
    have h9 : (d + 1 + 1) * xi_K = (d + 1) * xi_K + xi_K := Nat.succ_mul _ _
    omega
  have e1 : cells' = cells + (w'.length - w.length) := by omega
  have e2 : slots' = slots + (xi_sl w' - xi_sl w) := by omega
  subst e1; subst e2
  have hkk : ∀ (H' : Heap) (locs' : List Loc), xi_Hs Y w' H' → va_S (xi_A Y) s.heap H' locs' → W p Y.2.2.2.2.2.2.2 e R s m args below meth c H' locs' (cells + (w'.length - w.length)) (slots + (xi_sl w' - xi_sl w)) Q (F0 m (pc + 3) ls ((o.map (xi_v Y)).toList ++ r.map (xi_v Y))) := fun H' locs' a b => by
    have q := kk H' locs' ls a b hlv
    cases o <;> exact q
  have hroom : 2 * (F0 m pc ls ((as.reverse ++ r).map (xi_v Y))).monitorRoom + ((r.map (xi_v Y)).map fun v => v.category).sum ≤ 8 := lv_room (by rw [xi_cats]; exact hcr)
  have hpre : ∀ U : State, U.heap = H → s.WarmedH U.vm → xi_Pc Y as w (as.map (xi_v Y)).toArray U := fun U hU hW => ⟨rfl, by rw [hU]; exact hH, hG.moved (locs := locs) (by rw [hU]; exact hS) hW⟩
  have hsize : ls.size = M.2.2.1 := hlv.1.trans hL
  have hlink := xi_inv_link hM hl hj
  unfold xi_kd at hk
  split at hk
  · next x' =>
    simp only [Option.some.injEq, Prod.mk.injEq] at hk
    obtain ⟨rfl, hk0⟩ := hk
    rcases hlen with hlen | rfl
    · cases hlen
    have hkw : xi_kw Mj = [.code Mj.1 Mj.2.1 Mj.2.2.1 Mj.2.2.2.1, .initialized Mj.1.cls, .instanceMethod Mj.1, .selects Mj.1.cls Mj.1 Mj.1] := by unfold xi_kw; rw [← hk0]; rfl
    have hwk : ∀ w ∈ xi_kw Mj, w.before args s = true := fun w hw => hts _ (hw0 _ hw)
    have hG' := xi_good (hw0 (.code Mj.1 Mj.2.1 Mj.2.2.1 Mj.2.2.2.1) (by rw [hkw]; exact List.mem_cons_self))
    rw [hkw] at hwk
    have hini := hwk (.initialized Mj.1.cls) (by simp)
    have hins := hwk (.instanceMethod Mj.1) (by simp)
    have hsel := hwk (.selects Mj.1.cls Mj.1 Mj.1) (by simp)
    have hrc : xi_rcv0 Mj as w = true := by
      unfold xi_rcv at hrc
      rw [← hk0] at hrc
      exact hrc
    obtain ⟨k0, as', fs, rfl, hw⟩ := xi_rcv0_spec hrc
    obtain ⟨rr, hr1, hr2⟩ := m7 (by rw [← hk0]; decide) (by rw [← hk0]; decide)
    have hrec := va_recv (a := Y.2.2.1 + k0) hG.1 (hH.one hw) hr1 (q0 := 0) (fs := fs.map (xi_v Y)) rfl
    rw [hr2] at hrec
    have hn : (as'.map (xi_v Y)).length = Mj.2.2.2.2.2.1 := by
      rw [List.length_map]
      have h8 : xi_np Mj = Mj.2.2.2.2.2.1 + 1 := by unfold xi_np; rw [if_neg (by rw [← hk0]; decide)]
      rw [h8, List.length_cons] at hal
      omega
    have hstack : ((Value.ref (k0 + 2) :: as').reverse ++ r).map (xi_v Y) = (as'.map (xi_v Y)).reverse ++ .ref (Y.2.2.1 + k0) :: r.map (xi_v Y) := by
      rw [List.reverse_cons, List.append_assoc, List.map_append, List.map_append, List.map_reverse]; rfl
    rcases hlink with hlink | ⟨host, hlink⟩
    · exact xi_back (va_runV (C := Mj.1.cls) (As := as'.map (xi_v Y)) (rest := r.map (xi_v Y)) ⟨hx, hb, hml, hown, hts⟩ hMet ⟨callB_of Mj.2.2.2.2.2.1 hts hG' rfl rfl rfl hini (hts _ hlink) ⟨m2, m3, m4⟩ hR, hins, hsel⟩ ⟨xi_blind Y _ w, hrec, hpre⟩ rfl hn hsize hstack hroom hd ⟨h1, h2⟩) hS hkk
    · exact xi_back (va_runVN (C := Mj.1.cls) (As := as'.map (xi_v Y)) (rest := r.map (xi_v Y)) ⟨hx, hb, hml, hown, hts⟩ hMet ⟨va_cnB Mj.2.2.2.2.2.1 hts hG' rfl rfl rfl (hG.2.1 _ hlink) hini ⟨m2, m3, m4⟩ hR, hins, hsel⟩ ⟨xi_blind Y _ w, hrec, hpre⟩ rfl hn hsize hstack hroom hd ⟨h1, h2⟩) hS hkk
  · next x' =>
    simp only [Option.some.injEq, Prod.mk.injEq] at hk
    obtain ⟨rfl, hk0⟩ := hk
    rcases hlen with hlen | rfl
    · cases hlen
    have hkw : xi_kw Mj = [.code Mj.1 Mj.2.1 Mj.2.2.1 Mj.2.2.2.1, .initialized Mj.1.cls, .static Mj.1] := by unfold xi_kw; rw [← hk0]; rfl
    have hwk : ∀ w ∈ xi_kw Mj, w.before args s = true := fun w hw => hts _ (hw0 _ hw)
    have hG' := xi_good (hw0 (.code Mj.1 Mj.2.1 Mj.2.2.1 Mj.2.2.2.1) (by rw [hkw]; exact List.mem_cons_self))
    rw [hkw] at hwk
    have hini := hwk (.initialized Mj.1.cls) (by simp)
    have hsta := hwk (.static Mj.1) (by simp)
    have hn : (as.map (xi_v Y)).length = Mj.2.2.2.2.2.1 := by
      rw [List.length_map]
      have h8 : xi_np Mj = Mj.2.2.2.2.2.1 := by unfold xi_np; rw [if_pos hk0.symm]
      rw [hal, h8]
    have hstack : (as.reverse ++ r).map (xi_v Y) = (as.map (xi_v Y)).reverse ++ r.map (xi_v Y) := by
      rw [List.map_append, List.map_reverse]
    rcases hlink with hlink | ⟨host, hlink⟩
    · exact xi_back (va_runS (As := as.map (xi_v Y)) (rest := r.map (xi_v Y)) ⟨hx, hb, hml, hown, hts⟩ hMet ⟨callB_of Mj.2.2.2.2.2.1 hts hG' rfl rfl rfl hini (hts _ hlink) ⟨m2, m3, m4⟩ hR, hsta⟩ ⟨xi_blind Y as w, hpre⟩ rfl hn hsize hstack hroom hd ⟨h1, h2⟩) hS hkk
    · exact xi_back (va_runSN (As := as.map (xi_v Y)) (rest := r.map (xi_v Y)) ⟨hx, hb, hml, hown, hts⟩ hMet ⟨va_cnB Mj.2.2.2.2.2.1 hts hG' rfl rfl rfl (hG.2.1 _ hlink) hini ⟨m2, m3, m4⟩ hR, hsta, trivial⟩ ⟨xi_blind Y as w, hpre⟩ rfl hn hsize hstack hroom hd ⟨h1, h2⟩) hS hkk
  · next x' =>
    simp only [Option.some.injEq, Prod.mk.injEq] at hk
    obtain ⟨rfl, hk0⟩ := hk
    rcases hlen with hlen | rfl
    · cases hlen
    have hkw : xi_kw Mj = [.code Mj.1 Mj.2.1 Mj.2.2.1 Mj.2.2.2.1, .initialized Mj.1.cls, .instanceMethod Mj.1] := by unfold xi_kw; rw [← hk0]; rfl
    have hwk : ∀ w ∈ xi_kw Mj, w.before args s = true := fun w hw => hts _ (hw0 _ hw)
    have hG' := xi_good (hw0 (.code Mj.1 Mj.2.1 Mj.2.2.1 Mj.2.2.2.1) (by rw [hkw]; exact List.mem_cons_self))
    rw [hkw] at hwk
    have hini := hwk (.initialized Mj.1.cls) (by simp)
    have hins := hwk (.instanceMethod Mj.1) (by simp)
    obtain ⟨hnm, hret⟩ := m6 hk0.symm
    have hMet : Met Y.2.2.2.2.2.2.2 Mj.1 (.code Mj.1 Mj.2.1 Mj.2.2.1 none :: xi_W0) (xi_rm d (w'.length - w.length) (xi_sl w' - xi_sl w)) (xi_Pc Y as w) (xi_Qc Y o w') (w'.length - w.length) (xi_sl w' - xi_sl w) (xi_A Y) := by
      rw [← hret]; exact hMet
    have hG' : GoodIn xi_W0 (.code Mj.1 Mj.2.1 Mj.2.2.1 none :: xi_W0) := by rw [← hret]; exact hG'
    have hrc : xi_rcv2 as = true := by
      unfold xi_rcv at hrc
      rw [← hk0] at hrc
      exact hrc
    obtain ⟨a, as', rfl⟩ := xi_rcv2_spec hrc
    have hn : (as'.map (xi_v Y)).length = Mj.2.2.2.2.2.1 := by
      rw [List.length_map]
      have h8 : xi_np Mj = Mj.2.2.2.2.2.1 + 1 := by unfold xi_np; rw [if_neg (by rw [← hk0]; decide)]
      rw [h8, List.length_cons] at hal
      omega
    have hstack : ((Value.ref a :: as').reverse ++ r).map (xi_v Y) = (as'.map (xi_v Y)).reverse ++ .ref (xi_ad Y a) :: r.map (xi_v Y) := by
      rw [List.reverse_cons, List.append_assoc, List.map_append, List.map_append, List.map_reverse]; rfl
    rcases hlink with hlink | ⟨host, hlink⟩
    · exact xi_back (va_runI (As := as'.map (xi_v Y)) (rest := r.map (xi_v Y)) ⟨hx, hb, hml, hown, hts⟩ hMet ⟨callB_of Mj.2.2.2.2.2.1 hts hG' rfl rfl rfl hini (hts _ hlink) ⟨m2, m3, m4⟩ hR, hnm, hins⟩ ⟨xi_blind Y _ w, hpre⟩ rfl hn hsize hstack hroom hd ⟨h1, h2⟩) hS hkk
    · exact xi_back (va_runIN (As := as'.map (xi_v Y)) (rest := r.map (xi_v Y)) ⟨hx, hb, hml, hown, hts⟩ hMet ⟨va_cnB Mj.2.2.2.2.2.1 hts hG' rfl rfl rfl (hG.2.1 _ hlink) hini ⟨m2, m3, m4⟩ hR, hnm, hins⟩ ⟨xi_blind Y _ w, hpre⟩ rfl hn hsize hstack hroom hd ⟨h1, h2⟩) hS hkk
  · cases hk
-- the interpreter is sound
theorem xi_go_ok {it : Nat → Nat → Option (Instr × Nat)} (hit : ∀ n M pc i len, xi_ml[n]? = some M → it n pc = some (i, len) → decode M.2.1 pc = .ok (i, len)) (Y : xi_Y) : ∀ (f d n : Nat) (A : xi_S), xi_To Y d n A (xi_go it Y.2.2.2.2.2.1 Y.2.2.2.2.2.2.1 f d n A) := by
  intro f
  induction f with
  | zero => intro d n A; exact xi_To.rf Y d n A
  | succ f ih =>
    intro d n A
    unfold xi_go
    split
    · exact xi_To.rf Y d n A
    · next M hM =>
      split
      · exact xi_To.rf Y d n A
      · next i hi =>
        have hd : ∃ len, decode M.2.1 A.1 = .ok (i, len) ∧ (xi_sw i = true ∨ xi_len i = len) := by
          unfold xi_at at hi
          split at hi
          · next i3 len hi3 =>
            split at hi
            · next hlen => cases hi; exact ⟨len, hit n M A.1 _ len hM hi3, hlen⟩
            · cases hi
          · cases hi
        obtain ⟨len, hd, hlen⟩ := hd
        split
        · next B hB => exact (xi_stp_ok hM hd hlen hB).trans (ih d n B)
        · split
          · exact xi_To.rf Y _ n A
          · next d' =>
            split
            · exact xi_To.rf Y _ n A
            · next j Mj as r hinv =>
              split
              · exact xi_To.rf Y _ n A
              · next o w' he =>
                obtain ⟨x, z, hk, hl, hj, hL, hst, hal, ham, hcr, hca, hrc⟩ := xi_inv_spec hinv
                exact (xi_call hM hd hlen hinv (xi_C.of hit hj (ih d' j _) he hca ham)).trans (ih (d' + 1) n _)
end
section
/-! A method that throws: Code.has answers false, RootLoom.instruction makes an IndexOutOfBoundsException and throws it. -/
def xe_exc (ci : Nat) : xi_E := .inr (ci, List.replicate 6 .null)
theorem xe_has {Y : xi_Y} {w : xi_W} {cd : Nat} {fs : List Value} {st cnt i : Int32} (hw : w[cd]? = some (.inr (2, fs))) (h0 : fs[0]? = some (.int st)) (h1 : fs[1]? = some (.int cnt)) (hno : st = 0 ∨ i < 0 ∨ cnt ≤ i) (l : Launch) :
    Met l xm_43.1 (xi_cw xm_43) rm0 (xi_Pc Y [.ref (cd + 2), .int i] w) (QcRead 0) 0 0 (fun _ => False) := by
  refine va_MetF (cc := xm_43.2.1) (maxL := 2) (ret := some .boolean) (by decide +kernel) rfl ?_
  intro p e s m args below meth c s₁ B hml hv
  obtain ⟨rfl, hH, hG⟩ := hv
  have hx := B.exec
  have hb := B.bytes
  have hr := B.returns
  have hlocks := B.notSynchronized
  have hts0 := atoms_spec (ws := xi_cw xm_43) B.pre
  have hts : ∀ w ∈ xi_W0, w.before (([.ref (cd + 2), .int i] : List Value).map (xi_v Y)).toArray s = true := fun w hw => hts0 w (List.mem_cons_of_mem _ hw)
  have hown : s.vm.findClass "RootLoom$Code" = some m.cls := findClass_of_methodNamed B.named
  have hM : xi_ml[43]? = some xm_43 := rfl
  have dc : ∀ {pc : Nat} {j : Instr} {len : Nat}, xi_it 43 pc = some (j, len) → decode xm_43.2.1 pc = .ok (j, len) := fun h => xi_hit 43 xm_43 _ _ _ hM h
  rw [lg_entry_eq]
  have hlv : xi_lv Y (xi_ent xm_43 [.ref (cd + 2), .int i]) (lg_sl (([.ref (cd + 2), .int i] : List Value).map (xi_v Y)) ++ List.replicate (2 - (lg_sl (([.ref (cd + 2), .int i] : List Value).map (xi_v Y))).length) Slot.unset).toArray := xi_lv_ent (Y := Y) (M := xm_43) (as := [.ref (cd + 2), .int i]) (by simp [Value.category]) (Nat.le_refl 2)
  generalize (lg_sl (([.ref (cd + 2), .int i] : List Value).map (xi_v Y)) ++ List.replicate (2 - (lg_sl (([.ref (cd + 2), .int i] : List Value).map (xi_v Y))).length) Slot.unset).toArray = ls at hlv ⊢
  have l0 : ls[0]? = some (.val (.ref (Y.2.2.1 + cd))) := (hlv.2.2 0 _ rfl).1
  have l1 : ls[1]? = some (.val (.int i)) := (hlv.2.2 1 _ rfl).1
  have fin : W p l e (headSpec (xi_cw xm_43) rm0).room s m (([.ref (cd + 2), .int i] : List Value).map (xi_v Y)).toArray below meth c s.heap [] 0 0 (MQ below (QcRead 0) (([.ref (cd + 2), .int i] : List Value).map (xi_v Y)).toArray s 0 0 (fun _ => False)) (F0 m 23 ls []) := by
    refine lv_iconst hx hb (dc (pc := 23) rfl) rfl ?_
    exact W.zret hx hb hr (by decide) (fun t ht hW => ⟨rfl, ht⟩) (fun _ h => absurd h List.not_mem_nil) (dc (pc := 24) rfl)
  obtain ⟨⟨C, T, N⟩, hr0, hk0, hlk0⟩ := xi_fd_spec (x := 9) (ci := 2) (k := 0) hM rfl
  obtain ⟨⟨C', T', N'⟩, hr1, hk1, hlk1⟩ := xi_fd_spec (x := 15) (ci := 2) (k := 1) hM rfl
  refine lv_aload_n hx hb (dc (pc := 0) rfl) rfl l0 ?_
  refine va_get (a := Y.2.2.1 + cd) hx hb hts (xi_W0_cl hr0) hown hG.1 (hH.one hw) 0 rfl hr0 0 hk0 (hts _ hlk0) (fun _ h => h) (v := .int st) (by rw [List.getElem?_map, h0]; rfl) (dc (pc := 1) rfl) ?_
  refine lv_if_eq hx hb (dc (pc := 4) rfl) (tgt := 23) (by decide) (fun _ => fin) (fun hs => ?_)
  refine lv_iload_n hx hb (dc (pc := 7) rfl) rfl l1 ?_
  refine lv_if_lt hx hb (dc (pc := 8) rfl) (tgt := 23) (by decide) (fun _ => fin) (fun hi => ?_)
  refine lv_iload_n hx hb (dc (pc := 11) rfl) rfl l1 ?_
  refine lv_aload_n hx hb (dc (pc := 12) rfl) rfl l0 ?_
  refine va_get (a := Y.2.2.1 + cd) hx hb hts (xi_W0_cl hr1) hown hG.1 (hH.one hw) 0 rfl hr1 1 hk1 (hts _ hlk1) (fun _ h => h) (v := .int cnt) (by rw [List.getElem?_map, h1]; rfl) (dc (pc := 13) rfl) ?_
  refine lv_icmp_ge hx hb (dc (pc := 16) rfl) (tgt := 23) (by decide) (fun _ => fin) (fun hge => ?_)
  rcases hno with h | h | h
  · exact absurd h hs
  · exact absurd h hi
  · exact absurd h hge
def xe_QT (Y : xi_Y) (w : xi_W) (ci : Nat) : Array Value → State → Outcome → State → Prop := fun _ st o t => o = .threw (Y.2.2.1 + w.length) ∧ xi_Hs Y (w ++ [xe_exc ci]) t.heap ∧ (∀ q : Nat, q < st.heap.size → t.heap[q]? = st.heap[q]?) ∧ st.WarmedH t.vm ∧ st.sameButNew ({ t with vm := st.vm } : State) [] 1 6
def xe_rm : Room := { frames := 6, cells := 1, slots := 6, locals := 81 }
def xe_bad (X : String) : List Cond := [.declares ⟨"java/lang/RuntimeException", "<init>", "()V"⟩, .declares ⟨"java/lang/Exception", "<init>", "()V"⟩, .declares ⟨"java/lang/Throwable", "<init>", "()V"⟩, .castable X X, .laysStatic "java/lang/Throwable" "UNASSIGNED_STACK" "[Ljava/lang/StackTraceElement;", .laysStatic "java/lang/Throwable" "SUPPRESSED_SENTINEL" "Ljava/util/List;", .isRef (.static "java/lang/Throwable" "UNASSIGNED_STACK" "[Ljava/lang/StackTraceElement;"), .isRef (.static "java/lang/Throwable" "SUPPRESSED_SENTINEL" "Ljava/util/List;")]
theorem xe_split_I : ∀ a ∈ xe_at 82 xe_I, goodWord a = true ∨ a ∈ xe_bad xe_I := by decide +kernel
theorem xe_words {b : Nat} {s : State} {args : Array Value} (hts : ∀ w ∈ xi_W0, w.before args s = true) (hG : xe_G b s) : ∀ a ∈ xe_at 82 xe_I, a.before args s = true := by
  intro a ha
  rcases xe_split_I a ha with h | h
  · exact hts a (List.mem_append_right _ (List.mem_append_right _ (List.mem_append_right _ (List.mem_append_right _ (List.mem_append_left _ (List.mem_filter.mpr ⟨List.mem_append_left _ ha, h⟩))))))
  · simp only [xe_bad, List.mem_cons, List.not_mem_nil, or_false] at h
    rcases h with rfl | rfl | rfl | rfl | rfl | rfl | rfl | rfl
    · exact va_Nw.use rfl (hG.1 _ (List.mem_of_getElem? (i := 0) rfl))
    · exact va_Nw.use rfl (hG.1 _ (List.mem_of_getElem? (i := 1) rfl))
    · exact va_Nw.use rfl (hG.1 _ (List.mem_of_getElem? (i := 2) rfl))
    · exact va_Nw.use rfl (hG.2.1 (xe_I, xe_I) (List.mem_of_getElem? (i := 0) rfl))
    · exact hG.2.2.1.lays
    · exact hG.2.2.2.1.lays
    · exact hG.2.2.1.ref
    · exact hG.2.2.2.1.ref
theorem xe_wx (k : Nat) {w : Cond} (h : ([.classLink "RootLoom" 80 "java/lang/IndexOutOfBoundsException", .initialized "java/lang/IndexOutOfBoundsException", .classLink "RootLoom" 83 "java/lang/IllegalArgumentException", .initialized "java/lang/IllegalArgumentException", .classLink "RootLoomLaw" 13 "java/lang/IndexOutOfBoundsException", .classLink "RootLoomLaw" 15 "java/lang/IllegalArgumentException", xh_c, .static xh_y, .methodLink "RootLoomLaw" 51 xh_y, .initialized "RootLoomLaw"] : List Cond)[k]? = some w) : w ∈ xi_W0 :=
  List.mem_append_right _ (List.mem_append_right _ (List.mem_append_right _ (List.mem_append_right _ (List.mem_append_right _ (List.mem_of_getElem? h)))))
-- nothing written, one cell made: the old cells are as they were
theorem xe_old {s t : State} {n k : Nat} (h : s.sameButNew t [] n k) : ∀ q : Nat, q < s.heap.size → t.heap[q]? = s.heap[q]? := by
  intro q hq
  have h1 : s.heap[q]? = some s.heap[q] := Array.getElem?_eq_getElem hq
  obtain ⟨c', h2, h3, h4, h5⟩ := h.2.2.2.2.2 q _ h1
  rw [h2, h1]
  congr 1
  rw [h3]
  have h6 : c'.slots = s.heap[q].slots := by
    apply Array.ext_getElem?
    intro i
    exact h5 i List.not_mem_nil
  rw [h6]
theorem xe_ins {Y : xi_Y} {w : xi_W} {x cd : Nat} {fa fs : List Value} {st cnt i wh : Int32} (hwa : w[x]? = some (.inr (0, fa))) (ha1 : fa[1]? = some (.ref (cd + 2))) (hw : w[cd]? = some (.inr (2, fs))) (h0 : fs[0]? = some (.int st)) (h1 : fs[1]? = some (.int cnt)) (hno : st = 0 ∨ i < 0 ∨ cnt ≤ i) (hfl : Y.2.2.2.2.2.2.2.flags = pinnedFlags ++ [noTraceFlag]) :
    MetFree Y.2.2.2.2.2.2.2 xm_17.1 (headSpec (xi_cw xm_17) xe_rm) (xi_Pc Y [.ref (x + 2), .int i, .int wh] w) (fun _ _ _ _ _ => True) (xe_QT Y w 8) := by
  refine MetFree.of_bodySF (code := xm_17.2.1) (maxLocals := 3) (ret := some .int) (by decide +kernel) ?_ ?_
  · intro args s m h hn
    obtain ⟨meth, c, g1, g2, g3, g4, g5, g6, -, -⟩ := Cond.code_spec hn (atoms_spec (ws := xi_cw xm_17) h _ List.mem_cons_self)
    exact ⟨meth, c, g1, g2, g3, g4, g5, g6⟩
  · intro p e s m args below meth c s₁ B hml hv _
    have hh0 : s₁.heap = s.heap := by rw [B.state]; rfl
    obtain ⟨rfl, hH, hG⟩ := hv
    have hx := B.exec
    have hb := B.bytes
    have hlocks := B.notSynchronized
    have hts0 := atoms_spec (ws := xi_cw xm_17) B.pre
    have hts : ∀ w ∈ xi_W0, w.before (([.ref (x + 2), .int i, .int wh] : List Value).map (xi_v Y)).toArray s = true := fun w hw => hts0 w (List.mem_cons_of_mem _ hw)
    have hown : s.vm.findClass "RootLoom" = some m.cls := findClass_of_methodNamed B.named
    have hM : xi_ml[17]? = some xm_17 := rfl
    have hM2 : xi_ml[43]? = some xm_43 := rfl
    have dc : ∀ {pc : Nat} {j : Instr} {len : Nat}, xi_it 17 pc = some (j, len) → decode xm_17.2.1 pc = .ok (j, len) := fun h => xi_hit 17 xm_17 _ _ _ hM h
    have hno2 : c.exceptionTable.isEmpty = true := B.noHandlers (hts0 _ List.mem_cons_self)
    have hout : ∀ (pc : Nat), ∀ y ∈ c.exceptionTable.toList, covers y pc = false := by
      intro pc y hy
      have h9 : c.exceptionTable = #[] := by simpa using hno2
      rw [h9] at hy
      exact absurd hy List.not_mem_nil
    have key : W p Y.2.2.2.2.2.2.2 e (headSpec (xi_cw xm_17) xe_rm).room s m (([.ref (x + 2), .int i, .int wh] : List Value).map (xi_v Y)).toArray below meth c s.heap [] 0 0 (fun t => ∃ o, t.status = .running ∧ Ended t below o ∧ xe_QT Y w 8 (([.ref (x + 2), .int i, .int wh] : List Value).map (xi_v Y)).toArray s o t) (entryFrame m (([.ref (x + 2), .int i, .int wh] : List Value).map (xi_v Y)).toArray 3) := by
      rw [lg_entry_eq]
      have hlv : xi_lv Y (xi_ent xm_17 [.ref (x + 2), .int i, .int wh]) (lg_sl (([.ref (x + 2), .int i, .int wh] : List Value).map (xi_v Y)) ++ List.replicate (3 - (lg_sl (([.ref (x + 2), .int i, .int wh] : List Value).map (xi_v Y))).length) Slot.unset).toArray := xi_lv_ent (Y := Y) (M := xm_17) (as := [.ref (x + 2), .int i, .int wh]) (by simp [Value.category]) (Nat.le_refl 3)
      generalize (lg_sl (([.ref (x + 2), .int i, .int wh] : List Value).map (xi_v Y)) ++ List.replicate (3 - (lg_sl (([.ref (x + 2), .int i, .int wh] : List Value).map (xi_v Y))).length) Slot.unset).toArray = ls at hlv ⊢
      have l0 : ls[0]? = some (.val (.ref (Y.2.2.1 + x))) := (hlv.2.2 0 _ rfl).1
      have l1 : ls[1]? = some (.val (.int i)) := (hlv.2.2 1 _ rfl).1
      have hls : ls.size = 3 := hlv.1
      obtain ⟨⟨C, T, N⟩, hr0, hk0, hlk0⟩ := xi_fd_spec (x := 19) (ci := 0) (k := 1) hM rfl
      refine lv_aload_n hx hb (dc (pc := 0) rfl) rfl l0 ?_
      refine va_get (a := Y.2.2.1 + x) hx hb hts (xi_W0_cl hr0) hown hG.1 (hH.one hwa) 0 rfl hr0 1 hk0 (hts _ hlk0) (fun _ h => h) (v := .ref (Y.2.2.1 + cd)) (by rw [List.getElem?_map, ha1]; rfl) (dc (pc := 1) rfl) ?_
      refine lv_iload_n hx hb (dc (pc := 4) rfl) rfl l1 ?_
      have hkw : ∀ w ∈ xi_kw xm_43, w.before (([.ref (x + 2), .int i, .int wh] : List Value).map (xi_v Y)).toArray s = true := fun w hw => hts _ (xi_W0_m hM2 _ hw)
      have hlink := hts _ (xi_W0_lk (x := 76) (q := (3, 43, 0)) hM rfl (.methodLink "RootLoom" 76 xm_43.1) (List.mem_singleton.mpr rfl))
      have hrec := va_recv (a := Y.2.2.1 + cd) hG.1 (hH.one hw) (ci := 2) (q0 := 0) (fs := fs.map (xi_v Y)) (q := ("RootLoom$Code", xc_TC, 11)) rfl rfl
      refine W.callR (r := 0) (W.runV (C := "RootLoom$Code") (index := 76) (b := Y.2.2.1 + cd) (As := [.int i]) (rest := []) (nL := 3) ⟨hx, hb, hml, hown, hts⟩ (xe_has (Y := Y) hw h0 h1 hno _) ⟨callB_of 1 hts (xi_good (xi_W0_m hM2 _ List.mem_cons_self)) rfl rfl rfl (hkw _ (List.mem_of_getElem? (i := 1) rfl)) hlink (by decide +kernel) (by decide), hkw _ (List.mem_of_getElem? (i := 2) rfl), hkw _ (List.mem_of_getElem? (i := 3) rfl)⟩ ⟨xi_blind Y _ w, hrec, fun U hU hW => ⟨rfl, by rw [hU]; exact hH, hG.moved (locs := []) (by rw [hU]; exact va_S.rf) hW⟩⟩ rfl rfl hls rfl (lv_room (Nat.zero_le _)) (dc (pc := 5) rfl) ⟨Nat.zero_le _, Nat.zero_le _⟩) ?_
      refine W.eq (g2 := F0 m 8 ls [.int 0]) rfl ?_
      refine lv_if_ne hx hb (dc (pc := 8) rfl) (tgt := 19) (by decide) (fun h => absurd rfl h) (fun _ => ?_)
      refine W.newc (C := xe_I) (n := 6) hx hb hown (hts _ (xe_wx 0 rfl)) (xe_words hts hG.2.2.2.2.2.2.2.2 _ (by decide +kernel)) (hts _ (xe_wx 1 rfl)) rfl (dc (pc := 11) rfl) (by decide) (by decide) (fun cC kC f1 f2 f3 f4 => ?_)
      refine W.eq (g2 := F0 m 14 ls [.ref s.heap.size]) rfl ?_
      refine lv_dup hx hb (dc (pc := 14) rfl) rfl ?_
      intro T hT X
      obtain ⟨U, hst, hrun, hend, hWU, hsame, ce, hce, hoc⟩ := X.ctorThrow0 hx (Launch.traces_off hfl X.admits) (own := "RootLoom") (cls := xe_I) (names := xe_names) (ic := 82) hown (by decide +kernel) (by decide +kernel) (xe_words hts hG.2.2.2.2.2.2.2.2) (fun _ h => absurd h List.not_mem_nil) f1 f2 (a := s.heap.size) (by rw [hT]; simp) (Nat.le_refl _) (g := F0 m 15 ls [.ref s.heap.size, .ref s.heap.size]) rfl (by rw [hml]; exact hls) rfl rfl (rest := []) rfl (by rw [hb]; exact dc (pc := 15) rfl) (by rw [hb]; exact dc (pc := 18) rfl) (hout _) (by decide) (by simp [F0, JFrame.monitorRoom, Value.category]; decide)
      have hbase : s.heap.size = Y.2.2.1 + w.length := hH.1
      have hold := xe_old hsame
      refine ⟨U, hst, .threw s.heap.size, hrun, hend, by rw [hbase], ⟨?_, fun k y hk => ?_⟩, hold, hWU, hsame⟩
      · have h8 : s.heap.size < U.heap.size := (Array.getElem?_eq_some_iff.mp hce).1
        have h9 : U.heap.size ≤ s.heap.size + 1 := hsame.2.2.1
        rw [List.length_append, List.length_singleton]
        omega
      · by_cases hl : k < w.length
        · rw [List.getElem?_append_left hl] at hk
          exact (hH.2 k y hk).kept (hold _ (by show Y.2.2.1 + k < s.heap.size; omega))
        · rw [List.getElem?_append_right (by omega)] at hk
          have hz : k - w.length < 1 := (List.getElem?_eq_some_iff.mp hk).1
          have hk0 : k = w.length := by omega
          subst hk0
          rw [Nat.sub_self] at hk
          cases hk
          refine ⟨(xe_I, xc_TE, 0), rfl, ce, by rw [← hbase]; exact hce, ?_, hoc.vm, fun j hj => absurd hj (Nat.not_lt_zero j)⟩
          exact Option.some.inj (hoc.cls.symm.trans (hG.1.1 8 (xe_I, xc_TE, 0) rfl).2.1)
    obtain ⟨t, a1, o, b1, b2, b3⟩ := key s₁ hh0 (Stand.of_body B)
    exact ⟨t, o, a1, b1, b2, b3⟩
end
section
-- ===== PART A: goes FIRST, ahead of the names: the tables' words, and 'selects' of the private methods out of them =====
/-- a private method of a class that the tables say can be made, by its rows of tables_1 -/
def lw_okq (q : MethodName × Nat) : Prop := (q.1.cls ≠ "java/lang/invoke/MethodHandle" ∧ q.1.cls ≠ "java/lang/invoke/VarHandle") ∧ Cond.instantiable q.1.cls q.2 ∈ tables_1 ∧ Cond.privateMethod q.1 ∈ tables_1 ∧ Cond.instanceMethod q.1 ∈ tables_1
theorem lw_p0 : lw_okq (⟨"RootLoom$Source", "fits", "(II)Z"⟩, 12) := ⟨⟨by decide +kernel, by decide +kernel⟩, List.mem_of_getElem? (i := 24) (by decide +kernel), List.mem_of_getElem? (i := 362) (by decide +kernel), List.mem_of_getElem? (i := 363) (by decide +kernel)⟩
theorem lw_p1 : lw_okq (⟨"RootLoom$Source", "isFunction", "(I)Z"⟩, 12) := ⟨⟨by decide +kernel, by decide +kernel⟩, List.mem_of_getElem? (i := 24) (by decide +kernel), List.mem_of_getElem? (i := 366) (by decide +kernel), List.mem_of_getElem? (i := 367) (by decide +kernel)⟩
theorem lw_p2 : lw_okq (⟨"RootLoom$Source", "isExpression", "(I)Z"⟩, 12) := ⟨⟨by decide +kernel, by decide +kernel⟩, List.mem_of_getElem? (i := 24) (by decide +kernel), List.mem_of_getElem? (i := 370) (by decide +kernel), List.mem_of_getElem? (i := 371) (by decide +kernel)⟩
theorem lw_p3 : lw_okq (⟨"RootLoom$Source", "isNode", "(I)Z"⟩, 12) := ⟨⟨by decide +kernel, by decide +kernel⟩, List.mem_of_getElem? (i := 24) (by decide +kernel), List.mem_of_getElem? (i := 374) (by decide +kernel), List.mem_of_getElem? (i := 375) (by decide +kernel)⟩
theorem lw_p4 : lw_okq (⟨"RootLoom$Source", "measure", "(I)V"⟩, 12) := ⟨⟨by decide +kernel, by decide +kernel⟩, List.mem_of_getElem? (i := 24) (by decide +kernel), List.mem_of_getElem? (i := 378) (by decide +kernel), List.mem_of_getElem? (i := 379) (by decide +kernel)⟩
theorem lw_p5 : lw_okq (⟨"RootLoom$Weaver", "weaveFunction", "(I)Z"⟩, 13) := ⟨⟨by decide +kernel, by decide +kernel⟩, List.mem_of_getElem? (i := 144) (by decide +kernel), List.mem_of_getElem? (i := 427) (by decide +kernel), List.mem_of_getElem? (i := 428) (by decide +kernel)⟩
theorem lw_p6 : lw_okq (⟨"RootLoom$Weaver", "begin", "(I)V"⟩, 13) := ⟨⟨by decide +kernel, by decide +kernel⟩, List.mem_of_getElem? (i := 144) (by decide +kernel), List.mem_of_getElem? (i := 435) (by decide +kernel), List.mem_of_getElem? (i := 436) (by decide +kernel)⟩
theorem lw_p7 : lw_okq (⟨"RootLoom$Weaver", "finish", "(II)V"⟩, 13) := ⟨⟨by decide +kernel, by decide +kernel⟩, List.mem_of_getElem? (i := 144) (by decide +kernel), List.mem_of_getElem? (i := 439) (by decide +kernel), List.mem_of_getElem? (i := 440) (by decide +kernel)⟩
theorem lw_p8 : lw_okq (⟨"RootLoom$Weaver", "putType", "(I)V"⟩, 13) := ⟨⟨by decide +kernel, by decide +kernel⟩, List.mem_of_getElem? (i := 144) (by decide +kernel), List.mem_of_getElem? (i := 448) (by decide +kernel), List.mem_of_getElem? (i := 449) (by decide +kernel)⟩
theorem lw_p9 : lw_okq (⟨"RootLoom$Weaver", "weaveLoad", "(I)V"⟩, 13) := ⟨⟨by decide +kernel, by decide +kernel⟩, List.mem_of_getElem? (i := 144) (by decide +kernel), List.mem_of_getElem? (i := 452) (by decide +kernel), List.mem_of_getElem? (i := 453) (by decide +kernel)⟩
theorem lw_p10 : lw_okq (⟨"RootLoom$Weaver", "must", "(Z)V"⟩, 13) := ⟨⟨by decide +kernel, by decide +kernel⟩, List.mem_of_getElem? (i := 144) (by decide +kernel), List.mem_of_getElem? (i := 456) (by decide +kernel), List.mem_of_getElem? (i := 457) (by decide +kernel)⟩
theorem lw_p11 : lw_okq (⟨"RootLoom$Weaver", "weaveSum", "(I)V"⟩, 13) := ⟨⟨by decide +kernel, by decide +kernel⟩, List.mem_of_getElem? (i := 144) (by decide +kernel), List.mem_of_getElem? (i := 460) (by decide +kernel), List.mem_of_getElem? (i := 461) (by decide +kernel)⟩
theorem lw_p12 : lw_okq (⟨"RootLoom$Weaver", "takeInt", "()V"⟩, 13) := ⟨⟨by decide +kernel, by decide +kernel⟩, List.mem_of_getElem? (i := 144) (by decide +kernel), List.mem_of_getElem? (i := 464) (by decide +kernel), List.mem_of_getElem? (i := 465) (by decide +kernel)⟩
theorem lw_p13 : lw_okq (⟨"RootLoom$Weaver", "takeType", "()I"⟩, 13) := ⟨⟨by decide +kernel, by decide +kernel⟩, List.mem_of_getElem? (i := 144) (by decide +kernel), List.mem_of_getElem? (i := 468) (by decide +kernel), List.mem_of_getElem? (i := 469) (by decide +kernel)⟩
theorem lw_p14 : lw_okq (⟨"RootLoom$Weaver", "weaveNew", "(I)V"⟩, 13) := ⟨⟨by decide +kernel, by decide +kernel⟩, List.mem_of_getElem? (i := 144) (by decide +kernel), List.mem_of_getElem? (i := 472) (by decide +kernel), List.mem_of_getElem? (i := 473) (by decide +kernel)⟩
theorem lw_p15 : lw_okq (⟨"RootLoom$Weaver", "addMapped", "(II)V"⟩, 13) := ⟨⟨by decide +kernel, by decide +kernel⟩, List.mem_of_getElem? (i := 144) (by decide +kernel), List.mem_of_getElem? (i := 476) (by decide +kernel), List.mem_of_getElem? (i := 477) (by decide +kernel)⟩
def lw_privs_1 : List (MethodName × Nat) := [(⟨"RootLoom$Source", "fits", "(II)Z"⟩, 12), (⟨"RootLoom$Source", "isFunction", "(I)Z"⟩, 12), (⟨"RootLoom$Source", "isExpression", "(I)Z"⟩, 12), (⟨"RootLoom$Source", "isNode", "(I)Z"⟩, 12), (⟨"RootLoom$Source", "measure", "(I)V"⟩, 12), (⟨"RootLoom$Weaver", "weaveFunction", "(I)Z"⟩, 13), (⟨"RootLoom$Weaver", "begin", "(I)V"⟩, 13), (⟨"RootLoom$Weaver", "finish", "(II)V"⟩, 13), (⟨"RootLoom$Weaver", "putType", "(I)V"⟩, 13), (⟨"RootLoom$Weaver", "weaveLoad", "(I)V"⟩, 13), (⟨"RootLoom$Weaver", "must", "(Z)V"⟩, 13), (⟨"RootLoom$Weaver", "weaveSum", "(I)V"⟩, 13), (⟨"RootLoom$Weaver", "takeInt", "()V"⟩, 13), (⟨"RootLoom$Weaver", "takeType", "()I"⟩, 13), (⟨"RootLoom$Weaver", "weaveNew", "(I)V"⟩, 13), (⟨"RootLoom$Weaver", "addMapped", "(II)V"⟩, 13)]
theorem lw_r1 : ∀ q ∈ lw_privs_1, lw_okq q := List.forall_mem_cons.mpr ⟨lw_p0, List.forall_mem_cons.mpr ⟨lw_p1, List.forall_mem_cons.mpr ⟨lw_p2, List.forall_mem_cons.mpr ⟨lw_p3, List.forall_mem_cons.mpr ⟨lw_p4, List.forall_mem_cons.mpr ⟨lw_p5, List.forall_mem_cons.mpr ⟨lw_p6, List.forall_mem_cons.mpr ⟨lw_p7, List.forall_mem_cons.mpr ⟨lw_p8, List.forall_mem_cons.mpr ⟨lw_p9, List.forall_mem_cons.mpr ⟨lw_p10, List.forall_mem_cons.mpr ⟨lw_p11, List.forall_mem_cons.mpr ⟨lw_p12, List.forall_mem_cons.mpr ⟨lw_p13, List.forall_mem_cons.mpr ⟨lw_p14, List.forall_mem_cons.mpr ⟨lw_p15, fun _ h => absurd h List.not_mem_nil⟩⟩⟩⟩⟩⟩⟩⟩⟩⟩⟩⟩⟩⟩⟩⟩
theorem lw_p16 : lw_okq (⟨"RootLoom$Weaver", "takePairType", "()I"⟩, 13) := ⟨⟨by decide +kernel, by decide +kernel⟩, List.mem_of_getElem? (i := 144) (by decide +kernel), List.mem_of_getElem? (i := 480) (by decide +kernel), List.mem_of_getElem? (i := 481) (by decide +kernel)⟩
theorem lw_p17 : lw_okq (⟨"RootLoom$Weaver", "joinWays", "(I)V"⟩, 13) := ⟨⟨by decide +kernel, by decide +kernel⟩, List.mem_of_getElem? (i := 144) (by decide +kernel), List.mem_of_getElem? (i := 484) (by decide +kernel), List.mem_of_getElem? (i := 485) (by decide +kernel)⟩
theorem lw_p18 : lw_okq (⟨"RootLoom$Weaver", "weaveCall", "(II)V"⟩, 13) := ⟨⟨by decide +kernel, by decide +kernel⟩, List.mem_of_getElem? (i := 144) (by decide +kernel), List.mem_of_getElem? (i := 492) (by decide +kernel), List.mem_of_getElem? (i := 493) (by decide +kernel)⟩
theorem lw_p19 : lw_okq (⟨"RootLoom$Weaver", "weavePut", "(I[I)V"⟩, 13) := ⟨⟨by decide +kernel, by decide +kernel⟩, List.mem_of_getElem? (i := 144) (by decide +kernel), List.mem_of_getElem? (i := 496) (by decide +kernel), List.mem_of_getElem? (i := 497) (by decide +kernel)⟩
theorem lw_p20 : lw_okq (⟨"RootLoom$Weaver", "goDown", "(I)V"⟩, 13) := ⟨⟨by decide +kernel, by decide +kernel⟩, List.mem_of_getElem? (i := 144) (by decide +kernel), List.mem_of_getElem? (i := 500) (by decide +kernel), List.mem_of_getElem? (i := 501) (by decide +kernel)⟩
theorem lw_p21 : lw_okq (⟨"RootLoom$Weaver", "prepare", "(III)V"⟩, 13) := ⟨⟨by decide +kernel, by decide +kernel⟩, List.mem_of_getElem? (i := 144) (by decide +kernel), List.mem_of_getElem? (i := 505) (by decide +kernel), List.mem_of_getElem? (i := 506) (by decide +kernel)⟩
theorem lw_p22 : lw_okq (⟨"RootLoom$Weaver", "weaveStore", "(I)V"⟩, 13) := ⟨⟨by decide +kernel, by decide +kernel⟩, List.mem_of_getElem? (i := 144) (by decide +kernel), List.mem_of_getElem? (i := 509) (by decide +kernel), List.mem_of_getElem? (i := 510) (by decide +kernel)⟩
theorem lw_p23 : lw_okq (⟨"RootLoom$Weaver", "findWhatMatters", "()V"⟩, 13) := ⟨⟨by decide +kernel, by decide +kernel⟩, List.mem_of_getElem? (i := 144) (by decide +kernel), List.mem_of_getElem? (i := 513) (by decide +kernel), List.mem_of_getElem? (i := 514) (by decide +kernel)⟩
theorem lw_p24 : lw_okq (⟨"RootLoom$Weaver", "mattersBehind", "(I)I"⟩, 13) := ⟨⟨by decide +kernel, by decide +kernel⟩, List.mem_of_getElem? (i := 144) (by decide +kernel), List.mem_of_getElem? (i := 517) (by decide +kernel), List.mem_of_getElem? (i := 518) (by decide +kernel)⟩
theorem lw_p25 : lw_okq (⟨"RootLoom$Machine", "doNext", "()V"⟩, 18) := ⟨⟨by decide +kernel, by decide +kernel⟩, List.mem_of_getElem? (i := 190) (by decide +kernel), List.mem_of_getElem? (i := 580) (by decide +kernel), List.mem_of_getElem? (i := 581) (by decide +kernel)⟩
theorem lw_p26 : lw_okq (⟨"RootLoom$Machine", "doSum", "(I)V"⟩, 18) := ⟨⟨by decide +kernel, by decide +kernel⟩, List.mem_of_getElem? (i := 190) (by decide +kernel), List.mem_of_getElem? (i := 600) (by decide +kernel), List.mem_of_getElem? (i := 601) (by decide +kernel)⟩
theorem lw_p27 : lw_okq (⟨"RootLoom$Machine", "doNew", "(II)V"⟩, 18) := ⟨⟨by decide +kernel, by decide +kernel⟩, List.mem_of_getElem? (i := 190) (by decide +kernel), List.mem_of_getElem? (i := 604) (by decide +kernel), List.mem_of_getElem? (i := 605) (by decide +kernel)⟩
theorem lw_p28 : lw_okq (⟨"RootLoom$Machine", "isForced", "()Z"⟩, 18) := ⟨⟨by decide +kernel, by decide +kernel⟩, List.mem_of_getElem? (i := 190) (by decide +kernel), List.mem_of_getElem? (i := 608) (by decide +kernel), List.mem_of_getElem? (i := 609) (by decide +kernel)⟩
theorem lw_p29 : lw_okq (⟨"RootLoom$Machine", "isFull", "()Z"⟩, 18) := ⟨⟨by decide +kernel, by decide +kernel⟩, List.mem_of_getElem? (i := 190) (by decide +kernel), List.mem_of_getElem? (i := 612) (by decide +kernel), List.mem_of_getElem? (i := 613) (by decide +kernel)⟩
theorem lw_p30 : lw_okq (⟨"RootLoom$Machine", "collect", "(I)V"⟩, 18) := ⟨⟨by decide +kernel, by decide +kernel⟩, List.mem_of_getElem? (i := 190) (by decide +kernel), List.mem_of_getElem? (i := 620) (by decide +kernel), List.mem_of_getElem? (i := 621) (by decide +kernel)⟩
theorem lw_p31 : lw_okq (⟨"RootLoom$Machine", "keepFrom", "(II)V"⟩, 18) := ⟨⟨by decide +kernel, by decide +kernel⟩, List.mem_of_getElem? (i := 190) (by decide +kernel), List.mem_of_getElem? (i := 628) (by decide +kernel), List.mem_of_getElem? (i := 629) (by decide +kernel)⟩
def lw_privs_2 : List (MethodName × Nat) := [(⟨"RootLoom$Weaver", "takePairType", "()I"⟩, 13), (⟨"RootLoom$Weaver", "joinWays", "(I)V"⟩, 13), (⟨"RootLoom$Weaver", "weaveCall", "(II)V"⟩, 13), (⟨"RootLoom$Weaver", "weavePut", "(I[I)V"⟩, 13), (⟨"RootLoom$Weaver", "goDown", "(I)V"⟩, 13), (⟨"RootLoom$Weaver", "prepare", "(III)V"⟩, 13), (⟨"RootLoom$Weaver", "weaveStore", "(I)V"⟩, 13), (⟨"RootLoom$Weaver", "findWhatMatters", "()V"⟩, 13), (⟨"RootLoom$Weaver", "mattersBehind", "(I)I"⟩, 13), (⟨"RootLoom$Machine", "doNext", "()V"⟩, 18), (⟨"RootLoom$Machine", "doSum", "(I)V"⟩, 18), (⟨"RootLoom$Machine", "doNew", "(II)V"⟩, 18), (⟨"RootLoom$Machine", "isForced", "()Z"⟩, 18), (⟨"RootLoom$Machine", "isFull", "()Z"⟩, 18), (⟨"RootLoom$Machine", "collect", "(I)V"⟩, 18), (⟨"RootLoom$Machine", "keepFrom", "(II)V"⟩, 18)]
theorem lw_r2 : ∀ q ∈ lw_privs_2, lw_okq q := List.forall_mem_cons.mpr ⟨lw_p16, List.forall_mem_cons.mpr ⟨lw_p17, List.forall_mem_cons.mpr ⟨lw_p18, List.forall_mem_cons.mpr ⟨lw_p19, List.forall_mem_cons.mpr ⟨lw_p20, List.forall_mem_cons.mpr ⟨lw_p21, List.forall_mem_cons.mpr ⟨lw_p22, List.forall_mem_cons.mpr ⟨lw_p23, List.forall_mem_cons.mpr ⟨lw_p24, List.forall_mem_cons.mpr ⟨lw_p25, List.forall_mem_cons.mpr ⟨lw_p26, List.forall_mem_cons.mpr ⟨lw_p27, List.forall_mem_cons.mpr ⟨lw_p28, List.forall_mem_cons.mpr ⟨lw_p29, List.forall_mem_cons.mpr ⟨lw_p30, List.forall_mem_cons.mpr ⟨lw_p31, fun _ h => absurd h List.not_mem_nil⟩⟩⟩⟩⟩⟩⟩⟩⟩⟩⟩⟩⟩⟩⟩⟩
theorem lw_p32 : lw_okq (⟨"RootLoom$Machine", "doGet", "([I)V"⟩, 18) := ⟨⟨by decide +kernel, by decide +kernel⟩, List.mem_of_getElem? (i := 190) (by decide +kernel), List.mem_of_getElem? (i := 645) (by decide +kernel), List.mem_of_getElem? (i := 646) (by decide +kernel)⟩
theorem lw_p33 : lw_okq (⟨"RootLoom$Machine", "doSet", "([I)V"⟩, 18) := ⟨⟨by decide +kernel, by decide +kernel⟩, List.mem_of_getElem? (i := 190) (by decide +kernel), List.mem_of_getElem? (i := 649) (by decide +kernel), List.mem_of_getElem? (i := 650) (by decide +kernel)⟩
theorem lw_p34 : lw_okq (⟨"RootLoom$Machine", "doCall", "(II)V"⟩, 18) := ⟨⟨by decide +kernel, by decide +kernel⟩, List.mem_of_getElem? (i := 190) (by decide +kernel), List.mem_of_getElem? (i := 653) (by decide +kernel), List.mem_of_getElem? (i := 654) (by decide +kernel)⟩
theorem lw_p35 : lw_okq (⟨"RootLoom$Machine", "doReturn", "()V"⟩, 18) := ⟨⟨by decide +kernel, by decide +kernel⟩, List.mem_of_getElem? (i := 190) (by decide +kernel), List.mem_of_getElem? (i := 662) (by decide +kernel), List.mem_of_getElem? (i := 663) (by decide +kernel)⟩
theorem lw_p36 : lw_okq (⟨"RootLoom$Machine", "doPrint", "()V"⟩, 18) := ⟨⟨by decide +kernel, by decide +kernel⟩, List.mem_of_getElem? (i := 190) (by decide +kernel), List.mem_of_getElem? (i := 666) (by decide +kernel), List.mem_of_getElem? (i := 667) (by decide +kernel)⟩
theorem lw_p37 : lw_okq (⟨"java/lang/Throwable", "fillInStackTrace", "(I)Ljava/lang/Throwable;"⟩, 6) := ⟨⟨by decide +kernel, by decide +kernel⟩, List.mem_of_getElem? (i := 744) (by decide +kernel), List.mem_of_getElem? (i := 742) (by decide +kernel), List.mem_of_getElem? (i := 743) (by decide +kernel)⟩
theorem lw_p38 : lw_okq (⟨"RootLoomModel", "mayBe", "(IIII)Z"⟩, 65) := ⟨⟨by decide +kernel, by decide +kernel⟩, List.mem_of_getElem? (i := 784) (by decide +kernel), List.mem_of_getElem? (i := 1006) (by decide +kernel), List.mem_of_getElem? (i := 1007) (by decide +kernel)⟩
theorem lw_p39 : lw_okq (⟨"RootLoomModel", "isExpression", "(I)Z"⟩, 65) := ⟨⟨by decide +kernel, by decide +kernel⟩, List.mem_of_getElem? (i := 784) (by decide +kernel), List.mem_of_getElem? (i := 1010) (by decide +kernel), List.mem_of_getElem? (i := 1011) (by decide +kernel)⟩
theorem lw_p40 : lw_okq (⟨"RootLoomModel", "isArgument", "(I)Z"⟩, 65) := ⟨⟨by decide +kernel, by decide +kernel⟩, List.mem_of_getElem? (i := 784) (by decide +kernel), List.mem_of_getElem? (i := 1014) (by decide +kernel), List.mem_of_getElem? (i := 1015) (by decide +kernel)⟩
theorem lw_p41 : lw_okq (⟨"RootLoomModel", "isTooLarge", "()Z"⟩, 65) := ⟨⟨by decide +kernel, by decide +kernel⟩, List.mem_of_getElem? (i := 784) (by decide +kernel), List.mem_of_getElem? (i := 1026) (by decide +kernel), List.mem_of_getElem? (i := 1027) (by decide +kernel)⟩
theorem lw_p42 : lw_okq (⟨"RootLoomModel", "measure", "(I)V"⟩, 65) := ⟨⟨by decide +kernel, by decide +kernel⟩, List.mem_of_getElem? (i := 784) (by decide +kernel), List.mem_of_getElem? (i := 1030) (by decide +kernel), List.mem_of_getElem? (i := 1031) (by decide +kernel)⟩
theorem lw_p43 : lw_okq (⟨"RootLoomModel", "layFunction", "(I)V"⟩, 65) := ⟨⟨by decide +kernel, by decide +kernel⟩, List.mem_of_getElem? (i := 784) (by decide +kernel), List.mem_of_getElem? (i := 1040) (by decide +kernel), List.mem_of_getElem? (i := 1041) (by decide +kernel)⟩
theorem lw_p44 : lw_okq (⟨"RootLoomModel", "later", "(II)V"⟩, 65) := ⟨⟨by decide +kernel, by decide +kernel⟩, List.mem_of_getElem? (i := 784) (by decide +kernel), List.mem_of_getElem? (i := 1044) (by decide +kernel), List.mem_of_getElem? (i := 1045) (by decide +kernel)⟩
theorem lw_p45 : lw_okq (⟨"RootLoomModel", "visit", "(I)V"⟩, 65) := ⟨⟨by decide +kernel, by decide +kernel⟩, List.mem_of_getElem? (i := 784) (by decide +kernel), List.mem_of_getElem? (i := 1048) (by decide +kernel), List.mem_of_getElem? (i := 1049) (by decide +kernel)⟩
theorem lw_p46 : lw_okq (⟨"RootLoomModel", "say", "(II)V"⟩, 65) := ⟨⟨by decide +kernel, by decide +kernel⟩, List.mem_of_getElem? (i := 784) (by decide +kernel), List.mem_of_getElem? (i := 1052) (by decide +kernel), List.mem_of_getElem? (i := 1053) (by decide +kernel)⟩
theorem lw_p47 : lw_okq (⟨"RootLoomModel", "pushType", "(I)V"⟩, 65) := ⟨⟨by decide +kernel, by decide +kernel⟩, List.mem_of_getElem? (i := 784) (by decide +kernel), List.mem_of_getElem? (i := 1056) (by decide +kernel), List.mem_of_getElem? (i := 1057) (by decide +kernel)⟩
def lw_privs_3 : List (MethodName × Nat) := [(⟨"RootLoom$Machine", "doGet", "([I)V"⟩, 18), (⟨"RootLoom$Machine", "doSet", "([I)V"⟩, 18), (⟨"RootLoom$Machine", "doCall", "(II)V"⟩, 18), (⟨"RootLoom$Machine", "doReturn", "()V"⟩, 18), (⟨"RootLoom$Machine", "doPrint", "()V"⟩, 18), (⟨"java/lang/Throwable", "fillInStackTrace", "(I)Ljava/lang/Throwable;"⟩, 6), (⟨"RootLoomModel", "mayBe", "(IIII)Z"⟩, 65), (⟨"RootLoomModel", "isExpression", "(I)Z"⟩, 65), (⟨"RootLoomModel", "isArgument", "(I)Z"⟩, 65), (⟨"RootLoomModel", "isTooLarge", "()Z"⟩, 65), (⟨"RootLoomModel", "measure", "(I)V"⟩, 65), (⟨"RootLoomModel", "layFunction", "(I)V"⟩, 65), (⟨"RootLoomModel", "later", "(II)V"⟩, 65), (⟨"RootLoomModel", "visit", "(I)V"⟩, 65), (⟨"RootLoomModel", "say", "(II)V"⟩, 65), (⟨"RootLoomModel", "pushType", "(I)V"⟩, 65)]
theorem lw_r3 : ∀ q ∈ lw_privs_3, lw_okq q := List.forall_mem_cons.mpr ⟨lw_p32, List.forall_mem_cons.mpr ⟨lw_p33, List.forall_mem_cons.mpr ⟨lw_p34, List.forall_mem_cons.mpr ⟨lw_p35, List.forall_mem_cons.mpr ⟨lw_p36, List.forall_mem_cons.mpr ⟨lw_p37, List.forall_mem_cons.mpr ⟨lw_p38, List.forall_mem_cons.mpr ⟨lw_p39, List.forall_mem_cons.mpr ⟨lw_p40, List.forall_mem_cons.mpr ⟨lw_p41, List.forall_mem_cons.mpr ⟨lw_p42, List.forall_mem_cons.mpr ⟨lw_p43, List.forall_mem_cons.mpr ⟨lw_p44, List.forall_mem_cons.mpr ⟨lw_p45, List.forall_mem_cons.mpr ⟨lw_p46, List.forall_mem_cons.mpr ⟨lw_p47, fun _ h => absurd h List.not_mem_nil⟩⟩⟩⟩⟩⟩⟩⟩⟩⟩⟩⟩⟩⟩⟩⟩
theorem lw_p48 : lw_okq (⟨"RootLoomModel", "need", "(Z)V"⟩, 65) := ⟨⟨by decide +kernel, by decide +kernel⟩, List.mem_of_getElem? (i := 784) (by decide +kernel), List.mem_of_getElem? (i := 1060) (by decide +kernel), List.mem_of_getElem? (i := 1061) (by decide +kernel)⟩
theorem lw_p49 : lw_okq (⟨"RootLoomModel", "behind", "(I)V"⟩, 65) := ⟨⟨by decide +kernel, by decide +kernel⟩, List.mem_of_getElem? (i := 784) (by decide +kernel), List.mem_of_getElem? (i := 1064) (by decide +kernel), List.mem_of_getElem? (i := 1065) (by decide +kernel)⟩
theorem lw_p50 : lw_okq (⟨"RootLoomModel", "callBehind", "(I)V"⟩, 65) := ⟨⟨by decide +kernel, by decide +kernel⟩, List.mem_of_getElem? (i := 784) (by decide +kernel), List.mem_of_getElem? (i := 1068) (by decide +kernel), List.mem_of_getElem? (i := 1069) (by decide +kernel)⟩
theorem lw_p51 : lw_okq (⟨"RootLoomModel", "sayMapped", "(III)V"⟩, 65) := ⟨⟨by decide +kernel, by decide +kernel⟩, List.mem_of_getElem? (i := 784) (by decide +kernel), List.mem_of_getElem? (i := 1072) (by decide +kernel), List.mem_of_getElem? (i := 1073) (by decide +kernel)⟩
theorem lw_p52 : lw_okq (⟨"RootLoomModel", "popType", "()I"⟩, 65) := ⟨⟨by decide +kernel, by decide +kernel⟩, List.mem_of_getElem? (i := 784) (by decide +kernel), List.mem_of_getElem? (i := 1076) (by decide +kernel), List.mem_of_getElem? (i := 1077) (by decide +kernel)⟩
theorem lw_p53 : lw_okq (⟨"RootLoomModel", "twoBehind", "(I)V"⟩, 65) := ⟨⟨by decide +kernel, by decide +kernel⟩, List.mem_of_getElem? (i := 784) (by decide +kernel), List.mem_of_getElem? (i := 1080) (by decide +kernel), List.mem_of_getElem? (i := 1081) (by decide +kernel)⟩
theorem lw_p54 : lw_okq (⟨"RootLoomModel", "oneBehind", "(I)V"⟩, 65) := ⟨⟨by decide +kernel, by decide +kernel⟩, List.mem_of_getElem? (i := 784) (by decide +kernel), List.mem_of_getElem? (i := 1084) (by decide +kernel), List.mem_of_getElem? (i := 1085) (by decide +kernel)⟩
theorem lw_p55 : lw_okq (⟨"RootLoomModel", "second", "(I)V"⟩, 65) := ⟨⟨by decide +kernel, by decide +kernel⟩, List.mem_of_getElem? (i := 784) (by decide +kernel), List.mem_of_getElem? (i := 1088) (by decide +kernel), List.mem_of_getElem? (i := 1089) (by decide +kernel)⟩
theorem lw_p56 : lw_okq (⟨"RootLoomModel", "last", "(I)V"⟩, 65) := ⟨⟨by decide +kernel, by decide +kernel⟩, List.mem_of_getElem? (i := 784) (by decide +kernel), List.mem_of_getElem? (i := 1092) (by decide +kernel), List.mem_of_getElem? (i := 1093) (by decide +kernel)⟩
theorem lw_p57 : lw_okq (⟨"RootLoomModel", "seeWhatMatters", "()V"⟩, 65) := ⟨⟨by decide +kernel, by decide +kernel⟩, List.mem_of_getElem? (i := 784) (by decide +kernel), List.mem_of_getElem? (i := 1096) (by decide +kernel), List.mem_of_getElem? (i := 1097) (by decide +kernel)⟩
theorem lw_p58 : lw_okq (⟨"RootLoomModel", "isMapped", "(I)Z"⟩, 65) := ⟨⟨by decide +kernel, by decide +kernel⟩, List.mem_of_getElem? (i := 784) (by decide +kernel), List.mem_of_getElem? (i := 1104) (by decide +kernel), List.mem_of_getElem? (i := 1105) (by decide +kernel)⟩
theorem lw_p59 : lw_okq (⟨"RootLoomModel", "isThere", "(I)Z"⟩, 65) := ⟨⟨by decide +kernel, by decide +kernel⟩, List.mem_of_getElem? (i := 784) (by decide +kernel), List.mem_of_getElem? (i := 1112) (by decide +kernel), List.mem_of_getElem? (i := 1113) (by decide +kernel)⟩
theorem lw_p60 : lw_okq (⟨"RootLoomModel", "go", "()V"⟩, 65) := ⟨⟨by decide +kernel, by decide +kernel⟩, List.mem_of_getElem? (i := 784) (by decide +kernel), List.mem_of_getElem? (i := 1136) (by decide +kernel), List.mem_of_getElem? (i := 1137) (by decide +kernel)⟩
theorem lw_p61 : lw_okq (⟨"RootLoomModel", "call", "(II)V"⟩, 65) := ⟨⟨by decide +kernel, by decide +kernel⟩, List.mem_of_getElem? (i := 784) (by decide +kernel), List.mem_of_getElem? (i := 1140) (by decide +kernel), List.mem_of_getElem? (i := 1141) (by decide +kernel)⟩
theorem lw_p62 : lw_okq (⟨"RootLoomModel", "isDue", "(Z)Z"⟩, 65) := ⟨⟨by decide +kernel, by decide +kernel⟩, List.mem_of_getElem? (i := 784) (by decide +kernel), List.mem_of_getElem? (i := 1144) (by decide +kernel), List.mem_of_getElem? (i := 1145) (by decide +kernel)⟩
theorem lw_p63 : lw_okq (⟨"RootLoomModel", "collect", "()V"⟩, 65) := ⟨⟨by decide +kernel, by decide +kernel⟩, List.mem_of_getElem? (i := 784) (by decide +kernel), List.mem_of_getElem? (i := 1148) (by decide +kernel), List.mem_of_getElem? (i := 1149) (by decide +kernel)⟩
def lw_privs_4 : List (MethodName × Nat) := [(⟨"RootLoomModel", "need", "(Z)V"⟩, 65), (⟨"RootLoomModel", "behind", "(I)V"⟩, 65), (⟨"RootLoomModel", "callBehind", "(I)V"⟩, 65), (⟨"RootLoomModel", "sayMapped", "(III)V"⟩, 65), (⟨"RootLoomModel", "popType", "()I"⟩, 65), (⟨"RootLoomModel", "twoBehind", "(I)V"⟩, 65), (⟨"RootLoomModel", "oneBehind", "(I)V"⟩, 65), (⟨"RootLoomModel", "second", "(I)V"⟩, 65), (⟨"RootLoomModel", "last", "(I)V"⟩, 65), (⟨"RootLoomModel", "seeWhatMatters", "()V"⟩, 65), (⟨"RootLoomModel", "isMapped", "(I)Z"⟩, 65), (⟨"RootLoomModel", "isThere", "(I)Z"⟩, 65), (⟨"RootLoomModel", "go", "()V"⟩, 65), (⟨"RootLoomModel", "call", "(II)V"⟩, 65), (⟨"RootLoomModel", "isDue", "(Z)Z"⟩, 65), (⟨"RootLoomModel", "collect", "()V"⟩, 65)]
theorem lw_r4 : ∀ q ∈ lw_privs_4, lw_okq q := List.forall_mem_cons.mpr ⟨lw_p48, List.forall_mem_cons.mpr ⟨lw_p49, List.forall_mem_cons.mpr ⟨lw_p50, List.forall_mem_cons.mpr ⟨lw_p51, List.forall_mem_cons.mpr ⟨lw_p52, List.forall_mem_cons.mpr ⟨lw_p53, List.forall_mem_cons.mpr ⟨lw_p54, List.forall_mem_cons.mpr ⟨lw_p55, List.forall_mem_cons.mpr ⟨lw_p56, List.forall_mem_cons.mpr ⟨lw_p57, List.forall_mem_cons.mpr ⟨lw_p58, List.forall_mem_cons.mpr ⟨lw_p59, List.forall_mem_cons.mpr ⟨lw_p60, List.forall_mem_cons.mpr ⟨lw_p61, List.forall_mem_cons.mpr ⟨lw_p62, List.forall_mem_cons.mpr ⟨lw_p63, fun _ h => absurd h List.not_mem_nil⟩⟩⟩⟩⟩⟩⟩⟩⟩⟩⟩⟩⟩⟩⟩⟩
theorem lw_p64 : lw_okq (⟨"RootLoomModel", "stayOf", "(III)V"⟩, 65) := ⟨⟨by decide +kernel, by decide +kernel⟩, List.mem_of_getElem? (i := 784) (by decide +kernel), List.mem_of_getElem? (i := 1152) (by decide +kernel), List.mem_of_getElem? (i := 1153) (by decide +kernel)⟩
theorem lw_p65 : lw_okq (⟨"RootLoomModel", "stay", "(I)V"⟩, 65) := ⟨⟨by decide +kernel, by decide +kernel⟩, List.mem_of_getElem? (i := 784) (by decide +kernel), List.mem_of_getElem? (i := 1156) (by decide +kernel), List.mem_of_getElem? (i := 1157) (by decide +kernel)⟩
theorem lw_p66 : lw_okq (⟨"RootLoomModel", "giveBack", "()V"⟩, 65) := ⟨⟨by decide +kernel, by decide +kernel⟩, List.mem_of_getElem? (i := 784) (by decide +kernel), List.mem_of_getElem? (i := 1160) (by decide +kernel), List.mem_of_getElem? (i := 1161) (by decide +kernel)⟩
theorem lw_p67 : lw_okq (⟨"RootLoomModel", "pop", "()I"⟩, 65) := ⟨⟨by decide +kernel, by decide +kernel⟩, List.mem_of_getElem? (i := 784) (by decide +kernel), List.mem_of_getElem? (i := 1164) (by decide +kernel), List.mem_of_getElem? (i := 1165) (by decide +kernel)⟩
theorem lw_p68 : lw_okq (⟨"RootLoomModel", "push", "(I)V"⟩, 65) := ⟨⟨by decide +kernel, by decide +kernel⟩, List.mem_of_getElem? (i := 784) (by decide +kernel), List.mem_of_getElem? (i := 1168) (by decide +kernel), List.mem_of_getElem? (i := 1169) (by decide +kernel)⟩
theorem lw_p69 : lw_okq (⟨"RootLoomModel", "perform", "(II)V"⟩, 65) := ⟨⟨by decide +kernel, by decide +kernel⟩, List.mem_of_getElem? (i := 784) (by decide +kernel), List.mem_of_getElem? (i := 1172) (by decide +kernel), List.mem_of_getElem? (i := 1173) (by decide +kernel)⟩
theorem lw_p70 : lw_okq (⟨"RootLoomModel", "count", "(I)V"⟩, 65) := ⟨⟨by decide +kernel, by decide +kernel⟩, List.mem_of_getElem? (i := 784) (by decide +kernel), List.mem_of_getElem? (i := 1176) (by decide +kernel), List.mem_of_getElem? (i := 1177) (by decide +kernel)⟩
theorem lw_p71 : lw_okq (⟨"RootLoomModel", "make", "(I)V"⟩, 65) := ⟨⟨by decide +kernel, by decide +kernel⟩, List.mem_of_getElem? (i := 784) (by decide +kernel), List.mem_of_getElem? (i := 1180) (by decide +kernel), List.mem_of_getElem? (i := 1181) (by decide +kernel)⟩
theorem lw_p72 : lw_okq (⟨"RootLoomModel", "hasRoom", "()Z"⟩, 65) := ⟨⟨by decide +kernel, by decide +kernel⟩, List.mem_of_getElem? (i := 784) (by decide +kernel), List.mem_of_getElem? (i := 1184) (by decide +kernel), List.mem_of_getElem? (i := 1185) (by decide +kernel)⟩
theorem lw_p73 : lw_okq (⟨"RootLoomModel", "putOut", "()V"⟩, 65) := ⟨⟨by decide +kernel, by decide +kernel⟩, List.mem_of_getElem? (i := 784) (by decide +kernel), List.mem_of_getElem? (i := 1188) (by decide +kernel), List.mem_of_getElem? (i := 1189) (by decide +kernel)⟩
theorem lw_p74 : lw_okq (⟨"RootLoomModel", "reach", "(I)V"⟩, 65) := ⟨⟨by decide +kernel, by decide +kernel⟩, List.mem_of_getElem? (i := 784) (by decide +kernel), List.mem_of_getElem? (i := 1192) (by decide +kernel), List.mem_of_getElem? (i := 1193) (by decide +kernel)⟩
theorem lw_p75 : lw_okq (⟨"RootLoomModel", "follow", "(II)I"⟩, 65) := ⟨⟨by decide +kernel, by decide +kernel⟩, List.mem_of_getElem? (i := 784) (by decide +kernel), List.mem_of_getElem? (i := 1208) (by decide +kernel), List.mem_of_getElem? (i := 1209) (by decide +kernel)⟩
def lw_privs_5 : List (MethodName × Nat) := [(⟨"RootLoomModel", "stayOf", "(III)V"⟩, 65), (⟨"RootLoomModel", "stay", "(I)V"⟩, 65), (⟨"RootLoomModel", "giveBack", "()V"⟩, 65), (⟨"RootLoomModel", "pop", "()I"⟩, 65), (⟨"RootLoomModel", "push", "(I)V"⟩, 65), (⟨"RootLoomModel", "perform", "(II)V"⟩, 65), (⟨"RootLoomModel", "count", "(I)V"⟩, 65), (⟨"RootLoomModel", "make", "(I)V"⟩, 65), (⟨"RootLoomModel", "hasRoom", "()Z"⟩, 65), (⟨"RootLoomModel", "putOut", "()V"⟩, 65), (⟨"RootLoomModel", "reach", "(I)V"⟩, 65), (⟨"RootLoomModel", "follow", "(II)I"⟩, 65)]
theorem lw_r5 : ∀ q ∈ lw_privs_5, lw_okq q := List.forall_mem_cons.mpr ⟨lw_p64, List.forall_mem_cons.mpr ⟨lw_p65, List.forall_mem_cons.mpr ⟨lw_p66, List.forall_mem_cons.mpr ⟨lw_p67, List.forall_mem_cons.mpr ⟨lw_p68, List.forall_mem_cons.mpr ⟨lw_p69, List.forall_mem_cons.mpr ⟨lw_p70, List.forall_mem_cons.mpr ⟨lw_p71, List.forall_mem_cons.mpr ⟨lw_p72, List.forall_mem_cons.mpr ⟨lw_p73, List.forall_mem_cons.mpr ⟨lw_p74, List.forall_mem_cons.mpr ⟨lw_p75, fun _ h => absurd h List.not_mem_nil⟩⟩⟩⟩⟩⟩⟩⟩⟩⟩⟩⟩
def lw_privs : List (MethodName × Nat) := lw_privs_1 ++ (lw_privs_2 ++ (lw_privs_3 ++ (lw_privs_4 ++ (lw_privs_5))))
def lw_tbl : List Cond := k2_sels lw_privs ++ tables_1
theorem lw_privs_ok : ∀ q ∈ lw_privs, lw_okq q := by
  show ∀ q ∈ lw_privs_1 ++ (lw_privs_2 ++ (lw_privs_3 ++ (lw_privs_4 ++ (lw_privs_5)))), lw_okq q
  exact List.forall_mem_append.mpr ⟨lw_r1, List.forall_mem_append.mpr ⟨lw_r2, List.forall_mem_append.mpr ⟨lw_r3, List.forall_mem_append.mpr ⟨lw_r4, lw_r5⟩⟩⟩⟩
-- ===== end of PART A; then your names; then what follows =====
end
section
/-! Every word of the list stands in the claim's tables: by their places. -/
theorem xs_mem {ws : List Cond} (ps : List Nat) (h : ws = ps.filterMap (fun i => lw_tbl[i]?)) : ∀ w ∈ ws, w ∈ lw_tbl := by
  intro w hw
  rw [h] at hw
  obtain ⟨i, -, hi⟩ := List.mem_filterMap.mp hw
  exact List.mem_of_getElem? hi
set_option maxRecDepth 100000 in
theorem xs_0 : ∀ w ∈ ([.arrayClass .int, .arrayClass .boolean, .arrayClass .long, .instanceMethod Lib.objectInit, .code Lib.objectInit ⟨#[0xb1]⟩ 1 none] : List Cond), w ∈ lw_tbl := xs_mem [155, 1061, 1291, 97, 98] rfl
set_option maxRecDepth 100000 in
theorem xs_1 : ∀ w ∈ xi_cl.flatMap (fun r => u_ws r.1 r.2.1 r.2.2), w ∈ lw_tbl := xs_mem [396, 398, 400, 402, 130, 132, 134, 136, 138, 140, 142, 144, 146, 148, 150, 152, 196, 198, 200, 202, 204, 206, 208, 210, 212, 214, 216, 238, 240, 242, 244, 246, 248, 250, 252, 254, 256, 258, 260, 262, 355, 357, 359, 361, 363, 365, 367, 369, 371, 373, 375, 377, 379, 381, 383, 385, 387, 389, 288, 290, 292, 294, 296, 298, 300, 302, 304, 323, 325, 327, 329, 331, 930, 932, 934, 936, 938, 940, 942, 944, 946, 948, 950, 952, 954, 956, 958, 960, 962, 964, 966, 968, 970, 972, 974, 976, 978, 980, 982, 984, 986, 988, 990, 992, 994, 996, 998, 1000, 1002, 1004, 1006, 1008, 1010, 1012, 1014, 1016, 1018, 1020, 1022, 1024, 1026, 1028, 1030, 1032, 1034, 1036, 1038, 1040, 1042, 1044, 1046, 1048, 1050, 1052, 1054, 1056, 1058] rfl
set_option maxRecDepth 100000 in
theorem xs_2 : ∀ w ∈ xi_ml.flatMap xi_kw, w ∈ lw_tbl := xs_mem [95, 77, 94, 408, 77, 406, 407, 422, 77, 420, 421, 430, 77, 428, 429, 480, 77, 478, 479, 488, 77, 486, 487, 607, 77, 605, 606, 611, 77, 609, 610, 619, 77, 617, 618, 628, 77, 626, 627, 632, 77, 630, 631, 636, 77, 634, 635, 748, 77, 746, 747, 756, 77, 754, 755, 764, 77, 762, 763, 772, 77, 770, 771, 781, 77, 779, 780, 103, 78, 102, 412, 78, 410, 411, 415, 78, 414, 418, 78, 417, 426, 78, 424, 425, 434, 78, 432, 433, 440, 78, 439, 0, 444, 78, 443, 1, 448, 78, 447, 2, 452, 78, 451, 3, 456, 78, 455, 4, 459, 78, 458, 463, 78, 461, 462, 467, 78, 465, 466, 470, 78, 469, 484, 78, 482, 483, 509, 78, 507, 508, 566, 78, 564, 565, 640, 78, 638, 639, 160, 79, 159, 500, 79, 498, 499, 522, 79, 520, 521, 599, 79, 597, 598, 603, 79, 601, 602, 615, 79, 613, 614, 623, 79, 621, 622, 223, 80, 222, 496, 80, 494, 495, 505, 80, 504, 5, 513, 80, 512, 6, 517, 80, 516, 7, 526, 80, 525, 8, 530, 80, 529, 9, 534, 80, 533, 10, 538, 80, 537, 11, 542, 80, 541, 12, 546, 80, 545, 13, 550, 80, 549, 14, 554, 80, 553, 15, 558, 80, 557, 16, 562, 80, 561, 17, 570, 80, 569, 18, 574, 80, 573, 19, 578, 80, 577, 20, 583, 80, 582, 21, 587, 80, 586, 22, 591, 80, 590, 23, 595, 80, 594, 24, 269, 81, 268, 492, 81, 490, 491, 645, 81, 643, 644, 658, 81, 657, 25, 678, 81, 677, 26, 682, 81, 681, 27, 686, 81, 685, 28, 690, 81, 689, 29, 698, 81, 697, 30, 706, 81, 705, 31, 723, 81, 722, 32, 727, 81, 726, 33, 731, 81, 730, 34, 740, 81, 739, 35, 744, 81, 743, 36, 752, 81, 750, 751, 760, 81, 758, 759, 768, 81, 766, 767, 275, 82, 274, 649, 82, 647, 648, 694, 82, 692, 693, 702, 82, 700, 701, 710, 82, 708, 709, 714, 82, 712, 713, 719, 82, 717, 718, 311, 83, 310, 653, 83, 651, 652, 662, 83, 660, 661, 666, 83, 664, 665, 670, 83, 668, 669, 674, 83, 672, 673, 735, 83, 733, 734, 863, 84, 862, 1065, 84, 1063, 1064, 1069, 84, 1067, 1068, 1072, 84, 1071, 1076, 84, 1074, 1075, 1080, 84, 1078, 1079, 1084, 84, 1083, 38, 1088, 84, 1087, 39, 1092, 84, 1091, 40, 1096, 84, 1094, 1095, 1100, 84, 1098, 1099, 1104, 84, 1103, 41, 1108, 84, 1107, 42, 1111, 84, 1110, 1114, 84, 1113, 1118, 84, 1117, 43, 1122, 84, 1121, 44, 1126, 84, 1125, 45, 1130, 84, 1129, 46, 1134, 84, 1133, 47, 1138, 84, 1137, 48, 1142, 84, 1141, 49, 1146, 84, 1145, 50, 1150, 84, 1149, 51, 1154, 84, 1153, 52, 1158, 84, 1157, 53, 1162, 84, 1161, 54, 1166, 84, 1165, 55, 1170, 84, 1169, 56, 1174, 84, 1173, 57, 1178, 84, 1176, 1177, 1182, 84, 1181, 58, 1186, 84, 1184, 1185, 1190, 84, 1189, 59, 1194, 84, 1192, 1193, 1198, 84, 1196, 1197, 1202, 84, 1200, 1201, 1206, 84, 1204, 1205, 1210, 84, 1208, 1209, 1214, 84, 1213, 60, 1218, 84, 1217, 61, 1222, 84, 1221, 62, 1226, 84, 1225, 63, 1230, 84, 1229, 64, 1234, 84, 1233, 65, 1238, 84, 1237, 66, 1242, 84, 1241, 67, 1246, 84, 1245, 68, 1250, 84, 1249, 69, 1254, 84, 1253, 70, 1258, 84, 1257, 71, 1262, 84, 1261, 72, 1266, 84, 1265, 73, 1270, 84, 1269, 74, 1274, 84, 1272, 1273, 1278, 84, 1276, 1277, 1282, 84, 1280, 1281, 1286, 84, 1285, 75, 1290, 84, 1288, 1289, 473, 85, 472, 476, 85, 475] rfl
set_option maxRecDepth 100000 in
theorem xs_3 : ∀ w ∈ xi_ll.flatMap (fun r => r.2.flatMap (xi_lw r.1)), w ∈ lw_tbl := xs_mem [778, 91, 92, 77, 93, 859, 860, 84, 861, 405, 1066, 419, 1073, 427, 1077, 477, 1093, 485, 1097, 604, 1175, 1183, 1062, 608, 1191, 616, 1195, 625, 1199, 629, 1203, 633, 1207, 745, 1271, 753, 1275, 761, 1279, 769, 1287, 96, 99, 100, 78, 392, 156, 157, 79, 393, 219, 220, 80, 221, 394, 265, 266, 81, 267, 395, 409, 423, 431, 481, 489, 493, 164, 167, 169, 173, 620, 176, 181, 612, 624, 183, 187, 339, 341, 637, 642, 749, 757, 765, 354, 104, 105, 108, 111, 114, 117, 118, 120, 122, 124, 125, 127, 129, 413, 416, 437, 453, 441, 445, 641, 464, 449, 457, 460, 468, 471, 474, 161, 162, 165, 168, 171, 174, 178, 182, 186, 190, 192, 194, 106, 109, 224, 227, 228, 229, 230, 231, 232, 233, 234, 235, 236, 237, 225, 226, 497, 121, 119, 126, 128, 501, 502, 588, 600, 172, 163, 166, 191, 115, 506, 510, 514, 575, 543, 113, 519, 579, 580, 123, 539, 179, 518, 584, 523, 527, 535, 547, 107, 555, 110, 559, 563, 567, 571, 531, 551, 188, 170, 592, 596, 185, 177, 270, 271, 272, 82, 273, 336, 307, 308, 83, 337, 338, 340, 342, 343, 344, 345, 346, 347, 348, 349, 350, 351, 352, 353, 334, 335, 646, 650, 654, 112, 655, 691, 280, 278, 195, 193, 180, 175, 659, 663, 667, 671, 675, 679, 720, 724, 728, 737, 741, 683, 687, 695, 716, 322, 116, 732, 736, 320, 699, 703, 711, 184, 314, 707, 318, 189, 316, 276, 277, 279, 281, 282, 283, 284, 285, 286, 287, 715, 312, 313, 315, 317, 319, 321, 864, 866, 867, 869, 870, 871, 872, 874, 875, 876, 877, 878, 879, 882, 883, 884, 885, 886, 887, 888, 889, 890, 893, 894, 896, 897, 899, 900, 902, 910, 914, 915, 916, 917, 918, 920, 924, 925, 926, 927, 865, 1070, 868, 873, 1085, 1089, 1081, 1109, 1112, 1105, 891, 892, 881, 901, 895, 1127, 1131, 1135, 1119, 1147, 1151, 1143, 898, 1155, 1159, 1123, 1139, 1163, 1167, 904, 880, 1101, 1115, 1171, 1179, 1187, 903, 919, 1231, 906, 921, 922, 1227, 913, 907, 923, 1259, 1219, 1223, 1239, 1243, 908, 911, 909, 1251, 1255, 1263, 1267, 905, 1215, 1235, 1247, 912, 1211, 928, 929, 1283] rfl
set_option maxRecDepth 100000 in
theorem xs_4 : ∀ w ∈ xi_wy, w ∈ lw_tbl := xs_mem [86, 804, 813, 816, 819, 821, 805, 806, 97, 98, 807, 812, 817, 833, 794, 834, 796, 835, 798, 808, 810, 800, 823, 824, 825, 826, 826, 827, 828, 829, 829, 830, 831, 805, 822, 783, 791, 792, 793, 795, 797, 799, 803, 802, 801, 86, 804, 813, 816, 819, 821, 805, 806, 97, 98, 807, 812, 817, 833, 794, 834, 796, 835, 798, 808, 810, 800, 854, 855, 856, 826, 826, 827, 828, 829, 829, 830, 831, 805, 853, 845, 847, 815, 848, 849, 850, 851, 803, 802, 852, 782, 89, 844, 90, 776, 777, 775, 774, 773, 76] rfl
theorem xs_W0 : ∀ w ∈ xi_W0, w ∈ lw_tbl := by
  intro w hw
  rcases List.mem_append.mp hw with h | h
  · exact xs_0 w h
  · rcases List.mem_append.mp h with h | h
    · exact xs_1 w h
    · rcases List.mem_append.mp h with h | h
      · exact xs_2 w h
      · rcases List.mem_append.mp h with h | h
        · exact xs_3 w h
        · exact xs_4 w h
set_option maxRecDepth 100000 in
theorem xs_ins : ∀ (ci : Nat) (r : vw_C), xi_cl[ci]? = some r → ∃ n, Cond.instantiable r.1 n ∈ lw_tbl
  | 0, _, rfl => ⟨4, List.mem_of_getElem? (i := 92) rfl⟩
  | 1, _, rfl => ⟨12, List.mem_of_getElem? (i := 100) rfl⟩
  | 2, _, rfl => ⟨11, List.mem_of_getElem? (i := 157) rfl⟩
  | 3, _, rfl => ⟨13, List.mem_of_getElem? (i := 220) rfl⟩
  | 4, _, rfl => ⟨18, List.mem_of_getElem? (i := 266) rfl⟩
  | 5, _, rfl => ⟨9, List.mem_of_getElem? (i := 272) rfl⟩
  | 6, _, rfl => ⟨5, List.mem_of_getElem? (i := 308) rfl⟩
  | 7, _, rfl => ⟨65, List.mem_of_getElem? (i := 860) rfl⟩
  | 8, _, rfl => ⟨6, List.mem_of_getElem? (i := 783) rfl⟩
  | 9, _, rfl => ⟨6, List.mem_of_getElem? (i := 845) rfl⟩
  | _ + 10, _, h => nomatch h
theorem xs_nm : ∀ w ∈ xi_nm.map (fun q => Cond.methodLinkNest q.1 q.2.1 q.2.2.1 q.2.2.2), w ∈ lw_tbl := xs_mem [101, 158, 309] rfl
theorem xs_nf : ∀ w ∈ xi_nf.map (fun q => Cond.fieldLinkNest q.1 q.2.1 q.2.2.1 q.2.2.2.1 q.2.2.2.2.1 q.2.2.2.2.2), w ∈ lw_tbl := xs_mem [435] rfl
theorem xs_Zl : Cond.laysStatic xi_ZC xi_Zn "[I" ∈ lw_tbl := List.mem_of_getElem? (i := 436) rfl
theorem xs_Zi : Cond.initialized xi_ZC ∈ lw_tbl := List.mem_of_getElem? (i := 77) rfl
set_option maxRecDepth 100000 in
theorem xs_dl : ∀ w ∈ xe_dl.map (fun x => Cond.declares x), w ∈ lw_tbl := xs_mem [785, 787, 789] rfl
set_option maxRecDepth 100000 in
theorem xs_cs : ∀ w ∈ xe_cs.map (fun q => Cond.castable q.1 q.2), w ∈ lw_tbl := xs_mem [784, 846] rfl
set_option maxRecDepth 100000 in
theorem xs_l1 : Cond.laysStatic "java/lang/Throwable" "UNASSIGNED_STACK" "[Ljava/lang/StackTraceElement;" ∈ lw_tbl := List.mem_of_getElem? (i := 809) rfl
set_option maxRecDepth 100000 in
theorem xs_l2 : Cond.laysStatic "java/lang/Throwable" "SUPPRESSED_SENTINEL" "Ljava/util/List;" ∈ lw_tbl := List.mem_of_getElem? (i := 811) rfl
theorem xs_r1 : Cond.isRef (.static "java/lang/Throwable" "UNASSIGNED_STACK" "[Ljava/lang/StackTraceElement;") ∈ flatC (Jvm.Cond.and given_1 narrow_1) := by decide +kernel
theorem xs_no : Cond.not (.castable xe_A xe_I) ∈ flatC (Jvm.Cond.and given_1 narrow_1) := by decide +kernel
theorem xs_r2 : Cond.isRef (.static "java/lang/Throwable" "SUPPRESSED_SENTINEL" "Ljava/util/List;") ∈ flatC (Jvm.Cond.and given_1 narrow_1) := by decide +kernel
def xs_Z : List Int32 := [0, 0, 0, 1, 0, 0, 2, 0, 0, 4, 4, 0, 4, 4, 0, 4, 4, 0, 1, 4, 4, 4, 0, 0, 4, 0, 0, 4, 0, 0, 4, 4, 4, 2, 4, 4, 3, 5, 0, 4, 5, 0, 4, 4, 0, 4, 4, 0, 4, 0, 0, 4, 4, 0]
theorem xs_el : ∀ j, j < 54 → Cond.eq (.elem (.static xi_ZC xi_Zn "[I") (.int (Int32.ofNat j))) (.int (xs_Z.getD j 0)) ∈ flatC (Jvm.Cond.and given_1 narrow_1) := by decide +kernel
theorem xs_len : Cond.eq (.length (.static xi_ZC xi_Zn "[I")) (.int 54) ∈ flatC (Jvm.Cond.and given_1 narrow_1) := by decide +kernel
theorem xs_arr : Cond.arrayOf (.static xi_ZC xi_Zn "[I") .int ∈ flatC (Jvm.Cond.and given_1 narrow_1) := by decide +kernel
/-- what the claim's start gives -/
theorem xs_know {s : State} {args : Array Value} (hts : ∀ w ∈ lw_tbl, w.before args s = true) : ∃ (D : va_G) (ct : Nat → ClassId), va_K D xi_cl [(ct 0, .int), (ct 1, .boolean), (ct 2, .long)] s := by
  have h1 : ∀ ci : Nat, ∃ q : ClassId × (Nat → Nat), ∀ r : vw_C, xi_cl[ci]? = some r → u_Kn s r.1 r.2.1 r.2.2 q.1 q.2 := by
    intro ci
    cases hr : xi_cl[ci]? with
    | none => exact ⟨(0, fun _ => 0), fun r h => by cases h⟩
    | some r =>
      obtain ⟨n, hn⟩ := xs_ins ci r hr
      obtain ⟨cC, iS, hk⟩ := u_known hts (fun w hw => xs_W0 w (xi_W0_cl hr w hw)) (hts _ hn)
      exact ⟨(cC, iS), fun r' h => by cases h; exact hk⟩
  have h2 : ∀ ty : FieldType, (Cond.arrayClass ty).before args s = true → ∃ cA : ClassId, ArrOfT s cA ty ∧ s.vm.findClass ("[" ++ ty.toString) = some cA := by
    intro ty h
    obtain ⟨cA, kA, comp, hf, hk, hkind⟩ := Cond.arrayClass_spec h
    exact ⟨cA, fun n z => ⟨fun k h => (by cases h), kA, hk, comp, hkind⟩, hf⟩
  obtain ⟨c0, a0, b0⟩ := h2 .int (hts _ (xs_W0 _ xi_W0_i))
  obtain ⟨c1, a1, b1⟩ := h2 .boolean (hts _ (xs_W0 _ xi_W0_z))
  obtain ⟨c2, a2, b2⟩ := h2 .long (hts _ (xs_W0 _ xi_W0_l))
  refine ⟨(fun ci => (Classical.choose (h1 ci)).1, fun ci => (Classical.choose (h1 ci)).2), fun k => match k with
    | 0 => c0
    | 1 => c1
    | _ => c2, fun c q hq => Classical.choose_spec (h1 c) q hq, fun k q hk => ?_⟩
  match k, hk with
  | 0, rfl => exact ⟨a0, b0⟩
  | 1, rfl => exact ⟨a1, b1⟩
  | 2, rfl => exact ⟨a2, b2⟩
  | _ + 3, h => exact nomatch h
theorem xs_start {s : State} {b L : Nat} {xs : Nat → Int32} (l : Launch) (hts : ∀ w ∈ lw_tbl, w.before #[Value.ref b] s = true) (hX : va_X b L xs s s.heap) (hb : b < s.heap.size) (hg : (Jvm.Cond.and given_1 narrow_1).before #[Value.ref b] s = true) :
    ∃ Y : xi_Y, xi_G Y s ∧ Y.2.2.1 = s.heap.size ∧ Y.2.2.2.2.1 = b ∧ Y.2.2.2.2.2.1 = xs_Z ∧ Y.2.2.2.2.2.2.1 = (List.range L).map xs ∧ Y.2.2.2.2.2.2.2 = l := by
  obtain ⟨D, ct, hK⟩ := xs_know hts
  have hf := flat_of_before _ hg
  have hA : ∀ a : Nat, a < s.heap.size → ¬ s.heap.size ≤ a := fun a h => Nat.not_le.mpr h
  obtain ⟨t, ht, hT⟩ := va_Tof (A := fun q => s.heap.size ≤ q) (N := 54) (f := fun j => .int (xs_Z.getD j 0)) (by decide) (hf _ xs_arr) (va_eqt (hf _ xs_len)) (fun j hj => va_eqt (hf _ (xs_el j hj))) hA
  have hN : xe_N s := by
    have hA1 := (hK.1 9 (xe_A, xc_TE, 0) rfl).2.1
    have hI1 := (hK.1 8 (xe_I, xc_TE, 0) rfl).2.1
    have hv := Cond.holds_not_iff.mp (hf _ xs_no)
    simp only [Cond.value, hA1, hI1] at hv
    exact ⟨_, _, hA1, hI1, Option.some.inj hv⟩
  have hZ := va_Zref (A := fun q => s.heap.size ≤ q) (hts _ xs_Zl) (hts _ xs_Zi) ht hA
  refine ⟨(D, ct, s.heap.size, t, b, xs_Z, (List.range L).map xs, l), ⟨hK, fun q hq => va_Nw.of rfl (hts _ (xs_nm _ (List.mem_map.mpr ⟨q, hq, rfl⟩))), fun q hq => va_Nw.of rfl (hts _ (xs_nf _ (List.mem_map.mpr ⟨q, hq, rfl⟩))), hZ, hT, ?_, hb, Nat.le_refl _, ⟨fun x hx => va_Nw.of rfl (hts _ (xs_dl _ (List.mem_map.mpr ⟨x, hx, rfl⟩))), fun q hq => va_Nw.of rfl (hts _ (xs_cs _ (List.mem_map.mpr ⟨q, hq, rfl⟩))), xe_Z.of (hts _ xs_l1) (hf _ xs_r1), xe_Z.of (hts _ xs_l2) (hf _ xs_r2), hN⟩⟩, rfl, rfl, rfl, rfl, rfl⟩
  obtain ⟨scr, h1, h2, h3, h4, h5⟩ := hX
  refine ⟨scr, h1, h2, h3, ?_, fun j hj => ?_⟩
  · show scr.slots.size = ((List.range L).map xs).length
    rw [h4, List.length_map, List.length_range]
  · have hj' : j < L := by
      have h9 : ((List.range L).map xs).length = L := by rw [List.length_map, List.length_range]
      have h8 : j < ((List.range L).map xs).length := hj
      omega
    rw [h5 j hj']
    show some (Value.int (xs j)) = some (Value.int (((List.range L).map xs).getD j 0))
    rw [List.getD_eq_getElem?_getD, List.getElem?_map, List.getElem?_range hj']
    rfl
end
section
/-! The law's helper: it calls RootLoom.instruction, catches what it throws, and answers 1. -/
-- a throw is caught by the first entry of the method's own table, whose class may not have been resolved yet
theorem xe_find {Q : Handler → Pre} {E : CtlPost} {e : Env} {d : Bool} {acts : List Action} {s : State} {f : JFrame} {a : Addr} {x : ExceptionTableEntry} {t : List ExceptionTableEntry} {c : ClassId} {cell : Cell} (hx : covers x f.pc = true) (h0 : x.catchType ≠ 0)
    (hl : s.vm.ClassLinks e.platform f.method.cls x.catchType c) (hcell : s.heap[a]? = some cell) (hobj : ∀ k, cell.vm ≠ .statics k) (hk : ∃ k, s.vm.classes[cell.cls]? = some k) (hc : ∃ k, s.vm.classes[c]? = some k) (hfit : s.vm.assignable cell.cls c = true) :
    wp (findHandler.go f a (x :: t)) Q E e d acts s ↔ Q (.found x.handlerPc) d acts (s.setVm (s.vm.noted f.method.cls x.catchType (.cls c))) := by
  simp only [covers] at hx
  obtain ⟨ha, ht⟩ := (resolveClass_links e.toSetting hl).op (op := VmOp.resolveClass f.method.cls x.catchType) rfl
  have hal : s.vm.Alike (s.vm.noted f.method.cls x.catchType (.cls c)) := (Vm.Alike.refl s.vm).noted _ _ _
  obtain ⟨k1, hk1⟩ := hk
  obtain ⟨k2, hk2⟩ := hc
  obtain ⟨k1', hk1', -⟩ := hal.2.2 _ _ hk1
  obtain ⟨k2', hk2', -⟩ := hal.2.2 _ _ hk2
  have hfit' : (s.vm.noted f.method.cls x.catchType (.cls c)).assignable cell.cls c = true := by rw [hal.assignable]; exact hfit
  simp [findHandler.go, hx, h0, ha, ht, hcell, hobj, hk1', hk2', hfit', VmOp.dirties, VmOp.acts]
theorem xe_caught {tb : Tables} {e : Env} {T target : State} {g : JFrame} {c : Code} {below : List Frame} {a : Addr} (h : At T g.method c below) {meth : Method} (hm : T.vm.method? g.method = some meth) (hc : meth.code = some c) {x : ExceptionTableEntry} {rest : List ExceptionTableEntry} (hsplit : c.exceptionTable.toList = x :: rest)
    (hx : covers x g.pc = true) (h0 : x.catchType ≠ 0) {cT : ClassId} {cell : Cell} (hl : T.vm.ClassLinks e.platform g.method.cls x.catchType cT) (hcell : T.heap[a]? = some cell) (hobj : ∀ k, cell.vm ≠ .statics k) (hk : ∃ k, T.vm.classes[cell.cls]? = some k) (hcl : ∃ k, T.vm.classes[cT]? = some k) (hfit : T.vm.assignable cell.cls cT = true)
    (hrest : Steps tb e below ((T.setVm (T.vm.noted g.method.cls x.catchType (.cls cT))).setTop { g with pc := x.handlerPc, stack := [.ref a] }) target) : Steps tb e below ((T.setTop g).pushFrame (.throwing a)) target := by
  obtain ⟨g₀, hg⟩ := Option.isSome_iff_exists.mp h.top
  obtain ⟨r, hr⟩ := State.topJava?_eq_some.mp hg
  obtain ⟨hgo, hw⟩ := h.throwing a
  have hf : ∀ (Q : Handler → Pre) (E : CtlPost) (d : Bool) (acts : List Action), wp (findHandler g a) Q E e d acts ((T.setTop g).pushFrame (.throwing a)) ↔ Q (.found x.handlerPc) d acts (((T.setTop g).pushFrame (.throwing a)).setVm (T.vm.noted g.method.cls x.catchType (.cls cT))) := by
    intro Q E d acts
    rw [W.findHandler_eq (s := (T.setTop g).pushFrame (.throwing a)) (meth := meth) (code := c) hm hc, hsplit]
    exact xe_find (s := (T.setTop g).pushFrame (.throwing a)) hx h0 hl hcell hobj hk hcl hfit
  have hstep : (stepThrowing e ((T.setTop g).pushFrame (.throwing a)) a (.java g :: T.frames.tail)).1 = (((T.setTop g).pushFrame (.throwing a)).setVm (T.vm.noted g.method.cls x.catchType (.cls cT))).setFrames (.java { g with pc := x.handlerPc, stack := [.ref a] } :: T.frames.tail) := by
    simp only [stepThrowing, searchFrame, vmDo]
    generalize hres : Sem.go _ e false [] ((T.setTop g).pushFrame (.throwing a)) = res
    obtain ⟨as, rfl, ha⟩ := Sem.eq_ok_of hres (a := Handler.found x.handlerPc) (s' := ((T.setTop g).pushFrame (.throwing a)).setVm (T.vm.noted g.method.cls x.catchType (.cls cT))) (acts' := []) (by simp [hf _ _ _ _])
    rfl
  refine Steps.head hgo hw ?_
  rw [stepThread_throwing (frames_entered h.top _), hstep]
  have hr' : (T.setVm (T.vm.noted g.method.cls x.catchType (.cls cT))).frames = .java g₀ :: r := hr
  rw [State.setTop_of_frames _ hr'] at hrest
  have e1 : ∀ (F G : List Frame) (vm' : Vm) (u : State), ((u.setFrames F).setVm vm').setFrames G = (u.setVm vm').setFrames G := by
    intro F G vm' u
    have h1 : (u.setFrames F).setVm vm' = (u.setVm vm').setFrames F := rfl
    rw [h1, State.setFrames_setFrames]
  rw [hr, List.tail_cons, State.pushFrame, e1, State.setTop_of_frames _ hr, e1]
  exact hrest
def xh_rm : Room := { frames := 7, cells := 1, slots := 6, locals := 103 }
theorem xh_d0 : decode method_3_code 0 = .ok (.aload_n 3, 1) := by decide +kernel
theorem xh_d1 : decode method_3_code 1 = .ok (.iconst 0, 1) := by decide +kernel
theorem xh_d2 : decode method_3_code 2 = .ok (.aload_n 0, 1) := by decide +kernel
theorem xh_d3 : decode method_3_code 3 = .ok (.iload_n 1, 1) := by decide +kernel
theorem xh_d4 : decode method_3_code 4 = .ok (.iload_n 2, 1) := by decide +kernel
theorem xh_d5 : decode method_3_code 5 = .ok (.invokevirtual 7, 3) := by decide +kernel
theorem xh_d13 : decode method_3_code 13 = .ok (.astore 4, 2) := by decide +kernel
theorem xh_d15 : decode method_3_code 15 = .ok (.iconst 1, 1) := by decide +kernel
theorem xh_d16 : decode method_3_code 16 = .ok (.ireturn, 1) := by decide +kernel
theorem xh_met {Y : xi_Y} {w : xi_W} {x cd o : Nat} {fa fs : List Value} {st cnt i wh : Int32} (hwa : w[x]? = some (.inr (0, fa))) (ha1 : fa[1]? = some (.ref (cd + 2))) (hw : w[cd]? = some (.inr (2, fs))) (h0 : fs[0]? = some (.int st)) (h1 : fs[1]? = some (.int cnt)) (hno : st = 0 ∨ i < 0 ∨ cnt ≤ i) (hfl : Y.2.2.2.2.2.2.2.flags = pinnedFlags ++ [noTraceFlag]) :
    Met Y.2.2.2.2.2.2.2 xh_y (xh_c :: xi_W0) xh_rm (xi_Pc Y [.ref (x + 2), .int i, .int wh, .ref o] w) (xi_Qc Y (some (.int 1)) (w ++ [xe_exc 8])) 1 6 (xi_A Y) := by
  refine va_MetW (cc := method_3_code) (maxL := 5) (ret := some .int) (hh := [(0, 10, 13, 13), (0, 10, 17, 15)]) (by decide +kernel) rfl ?_
  intro p e s m args below meth c s₁ B hml hv
  obtain ⟨rfl, hH, hG⟩ := hv
  have hx := B.exec
  have hb := B.bytes
  have hr := B.returns
  have hlocks := B.notSynchronized
  have hts0 := atoms_spec (ws := xh_c :: xi_W0) B.pre
  generalize har : (([.ref (x + 2), .int i, .int wh, .ref o] : List Value).map (xi_v Y)).toArray = args at hts0 ⊢
  have hts : ∀ w ∈ xi_W0, w.before args s = true := fun w hw => hts0 w (List.mem_cons_of_mem _ hw)
  have hown : s.vm.findClass "RootLoomLaw" = some m.cls := findClass_of_methodNamed B.named
  have hM2 : xi_ml[17]? = some xm_17 := rfl
  have hkw : ∀ w ∈ xi_kw xm_17, w.before args s = true := fun w hw => hts _ (xi_W0_m hM2 _ hw)
  rw [← har, lg_entry_eq, har]
  have hlv : xi_lv Y (xi_ent (xh_y, method_3_code, 5, some .int, 1, 4, 99, 0) [.ref (x + 2), .int i, .int wh, .ref o]) (lg_sl (([.ref (x + 2), .int i, .int wh, .ref o] : List Value).map (xi_v Y)) ++ List.replicate (5 - (lg_sl (([.ref (x + 2), .int i, .int wh, .ref o] : List Value).map (xi_v Y))).length) Slot.unset).toArray := xi_lv_ent (Y := Y) (M := (xh_y, method_3_code, 5, some .int, 1, 4, 99, 0)) (as := [.ref (x + 2), .int i, .int wh, .ref o]) (by simp [Value.category]) (by show 4 ≤ 5; decide)
  generalize (lg_sl (([.ref (x + 2), .int i, .int wh, .ref o] : List Value).map (xi_v Y)) ++ List.replicate (5 - (lg_sl (([.ref (x + 2), .int i, .int wh, .ref o] : List Value).map (xi_v Y))).length) Slot.unset).toArray = ls at hlv ⊢
  have l0 : ls[0]? = some (.val (.ref (Y.2.2.1 + x))) := (hlv.2.2 0 _ rfl).1
  have l1 : ls[1]? = some (.val (.int i)) := (hlv.2.2 1 _ rfl).1
  have l2 : ls[2]? = some (.val (.int wh)) := (hlv.2.2 2 _ rfl).1
  have l3 : ls[3]? = some (.val (.ref (xi_ad Y o))) := (hlv.2.2 3 _ rfl).1
  have hls : ls.size = 5 := hlv.1
  refine lv_aload_n hx hb xh_d0 rfl l3 ?_
  refine lv_iconst hx hb xh_d1 rfl ?_
  refine lv_aload_n hx hb xh_d2 rfl l0 ?_
  refine lv_iload_n hx hb xh_d3 rfl l1 ?_
  refine lv_iload_n hx hb xh_d4 rfl l2 ?_
  intro T hT X
  -- the call
  have hlink := hts _ (xi_W0_lk (n := 0) (M := xm_0) (x := 7) (q := (3, 17, 0)) rfl rfl (.methodLink "RootLoomLaw" 7 xm_17.1) (List.mem_singleton.mpr rfl))
  obtain ⟨mk, methM, hnamed, hmethM, hstM, habM⟩ := Cond.instanceMethod_spec (hkw _ (List.mem_of_getElem? (i := 2) rfl))
  have hcodeW := hkw (.code xm_17.1 xm_17.2.1 3 (some .int)) (List.mem_of_getElem? (i := 0) rfl)
  obtain ⟨methM', cM, hmethM', hcM, -, hlM, -, -, -, hsigM⟩ := Cond.code_spec hnamed hcodeW
  cases hmethM.symm.trans hmethM'
  obtain ⟨cellB, hcB, hoB, hclB⟩ := va_recv (a := Y.2.2.1 + x) hG.1 (hH.one hwa) (ci := 0) (q0 := 0) (fs := fa.map (xi_v Y)) (q := ("RootLoom", xc_TA, 4)) rfl rfl
  obtain ⟨c2, r2, m2, q1, q2, q3, q4, kP, hkP, hkPi⟩ := Cond.selects_spec (hkw (.selects "RootLoom" xm_17.1 xm_17.1) (List.mem_of_getElem? (i := 3) rfl))
  cases hclB.symm.trans q1
  have hnM : xm_17.1.cls ≠ "java/lang/invoke/MethodHandle" ∧ xm_17.1.cls ≠ "java/lang/invoke/VarHandle" := by decide +kernel
  cases (State.methodFound?_of_named hnamed hnM).symm.trans q2
  cases hnamed.symm.trans q3
  have hselP : selectMethod e.platform s.vm cellB.cls mk = .method mk := by rw [Launch.admits_selectMethod X.admits]; exact q4
  have hlen : ∀ sig, parseMethodDescriptor xm_17.1.desc = some sig → ([.int i, .int wh] : List Value).length = sig.parameters.length := by
    intro sig h
    have h9 : (parseMethodDescriptor xm_17.1.desc).map (fun d => d.parameters.length) = some 2 := by decide +kernel
    rw [h] at h9
    exact (Option.some.inj h9).symm
  obtain ⟨vm₁, X₁, hstep₁⟩ := X.invokevirtual hx hown hlink hnamed hmethM hstM hkP hkPi hnM (a := Y.2.2.1 + x) (cell := cellB) (by rw [hT]; exact hcB)
    (fun z h => by rw [h] at hoB; cases hoB) hselP hmethM habM hkP hkPi (g := F0 m 5 ls [.int wh, .int i, .ref (Y.2.2.1 + x), .int (Int32.ofInt 0), .ref (xi_ad Y o)]) rfl (argsL := [.int i, .int wh]) (rest := [.int (Int32.ofInt 0), .ref (xi_ad Y o)]) (hlen _ hsigM) rfl (by rw [hb]; exact xh_d5)
  -- the callee throws
  have hn₁ := X₁.named hnamed
  have hW₁ := X₁.warmed
  have hmM₁ : (T.setVm vm₁).vm.method? mk = some methM := by
    have h9 : vm₁.method? mk = s.vm.method? mk := hW₁.alike.method? mk
    show vm₁.method? mk = _
    rw [h9]; exact hmethM
  obtain ⟨kY, hkY, -⟩ := className_of_methodNamed hn₁
  have hini : (Cond.initialized "RootLoom").before #[] (T.setVm vm₁) = true := word_at (U := T.setVm vm₁) hW₁ (Or.inl rfl) (hkw (.initialized "RootLoom") (List.mem_of_getElem? (i := 1) rfl))
  have hinitY : kY.init = .initialized := Cond.initialized_spec (findClass_of_methodNamed hn₁) hkY hini
  have hat : At (T.setVm vm₁) m c below := X₁.here
  have hpre : (headSpec (xi_cw xm_17) xe_rm).pre.before ([.ref (Y.2.2.1 + x), .int i, .int wh] : List Value).toArray (T.setVm vm₁) = true := by
    refine atoms_intro (ws := xi_cw xm_17) fun w' hw' => ?_
    have hg := xi_good (Mj := xm_17) (xi_W0_m hM2 _ List.mem_cons_self) w' hw'
    exact word_at (U := T.setVm vm₁) hW₁ hg.2 (hts _ hg.1)
  have happ := Spec.appliesLoose_calling (S := headSpec (xi_cw xm_17) xe_rm) (e := e) (g := F0 m 5 ls [.int (Int32.ofInt 0), .ref (xi_ad Y o)]) hat (by rw [hb]; exact xh_d5) hn₁ hkY hinitY
    (X₁.room_calling (g := F0 m 5 ls [.int (Int32.ofInt 0), .ref (xi_ad Y o)]) (R' := xe_rm) (by rw [hml]; exact hls) hmM₁ hcM (by decide) (by rw [hlM]; simp [F0, JFrame.monitorRoom, Value.category]; decide) (by decide) (by decide)) hpre
  have hP : xi_Pc Y [.ref (x + 2), .int i, .int wh] w ([.ref (Y.2.2.1 + x), .int i, .int wh] : List Value).toArray ((T.setVm vm₁).calling (F0 m 5 ls [.int (Int32.ofInt 0), .ref (xi_ad Y o)]) mk ([.ref (Y.2.2.1 + x), .int i, .int wh] : List Value).toArray) := by
    refine xi_blind Y _ w _ _ _ _ ⟨rfl, ?_, ?_⟩
    · show xi_Hs Y w T.heap
      rw [hT]; exact hH
    · exact hG.moved (U := T.setVm vm₁) (locs := []) (by show va_S (xi_A Y) s.heap T.heap []; rw [hT]; exact va_S.rf) hW₁
  obtain ⟨mid, hmid⟩ := hat.above
  have hfr : ((T.setVm vm₁).setTop (F0 m 5 ls [.int (Int32.ofInt 0), .ref (xi_ad Y o)])).frames = (.java (F0 m 5 ls [.int (Int32.ofInt 0), .ref (xi_ad Y o)]) :: mid) ++ below := by
    rw [State.frames_setTop' _ hat.top, hmid]; rfl
  obtain ⟨oc, s₂, hsteps, -, hend, hq⟩ := Steps.callFree (xe_ins (Y := Y) (wh := wh) hwa ha1 hw h0 h1 hno hfl) p X₁.admits X₁.cas X₁.clock (acts := []) hfr happ hP trivial
  obtain ⟨hoc, hHs, hold, hWs, hsame⟩ := hq
  subst hoc
  rw [State.frames_setTop' _ hat.top, X₁.tail] at hend
  obtain ⟨T', X', hWT, hsT, hs₂⟩ := X₁.outOfThrown (g := F0 m 5 ls [.int (Int32.ofInt 0), .ref (xi_ad Y o)]) rfl (mk := mk) (a := ([.ref (Y.2.2.1 + x), .int i, .int wh] : List Value).toArray) hend hWs hsame
  have hheap : T'.heap = s₂.heap := by rw [hs₂]; exact (Stand.throwing_heap T' _ _).symm
  -- caught
  obtain ⟨m9, meth9, c9, hn9, hm9, hc9, -, -, htab, -⟩ := Cond.codeWith_spec (hts0 xh_c List.mem_cons_self)
  cases B.named.symm.trans hn9
  cases B.method.symm.trans hm9
  cases X.code.symm.trans hc9
  obtain ⟨x1, x2, hx12, hx1, hx2⟩ : ∃ x1 x2, c.exceptionTable.toList = [x1, x2] ∧ (x1.startPc, x1.endPc, x1.handlerPc, x1.catchType) = (0, 10, 13, 13) ∧ (x2.startPc, x2.endPc, x2.handlerPc, x2.catchType) = (0, 10, 17, 15) := by
    revert htab
    generalize c.exceptionTable.toList = tl
    intro htab
    match tl, htab with
    | [a, b], h =>
      simp only [List.map_cons, List.map_nil, List.cons.injEq, and_true] at h
      exact ⟨a, b, rfl, h.1, h.2⟩
    | [], h => simp at h
    | [_], h => simp at h
    | _ :: _ :: _ :: _, h => simp at h
  simp only [Prod.mk.injEq] at hx1
  obtain ⟨y1, y2, y3, y4⟩ := hx1
  have hpl : e.platform.magicAccessors = ({} : Platform).magicAccessors := by rw [X.admits.platform]
  obtain ⟨cT, hcT, hcl⟩ := Cond.classLink_spec hown (hts (.classLink "RootLoomLaw" 13 xe_I) (xe_wx 4 rfl)) e.platform hpl
  obtain ⟨dk, _, _, kt, hdk, _, _, _, _, hkt, _, hopen⟩ := hcl.here
  have hWf : s.WarmedH (T'.vm.noted m.cls 13 (.cls cT)) := X'.warmed.noted hdk hopen (State.rightAt_cls hcl)
  obtain ⟨kt', hkt', -⟩ := X'.warmed.alike.2.2 _ _ hkt
  obtain ⟨rE, hrE, ce, hce1, hce2, hce3, -⟩ := hHs.2 w.length (xe_exc 8) (by rw [List.getElem?_append_right (Nat.le_refl _), Nat.sub_self]; rfl)
  have hKe := (hG.1.1 8 (xe_I, xc_TE, 0) rfl).2.1
  have hceT : ce.cls = cT := by rw [hce2]; exact Option.some.inj (hKe.symm.trans hcT)
  obtain ⟨c3, c4, hc3, hc4, hasg⟩ := Cond.castable_spec (va_Nw.use (A := args) rfl (hG.2.2.2.2.2.2.2.2.2.1 (xe_I, xe_I) (List.mem_of_getElem? (i := 0) rfl)))
  cases hc3.symm.trans hcT
  cases hc4.symm.trans hcT
  have hfit : T'.vm.assignable ce.cls cT = true := by rw [hceT, X'.warmed.alike.assignable]; exact hasg
  have X9 := X'.noted hWf
  -- what follows
  have hgo : W p Y.2.2.2.2.2.2.2 e (headSpec (xh_c :: xi_W0) xh_rm).room s m args below meth c s₂.heap [] 1 6 (MQ below (xi_Qc Y (some (.int 1)) (w ++ [xe_exc 8])) args s 1 6 (xi_A Y)) (F0 m 13 ls [.ref (Y.2.2.1 + w.length)]) := by
    refine lv_astore hx hb xh_d13 (lv := []) ⟨hls, hlv.2.1, fun _ h => absurd h List.not_mem_nil⟩ (by decide) rfl fun ls' hl' => ?_
    refine lv_iconst hx hb xh_d15 rfl ?_
    refine W.iret hx hb hr (fun t ht hW => ⟨rfl, by rw [ht]; exact hHs, ?_, fun q h8 h9 => ?_⟩) (fun _ h => absurd h List.not_mem_nil) xh_d16
    · rw [ht, hHs.1, hH.1, List.length_append]; omega
    · rw [ht]
      have h7 := hold q (by show q < T.heap.size; rw [hT]; exact h8)
      rw [h7]
      show T.heap[q]? = s.heap[q]?
      rw [hT]
  obtain ⟨t9, a9, b9⟩ := hgo (T'.setVm (T'.vm.noted m.cls 13 (.cls cT))) hheap X9
  refine ⟨t9, ?_, b9⟩
  refine hstep₁ _ fun acts => ?_
  rw [doInvoke_state]
  refine hsteps.trans ?_
  rw [hs₂]
  refine xe_caught (x := x1) (rest := [x2]) X'.here X'.method' X'.code hx12 (by simp [covers, y1, y2]) (by rw [y4]; decide) (cT := cT) (cell := ce) (by rw [y4]; exact X'.warmed.classLinks hcl) (by rw [hheap]; exact hce1) (fun k h => by rw [hce3] at h; cases h) (Vm.classAt_of_assignable hfit ⟨kt', hkt'⟩) ⟨kt', hkt'⟩ hfit ?_
  rw [y3, y4]
  exact a9
end
section
/-! The law calls its helper. -/
theorem xh_To {Y : xi_Y} {d : Nat} (hd7 : 7 ≤ d) {w : xi_W} {L : xi_L} (hL7 : L.length = 7) {x cd o : Nat} {fa fs : List Value} {st cnt i wh : Int32} (hwa : w[x]? = some (.inr (0, fa))) (ha1 : fa[1]? = some (.ref (cd + 2))) (hw : w[cd]? = some (.inr (2, fs))) (h0 : fs[0]? = some (.int st)) (h1 : fs[1]? = some (.int cnt)) (hno : st = 0 ∨ i < 0 ∨ cnt ≤ i) (hfl : Y.2.2.2.2.2.2.2.flags = pinnedFlags ++ [noTraceFlag])
    {r : List Value} (hr : (r.map fun v => v.category).sum ≤ 8) : xi_To Y d 0 (392, L, .ref o :: .int wh :: .int i :: .ref (x + 2) :: r, w) (395, L, .int 1 :: r, w ++ [xe_exc 8]) := by
  refine ⟨by show w.length ≤ (w ++ [xe_exc 8]).length; rw [List.length_append]; exact Nat.le_add_right _ _, by show xi_sl w ≤ xi_sl (w ++ [xe_exc 8]); rw [xi_sl_app]; exact Nat.le_add_right _ _, fun p l e R s m args below meth c Q hF H locs cells slots cells' slots' ls hH hS hlv hc hs r1 r2 kk => ?_⟩
  dsimp only at hc hs hH hlv kk ⊢
  obtain ⟨M', hM', hx, hb, hml, hown, hname, hts, hG, hf, hlo, hle⟩ := hF
  cases (show xi_ml[0]? = some xm_0 from rfl).symm.trans hM'
  subst hle
  rw [List.length_append, List.length_singleton] at hc
  rw [xi_sl_app, show xi_sc (xe_exc 8) = 6 from rfl] at hs
  have e1 : cells' = cells + 1 := by omega
  have e2 : slots' = slots + 6 := by omega
  subst e1; subst e2
  have hwc : xh_c ∈ xi_W0 := xe_wx 6 rfl
  have hws : ∀ w ∈ xh_c :: xi_W0, ∀ (a' : Array Value) (U : State), s.WarmedH U.vm → w.before a' U = true := by
    intro w' hw' a' U hW
    have hm : w' ∈ xi_W0 := by
      rcases List.mem_cons.mp hw' with rfl | h
      · exact hwc
      · exact h
    exact word_at hW (xi_okW w' hm) (hts w' hm)
  have hini : Cond.initialized "RootLoomLaw" ∈ xi_W0 := xe_wx 9 rfl
  have hMet := xh_met (Y := Y) (o := o) (wh := wh) hwa ha1 hw h0 h1 hno hfl
  have hK27 : (d + 1) * xi_K = (d + 1) * 27 := rfl
  have hK : Back Y.2.2.2.2.2.2.2 R p e below s args xh_y 3 8 (PreOf R 1 6 (xi_Pc Y [.ref (x + 2), .int i, .int wh, .ref o] w)) (PostOf (xi_Qc Y (some (.int 1)) (w ++ [xe_exc 8])) 1 6 (xi_A Y)) :=
    va_backW (hh := [(0, 10, 13, 13), (0, 10, 17, 15)]) (bytes := method_3_code) (maxL := 5) (ret := some .int) hMet (xi_blind Y _ w) rfl rfl (by show 7 + 1 ≤ R.frames; omega) (by show 8 + (5 + 11) + 103 ≤ R.locals; omega) hws List.mem_cons_self (fun a' U hW => hws _ (List.mem_cons_of_mem _ hini) a' U hW)
  have hdec : decode c.code 392 = .ok (.invokestatic 51, 3) := by rw [hb]; exact xi_hit 0 xm_0 392 _ _ rfl rfl
  have hsize : ls.size = c.maxLocals := by rw [hml]; exact hlv.1.trans hL7
  have hroom : 2 * (F0 m 392 ls (r.map (xi_v Y))).monitorRoom + ((r.map (xi_v Y)).map fun v => v.category).sum ≤ 8 := lv_room (by rw [xi_cats]; exact hr)
  refine xi_back (Y := Y) (o := some (.int 1)) (w' := w ++ [xe_exc 8]) (rest := r.map (xi_v Y)) (mc := 1) (ms := 6) (a := ([.ref (Y.2.2.1 + x), .int i, .int wh, .ref (xi_ad Y o)] : List Value).toArray) ?_ hS (fun H' locs' a b => kk H' locs' ls a b hlv)
  intro T hT X
  obtain ⟨mk, methM, cM, hnamed, hmethM, hcM, -, -, -, -, -, hsigM⟩ := Cond.codeWith_spec (hts xh_c hwc)
  have hstatic : methM.isStatic = true := Cond.static_spec hnamed hmethM (hts (.static xh_y) (xe_wx 7 rfl))
  obtain ⟨kP, hkP, -⟩ := className_of_methodNamed hnamed
  have hinitP : kP.init = .initialized := Cond.initialized_spec (findClass_of_methodNamed hnamed) hkP (hts _ hini)
  have hlen : ∀ sig, parseMethodDescriptor xh_y.desc = some sig → ([.ref (Y.2.2.1 + x), .int i, .int wh, .ref (xi_ad Y o)] : List Value).length = sig.parameters.length := by
    intro sig h
    have h9 : (parseMethodDescriptor xh_y.desc).map (fun d => d.parameters.length) = some 4 := by decide +kernel
    rw [h] at h9
    exact (Option.some.inj h9).symm
  obtain ⟨vm₁, X₁, hstep₁⟩ := X.invokestatic hx hown (hts (.methodLink "RootLoomLaw" 51 xh_y) (xe_wx 8 rfl)) hnamed hmethM hstatic hkP hinitP (by decide +kernel) (g := F0 m 392 ls ((Value.ref o :: .int wh :: .int i :: .ref (x + 2) :: r).map (xi_v Y))) rfl (argsL := [.ref (Y.2.2.1 + x), .int i, .int wh, .ref (xi_ad Y o)]) (rest := r.map (xi_v Y)) (hlen _ hsigM) rfl hdec
  obtain ⟨v, ⟨U', l2, c2, s2⟩, X', ⟨g', mk', t, Lc, e1, e2, hq, q1, hLc, q2, q3⟩, hsteps⟩ := hK m meth c ⟨T.setVm vm₁, locs, cells, slots⟩ (F0 m 392 ls (r.map (xi_v Y))) (.invokestatic 51) mk ([.ref (Y.2.2.1 + x), .int i, .int wh, .ref (xi_ad Y o)] : List Value).toArray X₁ rfl hsize hdec hroom (X₁.named hnamed)
    ⟨r1, r2, rfl, by show xi_Hs Y w T.heap; rw [hT]; exact hH, hG.moved (U := T.setVm vm₁) (locs := locs) (by show va_S (xi_A Y) s.heap T.heap locs; rw [hT]; exact hS) X₁.warmed⟩
  dsimp only [Pt.U, Pt.locs, Pt.cells, Pt.slots] at X' e1 e2 q1 q2 q3 hsteps
  subst q1; subst q2; subst q3
  exact ⟨v, _, t, U', Lc, hT, X', hLc, e1, e2, hq, fun target h => hstep₁ _ fun acts => by rw [doInvoke_state]; exact hsteps.trans h⟩
end
section
/-! RootLoom.instruction with a wrong 'what': it throws an IllegalArgumentException. -/
theorem xe_has1 {Y : xi_Y} {w : xi_W} {cd : Nat} {fs : List Value} {st cnt i : Int32} (hw : w[cd]? = some (.inr (2, fs))) (h0 : fs[0]? = some (.int st)) (h1 : fs[1]? = some (.int cnt)) (hs0 : ¬ st = 0) (hi0 : ¬ i < 0) (hic : ¬ cnt ≤ i) (l : Launch) :
    Met l xm_43.1 (xi_cw xm_43) rm0 (xi_Pc Y [.ref (cd + 2), .int i] w) (QcRead 1) 0 0 (fun _ => False) := by
  refine va_MetF (cc := xm_43.2.1) (maxL := 2) (ret := some .boolean) (by decide +kernel) rfl ?_
  intro p e s m args below meth c s₁ B hml hv
  obtain ⟨rfl, hH, hG⟩ := hv
  have hx := B.exec
  have hb := B.bytes
  have hr := B.returns
  have hlocks := B.notSynchronized
  have hts0 := atoms_spec (ws := xi_cw xm_43) B.pre
  have hts : ∀ w ∈ xi_W0, w.before (([.ref (cd + 2), .int i] : List Value).map (xi_v Y)).toArray s = true := fun w hw => hts0 w (List.mem_cons_of_mem _ hw)
  have hown : s.vm.findClass "RootLoom$Code" = some m.cls := findClass_of_methodNamed B.named
  have hM : xi_ml[43]? = some xm_43 := rfl
  have dc : ∀ {pc : Nat} {j : Instr} {len : Nat}, xi_it 43 pc = some (j, len) → decode xm_43.2.1 pc = .ok (j, len) := fun h => xi_hit 43 xm_43 _ _ _ hM h
  rw [lg_entry_eq]
  have hlv : xi_lv Y (xi_ent xm_43 [.ref (cd + 2), .int i]) (lg_sl (([.ref (cd + 2), .int i] : List Value).map (xi_v Y)) ++ List.replicate (2 - (lg_sl (([.ref (cd + 2), .int i] : List Value).map (xi_v Y))).length) Slot.unset).toArray := xi_lv_ent (Y := Y) (M := xm_43) (as := [.ref (cd + 2), .int i]) (by simp [Value.category]) (Nat.le_refl 2)
  generalize (lg_sl (([.ref (cd + 2), .int i] : List Value).map (xi_v Y)) ++ List.replicate (2 - (lg_sl (([.ref (cd + 2), .int i] : List Value).map (xi_v Y))).length) Slot.unset).toArray = ls at hlv ⊢
  have l0 : ls[0]? = some (.val (.ref (Y.2.2.1 + cd))) := (hlv.2.2 0 _ rfl).1
  have l1 : ls[1]? = some (.val (.int i)) := (hlv.2.2 1 _ rfl).1
  obtain ⟨⟨C, T, N⟩, hr0, hk0, hlk0⟩ := xi_fd_spec (x := 9) (ci := 2) (k := 0) hM rfl
  obtain ⟨⟨C', T', N'⟩, hr1, hk1, hlk1⟩ := xi_fd_spec (x := 15) (ci := 2) (k := 1) hM rfl
  refine lv_aload_n hx hb (dc (pc := 0) rfl) rfl l0 ?_
  refine va_get (a := Y.2.2.1 + cd) hx hb hts (xi_W0_cl hr0) hown hG.1 (hH.one hw) 0 rfl hr0 0 hk0 (hts _ hlk0) (fun _ h => h) (v := .int st) (by rw [List.getElem?_map, h0]; rfl) (dc (pc := 1) rfl) ?_
  refine lv_if_eq hx hb (dc (pc := 4) rfl) (tgt := 23) (by decide) (fun h => absurd h hs0) (fun hs => ?_)
  refine lv_iload_n hx hb (dc (pc := 7) rfl) rfl l1 ?_
  refine lv_if_lt hx hb (dc (pc := 8) rfl) (tgt := 23) (by decide) (fun h => absurd h hi0) (fun hi => ?_)
  refine lv_iload_n hx hb (dc (pc := 11) rfl) rfl l1 ?_
  refine lv_aload_n hx hb (dc (pc := 12) rfl) rfl l0 ?_
  refine va_get (a := Y.2.2.1 + cd) hx hb hts (xi_W0_cl hr1) hown hG.1 (hH.one hw) 0 rfl hr1 1 hk1 (hts _ hlk1) (fun _ h => h) (v := .int cnt) (by rw [List.getElem?_map, h1]; rfl) (dc (pc := 13) rfl) ?_
  refine lv_icmp_ge hx hb (dc (pc := 16) rfl) (tgt := 23) (by decide) (fun h => absurd h hic) (fun hge => ?_)
  refine lv_iconst hx hb (dc (pc := 19) rfl) rfl ?_
  refine lv_goto hx hb (dc (pc := 20) rfl) (tgt := 24) (by decide) ?_
  exact W.zret hx hb hr (by decide) (fun t ht hW => ⟨rfl, ht⟩) (fun _ h => absurd h List.not_mem_nil) (dc (pc := 24) rfl)
theorem xe_split_A : ∀ a ∈ xe_at 85 xe_A, goodWord a = true ∨ a ∈ xe_bad xe_A := by decide +kernel
theorem xe_wordsA {b : Nat} {s : State} {args : Array Value} (hts : ∀ w ∈ xi_W0, w.before args s = true) (hG : xe_G b s) : ∀ a ∈ xe_at 85 xe_A, a.before args s = true := by
  intro a ha
  rcases xe_split_A a ha with h | h
  · exact hts a (List.mem_append_right _ (List.mem_append_right _ (List.mem_append_right _ (List.mem_append_right _ (List.mem_append_left _ (List.mem_filter.mpr ⟨List.mem_append_right _ ha, h⟩))))))
  · simp only [xe_bad, List.mem_cons, List.not_mem_nil, or_false] at h
    rcases h with rfl | rfl | rfl | rfl | rfl | rfl | rfl | rfl
    · exact va_Nw.use rfl (hG.1 _ (List.mem_of_getElem? (i := 0) rfl))
    · exact va_Nw.use rfl (hG.1 _ (List.mem_of_getElem? (i := 1) rfl))
    · exact va_Nw.use rfl (hG.1 _ (List.mem_of_getElem? (i := 2) rfl))
    · exact va_Nw.use rfl (hG.2.1 (xe_A, xe_A) (List.mem_of_getElem? (i := 1) rfl))
    · exact hG.2.2.1.lays
    · exact hG.2.2.2.1.lays
    · exact hG.2.2.1.ref
    · exact hG.2.2.2.1.ref
theorem xe_insA {Y : xi_Y} {w : xi_W} {x cd : Nat} {fa fs : List Value} {st cnt i wh : Int32} (hwa : w[x]? = some (.inr (0, fa))) (ha1 : fa[1]? = some (.ref (cd + 2))) (hw : w[cd]? = some (.inr (2, fs))) (h0 : fs[0]? = some (.int st)) (h1 : fs[1]? = some (.int cnt)) (hs : ¬ st = 0) (hi0 : ¬ i < 0) (hic : ¬ cnt ≤ i) (hw0 : ¬ wh = 0) (hw1 : ¬ wh = 1) (hfl : Y.2.2.2.2.2.2.2.flags = pinnedFlags ++ [noTraceFlag]) :
    MetFree Y.2.2.2.2.2.2.2 xm_17.1 (headSpec (xi_cw xm_17) xe_rm) (xi_Pc Y [.ref (x + 2), .int i, .int wh] w) (fun _ _ _ _ _ => True) (xe_QT Y w 9) := by
  refine MetFree.of_bodySF (code := xm_17.2.1) (maxLocals := 3) (ret := some .int) (by decide +kernel) ?_ ?_
  · intro args s m h hn
    obtain ⟨meth, c, g1, g2, g3, g4, g5, g6, -, -⟩ := Cond.code_spec hn (atoms_spec (ws := xi_cw xm_17) h _ List.mem_cons_self)
    exact ⟨meth, c, g1, g2, g3, g4, g5, g6⟩
  · intro p e s m args below meth c s₁ B hml hv _
    have hh0 : s₁.heap = s.heap := by rw [B.state]; rfl
    obtain ⟨rfl, hH, hG⟩ := hv
    have hx := B.exec
    have hb := B.bytes
    have hlocks := B.notSynchronized
    have hts0 := atoms_spec (ws := xi_cw xm_17) B.pre
    have hts : ∀ w ∈ xi_W0, w.before (([.ref (x + 2), .int i, .int wh] : List Value).map (xi_v Y)).toArray s = true := fun w hw => hts0 w (List.mem_cons_of_mem _ hw)
    have hown : s.vm.findClass "RootLoom" = some m.cls := findClass_of_methodNamed B.named
    have hM : xi_ml[17]? = some xm_17 := rfl
    have hM2 : xi_ml[43]? = some xm_43 := rfl
    have dc : ∀ {pc : Nat} {j : Instr} {len : Nat}, xi_it 17 pc = some (j, len) → decode xm_17.2.1 pc = .ok (j, len) := fun h => xi_hit 17 xm_17 _ _ _ hM h
    have hno2 : c.exceptionTable.isEmpty = true := B.noHandlers (hts0 _ List.mem_cons_self)
    have hout : ∀ (pc : Nat), ∀ y ∈ c.exceptionTable.toList, covers y pc = false := by
      intro pc y hy
      have h9 : c.exceptionTable = #[] := by simpa using hno2
      rw [h9] at hy
      exact absurd hy List.not_mem_nil
    have key : W p Y.2.2.2.2.2.2.2 e (headSpec (xi_cw xm_17) xe_rm).room s m (([.ref (x + 2), .int i, .int wh] : List Value).map (xi_v Y)).toArray below meth c s.heap [] 0 0 (fun t => ∃ o, t.status = .running ∧ Ended t below o ∧ xe_QT Y w 9 (([.ref (x + 2), .int i, .int wh] : List Value).map (xi_v Y)).toArray s o t) (entryFrame m (([.ref (x + 2), .int i, .int wh] : List Value).map (xi_v Y)).toArray 3) := by
      rw [lg_entry_eq]
      have hlv : xi_lv Y (xi_ent xm_17 [.ref (x + 2), .int i, .int wh]) (lg_sl (([.ref (x + 2), .int i, .int wh] : List Value).map (xi_v Y)) ++ List.replicate (3 - (lg_sl (([.ref (x + 2), .int i, .int wh] : List Value).map (xi_v Y))).length) Slot.unset).toArray := xi_lv_ent (Y := Y) (M := xm_17) (as := [.ref (x + 2), .int i, .int wh]) (by simp [Value.category]) (Nat.le_refl 3)
      generalize (lg_sl (([.ref (x + 2), .int i, .int wh] : List Value).map (xi_v Y)) ++ List.replicate (3 - (lg_sl (([.ref (x + 2), .int i, .int wh] : List Value).map (xi_v Y))).length) Slot.unset).toArray = ls at hlv ⊢
      have l0 : ls[0]? = some (.val (.ref (Y.2.2.1 + x))) := (hlv.2.2 0 _ rfl).1
      have l1 : ls[1]? = some (.val (.int i)) := (hlv.2.2 1 _ rfl).1
      have l2 : ls[2]? = some (.val (.int wh)) := (hlv.2.2 2 _ rfl).1
      have hls : ls.size = 3 := hlv.1
      obtain ⟨⟨C, T, N⟩, hr0, hk0, hlk0⟩ := xi_fd_spec (x := 19) (ci := 0) (k := 1) hM rfl
      refine lv_aload_n hx hb (dc (pc := 0) rfl) rfl l0 ?_
      refine va_get (a := Y.2.2.1 + x) hx hb hts (xi_W0_cl hr0) hown hG.1 (hH.one hwa) 0 rfl hr0 1 hk0 (hts _ hlk0) (fun _ h => h) (v := .ref (Y.2.2.1 + cd)) (by rw [List.getElem?_map, ha1]; rfl) (dc (pc := 1) rfl) ?_
      refine lv_iload_n hx hb (dc (pc := 4) rfl) rfl l1 ?_
      have hkw : ∀ w ∈ xi_kw xm_43, w.before (([.ref (x + 2), .int i, .int wh] : List Value).map (xi_v Y)).toArray s = true := fun w hw => hts _ (xi_W0_m hM2 _ hw)
      have hlink := hts _ (xi_W0_lk (x := 76) (q := (3, 43, 0)) hM rfl (.methodLink "RootLoom" 76 xm_43.1) (List.mem_singleton.mpr rfl))
      have hrec := va_recv (a := Y.2.2.1 + cd) hG.1 (hH.one hw) (ci := 2) (q0 := 0) (fs := fs.map (xi_v Y)) (q := ("RootLoom$Code", xc_TC, 11)) rfl rfl
      refine W.callR (r := 1) (W.runV (C := "RootLoom$Code") (index := 76) (b := Y.2.2.1 + cd) (As := [.int i]) (rest := []) (nL := 3) ⟨hx, hb, hml, hown, hts⟩ (xe_has1 (Y := Y) hw h0 h1 hs hi0 hic _) ⟨callB_of 1 hts (xi_good (xi_W0_m hM2 _ List.mem_cons_self)) rfl rfl rfl (hkw _ (List.mem_of_getElem? (i := 1) rfl)) hlink (by decide +kernel) (by decide), hkw _ (List.mem_of_getElem? (i := 2) rfl), hkw _ (List.mem_of_getElem? (i := 3) rfl)⟩ ⟨xi_blind Y _ w, hrec, fun U hU hW => ⟨rfl, by rw [hU]; exact hH, hG.moved (locs := []) (by rw [hU]; exact va_S.rf) hW⟩⟩ rfl rfl hls rfl (lv_room (Nat.zero_le _)) (dc (pc := 5) rfl) ⟨Nat.zero_le _, Nat.zero_le _⟩) ?_
      refine W.eq (g2 := F0 m 8 ls [.int 1]) rfl ?_
      refine lv_if_ne hx hb (dc (pc := 8) rfl) (tgt := 19) (by decide) (fun _ => ?_) (fun h => absurd h (by decide))
      refine lv_iload_n hx hb (dc (pc := 19) rfl) rfl l2 ?_
      refine lv_if_eq hx hb (dc (pc := 20) rfl) (tgt := 36) (by decide) (fun h => absurd h hw0) (fun _ => ?_)
      refine lv_iload_n hx hb (dc (pc := 23) rfl) rfl l2 ?_
      refine lv_iconst hx hb (dc (pc := 24) rfl) rfl ?_
      refine lv_icmp_eq hx hb (dc (pc := 25) rfl) (tgt := 36) (by decide) (fun h => absurd h hw1) (fun _ => ?_)
      refine W.newc (C := xe_A) (n := 6) hx hb hown (hts _ (xe_wx 2 rfl)) (xe_wordsA hts hG.2.2.2.2.2.2.2.2 _ (by decide +kernel)) (hts _ (xe_wx 3 rfl)) rfl (dc (pc := 28) rfl) (by decide) (by decide) (fun cC kC f1 f2 f3 f4 => ?_)
      refine W.eq (g2 := F0 m 31 ls [.ref s.heap.size]) rfl ?_
      refine lv_dup hx hb (dc (pc := 31) rfl) rfl ?_
      intro T hT X
      obtain ⟨U, hst, hrun, hend, hWU, hsame, ce, hce, hoc⟩ := X.ctorThrow0 hx (Launch.traces_off hfl X.admits) (own := "RootLoom") (cls := xe_A) (names := xe_names) (ic := 85) hown (by decide +kernel) (by decide +kernel) (xe_wordsA hts hG.2.2.2.2.2.2.2.2) (fun _ h => absurd h List.not_mem_nil) f1 f2 (a := s.heap.size) (by rw [hT]; simp) (Nat.le_refl _) (g := F0 m 32 ls [.ref s.heap.size, .ref s.heap.size]) rfl (by rw [hml]; exact hls) rfl rfl (rest := []) rfl (by rw [hb]; exact dc (pc := 32) rfl) (by rw [hb]; exact dc (pc := 35) rfl) (hout _) (by decide) (by simp [F0, JFrame.monitorRoom, Value.category]; decide)
      have hbase : s.heap.size = Y.2.2.1 + w.length := hH.1
      have hold := xe_old hsame
      refine ⟨U, hst, .threw s.heap.size, hrun, hend, by rw [hbase], ⟨?_, fun k y hk => ?_⟩, hold, hWU, hsame⟩
      · have h8 : s.heap.size < U.heap.size := (Array.getElem?_eq_some_iff.mp hce).1
        have h9 : U.heap.size ≤ s.heap.size + 1 := hsame.2.2.1
        rw [List.length_append, List.length_singleton]
        omega
      · by_cases hl : k < w.length
        · rw [List.getElem?_append_left hl] at hk
          exact (hH.2 k y hk).kept (hold _ (by show Y.2.2.1 + k < s.heap.size; omega))
        · rw [List.getElem?_append_right (by omega)] at hk
          have hz : k - w.length < 1 := (List.getElem?_eq_some_iff.mp hk).1
          have hk0 : k = w.length := by omega
          subst hk0
          rw [Nat.sub_self] at hk
          cases hk
          refine ⟨(xe_A, xc_TE, 0), rfl, ce, by rw [← hbase]; exact hce, ?_, hoc.vm, fun j hj => absurd hj (Nat.not_lt_zero j)⟩
          exact Option.some.inj (hoc.cls.symm.trans (hG.1.1 9 (xe_A, xc_TE, 0) rfl).2.1)
    obtain ⟨t, a1, o, b1, b2, b3⟩ := key s₁ hh0 (Stand.of_body B)
    exact ⟨t, o, a1, b1, b2, b3⟩
end
section
/-! The helper, where an IllegalArgumentException comes: the first row of its table is passed, the second catches; it answers 2. -/
theorem xe_pass {Q : Handler → Pre} {E : CtlPost} {e : Env} {d : Bool} {acts : List Action} {s : State} {f : JFrame} {a : Addr} {x : ExceptionTableEntry} {t : List ExceptionTableEntry} {c : ClassId} {cell : Cell} (hx : covers x f.pc = true) (h0 : x.catchType ≠ 0)
    (hl : s.vm.ClassLinks e.platform f.method.cls x.catchType c) (hcell : s.heap[a]? = some cell) (hobj : ∀ k, cell.vm ≠ .statics k) (hk : ∃ k, s.vm.classes[cell.cls]? = some k) (hc : ∃ k, s.vm.classes[c]? = some k) (hno : s.vm.assignable cell.cls c = false) :
    wp (findHandler.go f a (x :: t)) Q E e d acts s ↔ wp (findHandler.go f a t) Q E e d acts (s.setVm (s.vm.noted f.method.cls x.catchType (.cls c))) := by
  simp only [covers] at hx
  obtain ⟨ha, ht⟩ := (resolveClass_links e.toSetting hl).op (op := VmOp.resolveClass f.method.cls x.catchType) rfl
  have hal : s.vm.Alike (s.vm.noted f.method.cls x.catchType (.cls c)) := (Vm.Alike.refl s.vm).noted _ _ _
  obtain ⟨k1, hk1⟩ := hk
  obtain ⟨k2, hk2⟩ := hc
  obtain ⟨k1', hk1', -⟩ := hal.2.2 _ _ hk1
  obtain ⟨k2', hk2', -⟩ := hal.2.2 _ _ hk2
  have hno' : (s.vm.noted f.method.cls x.catchType (.cls c)).assignable cell.cls c = false := by rw [hal.assignable]; exact hno
  simp [findHandler.go, hx, h0, ha, ht, hcell, hobj, hk1', hk2', hno', VmOp.dirties, VmOp.acts]
theorem xe_caught2 {tb : Tables} {e : Env} {T target : State} {g : JFrame} {c : Code} {below : List Frame} {a : Addr} (h : At T g.method c below) {meth : Method} (hm : T.vm.method? g.method = some meth) (hc : meth.code = some c) {x y : ExceptionTableEntry} {rest : List ExceptionTableEntry} (hsplit : c.exceptionTable.toList = x :: y :: rest)
    (hx : covers x g.pc = true) (hx0 : x.catchType ≠ 0) (hy : covers y g.pc = true) (hy0 : y.catchType ≠ 0) {c1 c2 : ClassId} {cell : Cell} (hl : T.vm.ClassLinks e.platform g.method.cls x.catchType c1) (hl2 : (T.vm.noted g.method.cls x.catchType (.cls c1)).ClassLinks e.platform g.method.cls y.catchType c2) (hcell : T.heap[a]? = some cell) (hobj : ∀ k, cell.vm ≠ .statics k) (hk : ∃ k, T.vm.classes[cell.cls]? = some k) (hk1 : ∃ k, T.vm.classes[c1]? = some k) (hno : T.vm.assignable cell.cls c1 = false)
    (hkb : ∃ k, (T.vm.noted g.method.cls x.catchType (.cls c1)).classes[cell.cls]? = some k) (hk2 : ∃ k, (T.vm.noted g.method.cls x.catchType (.cls c1)).classes[c2]? = some k) (hfit : (T.vm.noted g.method.cls x.catchType (.cls c1)).assignable cell.cls c2 = true)
    (hrest : Steps tb e below ((T.setVm ((T.vm.noted g.method.cls x.catchType (.cls c1)).noted g.method.cls y.catchType (.cls c2))).setTop { g with pc := y.handlerPc, stack := [.ref a] }) target) : Steps tb e below ((T.setTop g).pushFrame (.throwing a)) target := by
  obtain ⟨g₀, hg⟩ := Option.isSome_iff_exists.mp h.top
  obtain ⟨r, hr⟩ := State.topJava?_eq_some.mp hg
  obtain ⟨hgo, hw⟩ := h.throwing a
  generalize hv2 : (T.vm.noted g.method.cls x.catchType (.cls c1)).noted g.method.cls y.catchType (.cls c2) = vm2 at hrest
  have hf : ∀ (Q : Handler → Pre) (E : CtlPost) (d : Bool) (acts : List Action), wp (findHandler g a) Q E e d acts ((T.setTop g).pushFrame (.throwing a)) ↔ Q (.found y.handlerPc) d acts (((T.setTop g).pushFrame (.throwing a)).setVm vm2) := by
    intro Q E d acts
    rw [W.findHandler_eq (s := (T.setTop g).pushFrame (.throwing a)) (meth := meth) (code := c) hm hc, hsplit]
    refine (xe_pass (s := (T.setTop g).pushFrame (.throwing a)) hx hx0 hl hcell hobj hk hk1 hno).trans ?_
    rw [← hv2]
    exact xe_find (s := ((T.setTop g).pushFrame (.throwing a)).setVm (T.vm.noted g.method.cls x.catchType (.cls c1))) hy hy0 hl2 hcell hobj hkb hk2 hfit
  have hstep : (stepThrowing e ((T.setTop g).pushFrame (.throwing a)) a (.java g :: T.frames.tail)).1 = (((T.setTop g).pushFrame (.throwing a)).setVm vm2).setFrames (.java { g with pc := y.handlerPc, stack := [.ref a] } :: T.frames.tail) := by
    simp only [stepThrowing, searchFrame, vmDo]
    generalize hres : Sem.go _ e false [] ((T.setTop g).pushFrame (.throwing a)) = res
    obtain ⟨as, rfl, ha⟩ := Sem.eq_ok_of hres (a := Handler.found y.handlerPc) (s' := ((T.setTop g).pushFrame (.throwing a)).setVm vm2) (acts' := []) (by simp [hf _ _ _ _])
    rfl
  refine Steps.head hgo hw ?_
  rw [stepThread_throwing (frames_entered h.top _), hstep]
  have hr' : (T.setVm vm2).frames = .java g₀ :: r := hr
  rw [State.setTop_of_frames _ hr'] at hrest
  have e1 : ∀ (F G : List Frame) (vm' : Vm) (u : State), ((u.setFrames F).setVm vm').setFrames G = (u.setVm vm').setFrames G := by
    intro F G vm' u
    have h1 : (u.setFrames F).setVm vm' = (u.setVm vm').setFrames F := rfl
    rw [h1, State.setFrames_setFrames]
  rw [hr, List.tail_cons, State.pushFrame, e1, State.setTop_of_frames _ hr, e1]
  exact hrest
theorem xh_d17 : decode method_3_code 17 = .ok (.astore 4, 2) := by decide +kernel
theorem xh_d19 : decode method_3_code 19 = .ok (.iconst 2, 1) := by decide +kernel
theorem xh_d20 : decode method_3_code 20 = .ok (.ireturn, 1) := by decide +kernel
theorem xh_metA {Y : xi_Y} {w : xi_W} {x cd o : Nat} {fa fs : List Value} {st cnt i wh : Int32} (hwa : w[x]? = some (.inr (0, fa))) (ha1 : fa[1]? = some (.ref (cd + 2))) (hw : w[cd]? = some (.inr (2, fs))) (h0 : fs[0]? = some (.int st)) (h1 : fs[1]? = some (.int cnt)) (hs0 : ¬ st = 0) (hi0 : ¬ i < 0) (hic : ¬ cnt ≤ i) (hw0 : ¬ wh = 0) (hw1 : ¬ wh = 1) (hfl : Y.2.2.2.2.2.2.2.flags = pinnedFlags ++ [noTraceFlag]) :
    Met Y.2.2.2.2.2.2.2 xh_y (xh_c :: xi_W0) xh_rm (xi_Pc Y [.ref (x + 2), .int i, .int wh, .ref o] w) (xi_Qc Y (some (.int 2)) (w ++ [xe_exc 9])) 1 6 (xi_A Y) := by
  refine va_MetW (cc := method_3_code) (maxL := 5) (ret := some .int) (hh := [(0, 10, 13, 13), (0, 10, 17, 15)]) (by decide +kernel) rfl ?_
  intro p e s m args below meth c s₁ B hml hv
  obtain ⟨rfl, hH, hG⟩ := hv
  have hx := B.exec
  have hb := B.bytes
  have hr := B.returns
  have hlocks := B.notSynchronized
  have hts0 := atoms_spec (ws := xh_c :: xi_W0) B.pre
  generalize har : (([.ref (x + 2), .int i, .int wh, .ref o] : List Value).map (xi_v Y)).toArray = args at hts0 ⊢
  have hts : ∀ w ∈ xi_W0, w.before args s = true := fun w hw => hts0 w (List.mem_cons_of_mem _ hw)
  have hown : s.vm.findClass "RootLoomLaw" = some m.cls := findClass_of_methodNamed B.named
  have hM2 : xi_ml[17]? = some xm_17 := rfl
  have hkw : ∀ w ∈ xi_kw xm_17, w.before args s = true := fun w hw => hts _ (xi_W0_m hM2 _ hw)
  rw [← har, lg_entry_eq, har]
  have hlv : xi_lv Y (xi_ent (xh_y, method_3_code, 5, some .int, 1, 4, 99, 0) [.ref (x + 2), .int i, .int wh, .ref o]) (lg_sl (([.ref (x + 2), .int i, .int wh, .ref o] : List Value).map (xi_v Y)) ++ List.replicate (5 - (lg_sl (([.ref (x + 2), .int i, .int wh, .ref o] : List Value).map (xi_v Y))).length) Slot.unset).toArray := xi_lv_ent (Y := Y) (M := (xh_y, method_3_code, 5, some .int, 1, 4, 99, 0)) (as := [.ref (x + 2), .int i, .int wh, .ref o]) (by simp [Value.category]) (by show 4 ≤ 5; decide)
  generalize (lg_sl (([.ref (x + 2), .int i, .int wh, .ref o] : List Value).map (xi_v Y)) ++ List.replicate (5 - (lg_sl (([.ref (x + 2), .int i, .int wh, .ref o] : List Value).map (xi_v Y))).length) Slot.unset).toArray = ls at hlv ⊢
  have l0 : ls[0]? = some (.val (.ref (Y.2.2.1 + x))) := (hlv.2.2 0 _ rfl).1
  have l1 : ls[1]? = some (.val (.int i)) := (hlv.2.2 1 _ rfl).1
  have l2 : ls[2]? = some (.val (.int wh)) := (hlv.2.2 2 _ rfl).1
  have l3 : ls[3]? = some (.val (.ref (xi_ad Y o))) := (hlv.2.2 3 _ rfl).1
  have hls : ls.size = 5 := hlv.1
  refine lv_aload_n hx hb xh_d0 rfl l3 ?_
  refine lv_iconst hx hb xh_d1 rfl ?_
  refine lv_aload_n hx hb xh_d2 rfl l0 ?_
  refine lv_iload_n hx hb xh_d3 rfl l1 ?_
  refine lv_iload_n hx hb xh_d4 rfl l2 ?_
  intro T hT X
  -- the call
  have hlink := hts _ (xi_W0_lk (n := 0) (M := xm_0) (x := 7) (q := (3, 17, 0)) rfl rfl (.methodLink "RootLoomLaw" 7 xm_17.1) (List.mem_singleton.mpr rfl))
  obtain ⟨mk, methM, hnamed, hmethM, hstM, habM⟩ := Cond.instanceMethod_spec (hkw _ (List.mem_of_getElem? (i := 2) rfl))
  have hcodeW := hkw (.code xm_17.1 xm_17.2.1 3 (some .int)) (List.mem_of_getElem? (i := 0) rfl)
  obtain ⟨methM', cM, hmethM', hcM, -, hlM, -, -, -, hsigM⟩ := Cond.code_spec hnamed hcodeW
  cases hmethM.symm.trans hmethM'
  obtain ⟨cellB, hcB, hoB, hclB⟩ := va_recv (a := Y.2.2.1 + x) hG.1 (hH.one hwa) (ci := 0) (q0 := 0) (fs := fa.map (xi_v Y)) (q := ("RootLoom", xc_TA, 4)) rfl rfl
  obtain ⟨c2, r2, m2, q1, q2, q3, q4, kP, hkP, hkPi⟩ := Cond.selects_spec (hkw (.selects "RootLoom" xm_17.1 xm_17.1) (List.mem_of_getElem? (i := 3) rfl))
  cases hclB.symm.trans q1
  have hnM : xm_17.1.cls ≠ "java/lang/invoke/MethodHandle" ∧ xm_17.1.cls ≠ "java/lang/invoke/VarHandle" := by decide +kernel
  cases (State.methodFound?_of_named hnamed hnM).symm.trans q2
  cases hnamed.symm.trans q3
  have hselP : selectMethod e.platform s.vm cellB.cls mk = .method mk := by rw [Launch.admits_selectMethod X.admits]; exact q4
  have hlen : ∀ sig, parseMethodDescriptor xm_17.1.desc = some sig → ([.int i, .int wh] : List Value).length = sig.parameters.length := by
    intro sig h
    have h9 : (parseMethodDescriptor xm_17.1.desc).map (fun d => d.parameters.length) = some 2 := by decide +kernel
    rw [h] at h9
    exact (Option.some.inj h9).symm
  obtain ⟨vm₁, X₁, hstep₁⟩ := X.invokevirtual hx hown hlink hnamed hmethM hstM hkP hkPi hnM (a := Y.2.2.1 + x) (cell := cellB) (by rw [hT]; exact hcB)
    (fun z h => by rw [h] at hoB; cases hoB) hselP hmethM habM hkP hkPi (g := F0 m 5 ls [.int wh, .int i, .ref (Y.2.2.1 + x), .int (Int32.ofInt 0), .ref (xi_ad Y o)]) rfl (argsL := [.int i, .int wh]) (rest := [.int (Int32.ofInt 0), .ref (xi_ad Y o)]) (hlen _ hsigM) rfl (by rw [hb]; exact xh_d5)
  -- the callee throws
  have hn₁ := X₁.named hnamed
  have hW₁ := X₁.warmed
  have hmM₁ : (T.setVm vm₁).vm.method? mk = some methM := by
    have h9 : vm₁.method? mk = s.vm.method? mk := hW₁.alike.method? mk
    show vm₁.method? mk = _
    rw [h9]; exact hmethM
  obtain ⟨kY, hkY, -⟩ := className_of_methodNamed hn₁
  have hini : (Cond.initialized "RootLoom").before #[] (T.setVm vm₁) = true := word_at (U := T.setVm vm₁) hW₁ (Or.inl rfl) (hkw (.initialized "RootLoom") (List.mem_of_getElem? (i := 1) rfl))
  have hinitY : kY.init = .initialized := Cond.initialized_spec (findClass_of_methodNamed hn₁) hkY hini
  have hat : At (T.setVm vm₁) m c below := X₁.here
  have hpre : (headSpec (xi_cw xm_17) xe_rm).pre.before ([.ref (Y.2.2.1 + x), .int i, .int wh] : List Value).toArray (T.setVm vm₁) = true := by
    refine atoms_intro (ws := xi_cw xm_17) fun w' hw' => ?_
    have hg := xi_good (Mj := xm_17) (xi_W0_m hM2 _ List.mem_cons_self) w' hw'
    exact word_at (U := T.setVm vm₁) hW₁ hg.2 (hts _ hg.1)
  have happ := Spec.appliesLoose_calling (S := headSpec (xi_cw xm_17) xe_rm) (e := e) (g := F0 m 5 ls [.int (Int32.ofInt 0), .ref (xi_ad Y o)]) hat (by rw [hb]; exact xh_d5) hn₁ hkY hinitY
    (X₁.room_calling (g := F0 m 5 ls [.int (Int32.ofInt 0), .ref (xi_ad Y o)]) (R' := xe_rm) (by rw [hml]; exact hls) hmM₁ hcM (by decide) (by rw [hlM]; simp [F0, JFrame.monitorRoom, Value.category]; decide) (by decide) (by decide)) hpre
  have hP : xi_Pc Y [.ref (x + 2), .int i, .int wh] w ([.ref (Y.2.2.1 + x), .int i, .int wh] : List Value).toArray ((T.setVm vm₁).calling (F0 m 5 ls [.int (Int32.ofInt 0), .ref (xi_ad Y o)]) mk ([.ref (Y.2.2.1 + x), .int i, .int wh] : List Value).toArray) := by
    refine xi_blind Y _ w _ _ _ _ ⟨rfl, ?_, ?_⟩
    · show xi_Hs Y w T.heap
      rw [hT]; exact hH
    · exact hG.moved (U := T.setVm vm₁) (locs := []) (by show va_S (xi_A Y) s.heap T.heap []; rw [hT]; exact va_S.rf) hW₁
  obtain ⟨mid, hmid⟩ := hat.above
  have hfr : ((T.setVm vm₁).setTop (F0 m 5 ls [.int (Int32.ofInt 0), .ref (xi_ad Y o)])).frames = (.java (F0 m 5 ls [.int (Int32.ofInt 0), .ref (xi_ad Y o)]) :: mid) ++ below := by
    rw [State.frames_setTop' _ hat.top, hmid]; rfl
  obtain ⟨oc, s₂, hsteps, -, hend, hq⟩ := Steps.callFree (xe_insA (Y := Y) (wh := wh) hwa ha1 hw h0 h1 hs0 hi0 hic hw0 hw1 hfl) p X₁.admits X₁.cas X₁.clock (acts := []) hfr happ hP trivial
  obtain ⟨hoc, hHs, hold, hWs, hsame⟩ := hq
  subst hoc
  rw [State.frames_setTop' _ hat.top, X₁.tail] at hend
  obtain ⟨T', X', hWT, hsT, hs₂⟩ := X₁.outOfThrown (g := F0 m 5 ls [.int (Int32.ofInt 0), .ref (xi_ad Y o)]) rfl (mk := mk) (a := ([.ref (Y.2.2.1 + x), .int i, .int wh] : List Value).toArray) hend hWs hsame
  have hheap : T'.heap = s₂.heap := by rw [hs₂]; exact (Stand.throwing_heap T' _ _).symm
  -- caught
  obtain ⟨m9, meth9, c9, hn9, hm9, hc9, -, -, htab, -⟩ := Cond.codeWith_spec (hts0 xh_c List.mem_cons_self)
  cases B.named.symm.trans hn9
  cases B.method.symm.trans hm9
  cases X.code.symm.trans hc9
  obtain ⟨x1, x2, hx12, hx1, hx2⟩ : ∃ x1 x2, c.exceptionTable.toList = [x1, x2] ∧ (x1.startPc, x1.endPc, x1.handlerPc, x1.catchType) = (0, 10, 13, 13) ∧ (x2.startPc, x2.endPc, x2.handlerPc, x2.catchType) = (0, 10, 17, 15) := by
    revert htab
    generalize c.exceptionTable.toList = tl
    intro htab
    match tl, htab with
    | [a, b], h =>
      simp only [List.map_cons, List.map_nil, List.cons.injEq, and_true] at h
      exact ⟨a, b, rfl, h.1, h.2⟩
    | [], h => simp at h
    | [_], h => simp at h
    | _ :: _ :: _ :: _, h => simp at h
  simp only [Prod.mk.injEq] at hx1 hx2
  obtain ⟨y1, y2, y3, y4⟩ := hx1
  obtain ⟨z1, z2, z3, z4⟩ := hx2
  have hpl : e.platform.magicAccessors = ({} : Platform).magicAccessors := by rw [X.admits.platform]
  obtain ⟨cI, hcI, hclI⟩ := Cond.classLink_spec hown (hts (.classLink "RootLoomLaw" 13 xe_I) (xe_wx 4 rfl)) e.platform hpl
  obtain ⟨dk, _, _, ki, hdk, _, _, _, _, hki, _, hopen⟩ := hclI.here
  have hWi : s.WarmedH (T'.vm.noted m.cls 13 (.cls cI)) := X'.warmed.noted hdk hopen (State.rightAt_cls hclI)
  obtain ⟨cT, hcT, hcl⟩ := Cond.classLink_spec hown (hts (.classLink "RootLoomLaw" 15 xe_A) (xe_wx 5 rfl)) e.platform hpl
  obtain ⟨dk2, _, _, kt, hdk2, _, _, _, _, hkt, _, hopen2⟩ := hcl.here
  have hWf : s.WarmedH ((T'.vm.noted m.cls 13 (.cls cI)).noted m.cls 15 (.cls cT)) := hWi.noted hdk2 hopen2 (State.rightAt_cls hcl)
  obtain ⟨ki', hki', -⟩ := X'.warmed.alike.2.2 _ _ hki
  obtain ⟨kt', hkt', -⟩ := X'.warmed.alike.2.2 _ _ hkt
  obtain ⟨kt2, hkt2, -⟩ := hWi.alike.2.2 _ _ hkt
  obtain ⟨rE, hrE, ce, hce1, hce2, hce3, -⟩ := hHs.2 w.length (xe_exc 9) (by rw [List.getElem?_append_right (Nat.le_refl _), Nat.sub_self]; rfl)
  have hKe := (hG.1.1 9 (xe_A, xc_TE, 0) rfl).2.1
  have hceT : ce.cls = cT := by rw [hce2]; exact Option.some.inj (hKe.symm.trans hcT)
  obtain ⟨c3, c4, hc3, hc4, hasg⟩ := Cond.castable_spec (va_Nw.use (A := args) rfl (hG.2.2.2.2.2.2.2.2.2.1 (xe_A, xe_A) (List.mem_of_getElem? (i := 1) rfl)))
  cases hc3.symm.trans hcT
  cases hc4.symm.trans hcT
  obtain ⟨nA, nI, hnA, hnI, hnn⟩ := hG.2.2.2.2.2.2.2.2.2.2.2.2
  cases hnA.symm.trans hcT
  cases hnI.symm.trans hcI
  have hno1 : T'.vm.assignable ce.cls cI = false := by rw [hceT, X'.warmed.alike.assignable]; exact hnn
  have hfit0 : T'.vm.assignable ce.cls cT = true := by rw [hceT, X'.warmed.alike.assignable]; exact hasg
  have hfit : (T'.vm.noted m.cls 13 (.cls cI)).assignable ce.cls cT = true := by rw [hceT, hWi.alike.assignable]; exact hasg
  have X9 := X'.noted hWf
  -- what follows
  have hgo : W p Y.2.2.2.2.2.2.2 e (headSpec (xh_c :: xi_W0) xh_rm).room s m args below meth c s₂.heap [] 1 6 (MQ below (xi_Qc Y (some (.int 2)) (w ++ [xe_exc 9])) args s 1 6 (xi_A Y)) (F0 m 17 ls [.ref (Y.2.2.1 + w.length)]) := by
    refine lv_astore hx hb xh_d17 (lv := []) ⟨hls, hlv.2.1, fun _ h => absurd h List.not_mem_nil⟩ (by decide) rfl fun ls' hl' => ?_
    refine lv_iconst hx hb xh_d19 rfl ?_
    refine W.iret hx hb hr (fun t ht hW => ⟨rfl, by rw [ht]; exact hHs, ?_, fun q h8 h9 => ?_⟩) (fun _ h => absurd h List.not_mem_nil) xh_d20
    · rw [ht, hHs.1, hH.1, List.length_append]; omega
    · rw [ht]
      have h7 := hold q (by show q < T.heap.size; rw [hT]; exact h8)
      rw [h7]
      show T.heap[q]? = s.heap[q]?
      rw [hT]
  obtain ⟨t9, a9, b9⟩ := hgo (T'.setVm ((T'.vm.noted m.cls 13 (.cls cI)).noted m.cls 15 (.cls cT))) hheap X9
  refine ⟨t9, ?_, b9⟩
  refine hstep₁ _ fun acts => ?_
  rw [doInvoke_state]
  refine hsteps.trans ?_
  rw [hs₂]
  refine xe_caught2 (x := x1) (y := x2) (rest := []) X'.here X'.method' X'.code hx12 (by simp [covers, y1, y2]) (by rw [y4]; decide) (by simp [covers, z1, z2]) (by rw [z4]; decide) (c1 := cI) (c2 := cT) (cell := ce) (by rw [y4]; exact X'.warmed.classLinks hclI) (by rw [y4, z4]; exact hWi.classLinks hcl) (by rw [hheap]; exact hce1) (fun k h => by rw [hce3] at h; cases h) (Vm.classAt_of_assignable hfit0 ⟨kt', hkt'⟩) ⟨ki', hki'⟩ hno1 (by rw [y4]; exact Vm.classAt_of_assignable hfit ⟨kt2, hkt2⟩) (by rw [y4]; exact ⟨kt2, hkt2⟩) (by rw [y4]; exact hfit) ?_
  rw [y4, z3, z4]
  exact a9
end
section
/-! The law calls its helper: the other throw. -/
theorem xh_ToA {Y : xi_Y} {d : Nat} (hd7 : 7 ≤ d) {w : xi_W} {L : xi_L} (hL7 : L.length = 7) {x cd o : Nat} {fa fs : List Value} {st cnt i wh : Int32} (hwa : w[x]? = some (.inr (0, fa))) (ha1 : fa[1]? = some (.ref (cd + 2))) (hw : w[cd]? = some (.inr (2, fs))) (h0 : fs[0]? = some (.int st)) (h1 : fs[1]? = some (.int cnt)) (hs0 : ¬ st = 0) (hi0 : ¬ i < 0) (hic : ¬ cnt ≤ i) (hw0 : ¬ wh = 0) (hw1 : ¬ wh = 1) (hfl : Y.2.2.2.2.2.2.2.flags = pinnedFlags ++ [noTraceFlag])
    {r : List Value} (hr : (r.map fun v => v.category).sum ≤ 8) : xi_To Y d 0 (392, L, .ref o :: .int wh :: .int i :: .ref (x + 2) :: r, w) (395, L, .int 2 :: r, w ++ [xe_exc 9]) := by
  refine ⟨by show w.length ≤ (w ++ [xe_exc 9]).length; rw [List.length_append]; exact Nat.le_add_right _ _, by show xi_sl w ≤ xi_sl (w ++ [xe_exc 9]); rw [xi_sl_app]; exact Nat.le_add_right _ _, fun p l e R s m args below meth c Q hF H locs cells slots cells' slots' ls hH hS hlv hc hs r1 r2 kk => ?_⟩
  dsimp only at hc hs hH hlv kk ⊢
  obtain ⟨M', hM', hx, hb, hml, hown, hname, hts, hG, hf, hlo, hle⟩ := hF
  cases (show xi_ml[0]? = some xm_0 from rfl).symm.trans hM'
  subst hle
  rw [List.length_append, List.length_singleton] at hc
  rw [xi_sl_app, show xi_sc (xe_exc 9) = 6 from rfl] at hs
  have e1 : cells' = cells + 1 := by omega
  have e2 : slots' = slots + 6 := by omega
  subst e1; subst e2
  have hwc : xh_c ∈ xi_W0 := xe_wx 6 rfl
  have hws : ∀ w ∈ xh_c :: xi_W0, ∀ (a' : Array Value) (U : State), s.WarmedH U.vm → w.before a' U = true := by
    intro w' hw' a' U hW
    have hm : w' ∈ xi_W0 := by
      rcases List.mem_cons.mp hw' with rfl | h
      · exact hwc
      · exact h
    exact word_at hW (xi_okW w' hm) (hts w' hm)
  have hini : Cond.initialized "RootLoomLaw" ∈ xi_W0 := xe_wx 9 rfl
  have hMet := xh_metA (Y := Y) (o := o) (wh := wh) hwa ha1 hw h0 h1 hs0 hi0 hic hw0 hw1 hfl
  have hK27 : (d + 1) * xi_K = (d + 1) * 27 := rfl
  have hK : Back Y.2.2.2.2.2.2.2 R p e below s args xh_y 3 8 (PreOf R 1 6 (xi_Pc Y [.ref (x + 2), .int i, .int wh, .ref o] w)) (PostOf (xi_Qc Y (some (.int 2)) (w ++ [xe_exc 9])) 1 6 (xi_A Y)) :=
    va_backW (hh := [(0, 10, 13, 13), (0, 10, 17, 15)]) (bytes := method_3_code) (maxL := 5) (ret := some .int) hMet (xi_blind Y _ w) rfl rfl (by show 7 + 1 ≤ R.frames; omega) (by show 8 + (5 + 11) + 103 ≤ R.locals; omega) hws List.mem_cons_self (fun a' U hW => hws _ (List.mem_cons_of_mem _ hini) a' U hW)
  have hdec : decode c.code 392 = .ok (.invokestatic 51, 3) := by rw [hb]; exact xi_hit 0 xm_0 392 _ _ rfl rfl
  have hsize : ls.size = c.maxLocals := by rw [hml]; exact hlv.1.trans hL7
  have hroom : 2 * (F0 m 392 ls (r.map (xi_v Y))).monitorRoom + ((r.map (xi_v Y)).map fun v => v.category).sum ≤ 8 := lv_room (by rw [xi_cats]; exact hr)
  refine xi_back (Y := Y) (o := some (.int 2)) (w' := w ++ [xe_exc 9]) (rest := r.map (xi_v Y)) (mc := 1) (ms := 6) (a := ([.ref (Y.2.2.1 + x), .int i, .int wh, .ref (xi_ad Y o)] : List Value).toArray) ?_ hS (fun H' locs' a b => kk H' locs' ls a b hlv)
  intro T hT X
  obtain ⟨mk, methM, cM, hnamed, hmethM, hcM, -, -, -, -, -, hsigM⟩ := Cond.codeWith_spec (hts xh_c hwc)
  have hstatic : methM.isStatic = true := Cond.static_spec hnamed hmethM (hts (.static xh_y) (xe_wx 7 rfl))
  obtain ⟨kP, hkP, -⟩ := className_of_methodNamed hnamed
  have hinitP : kP.init = .initialized := Cond.initialized_spec (findClass_of_methodNamed hnamed) hkP (hts _ hini)
  have hlen : ∀ sig, parseMethodDescriptor xh_y.desc = some sig → ([.ref (Y.2.2.1 + x), .int i, .int wh, .ref (xi_ad Y o)] : List Value).length = sig.parameters.length := by
    intro sig h
    have h9 : (parseMethodDescriptor xh_y.desc).map (fun d => d.parameters.length) = some 4 := by decide +kernel
    rw [h] at h9
    exact (Option.some.inj h9).symm
  obtain ⟨vm₁, X₁, hstep₁⟩ := X.invokestatic hx hown (hts (.methodLink "RootLoomLaw" 51 xh_y) (xe_wx 8 rfl)) hnamed hmethM hstatic hkP hinitP (by decide +kernel) (g := F0 m 392 ls ((Value.ref o :: .int wh :: .int i :: .ref (x + 2) :: r).map (xi_v Y))) rfl (argsL := [.ref (Y.2.2.1 + x), .int i, .int wh, .ref (xi_ad Y o)]) (rest := r.map (xi_v Y)) (hlen _ hsigM) rfl hdec
  obtain ⟨v, ⟨U', l2, c2, s2⟩, X', ⟨g', mk', t, Lc, e1, e2, hq, q1, hLc, q2, q3⟩, hsteps⟩ := hK m meth c ⟨T.setVm vm₁, locs, cells, slots⟩ (F0 m 392 ls (r.map (xi_v Y))) (.invokestatic 51) mk ([.ref (Y.2.2.1 + x), .int i, .int wh, .ref (xi_ad Y o)] : List Value).toArray X₁ rfl hsize hdec hroom (X₁.named hnamed)
    ⟨r1, r2, rfl, by show xi_Hs Y w T.heap; rw [hT]; exact hH, hG.moved (U := T.setVm vm₁) (locs := locs) (by show va_S (xi_A Y) s.heap T.heap locs; rw [hT]; exact hS) X₁.warmed⟩
  dsimp only [Pt.U, Pt.locs, Pt.cells, Pt.slots] at X' e1 e2 q1 q2 q3 hsteps
  subst q1; subst q2; subst q3
  exact ⟨v, _, t, U', Lc, hT, X', hLc, e1, e2, hq, fun target h => hstep₁ _ fun acts => by rw [doInvoke_state]; exact hsteps.trans h⟩
end
section
/-! The helper, where RootLoom.instruction answers: its answer goes into the out array; it answers 0. -/
theorem xh_d8 : decode method_3_code 8 = .ok (.i2l, 1) := by decide +kernel
theorem xh_d9 : decode method_3_code 9 = .ok (.lastore, 1) := by decide +kernel
theorem xh_d10 : decode method_3_code 10 = .ok (.goto 11, 3) := by decide +kernel
theorem xh_d21 : decode method_3_code 21 = .ok (.iconst 0, 1) := by decide +kernel
theorem xh_d22 : decode method_3_code 22 = .ok (.ireturn, 1) := by decide +kernel
def xh_rm0 (d : Nat) : Room := { frames := d + 2, cells := 0, slots := 0, locals := (d + 2) * xi_K }
theorem xh_met0 {Y : xi_Y} {d : Nat} {w : xi_W} {x o : Nat} {fa : List Value} {f : List Int64} {i wh v : Int32} (hwa : w[x]? = some (.inr (0, fa))) (hwo : w[o]? = some (.inl (2, .inr f))) (hf0 : 0 < f.length) (hC : xi_C Y d 17 [.ref (x + 2), .int i, .int wh] w (some (.int v)) w) :
    Met Y.2.2.2.2.2.2.2 xh_y (xh_c :: xi_W0) (xh_rm0 d) (xi_Pc Y [.ref (x + 2), .int i, .int wh, .ref (o + 2)] w) (xi_Qc Y (some (.int 0)) (w.set o (.inl (2, .inr (f.set 0 v.toInt64))))) 0 0 (xi_A Y) := by
  refine va_MetW (cc := method_3_code) (maxL := 5) (ret := some .int) (hh := [(0, 10, 13, 13), (0, 10, 17, 15)]) (by decide +kernel) rfl ?_
  intro p e s m args below meth c s₁ B hml hv
  obtain ⟨rfl, hH, hG⟩ := hv
  have hx := B.exec
  have hb := B.bytes
  have hr := B.returns
  have hlocks := B.notSynchronized
  have hts0 := atoms_spec (ws := xh_c :: xi_W0) B.pre
  generalize har : (([.ref (x + 2), .int i, .int wh, .ref (o + 2)] : List Value).map (xi_v Y)).toArray = args at hts0 ⊢
  have hts : ∀ w ∈ xi_W0, w.before args s = true := fun w hw => hts0 w (List.mem_cons_of_mem _ hw)
  have hown : s.vm.findClass "RootLoomLaw" = some m.cls := findClass_of_methodNamed B.named
  have hM2 : xi_ml[17]? = some xm_17 := rfl
  have hkw : ∀ w ∈ xi_kw xm_17, w.before args s = true := fun w hw => hts _ (xi_W0_m hM2 _ hw)
  rw [← har, lg_entry_eq, har]
  have hlv : xi_lv Y (xi_ent (xh_y, method_3_code, 5, some .int, 1, 4, 99, 0) [.ref (x + 2), .int i, .int wh, .ref (o + 2)]) (lg_sl (([.ref (x + 2), .int i, .int wh, .ref (o + 2)] : List Value).map (xi_v Y)) ++ List.replicate (5 - (lg_sl (([.ref (x + 2), .int i, .int wh, .ref (o + 2)] : List Value).map (xi_v Y))).length) Slot.unset).toArray := xi_lv_ent (Y := Y) (M := (xh_y, method_3_code, 5, some .int, 1, 4, 99, 0)) (as := [.ref (x + 2), .int i, .int wh, .ref (o + 2)]) (by simp [Value.category]) (by show 4 ≤ 5; decide)
  generalize (lg_sl (([.ref (x + 2), .int i, .int wh, .ref (o + 2)] : List Value).map (xi_v Y)) ++ List.replicate (5 - (lg_sl (([.ref (x + 2), .int i, .int wh, .ref (o + 2)] : List Value).map (xi_v Y))).length) Slot.unset).toArray = ls at hlv ⊢
  have l0 : ls[0]? = some (.val (.ref (Y.2.2.1 + x))) := (hlv.2.2 0 _ rfl).1
  have l1 : ls[1]? = some (.val (.int i)) := (hlv.2.2 1 _ rfl).1
  have l2 : ls[2]? = some (.val (.int wh)) := (hlv.2.2 2 _ rfl).1
  have l3 : ls[3]? = some (.val (.ref (Y.2.2.1 + o))) := (hlv.2.2 3 _ rfl).1
  have hls : ls.size = 5 := hlv.1
  refine lv_aload_n hx hb xh_d0 rfl l3 ?_
  refine lv_iconst hx hb xh_d1 rfl ?_
  refine lv_aload_n hx hb xh_d2 rfl l0 ?_
  refine lv_iload_n hx hb xh_d3 rfl l1 ?_
  refine lv_iload_n hx hb xh_d4 rfl l2 ?_
  have hlink := hts _ (xi_W0_lk (n := 0) (M := xm_0) (x := 7) (q := (3, 17, 0)) rfl rfl (.methodLink "RootLoomLaw" 7 xm_17.1) (List.mem_singleton.mpr rfl))
  have hrec := va_recv (a := Y.2.2.1 + x) hG.1 (hH.one hwa) (ci := 0) (q0 := 0) (fs := fa.map (xi_v Y)) (q := ("RootLoom", xc_TA, 4)) rfl rfl
  have hMet := hC.2.2 xm_17 hM2
  rw [Nat.sub_self, Nat.sub_self] at hMet
  have hK27 : xi_K = 27 := rfl
  refine xi_back (Y := Y) (o := some (.int v)) (w' := w) (rest := [.int (Int32.ofInt 0), .ref (Y.2.2.1 + o)]) (mc := 0) (ms := 0) (va_runV (C := "RootLoom") (index := 7) (b := Y.2.2.1 + x) (As := [.int i, .int wh]) (rest := [.int (Int32.ofInt 0), .ref (Y.2.2.1 + o)]) (nL := 5) ⟨hx, hb, hml, hown, hts⟩ hMet ⟨callB_of 2 hts (xi_good (xi_W0_m hM2 _ List.mem_cons_self)) rfl rfl rfl (hkw _ (List.mem_of_getElem? (i := 1) rfl)) hlink (by decide +kernel) ⟨Nat.le_refl _, by show 8 + (3 + 11) + (d + 1) * xi_K ≤ (d + 2) * xi_K; rw [hK27]; omega⟩, hkw _ (List.mem_of_getElem? (i := 2) rfl), hkw _ (List.mem_of_getElem? (i := 3) rfl)⟩ ⟨xi_blind Y _ w, hrec, fun U hU hW => ⟨rfl, by rw [hU]; exact hH, hG.moved (locs := []) (by rw [hU]; exact va_S.rf) hW⟩⟩ rfl rfl hls rfl (lv_room (Nat.le_of_ble_eq_true rfl)) xh_d5 ⟨Nat.le_refl _, Nat.le_refl _⟩) va_S.rf (fun H' locs' hH' hS' => ?_)
  refine W.eq (g2 := F0 m 8 ls [.int v, .int (Int32.ofInt 0), .ref (Y.2.2.1 + o)]) rfl ?_
  refine lv_i2l hx hb xh_d8 rfl ?_
  refine W.last (a := Y.2.2.1 + o) (j := Int32.ofInt 0) (x := v.toInt64) hx hb (hH'.2 o _ hwo) ((hG.1.2 2 _ rfl).1 f.length (fun j => .long (f.getD j 0))) (fun q => by cases q) (by show ¬ (Int32.ofInt 0 < 0 ∨ (arrV _ _ _).slots.size ≤ _); rw [arrV_size]; show ¬ (Int32.ofInt 0 < 0 ∨ f.length ≤ 0); rintro (h | h); exact absurd h (by decide); omega) rfl rfl xh_d9 (fun H1 e1 z oq => ?_)
  have hn : va_at Y.1 xi_cl (Y.2.2.1 + o, xi_c Y (.inl (2, .inr (f.set 0 v.toInt64)))) H1 := by
    show H1[(Y.2.2.1 + o : Nat)]? = some (vp_cell (Y.2.1 2) ((f.set 0 v.toInt64).length, .inr (.inl (fun i => (f.set 0 v.toInt64).getD i 0))))
    rw [vp_cell_l, ← xi_arr_l _ _ hf0]
    exact e1
  have hH2 := hH'.upd hwo z oq hn
  have hS2 := hS'.put (k := 0) z oq (show xi_A Y (Y.2.2.1 + o) from Nat.le_add_right _ _)
  refine W.eq (g2 := F0 m 10 ls []) rfl ?_
  refine lv_goto hx hb xh_d10 (tgt := 21) (by decide) ?_
  refine lv_iconst hx hb xh_d21 rfl ?_
  exact W.iret hx hb hr (fun t ht hW => ⟨rfl, by rw [ht]; exact hH2, hS2.F ht⟩) hS2.2.2 xh_d22
end
section
/-! The law calls its helper: an answer. -/
theorem xh_To0 {Y : xi_Y} {d : Nat} {w : xi_W} {L : xi_L} (hL7 : L.length = 7) {x o : Nat} {fa : List Value} {f : List Int64} {i wh v : Int32} (hwa : w[x]? = some (.inr (0, fa))) (hwo : w[o]? = some (.inl (2, .inr f))) (hf0 : 0 < f.length) (hC : xi_C Y d 17 [.ref (x + 2), .int i, .int wh] w (some (.int v)) w)
    {r : List Value} (hr : (r.map fun v => v.category).sum ≤ 8) : xi_To Y (d + 2) 0 (392, L, .ref (o + 2) :: .int wh :: .int i :: .ref (x + 2) :: r, w) (395, L, .int 0 :: r, w.set o (.inl (2, .inr (f.set 0 v.toInt64)))) := by
  have hsl := xi_sl_set (y := .inl (2, .inr (f.set 0 v.toInt64))) hwo (by show (f.set _ _).length = f.length; rw [List.length_set])
  refine ⟨by show w.length ≤ (w.set _ _).length; rw [List.length_set]; exact Nat.le_refl _, by show xi_sl w ≤ xi_sl (w.set _ _); rw [hsl]; exact Nat.le_refl _, fun p l e R s m args below meth c Q hF H locs cells slots cells' slots' ls hH hS hlv hc hs r1 r2 kk => ?_⟩
  dsimp only at hc hs hH hlv kk ⊢
  obtain ⟨M', hM', hx, hb, hml, hown, hname, hts, hG, hf, hlo, hle⟩ := hF
  cases (show xi_ml[0]? = some xm_0 from rfl).symm.trans hM'
  subst hle
  rw [List.length_set] at hc
  rw [hsl] at hs
  have e1 : cells' = cells := by omega
  have e2 : slots' = slots := by omega
  subst e1; subst e2
  have hwc : xh_c ∈ xi_W0 := xe_wx 6 rfl
  have hws : ∀ w ∈ xh_c :: xi_W0, ∀ (a' : Array Value) (U : State), s.WarmedH U.vm → w.before a' U = true := by
    intro w' hw' a' U hW
    have hm : w' ∈ xi_W0 := by
      rcases List.mem_cons.mp hw' with rfl | h
      · exact hwc
      · exact h
    exact word_at hW (xi_okW w' hm) (hts w' hm)
  have hini : Cond.initialized "RootLoomLaw" ∈ xi_W0 := xe_wx 9 rfl
  have hMet := xh_met0 (Y := Y) hwa hwo hf0 hC
  have hK27 : xi_K = 27 := rfl
  rw [hK27] at hlo
  have hK : Back Y.2.2.2.2.2.2.2 R p e below s args xh_y 3 8 (PreOf R 0 0 (xi_Pc Y [.ref (x + 2), .int i, .int wh, .ref (o + 2)] w)) (PostOf (xi_Qc Y (some (.int 0)) (w.set o (.inl (2, .inr (f.set 0 v.toInt64))))) 0 0 (xi_A Y)) :=
    va_backW (hh := [(0, 10, 13, 13), (0, 10, 17, 15)]) (bytes := method_3_code) (maxL := 5) (ret := some .int) hMet (xi_blind Y _ w) rfl rfl (by show d + 2 + 1 ≤ R.frames; omega) (by show 8 + (5 + 11) + (d + 2) * xi_K ≤ R.locals; rw [hK27]; omega) hws List.mem_cons_self (fun a' U hW => hws _ (List.mem_cons_of_mem _ hini) a' U hW)
  have hdec : decode c.code 392 = .ok (.invokestatic 51, 3) := by rw [hb]; exact xi_hit 0 xm_0 392 _ _ rfl rfl
  have hsize : ls.size = c.maxLocals := by rw [hml]; exact hlv.1.trans hL7
  have hroom : 2 * (F0 m 392 ls (r.map (xi_v Y))).monitorRoom + ((r.map (xi_v Y)).map fun v => v.category).sum ≤ 8 := lv_room (by rw [xi_cats]; exact hr)
  refine xi_back (Y := Y) (o := some (.int 0)) (w' := w.set o (.inl (2, .inr (f.set 0 v.toInt64)))) (rest := r.map (xi_v Y)) (mc := 0) (ms := 0) (a := ([.ref (Y.2.2.1 + x), .int i, .int wh, .ref (Y.2.2.1 + o)] : List Value).toArray) ?_ hS (fun H' locs' a b => kk H' locs' ls a b hlv)
  intro T hT X
  obtain ⟨mk, methM, cM, hnamed, hmethM, hcM, -, -, -, -, -, hsigM⟩ := Cond.codeWith_spec (hts xh_c hwc)
  have hstatic : methM.isStatic = true := Cond.static_spec hnamed hmethM (hts (.static xh_y) (xe_wx 7 rfl))
  obtain ⟨kP, hkP, -⟩ := className_of_methodNamed hnamed
  have hinitP : kP.init = .initialized := Cond.initialized_spec (findClass_of_methodNamed hnamed) hkP (hts _ hini)
  have hlen : ∀ sig, parseMethodDescriptor xh_y.desc = some sig → ([.ref (Y.2.2.1 + x), .int i, .int wh, .ref (Y.2.2.1 + o)] : List Value).length = sig.parameters.length := by
    intro sig h
    have h9 : (parseMethodDescriptor xh_y.desc).map (fun d => d.parameters.length) = some 4 := by decide +kernel
    rw [h] at h9
    exact (Option.some.inj h9).symm
  obtain ⟨vm₁, X₁, hstep₁⟩ := X.invokestatic hx hown (hts (.methodLink "RootLoomLaw" 51 xh_y) (xe_wx 8 rfl)) hnamed hmethM hstatic hkP hinitP (by decide +kernel) (g := F0 m 392 ls ((Value.ref (o + 2) :: .int wh :: .int i :: .ref (x + 2) :: r).map (xi_v Y))) rfl (argsL := [.ref (Y.2.2.1 + x), .int i, .int wh, .ref (Y.2.2.1 + o)]) (rest := r.map (xi_v Y)) (hlen _ hsigM) rfl hdec
  obtain ⟨v', ⟨U', l2, c2, s2⟩, X', ⟨g', mk', t, Lc, e1, e2, hq, q1, hLc, q2, q3⟩, hsteps⟩ := hK m meth c ⟨T.setVm vm₁, locs, cells', slots'⟩ (F0 m 392 ls (r.map (xi_v Y))) (.invokestatic 51) mk ([.ref (Y.2.2.1 + x), .int i, .int wh, .ref (Y.2.2.1 + o)] : List Value).toArray X₁ rfl hsize hdec hroom (X₁.named hnamed)
    ⟨r1, r2, rfl, by show xi_Hs Y w T.heap; rw [hT]; exact hH, hG.moved (U := T.setVm vm₁) (locs := locs) (by show va_S (xi_A Y) s.heap T.heap locs; rw [hT]; exact hS) X₁.warmed⟩
  dsimp only [Pt.U, Pt.locs, Pt.cells, Pt.slots] at X' e1 e2 q1 q2 q3 hsteps
  subst q1; subst q2; subst q3
  exact ⟨v', _, t, U', Lc, hT, X', hLc, e1, e2, hq, fun target h => hstep₁ _ fun acts => by rw [doInvoke_state]; exact hsteps.trans h⟩
end
