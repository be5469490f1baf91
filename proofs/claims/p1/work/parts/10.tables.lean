/-! Tables of the program: classes, fields, links, methods; by program out of the claim's own words. -/
-- a method: name, code, locals, answer, kind (0 virtual, 1 static, 2 constructor, 3 the law), parameters, class, links' place
abbrev xi_M : Type := MethodName × ByteArray × Nat × Option FieldType × Nat × Nat × Nat × Nat
def xc_TA : u_T := fun k => match k with
  | 0 => ("RootLoom", "source", "LRootLoom$Source;", true)
  | 1 => ("RootLoom", "code", "LRootLoom$Code;", true)
  | 2 => ("RootLoom", "weaver", "LRootLoom$Weaver;", true)
  | _ => ("RootLoom", "machine", "LRootLoom$Machine;", true)
def xc_tA : Nat → FieldType := fun k => match k with
  | 0 => .object "RootLoom$Source"
  | 1 => .object "RootLoom$Code"
  | 2 => .object "RootLoom$Weaver"
  | _ => .object "RootLoom$Machine"
theorem xc_nA : ∀ a, a < 4 → ∀ b, b < 4 → a ≠ b → (xc_TA a).2.1 ≠ (xc_TA b).2.1 := by decide +kernel
theorem xc_pA : ∀ k, k < 4 → parseFieldDescriptor (xc_TA k).2.2.1 = some (xc_tA k) := by decide +kernel
theorem xc_oA : ∀ k, k < 4 → (xc_TA k).1 = "RootLoom" := by decide +kernel
def xc_TS : u_T := fun k => match k with
  | 0 => ("RootLoom$Source", "leftOf", "[I", true)
  | 1 => ("RootLoom$Source", "rightOf", "[I", true)
  | 2 => ("RootLoom$Source", "resultOf", "[I", true)
  | 3 => ("RootLoom$Source", "parametersOf", "[I", true)
  | 4 => ("RootLoom$Source", "parameterTypes", "[I", true)
  | 5 => ("RootLoom$Source", "bodyOf", "[I", true)
  | 6 => ("RootLoom$Source", "functions", "I", false)
  | 7 => ("RootLoom$Source", "kindOf", "[I", true)
  | 8 => ("RootLoom$Source", "parts", "[I", true)
  | 9 => ("RootLoom$Source", "sizeOf", "[I", true)
  | 10 => ("RootLoom$Source", "valuesOf", "[I", true)
  | _ => ("RootLoom$Source", "nodes", "I", false)
def xc_tS : Nat → FieldType := fun k => match k with
  | 0 => .array .int
  | 1 => .array .int
  | 2 => .array .int
  | 3 => .array .int
  | 4 => .array .int
  | 5 => .array .int
  | 6 => .int
  | 7 => .array .int
  | 8 => .array .int
  | 9 => .array .int
  | 10 => .array .int
  | _ => .int
theorem xc_nS : ∀ a, a < 12 → ∀ b, b < 12 → a ≠ b → (xc_TS a).2.1 ≠ (xc_TS b).2.1 := by decide +kernel
theorem xc_pS : ∀ k, k < 12 → parseFieldDescriptor (xc_TS k).2.2.1 = some (xc_tS k) := by decide +kernel
theorem xc_oS : ∀ k, k < 12 → (xc_TS k).1 = "RootLoom$Source" := by decide +kernel
def xc_TC : u_T := fun k => match k with
  | 0 => ("RootLoom$Code", "stands", "Z", false)
  | 1 => ("RootLoom$Code", "count", "I", false)
  | 2 => ("RootLoom$Code", "mapped", "I", false)
  | 3 => ("RootLoom$Code", "mostValues", "I", false)
  | 4 => ("RootLoom$Code", "operation", "[I", true)
  | 5 => ("RootLoom$Code", "operand", "[I", true)
  | 6 => ("RootLoom$Code", "localMap", "[I", true)
  | 7 => ("RootLoom$Code", "pileMap", "[I", true)
  | 8 => ("RootLoom$Code", "starts", "[I", true)
  | 9 => ("RootLoom$Code", "leftOf", "[I", true)
  | _ => ("RootLoom$Code", "rightOf", "[I", true)
def xc_tC : Nat → FieldType := fun k => match k with
  | 0 => .boolean
  | 1 => .int
  | 2 => .int
  | 3 => .int
  | 4 => .array .int
  | 5 => .array .int
  | 6 => .array .int
  | 7 => .array .int
  | 8 => .array .int
  | 9 => .array .int
  | _ => .array .int
theorem xc_nC : ∀ a, a < 11 → ∀ b, b < 11 → a ≠ b → (xc_TC a).2.1 ≠ (xc_TC b).2.1 := by decide +kernel
theorem xc_pC : ∀ k, k < 11 → parseFieldDescriptor (xc_TC k).2.2.1 = some (xc_tC k) := by decide +kernel
theorem xc_oC : ∀ k, k < 11 → (xc_TC k).1 = "RootLoom$Code" := by decide +kernel
def xc_TV : u_T := fun k => match k with
  | 0 => ("RootLoom$Weaver", "source", "LRootLoom$Source;", true)
  | 1 => ("RootLoom$Weaver", "code", "LRootLoom$Code;", true)
  | 2 => ("RootLoom$Weaver", "openNodes", "[I", true)
  | 3 => ("RootLoom$Weaver", "openParts", "[I", true)
  | 4 => ("RootLoom$Weaver", "openJumps", "[I", true)
  | 5 => ("RootLoom$Weaver", "openTypes", "[I", true)
  | 6 => ("RootLoom$Weaver", "open", "I", false)
  | 7 => ("RootLoom$Weaver", "pileTypes", "[I", true)
  | 8 => ("RootLoom$Weaver", "height", "I", false)
  | 9 => ("RootLoom$Weaver", "localTypes", "[I", true)
  | 10 => ("RootLoom$Weaver", "wellTyped", "Z", false)
  | 11 => ("RootLoom$Weaver", "pairLoads", "[I", true)
  | _ => ("RootLoom$Weaver", "mattersBefore", "[I", true)
def xc_tV : Nat → FieldType := fun k => match k with
  | 0 => .object "RootLoom$Source"
  | 1 => .object "RootLoom$Code"
  | 2 => .array .int
  | 3 => .array .int
  | 4 => .array .int
  | 5 => .array .int
  | 6 => .int
  | 7 => .array .int
  | 8 => .int
  | 9 => .array .int
  | 10 => .boolean
  | 11 => .array .int
  | _ => .array .int
theorem xc_nV : ∀ a, a < 13 → ∀ b, b < 13 → a ≠ b → (xc_TV a).2.1 ≠ (xc_TV b).2.1 := by decide +kernel
theorem xc_pV : ∀ k, k < 13 → parseFieldDescriptor (xc_TV k).2.2.1 = some (xc_tV k) := by decide +kernel
theorem xc_oV : ∀ k, k < 13 → (xc_TV k).1 = "RootLoom$Weaver" := by decide +kernel
def xc_TM : u_T := fun k => match k with
  | 0 => ("RootLoom$Machine", "source", "LRootLoom$Source;", true)
  | 1 => ("RootLoom$Machine", "code", "LRootLoom$Code;", true)
  | 2 => ("RootLoom$Machine", "pairs", "LRootLoom$Pairs;", true)
  | 3 => ("RootLoom$Machine", "frames", "LRootLoom$Frames;", true)
  | 4 => ("RootLoom$Machine", "heapWords", "I", false)
  | 5 => ("RootLoom$Machine", "forceEvery", "I", false)
  | 6 => ("RootLoom$Machine", "place", "I", false)
  | 7 => ("RootLoom$Machine", "begun", "I", false)
  | 8 => ("RootLoom$Machine", "over", "I", false)
  | 9 => ("RootLoom$Machine", "steps", "I", false)
  | 10 => ("RootLoom$Machine", "collections", "I", false)
  | 11 => ("RootLoom$Machine", "stayed", "I", false)
  | 12 => ("RootLoom$Machine", "mostFrames", "I", false)
  | 13 => ("RootLoom$Machine", "printed", "[I", true)
  | 14 => ("RootLoom$Machine", "printedCount", "I", false)
  | 15 => ("RootLoom$Machine", "result", "I", false)
  | 16 => ("RootLoom$Machine", "resultType", "I", false)
  | _ => ("RootLoom$Machine", "reached", "I", false)
def xc_tM : Nat → FieldType := fun k => match k with
  | 0 => .object "RootLoom$Source"
  | 1 => .object "RootLoom$Code"
  | 2 => .object "RootLoom$Pairs"
  | 3 => .object "RootLoom$Frames"
  | 4 => .int
  | 5 => .int
  | 6 => .int
  | 7 => .int
  | 8 => .int
  | 9 => .int
  | 10 => .int
  | 11 => .int
  | 12 => .int
  | 13 => .array .int
  | 14 => .int
  | 15 => .int
  | 16 => .int
  | _ => .int
theorem xc_nM : ∀ a, a < 18 → ∀ b, b < 18 → a ≠ b → (xc_TM a).2.1 ≠ (xc_TM b).2.1 := by decide +kernel
theorem xc_pM : ∀ k, k < 18 → parseFieldDescriptor (xc_TM k).2.2.1 = some (xc_tM k) := by decide +kernel
theorem xc_oM : ∀ k, k < 18 → (xc_TM k).1 = "RootLoom$Machine" := by decide +kernel
def xc_TP : u_T := fun k => match k with
  | 0 => ("RootLoom$Pairs", "lefts", "[I", true)
  | 1 => ("RootLoom$Pairs", "rights", "[I", true)
  | 2 => ("RootLoom$Pairs", "types", "[I", true)
  | 3 => ("RootLoom$Pairs", "numbers", "[I", true)
  | 4 => ("RootLoom$Pairs", "count", "I", false)
  | 5 => ("RootLoom$Pairs", "keptIn", "[I", true)
  | 6 => ("RootLoom$Pairs", "collection", "I", false)
  | 7 => ("RootLoom$Pairs", "kept", "[I", true)
  | _ => ("RootLoom$Pairs", "keptCount", "I", false)
def xc_tP : Nat → FieldType := fun k => match k with
  | 0 => .array .int
  | 1 => .array .int
  | 2 => .array .int
  | 3 => .array .int
  | 4 => .int
  | 5 => .array .int
  | 6 => .int
  | 7 => .array .int
  | _ => .int
theorem xc_nP : ∀ a, a < 9 → ∀ b, b < 9 → a ≠ b → (xc_TP a).2.1 ≠ (xc_TP b).2.1 := by decide +kernel
theorem xc_pP : ∀ k, k < 9 → parseFieldDescriptor (xc_TP k).2.2.1 = some (xc_tP k) := by decide +kernel
theorem xc_oP : ∀ k, k < 9 → (xc_TP k).1 = "RootLoom$Pairs" := by decide +kernel
def xc_TF : u_T := fun k => match k with
  | 0 => ("RootLoom$Frames", "locals", "[I", true)
  | 1 => ("RootLoom$Frames", "values", "[I", true)
  | 2 => ("RootLoom$Frames", "heights", "[I", true)
  | 3 => ("RootLoom$Frames", "calls", "[I", true)
  | _ => ("RootLoom$Frames", "last", "I", false)
def xc_tF : Nat → FieldType := fun k => match k with
  | 0 => .array .int
  | 1 => .array .int
  | 2 => .array .int
  | 3 => .array .int
  | _ => .int
theorem xc_nF : ∀ a, a < 5 → ∀ b, b < 5 → a ≠ b → (xc_TF a).2.1 ≠ (xc_TF b).2.1 := by decide +kernel
theorem xc_pF : ∀ k, k < 5 → parseFieldDescriptor (xc_TF k).2.2.1 = some (xc_tF k) := by decide +kernel
theorem xc_oF : ∀ k, k < 5 → (xc_TF k).1 = "RootLoom$Frames" := by decide +kernel
def xc_TR : u_T := fun k => match k with
  | 0 => ("RootLoomModel", "thrown", "I", false)
  | 1 => ("RootLoomModel", "leftOf", "[I", true)
  | 2 => ("RootLoomModel", "rightOf", "[I", true)
  | 3 => ("RootLoomModel", "functions", "I", false)
  | 4 => ("RootLoomModel", "results", "[I", true)
  | 5 => ("RootLoomModel", "parameters", "[I", true)
  | 6 => ("RootLoomModel", "parameterTypes", "[I", true)
  | 7 => ("RootLoomModel", "bodies", "[I", true)
  | 8 => ("RootLoomModel", "nodes", "I", false)
  | 9 => ("RootLoomModel", "kinds", "[I", true)
  | 10 => ("RootLoomModel", "a", "[I", true)
  | 11 => ("RootLoomModel", "b", "[I", true)
  | 12 => ("RootLoomModel", "c", "[I", true)
  | 13 => ("RootLoomModel", "sizes", "[I", true)
  | 14 => ("RootLoomModel", "piles", "[I", true)
  | 15 => ("RootLoomModel", "isLaid", "Z", false)
  | 16 => ("RootLoomModel", "size", "I", false)
  | 17 => ("RootLoomModel", "op", "[I", true)
  | 18 => ("RootLoomModel", "with", "[I", true)
  | 19 => ("RootLoomModel", "takes", "[I", true)
  | 20 => ("RootLoomModel", "localMap", "[I", true)
  | 21 => ("RootLoomModel", "pileMap", "[I", true)
  | 22 => ("RootLoomModel", "matters", "[I", true)
  | 23 => ("RootLoomModel", "entries", "[I", true)
  | 24 => ("RootLoomModel", "laidLeft", "[I", true)
  | 25 => ("RootLoomModel", "laidRight", "[I", true)
  | 26 => ("RootLoomModel", "highest", "I", false)
  | 27 => ("RootLoomModel", "todo", "I", false)
  | 28 => ("RootLoomModel", "what", "[I", true)
  | 29 => ("RootLoomModel", "which", "[I", true)
  | 30 => ("RootLoomModel", "typed", "I", false)
  | 31 => ("RootLoomModel", "pileType", "[I", true)
  | 32 => ("RootLoomModel", "localType", "[I", true)
  | 33 => ("RootLoomModel", "waiting", "I", false)
  | 34 => ("RootLoomModel", "waitPlace", "[I", true)
  | 35 => ("RootLoomModel", "waitType", "[I", true)
  | 36 => ("RootLoomModel", "ill", "Z", false)
  | 37 => ("RootLoomModel", "heapWords", "I", false)
  | 38 => ("RootLoomModel", "forced", "I", false)
  | 39 => ("RootLoomModel", "over", "I", false)
  | 40 => ("RootLoomModel", "steps", "I", false)
  | 41 => ("RootLoomModel", "collections", "I", false)
  | 42 => ("RootLoomModel", "stayed", "I", false)
  | 43 => ("RootLoomModel", "mostFrames", "I", false)
  | 44 => ("RootLoomModel", "outs", "I", false)
  | 45 => ("RootLoomModel", "out", "[I", true)
  | 46 => ("RootLoomModel", "result", "I", false)
  | 47 => ("RootLoomModel", "resultType", "I", false)
  | 48 => ("RootLoomModel", "pairs", "I", false)
  | 49 => ("RootLoomModel", "there", "[Z", true)
  | 50 => ("RootLoomModel", "pairType", "[I", true)
  | 51 => ("RootLoomModel", "pairLeft", "[I", true)
  | 52 => ("RootLoomModel", "pairRight", "[I", true)
  | 53 => ("RootLoomModel", "stays", "[Z", true)
  | 54 => ("RootLoomModel", "marked", "I", false)
  | 55 => ("RootLoomModel", "mark", "[I", true)
  | 56 => ("RootLoomModel", "frame", "I", false)
  | 57 => ("RootLoomModel", "at", "I", false)
  | 58 => ("RootLoomModel", "numbered", "I", false)
  | 59 => ("RootLoomModel", "back", "[I", true)
  | 60 => ("RootLoomModel", "high", "[I", true)
  | 61 => ("RootLoomModel", "local", "[I", true)
  | 62 => ("RootLoomModel", "pile", "[I", true)
  | 63 => ("RootLoomModel", "toldType", "I", false)
  | _ => ("RootLoomModel", "told", "I", false)
def xc_tR : Nat → FieldType := fun k => match k with
  | 0 => .int
  | 1 => .array .int
  | 2 => .array .int
  | 3 => .int
  | 4 => .array .int
  | 5 => .array .int
  | 6 => .array .int
  | 7 => .array .int
  | 8 => .int
  | 9 => .array .int
  | 10 => .array .int
  | 11 => .array .int
  | 12 => .array .int
  | 13 => .array .int
  | 14 => .array .int
  | 15 => .boolean
  | 16 => .int
  | 17 => .array .int
  | 18 => .array .int
  | 19 => .array .int
  | 20 => .array .int
  | 21 => .array .int
  | 22 => .array .int
  | 23 => .array .int
  | 24 => .array .int
  | 25 => .array .int
  | 26 => .int
  | 27 => .int
  | 28 => .array .int
  | 29 => .array .int
  | 30 => .int
  | 31 => .array .int
  | 32 => .array .int
  | 33 => .int
  | 34 => .array .int
  | 35 => .array .int
  | 36 => .boolean
  | 37 => .int
  | 38 => .int
  | 39 => .int
  | 40 => .int
  | 41 => .int
  | 42 => .int
  | 43 => .int
  | 44 => .int
  | 45 => .array .int
  | 46 => .int
  | 47 => .int
  | 48 => .int
  | 49 => .array .boolean
  | 50 => .array .int
  | 51 => .array .int
  | 52 => .array .int
  | 53 => .array .boolean
  | 54 => .int
  | 55 => .array .int
  | 56 => .int
  | 57 => .int
  | 58 => .int
  | 59 => .array .int
  | 60 => .array .int
  | 61 => .array .int
  | 62 => .array .int
  | 63 => .int
  | _ => .int
theorem xc_nR : ∀ a, a < 65 → ∀ b, b < 65 → a ≠ b → (xc_TR a).2.1 ≠ (xc_TR b).2.1 := by decide +kernel
theorem xc_pR : ∀ k, k < 65 → parseFieldDescriptor (xc_TR k).2.2.1 = some (xc_tR k) := by decide +kernel
theorem xc_oR : ∀ k, k < 65 → (xc_TR k).1 = "RootLoomModel" := by decide +kernel
def xc_TE : u_T := fun _ => ("", "", "", false)
def xi_cl : List vw_C := [("RootLoom", xc_TA, 4), ("RootLoom$Source", xc_TS, 12), ("RootLoom$Code", xc_TC, 11), ("RootLoom$Weaver", xc_TV, 13), ("RootLoom$Machine", xc_TM, 18), ("RootLoom$Pairs", xc_TP, 9), ("RootLoom$Frames", xc_TF, 5), ("RootLoomModel", xc_TR, 65), ("java/lang/IndexOutOfBoundsException", xc_TE, 0), ("java/lang/IllegalArgumentException", xc_TE, 0)]
def xi_tt (ci k : Nat) : FieldType := match ci with
  | 0 => xc_tA k
  | 1 => xc_tS k
  | 2 => xc_tC k
  | 3 => xc_tV k
  | 4 => xc_tM k
  | 5 => xc_tP k
  | 6 => xc_tF k
  | 7 => xc_tR k
  | _ => .int
theorem xi_okC : ∀ (ci : Nat) (r : vw_C), xi_cl[ci]? = some r → (∀ k, k < r.2.2 → parseFieldDescriptor (r.2.1 k).2.2.1 = some (xi_tt ci k)) ∧ (∀ a, a < r.2.2 → ∀ b, b < r.2.2 → a ≠ b → (r.2.1 a).2.1 ≠ (r.2.1 b).2.1) ∧ (∀ k, k < r.2.2 → (r.2.1 k).1 = r.1)
  | 0, _, rfl => ⟨xc_pA, xc_nA, xc_oA⟩
  | 1, _, rfl => ⟨xc_pS, xc_nS, xc_oS⟩
  | 2, _, rfl => ⟨xc_pC, xc_nC, xc_oC⟩
  | 3, _, rfl => ⟨xc_pV, xc_nV, xc_oV⟩
  | 4, _, rfl => ⟨xc_pM, xc_nM, xc_oM⟩
  | 5, _, rfl => ⟨xc_pP, xc_nP, xc_oP⟩
  | 6, _, rfl => ⟨xc_pF, xc_nF, xc_oF⟩
  | 7, _, rfl => ⟨xc_pR, xc_nR, xc_oR⟩
  | 8, _, rfl => ⟨fun k h => absurd h (Nat.not_lt_zero k), fun a h => absurd h (Nat.not_lt_zero a), fun k h => absurd h (Nat.not_lt_zero k)⟩
  | 9, _, rfl => ⟨fun k h => absurd h (Nat.not_lt_zero k), fun a h => absurd h (Nat.not_lt_zero a), fun k h => absurd h (Nat.not_lt_zero k)⟩
  | _ + 10, _, h => nomatch h
-- links of a class: (place in its file, kind, ..)
def xl_L : List (Nat × Nat × Nat × Nat) := [(7, 3, 17, 0), (8, 2, 0, 0), (17, 3, 1, 0), (18, 2, 7, 0), (20, 3, 98, 0), (21, 3, 2, 0), (25, 3, 100, 0), (26, 3, 3, 0), (30, 3, 102, 0), (31, 3, 4, 0), (35, 3, 103, 0), (36, 3, 5, 0), (40, 3, 107, 0), (41, 3, 6, 0), (45, 3, 108, 0), (46, 3, 7, 0), (50, 3, 128, 0), (56, 3, 130, 0), (57, 3, 99, 0), (60, 3, 8, 0), (63, 3, 132, 0), (64, 3, 9, 0), (67, 3, 133, 0), (68, 3, 10, 0), (72, 3, 134, 0), (73, 3, 11, 0), (76, 3, 135, 0), (77, 3, 12, 0), (80, 3, 136, 0), (81, 3, 13, 0), (84, 3, 152, 0), (85, 3, 14, 0), (88, 3, 153, 0), (89, 3, 15, 0), (92, 3, 154, 0), (93, 3, 16, 0), (96, 3, 156, 0)]
def xl_A : List (Nat × Nat × Nat × Nat) := [(3, 4, 0, 0), (9, 2, 1, 0), (11, 3, 18, 1), (12, 0, 0, 0), (16, 2, 2, 0), (18, 3, 37, 1), (19, 0, 0, 1), (23, 2, 3, 0), (25, 3, 44, 0), (28, 0, 0, 2), (32, 2, 4, 0), (34, 3, 66, 0), (35, 0, 0, 3), (39, 3, 19, 0), (43, 3, 22, 0), (47, 3, 23, 0), (51, 3, 33, 0), (55, 3, 67, 0), (58, 3, 45, 0), (62, 0, 2, 0), (66, 0, 2, 1), (70, 0, 2, 2), (73, 0, 2, 3), (76, 3, 43, 0), (86, 0, 2, 4), (90, 0, 2, 5), (93, 3, 42, 0), (97, 3, 40, 0), (100, 0, 2, 6), (103, 0, 2, 7), (106, 0, 4, 4), (109, 0, 4, 5), (112, 3, 36, 0), (115, 3, 68, 0), (118, 3, 81, 0), (121, 3, 82, 0), (124, 3, 83, 0), (128, 0, 4, 17)]
def xl_S : List (Nat × Nat × Nat × Nat) := [(3, 4, 0, 0), (9, 0, 1, 0), (15, 0, 1, 1), (18, 0, 1, 2), (21, 0, 1, 3), (24, 0, 1, 4), (27, 0, 1, 5), (30, 0, 1, 6), (34, 0, 1, 7), (37, 0, 1, 8), (40, 0, 1, 9), (43, 0, 1, 10), (46, 0, 1, 11), (49, 3, 20, 0), (53, 3, 21, 0), (56, 1, 1, 0), (59, 3, 24, 0), (63, 3, 28, 0), (67, 3, 25, 0), (70, 3, 26, 0), (73, 3, 34, 0), (77, 3, 31, 0), (80, 3, 27, 0), (83, 3, 29, 0), (87, 3, 30, 0), (90, 3, 32, 0), (93, 3, 157, 0), (98, 3, 158, 0)]
def xl_C : List (Nat × Nat × Nat × Nat) := [(3, 4, 0, 0), (9, 0, 2, 0), (15, 0, 2, 1), (19, 0, 2, 2), (22, 0, 2, 3), (25, 0, 2, 4), (29, 0, 2, 5), (32, 0, 2, 6), (35, 0, 2, 7), (38, 0, 2, 8), (41, 0, 2, 9), (44, 0, 2, 10), (47, 0, 1, 0), (50, 0, 1, 1)]
def xl_V : List (Nat × Nat × Nat × Nat) := [(3, 4, 0, 0), (9, 0, 3, 2), (15, 0, 3, 3), (18, 0, 3, 4), (21, 0, 3, 5), (24, 0, 3, 6), (28, 0, 3, 7), (31, 0, 3, 8), (34, 0, 3, 9), (37, 0, 3, 10), (41, 0, 3, 11), (44, 0, 3, 12), (47, 0, 3, 0), (51, 0, 3, 1), (55, 3, 38, 0), (60, 0, 1, 6), (65, 0, 1, 5), (68, 0, 1, 9), (71, 0, 1, 10), (74, 3, 157, 0), (80, 3, 46, 0), (84, 3, 64, 0), (87, 3, 41, 0), (91, 0, 2, 3), (94, 0, 2, 0), (97, 0, 2, 1), (100, 0, 2, 8), (103, 0, 1, 3), (106, 3, 34, 0), (109, 3, 47, 0), (113, 3, 48, 0), (117, 3, 61, 0), (120, 3, 54, 0), (124, 0, 1, 2), (127, 3, 39, 0), (130, 3, 30, 0), (133, 3, 62, 0), (137, 0, 1, 7), (140, 3, 53, 0), (143, 0, 2, 5), (146, 3, 31, 0), (149, 3, 63, 0), (152, 3, 49, 0), (155, 3, 50, 0), (158, 3, 52, 0), (161, 3, 55, 0), (164, 0, 1, 0), (167, 3, 57, 0), (170, 0, 1, 1), (173, 3, 58, 0), (176, 3, 35, 0), (180, 3, 59, 0), (183, 3, 60, 0), (187, 3, 51, 0), (191, 3, 56, 0), (194, 0, 2, 7), (197, 0, 2, 2), (200, 3, 65, 0), (203, 3, 40, 0), (206, 0, 2, 6), (209, 0, 2, 4)]
def xl_M : List (Nat × Nat × Nat × Nat) := [(3, 4, 0, 0), (9, 2, 5, 0), (11, 3, 84, 0), (12, 0, 4, 2), (18, 2, 6, 0), (20, 3, 91, 1), (21, 0, 4, 3), (25, 0, 4, 4), (29, 0, 4, 5), (32, 0, 4, 6), (35, 0, 4, 7), (38, 0, 4, 8), (41, 0, 4, 9), (44, 0, 4, 10), (47, 0, 4, 11), (50, 0, 4, 12), (53, 0, 4, 13), (57, 0, 4, 14), (60, 0, 4, 15), (63, 0, 4, 16), (66, 0, 4, 17), (69, 0, 4, 0), (73, 0, 4, 1), (77, 3, 85, 0), (80, 3, 92, 0), (84, 3, 42, 0), (90, 0, 1, 2), (95, 3, 69, 0), (98, 3, 86, 0), (102, 0, 5, 1), (105, 0, 5, 0), (108, 0, 2, 10), (111, 0, 2, 9), (114, 0, 2, 5), (117, 0, 2, 4), (120, 3, 93, 0), (124, 3, 94, 0), (127, 3, 95, 0), (130, 3, 96, 0), (134, 3, 70, 0), (137, 3, 71, 0), (140, 3, 76, 0), (144, 3, 77, 0), (147, 3, 78, 0), (150, 3, 79, 0), (153, 3, 80, 0), (156, 3, 72, 0), (160, 3, 73, 0), (163, 3, 74, 0), (166, 3, 90, 0), (170, 0, 6, 4), (173, 0, 1, 3), (176, 3, 97, 0), (179, 3, 157, 0), (185, 0, 6, 3), (188, 3, 87, 0), (191, 3, 75, 0), (194, 3, 89, 0), (198, 0, 2, 6), (201, 0, 6, 0), (204, 3, 88, 0), (207, 0, 6, 2), (210, 0, 2, 7), (213, 0, 6, 1)]
def xl_P : List (Nat × Nat × Nat × Nat) := [(3, 4, 0, 0), (9, 0, 5, 0), (15, 0, 5, 1), (18, 0, 5, 2), (21, 0, 5, 3), (24, 0, 5, 4), (28, 0, 5, 5), (31, 0, 5, 6), (34, 0, 5, 7), (37, 0, 5, 8), (40, 3, 88, 0)]
def xl_F : List (Nat × Nat × Nat × Nat) := [(3, 4, 0, 0), (9, 0, 6, 0), (15, 0, 6, 1), (18, 0, 6, 2), (21, 0, 6, 3), (24, 0, 6, 4)]
def xl_R : List (Nat × Nat × Nat × Nat) := [(1, 4, 0, 0), (7, 0, 7, 1), (13, 0, 7, 2), (16, 0, 7, 4), (19, 0, 7, 5), (22, 0, 7, 6), (25, 0, 7, 7), (28, 0, 7, 9), (31, 0, 7, 10), (34, 0, 7, 11), (37, 0, 7, 12), (40, 0, 7, 13), (43, 0, 7, 14), (46, 0, 7, 17), (49, 0, 7, 18), (52, 0, 7, 19), (55, 0, 7, 20), (58, 0, 7, 21), (61, 0, 7, 22), (64, 0, 7, 23), (67, 0, 7, 24), (70, 0, 7, 25), (73, 0, 7, 28), (76, 0, 7, 29), (79, 0, 7, 31), (82, 0, 7, 32), (85, 0, 7, 34), (88, 0, 7, 35), (91, 0, 7, 37), (95, 0, 7, 45), (98, 0, 7, 49), (102, 0, 7, 50), (105, 0, 7, 51), (108, 0, 7, 52), (111, 0, 7, 53), (114, 0, 7, 55), (117, 0, 7, 59), (120, 0, 7, 60), (123, 0, 7, 61), (126, 0, 7, 62), (129, 0, 7, 0), (132, 3, 101, 0), (136, 0, 7, 3), (139, 0, 7, 8), (142, 3, 105, 0), (146, 3, 106, 0), (149, 3, 104, 0), (153, 3, 111, 0), (157, 3, 112, 0), (161, 3, 110, 0), (165, 0, 7, 26), (168, 0, 7, 27), (171, 0, 7, 16), (174, 0, 7, 36), (178, 0, 7, 30), (181, 3, 116, 0), (185, 3, 117, 0), (188, 3, 118, 0), (192, 3, 114, 0), (195, 3, 121, 0), (199, 3, 122, 0), (203, 3, 120, 0), (206, 0, 7, 33), (209, 3, 123, 0), (212, 3, 124, 0), (215, 3, 115, 0), (218, 3, 119, 0), (221, 3, 125, 0), (224, 3, 126, 0), (227, 0, 7, 39), (230, 0, 7, 15), (233, 3, 109, 0), (237, 3, 113, 0), (240, 3, 127, 0), (243, 3, 129, 0), (246, 3, 131, 0), (249, 0, 7, 38), (252, 0, 7, 54), (255, 3, 142, 0), (258, 0, 7, 41), (261, 0, 7, 56), (264, 0, 7, 57), (267, 3, 141, 0), (270, 0, 7, 48), (273, 0, 7, 42), (276, 0, 7, 58), (279, 3, 149, 0), (282, 3, 139, 0), (286, 3, 140, 0), (289, 3, 144, 0), (292, 3, 145, 0), (295, 0, 7, 43), (298, 0, 7, 46), (301, 0, 7, 44), (304, 3, 147, 0), (307, 3, 148, 0), (310, 3, 150, 0), (313, 3, 151, 0), (316, 0, 7, 40), (319, 3, 138, 0), (322, 3, 143, 0), (325, 3, 146, 0), (328, 0, 7, 47), (331, 3, 137, 0), (334, 0, 7, 63), (337, 0, 7, 64), (340, 3, 155, 0)]
def xl_J : List (Nat × Nat × Nat × Nat) := []
def xi_ll : List (String × List (Nat × Nat × Nat × Nat)) := [("RootLoomLaw", xl_L), ("RootLoom", xl_A), ("RootLoom$Source", xl_S), ("RootLoom$Code", xl_C), ("RootLoom$Weaver", xl_V), ("RootLoom$Machine", xl_M), ("RootLoom$Pairs", xl_P), ("RootLoom$Frames", xl_F), ("RootLoomModel", xl_R), ("java/lang/Math", xl_J)]
def xm_0 : xi_M := (x, code, maxLocals, ret, 3, 1, 99, 0)
def xm_1 : xi_M := (⟨"RootLoom", "<init>", "()V"⟩, prog_1_method_1_code, 1, none, 2, 0, 0, 1)
def xm_2 : xi_M := (⟨"RootLoom", "type", "(III)Z"⟩, prog_1_method_2_code, 4, some .boolean, 0, 3, 0, 1)
def xm_3 : xi_M := (⟨"RootLoom", "function", "(IIIII)I"⟩, prog_1_method_3_code, 6, some .int, 0, 5, 0, 1)
def xm_4 : xi_M := (⟨"RootLoom", "node", "(IIII)I"⟩, prog_1_method_4_code, 5, some .int, 0, 4, 0, 1)
def xm_5 : xi_M := (⟨"RootLoom", "body", "(II)Z"⟩, prog_1_method_5_code, 3, some .boolean, 0, 2, 0, 1)
def xm_6 : xi_M := (⟨"RootLoom", "lay", "()I"⟩, prog_1_method_6_code, 1, some .int, 0, 0, 0, 1)
def xm_7 : xi_M := (⟨"RootLoom", "laid", "(I)I"⟩, prog_1_method_7_code, 2, some .int, 0, 1, 0, 1)
def xm_8 : xi_M := (⟨"RootLoom", "entry", "(I)I"⟩, prog_1_method_9_code, 2, some .int, 0, 1, 0, 1)
def xm_9 : xi_M := (⟨"RootLoom", "map", "(II)I"⟩, prog_1_method_10_code, 3, some .int, 0, 2, 0, 1)
def xm_10 : xi_M := (⟨"RootLoom", "heap", "(I)Z"⟩, prog_1_method_11_code, 2, some .boolean, 0, 1, 0, 1)
def xm_11 : xi_M := (⟨"RootLoom", "force", "(I)Z"⟩, prog_1_method_12_code, 2, some .boolean, 0, 1, 0, 1)
def xm_12 : xi_M := (⟨"RootLoom", "run", "(IIII)I"⟩, prog_1_method_13_code, 5, some .int, 0, 4, 0, 1)
def xm_13 : xi_M := (⟨"RootLoom", "latest", "(I)I"⟩, prog_1_method_14_code, 2, some .int, 0, 1, 0, 1)
def xm_14 : xi_M := (⟨"RootLoom", "out", "(I)I"⟩, prog_1_method_15_code, 2, some .int, 0, 1, 0, 1)
def xm_15 : xi_M := (⟨"RootLoom", "tell", "(II)I"⟩, prog_1_method_16_code, 3, some .int, 0, 2, 0, 1)
def xm_16 : xi_M := (⟨"RootLoom", "value", "(II)I"⟩, prog_1_method_17_code, 3, some .int, 0, 2, 0, 1)
def xm_17 : xi_M := (⟨"RootLoom", "instruction", "(II)I"⟩, prog_1_method_8_code, 3, some .int, 0, 2, 0, 1)
def xm_18 : xi_M := (⟨"RootLoom$Source", "<init>", "()V"⟩, prog_6_method_1_code, 1, none, 2, 0, 1, 2)
def xm_19 : xi_M := (⟨"RootLoom$Source", "setType", "(III)Z"⟩, prog_6_method_2_code, 4, some .boolean, 0, 3, 1, 2)
def xm_20 : xi_M := (⟨"RootLoom$Source", "isPairType", "(I)Z"⟩, prog_6_method_16_code, 1, some .boolean, 1, 1, 1, 2)
def xm_21 : xi_M := (⟨"RootLoom$Source", "isType", "(I)Z"⟩, prog_6_method_15_code, 1, some .boolean, 1, 1, 1, 2)
def xm_22 : xi_M := (⟨"RootLoom$Source", "addFunction", "(IIIII)I"⟩, prog_6_method_3_code, 7, some .int, 0, 5, 1, 2)
def xm_23 : xi_M := (⟨"RootLoom$Source", "addNode", "(IIII)I"⟩, prog_6_method_4_code, 7, some .int, 0, 4, 1, 2)
def xm_24 : xi_M := (⟨"RootLoom$Source", "fits", "(II)Z"⟩, prog_6_method_11_code, 3, some .boolean, 0, 2, 1, 2)
def xm_25 : xi_M := (⟨"RootLoom$Source", "isFunction", "(I)Z"⟩, prog_6_method_17_code, 2, some .boolean, 0, 1, 1, 2)
def xm_26 : xi_M := (⟨"RootLoom$Source", "isExpression", "(I)Z"⟩, prog_6_method_19_code, 2, some .boolean, 0, 1, 1, 2)
def xm_27 : xi_M := (⟨"RootLoom$Source", "isNode", "(I)Z"⟩, prog_6_method_18_code, 2, some .boolean, 0, 1, 1, 2)
def xm_28 : xi_M := (⟨"RootLoom$Source", "measure", "(I)V"⟩, prog_6_method_12_code, 6, none, 0, 1, 1, 2)
def xm_29 : xi_M := (⟨"RootLoom$Source", "ownInstructions", "(I)I"⟩, prog_6_method_13_code, 1, some .int, 1, 1, 1, 2)
def xm_30 : xi_M := (⟨"RootLoom$Source", "childOf", "(II)I"⟩, prog_6_method_9_code, 4, some .int, 0, 2, 1, 2)
def xm_31 : xi_M := (⟨"RootLoom$Source", "partOf", "(II)I"⟩, prog_6_method_8_code, 3, some .int, 0, 2, 1, 2)
def xm_32 : xi_M := (⟨"RootLoom$Source", "waitingAt", "(II)I"⟩, prog_6_method_14_code, 2, some .int, 1, 2, 1, 2)
def xm_33 : xi_M := (⟨"RootLoom$Source", "setBody", "(II)Z"⟩, prog_6_method_5_code, 3, some .boolean, 0, 2, 1, 2)
def xm_34 : xi_M := (⟨"RootLoom$Source", "parameterType", "(II)I"⟩, prog_6_method_7_code, 3, some .int, 0, 2, 1, 2)
def xm_35 : xi_M := (⟨"RootLoom$Source", "argumentsOf", "(I)I"⟩, prog_6_method_10_code, 4, some .int, 0, 1, 1, 2)
def xm_36 : xi_M := (⟨"RootLoom$Source", "takesOnlyInts", "(I)Z"⟩, prog_6_method_6_code, 3, some .boolean, 0, 1, 1, 2)
def xm_37 : xi_M := (⟨"RootLoom$Code", "<init>", "()V"⟩, prog_2_method_1_code, 1, none, 2, 0, 2, 3)
def xm_38 : xi_M := (⟨"RootLoom$Code", "clear", "()V"⟩, prog_2_method_2_code, 2, none, 0, 0, 2, 3)
def xm_39 : xi_M := (⟨"RootLoom$Code", "add", "(II)I"⟩, prog_2_method_3_code, 4, some .int, 0, 2, 2, 3)
def xm_40 : xi_M := (⟨"RootLoom$Code", "isMapped", "(I)Z"⟩, prog_2_method_6_code, 2, some .boolean, 0, 1, 2, 3)
def xm_41 : xi_M := (⟨"RootLoom$Code", "keepTypes", "(LRootLoom$Source;)V"⟩, prog_2_method_4_code, 3, none, 0, 1, 2, 3)
def xm_42 : xi_M := (⟨"RootLoom$Code", "startOf", "(I)I"⟩, prog_2_method_7_code, 2, some .int, 0, 1, 2, 3)
def xm_43 : xi_M := (⟨"RootLoom$Code", "has", "(I)Z"⟩, prog_2_method_5_code, 2, some .boolean, 0, 1, 2, 3)
def xm_44 : xi_M := (⟨"RootLoom$Weaver", "<init>", "(LRootLoom$Source;LRootLoom$Code;)V"⟩, prog_7_method_1_code, 3, none, 2, 2, 3, 4)
def xm_45 : xi_M := (⟨"RootLoom$Weaver", "weave", "()I"⟩, prog_7_method_2_code, 5, some .int, 0, 0, 3, 4)
def xm_46 : xi_M := (⟨"RootLoom$Weaver", "weaveFunction", "(I)Z"⟩, prog_7_method_3_code, 4, some .boolean, 0, 1, 3, 4)
def xm_47 : xi_M := (⟨"RootLoom$Weaver", "begin", "(I)V"⟩, prog_7_method_4_code, 2, none, 0, 1, 3, 4)
def xm_48 : xi_M := (⟨"RootLoom$Weaver", "finish", "(II)V"⟩, prog_7_method_7_code, 4, none, 0, 2, 3, 4)
def xm_49 : xi_M := (⟨"RootLoom$Weaver", "putType", "(I)V"⟩, prog_7_method_20_code, 2, none, 0, 1, 3, 4)
def xm_50 : xi_M := (⟨"RootLoom$Weaver", "weaveLoad", "(I)V"⟩, prog_7_method_8_code, 4, none, 0, 1, 3, 4)
def xm_51 : xi_M := (⟨"RootLoom$Weaver", "must", "(Z)V"⟩, prog_7_method_16_code, 2, none, 0, 1, 3, 4)
def xm_52 : xi_M := (⟨"RootLoom$Weaver", "weaveSum", "(I)V"⟩, prog_7_method_10_code, 2, none, 0, 1, 3, 4)
def xm_53 : xi_M := (⟨"RootLoom$Weaver", "takeInt", "()V"⟩, prog_7_method_17_code, 1, none, 0, 0, 3, 4)
def xm_54 : xi_M := (⟨"RootLoom$Weaver", "takeType", "()I"⟩, prog_7_method_19_code, 1, some .int, 0, 0, 3, 4)
def xm_55 : xi_M := (⟨"RootLoom$Weaver", "weaveNew", "(I)V"⟩, prog_7_method_11_code, 2, none, 0, 1, 3, 4)
def xm_56 : xi_M := (⟨"RootLoom$Weaver", "addMapped", "(II)V"⟩, prog_7_method_15_code, 6, none, 0, 2, 3, 4)
def xm_57 : xi_M := (⟨"RootLoom$Weaver", "takePairType", "()I"⟩, prog_7_method_18_code, 2, some .int, 0, 0, 3, 4)
def xm_58 : xi_M := (⟨"RootLoom$Weaver", "joinWays", "(I)V"⟩, prog_7_method_14_code, 2, none, 0, 1, 3, 4)
def xm_59 : xi_M := (⟨"RootLoom$Weaver", "weaveCall", "(II)V"⟩, prog_7_method_13_code, 4, none, 0, 2, 3, 4)
def xm_60 : xi_M := (⟨"RootLoom$Weaver", "weavePut", "(I[I)V"⟩, prog_7_method_12_code, 4, none, 0, 2, 3, 4)
def xm_61 : xi_M := (⟨"RootLoom$Weaver", "goDown", "(I)V"⟩, prog_7_method_5_code, 5, none, 0, 1, 3, 4)
def xm_62 : xi_M := (⟨"RootLoom$Weaver", "prepare", "(III)V"⟩, prog_7_method_6_code, 6, none, 0, 3, 3, 4)
def xm_63 : xi_M := (⟨"RootLoom$Weaver", "weaveStore", "(I)V"⟩, prog_7_method_9_code, 2, none, 0, 1, 3, 4)
def xm_64 : xi_M := (⟨"RootLoom$Weaver", "findWhatMatters", "()V"⟩, prog_7_method_21_code, 3, none, 0, 0, 3, 4)
def xm_65 : xi_M := (⟨"RootLoom$Weaver", "mattersBehind", "(I)I"⟩, prog_7_method_22_code, 2, some .int, 0, 1, 3, 4)
def xm_66 : xi_M := (⟨"RootLoom$Machine", "<init>", "(LRootLoom$Source;LRootLoom$Code;)V"⟩, prog_4_method_1_code, 3, none, 2, 2, 4, 5)
def xm_67 : xi_M := (⟨"RootLoom$Machine", "forget", "()V"⟩, prog_4_method_2_code, 1, none, 0, 0, 4, 5)
def xm_68 : xi_M := (⟨"RootLoom$Machine", "perform", "(IIII)I"⟩, prog_4_method_3_code, 5, some .int, 0, 4, 4, 5)
def xm_69 : xi_M := (⟨"RootLoom$Machine", "doNext", "()V"⟩, prog_4_method_7_code, 3, none, 0, 0, 4, 5)
def xm_70 : xi_M := (⟨"RootLoom$Machine", "doSum", "(I)V"⟩, prog_4_method_8_code, 4, none, 0, 1, 4, 5)
def xm_71 : xi_M := (⟨"RootLoom$Machine", "doNew", "(II)V"⟩, prog_4_method_9_code, 5, none, 0, 2, 4, 5)
def xm_72 : xi_M := (⟨"RootLoom$Machine", "isForced", "()Z"⟩, prog_4_method_15_code, 1, some .boolean, 0, 0, 4, 5)
def xm_73 : xi_M := (⟨"RootLoom$Machine", "isFull", "()Z"⟩, prog_4_method_16_code, 1, some .boolean, 0, 0, 4, 5)
def xm_74 : xi_M := (⟨"RootLoom$Machine", "collect", "(I)V"⟩, prog_4_method_17_code, 3, none, 0, 1, 4, 5)
def xm_75 : xi_M := (⟨"RootLoom$Machine", "keepFrom", "(II)V"⟩, prog_4_method_18_code, 4, none, 0, 2, 4, 5)
def xm_76 : xi_M := (⟨"RootLoom$Machine", "doGet", "([I)V"⟩, prog_4_method_12_code, 3, none, 0, 1, 4, 5)
def xm_77 : xi_M := (⟨"RootLoom$Machine", "doSet", "([I)V"⟩, prog_4_method_13_code, 4, none, 0, 1, 4, 5)
def xm_78 : xi_M := (⟨"RootLoom$Machine", "doCall", "(II)V"⟩, prog_4_method_10_code, 3, none, 0, 2, 4, 5)
def xm_79 : xi_M := (⟨"RootLoom$Machine", "doReturn", "()V"⟩, prog_4_method_11_code, 2, none, 0, 0, 4, 5)
def xm_80 : xi_M := (⟨"RootLoom$Machine", "doPrint", "()V"⟩, prog_4_method_14_code, 2, none, 0, 0, 4, 5)
def xm_81 : xi_M := (⟨"RootLoom$Machine", "report", "(I)I"⟩, prog_4_method_4_code, 2, some .int, 0, 1, 4, 5)
def xm_82 : xi_M := (⟨"RootLoom$Machine", "printedAt", "(I)I"⟩, prog_4_method_5_code, 2, some .int, 0, 1, 4, 5)
def xm_83 : xi_M := (⟨"RootLoom$Machine", "walk", "(II)I"⟩, prog_4_method_6_code, 7, some .int, 0, 2, 4, 5)
def xm_84 : xi_M := (⟨"RootLoom$Pairs", "<init>", "()V"⟩, prog_5_method_1_code, 2, none, 2, 0, 5, 6)
def xm_85 : xi_M := (⟨"RootLoom$Pairs", "clear", "()V"⟩, prog_5_method_2_code, 1, none, 0, 0, 5, 6)
def xm_86 : xi_M := (⟨"RootLoom$Pairs", "words", "()I"⟩, prog_5_method_3_code, 1, some .int, 0, 0, 5, 6)
def xm_87 : xi_M := (⟨"RootLoom$Pairs", "beginCollection", "()V"⟩, prog_5_method_5_code, 1, none, 0, 0, 5, 6)
def xm_88 : xi_M := (⟨"RootLoom$Pairs", "keep", "(I)V"⟩, prog_5_method_6_code, 2, none, 0, 1, 5, 6)
def xm_89 : xi_M := (⟨"RootLoom$Pairs", "endCollection", "([I[I)V"⟩, prog_5_method_7_code, 6, none, 0, 2, 5, 6)
def xm_90 : xi_M := (⟨"RootLoom$Pairs", "make", "(III)I"⟩, prog_5_method_4_code, 5, some .int, 0, 3, 5, 6)
def xm_91 : xi_M := (⟨"RootLoom$Frames", "<init>", "()V"⟩, prog_3_method_1_code, 1, none, 2, 0, 6, 7)
def xm_92 : xi_M := (⟨"RootLoom$Frames", "openFirst", "(III)V"⟩, prog_3_method_2_code, 4, none, 0, 3, 6, 7)
def xm_93 : xi_M := (⟨"RootLoom$Frames", "push", "(I)V"⟩, prog_3_method_4_code, 2, none, 0, 1, 6, 7)
def xm_94 : xi_M := (⟨"RootLoom$Frames", "load", "(I)I"⟩, prog_3_method_6_code, 2, some .int, 0, 1, 6, 7)
def xm_95 : xi_M := (⟨"RootLoom$Frames", "pop", "()I"⟩, prog_3_method_5_code, 1, some .int, 0, 0, 6, 7)
def xm_96 : xi_M := (⟨"RootLoom$Frames", "store", "(II)V"⟩, prog_3_method_7_code, 3, none, 0, 2, 6, 7)
def xm_97 : xi_M := (⟨"RootLoom$Frames", "openNext", "(II)V"⟩, prog_3_method_3_code, 6, none, 0, 2, 6, 7)
def xm_98 : xi_M := (⟨"RootLoomModel", "<init>", "()V"⟩, prog_9_method_1_code, 1, none, 2, 0, 7, 8)
def xm_99 : xi_M := (⟨"RootLoomModel", "thrown", "()I"⟩, prog_9_method_2_code, 1, some .int, 0, 0, 7, 8)
def xm_100 : xi_M := (⟨"RootLoomModel", "type", "(III)Z"⟩, prog_9_method_4_code, 4, some .boolean, 0, 3, 7, 8)
def xm_101 : xi_M := (⟨"RootLoomModel", "in", "(III)Z"⟩, prog_9_method_3_code, 3, some .boolean, 1, 3, 7, 8)
def xm_102 : xi_M := (⟨"RootLoomModel", "function", "(IIIII)I"⟩, prog_9_method_5_code, 7, some .int, 0, 5, 7, 8)
def xm_103 : xi_M := (⟨"RootLoomModel", "node", "(IIII)I"⟩, prog_9_method_9_code, 5, some .int, 0, 4, 7, 8)
def xm_104 : xi_M := (⟨"RootLoomModel", "mayBe", "(IIII)Z"⟩, prog_9_method_8_code, 5, some .boolean, 0, 4, 7, 8)
def xm_105 : xi_M := (⟨"RootLoomModel", "isExpression", "(I)Z"⟩, prog_9_method_6_code, 2, some .boolean, 0, 1, 7, 8)
def xm_106 : xi_M := (⟨"RootLoomModel", "isArgument", "(I)Z"⟩, prog_9_method_7_code, 2, some .boolean, 0, 1, 7, 8)
def xm_107 : xi_M := (⟨"RootLoomModel", "body", "(II)Z"⟩, prog_9_method_10_code, 3, some .boolean, 0, 2, 7, 8)
def xm_108 : xi_M := (⟨"RootLoomModel", "lay", "()I"⟩, prog_9_method_30_code, 2, some .int, 0, 0, 7, 8)
def xm_109 : xi_M := (⟨"RootLoomModel", "isTooLarge", "()Z"⟩, prog_9_method_14_code, 4, some .boolean, 0, 0, 7, 8)
def xm_110 : xi_M := (⟨"RootLoomModel", "measure", "(I)V"⟩, prog_9_method_13_code, 5, none, 0, 1, 7, 8)
def xm_111 : xi_M := (⟨"RootLoomModel", "larger", "(II)I"⟩, prog_9_method_12_code, 2, some .int, 1, 2, 7, 8)
def xm_112 : xi_M := (⟨"RootLoomModel", "cut", "(I)I"⟩, prog_9_method_11_code, 1, some .int, 1, 1, 7, 8)
def xm_113 : xi_M := (⟨"RootLoomModel", "layFunction", "(I)V"⟩, prog_9_method_28_code, 4, none, 0, 1, 7, 8)
def xm_114 : xi_M := (⟨"RootLoomModel", "later", "(II)V"⟩, prog_9_method_15_code, 3, none, 0, 2, 7, 8)
def xm_115 : xi_M := (⟨"RootLoomModel", "visit", "(I)V"⟩, prog_9_method_21_code, 3, none, 0, 1, 7, 8)
def xm_116 : xi_M := (⟨"RootLoomModel", "say", "(II)V"⟩, prog_9_method_16_code, 3, none, 0, 2, 7, 8)
def xm_117 : xi_M := (⟨"RootLoomModel", "pushType", "(I)V"⟩, prog_9_method_18_code, 2, none, 0, 1, 7, 8)
def xm_118 : xi_M := (⟨"RootLoomModel", "need", "(Z)V"⟩, prog_9_method_17_code, 2, none, 0, 1, 7, 8)
def xm_119 : xi_M := (⟨"RootLoomModel", "behind", "(I)V"⟩, prog_9_method_25_code, 4, none, 0, 1, 7, 8)
def xm_120 : xi_M := (⟨"RootLoomModel", "callBehind", "(I)V"⟩, prog_9_method_22_code, 6, none, 0, 1, 7, 8)
def xm_121 : xi_M := (⟨"RootLoomModel", "sayMapped", "(III)V"⟩, prog_9_method_20_code, 5, none, 0, 3, 7, 8)
def xm_122 : xi_M := (⟨"RootLoomModel", "popType", "()I"⟩, prog_9_method_19_code, 1, some .int, 0, 0, 7, 8)
def xm_123 : xi_M := (⟨"RootLoomModel", "twoBehind", "(I)V"⟩, prog_9_method_23_code, 5, none, 0, 1, 7, 8)
def xm_124 : xi_M := (⟨"RootLoomModel", "oneBehind", "(I)V"⟩, prog_9_method_24_code, 4, none, 0, 1, 7, 8)
def xm_125 : xi_M := (⟨"RootLoomModel", "second", "(I)V"⟩, prog_9_method_26_code, 3, none, 0, 1, 7, 8)
def xm_126 : xi_M := (⟨"RootLoomModel", "last", "(I)V"⟩, prog_9_method_27_code, 2, none, 0, 1, 7, 8)
def xm_127 : xi_M := (⟨"RootLoomModel", "seeWhatMatters", "()V"⟩, prog_9_method_29_code, 3, none, 0, 0, 7, 8)
def xm_128 : xi_M := (⟨"RootLoomModel", "laid", "(I)I"⟩, prog_9_method_32_code, 4, some .int, 0, 1, 7, 8)
def xm_129 : xi_M := (⟨"RootLoomModel", "isMapped", "(I)Z"⟩, prog_9_method_31_code, 2, some .boolean, 0, 1, 7, 8)
def xm_130 : xi_M := (⟨"RootLoomModel", "instruction", "(II)I"⟩, prog_9_method_34_code, 3, some .int, 0, 2, 7, 8)
def xm_131 : xi_M := (⟨"RootLoomModel", "isThere", "(I)Z"⟩, prog_9_method_33_code, 2, some .boolean, 0, 1, 7, 8)
def xm_132 : xi_M := (⟨"RootLoomModel", "entry", "(I)I"⟩, prog_9_method_35_code, 2, some .int, 0, 1, 7, 8)
def xm_133 : xi_M := (⟨"RootLoomModel", "map", "(II)I"⟩, prog_9_method_36_code, 3, some .int, 0, 2, 7, 8)
def xm_134 : xi_M := (⟨"RootLoomModel", "heap", "(I)Z"⟩, prog_9_method_37_code, 2, some .boolean, 0, 1, 7, 8)
def xm_135 : xi_M := (⟨"RootLoomModel", "force", "(I)Z"⟩, prog_9_method_38_code, 2, some .boolean, 0, 1, 7, 8)
def xm_136 : xi_M := (⟨"RootLoomModel", "run", "(IIII)I"⟩, prog_9_method_54_code, 7, some .int, 0, 4, 7, 8)
def xm_137 : xi_M := (⟨"RootLoomModel", "go", "()V"⟩, prog_9_method_53_code, 1, none, 0, 0, 7, 8)
def xm_138 : xi_M := (⟨"RootLoomModel", "call", "(II)V"⟩, prog_9_method_47_code, 5, none, 0, 2, 7, 8)
def xm_139 : xi_M := (⟨"RootLoomModel", "isDue", "(Z)Z"⟩, prog_9_method_44_code, 2, some .boolean, 0, 1, 7, 8)
def xm_140 : xi_M := (⟨"RootLoomModel", "collect", "()V"⟩, prog_9_method_41_code, 3, none, 0, 0, 7, 8)
def xm_141 : xi_M := (⟨"RootLoomModel", "stayOf", "(III)V"⟩, prog_9_method_40_code, 5, none, 0, 3, 7, 8)
def xm_142 : xi_M := (⟨"RootLoomModel", "stay", "(I)V"⟩, prog_9_method_39_code, 2, none, 0, 1, 7, 8)
def xm_143 : xi_M := (⟨"RootLoomModel", "giveBack", "()V"⟩, prog_9_method_48_code, 2, none, 0, 0, 7, 8)
def xm_144 : xi_M := (⟨"RootLoomModel", "pop", "()I"⟩, prog_9_method_43_code, 1, some .int, 0, 0, 7, 8)
def xm_145 : xi_M := (⟨"RootLoomModel", "push", "(I)V"⟩, prog_9_method_42_code, 2, none, 0, 1, 7, 8)
def xm_146 : xi_M := (⟨"RootLoomModel", "perform", "(II)V"⟩, prog_9_method_52_code, 4, none, 0, 2, 7, 8)
def xm_147 : xi_M := (⟨"RootLoomModel", "count", "(I)V"⟩, prog_9_method_51_code, 4, none, 0, 1, 7, 8)
def xm_148 : xi_M := (⟨"RootLoomModel", "make", "(I)V"⟩, prog_9_method_46_code, 3, none, 0, 1, 7, 8)
def xm_149 : xi_M := (⟨"RootLoomModel", "hasRoom", "()Z"⟩, prog_9_method_45_code, 1, some .boolean, 0, 0, 7, 8)
def xm_150 : xi_M := (⟨"RootLoomModel", "putOut", "()V"⟩, prog_9_method_50_code, 2, none, 0, 0, 7, 8)
def xm_151 : xi_M := (⟨"RootLoomModel", "reach", "(I)V"⟩, prog_9_method_49_code, 5, none, 0, 1, 7, 8)
def xm_152 : xi_M := (⟨"RootLoomModel", "latest", "(I)I"⟩, prog_9_method_55_code, 2, some .int, 0, 1, 7, 8)
def xm_153 : xi_M := (⟨"RootLoomModel", "out", "(I)I"⟩, prog_9_method_56_code, 2, some .int, 0, 1, 7, 8)
def xm_154 : xi_M := (⟨"RootLoomModel", "tell", "(II)I"⟩, prog_9_method_58_code, 3, some .int, 0, 2, 7, 8)
def xm_155 : xi_M := (⟨"RootLoomModel", "follow", "(II)I"⟩, prog_9_method_57_code, 6, some .int, 0, 2, 7, 8)
def xm_156 : xi_M := (⟨"RootLoomModel", "value", "(II)I"⟩, prog_9_method_59_code, 3, some .int, 0, 2, 7, 8)
def xm_157 : xi_M := (⟨"java/lang/Math", "max", "(II)I"⟩, prog_13_method_65_code, 2, some .int, 1, 2, 99, 9)
def xm_158 : xi_M := (⟨"java/lang/Math", "min", "(II)I"⟩, prog_13_method_69_code, 2, some .int, 1, 2, 99, 9)
def xi_ml : List xi_M := [xm_0, xm_1, xm_2, xm_3, xm_4, xm_5, xm_6, xm_7, xm_8, xm_9, xm_10, xm_11, xm_12, xm_13, xm_14, xm_15, xm_16, xm_17, xm_18, xm_19, xm_20, xm_21, xm_22, xm_23, xm_24, xm_25, xm_26, xm_27, xm_28, xm_29, xm_30, xm_31, xm_32, xm_33, xm_34, xm_35, xm_36, xm_37, xm_38, xm_39, xm_40, xm_41, xm_42, xm_43, xm_44, xm_45, xm_46, xm_47, xm_48, xm_49, xm_50, xm_51, xm_52, xm_53, xm_54, xm_55, xm_56, xm_57, xm_58, xm_59, xm_60, xm_61, xm_62, xm_63, xm_64, xm_65, xm_66, xm_67, xm_68, xm_69, xm_70, xm_71, xm_72, xm_73, xm_74, xm_75, xm_76, xm_77, xm_78, xm_79, xm_80, xm_81, xm_82, xm_83, xm_84, xm_85, xm_86, xm_87, xm_88, xm_89, xm_90, xm_91, xm_92, xm_93, xm_94, xm_95, xm_96, xm_97, xm_98, xm_99, xm_100, xm_101, xm_102, xm_103, xm_104, xm_105, xm_106, xm_107, xm_108, xm_109, xm_110, xm_111, xm_112, xm_113, xm_114, xm_115, xm_116, xm_117, xm_118, xm_119, xm_120, xm_121, xm_122, xm_123, xm_124, xm_125, xm_126, xm_127, xm_128, xm_129, xm_130, xm_131, xm_132, xm_133, xm_134, xm_135, xm_136, xm_137, xm_138, xm_139, xm_140, xm_141, xm_142, xm_143, xm_144, xm_145, xm_146, xm_147, xm_148, xm_149, xm_150, xm_151, xm_152, xm_153, xm_154, xm_155, xm_156, xm_157, xm_158]
def xi_host (_ : Nat) : String := "RootLoom"
def xi_ZC : String := "RootLoom"
def xi_Zn : String := "PARTS"
def xi_K : Nat := 27
def xi_wx : List Cond := []
theorem xi_K_ok : 20 ≤ xi_K := by decide
def xi_chkM (M : xi_M) : Bool := plainFor M.1 && (decide (M.1.cls ≠ "java/lang/invoke/MethodHandle") && (decide (M.1.cls ≠ "java/lang/invoke/VarHandle") && (decide ((parseMethodDescriptor M.1.desc).map (fun d => d.parameters.length) = some M.2.2.2.2.2.1) && (decide (M.2.2.1 + 20 ≤ xi_K) && ((M.2.2.2.2.1 != 2 || (decide (M.1.name = "<init>") && decide (M.2.2.2.1 = none))) && ((M.2.2.2.2.1 == 1 || M.2.2.2.2.1 == 3 || decide ((xi_cl[M.2.2.2.2.2.2.1]?).map (fun r => r.1) = some M.1.cls)) && decide ((xi_ll[M.2.2.2.2.2.2.2]?).map (fun r => r.1) = some M.1.cls)))))))
theorem xi_chkM_all : xi_ml.all xi_chkM = true := by decide +kernel
theorem xi_okM (M : xi_M) (h : M ∈ xi_ml) : plainFor M.1 = true ∧ M.1.cls ≠ "java/lang/invoke/MethodHandle" ∧ M.1.cls ≠ "java/lang/invoke/VarHandle" ∧ (parseMethodDescriptor M.1.desc).map (fun d => d.parameters.length) = some M.2.2.2.2.2.1 ∧ M.2.2.1 + 20 ≤ xi_K ∧ (M.2.2.2.2.1 = 2 → M.1.name = "<init>" ∧ M.2.2.2.1 = none) ∧ (M.2.2.2.2.1 ≠ 1 → M.2.2.2.2.1 ≠ 3 → ∃ r, xi_cl[M.2.2.2.2.2.2.1]? = some r ∧ r.1 = M.1.cls) ∧ ∃ r, xi_ll[M.2.2.2.2.2.2.2]? = some r ∧ r.1 = M.1.cls := by
  have h1 := List.all_eq_true.mp xi_chkM_all M h
  unfold xi_chkM at h1
  simp only [Bool.and_eq_true, Bool.or_eq_true, decide_eq_true_eq, bne_iff_ne, beq_iff_eq, ne_eq] at h1
  obtain ⟨a1, a2, a3, a4, a5, a6, a7, a8⟩ := h1
  refine ⟨a1, a2, a3, a4, a5, fun hk => ?_, fun h1 h3 => ?_, ?_⟩
  · rcases a6 with h | h
    · exact absurd hk h
    · exact h
  · rcases a7 with (h | h) | h
    · exact absurd h h1
    · exact absurd h h3
    · obtain ⟨r, hr, he⟩ := Option.map_eq_some_iff.mp h
      exact ⟨r, hr, he⟩
  · obtain ⟨r, hr, he⟩ := Option.map_eq_some_iff.mp a8
    exact ⟨r, hr, he⟩
