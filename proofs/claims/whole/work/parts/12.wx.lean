/-! Words for the making of exceptions. -/
def xh_y : MethodName := ⟨"RootLoomLaw", "instruction", "(LRootLoom;II[J)I"⟩
def xh_c : Cond := .codeWith xh_y method_3_code 5 (some .int) [(0, 10, 13, 13), (0, 10, 17, 15)]
def xe_at (ic : Nat) (X : String) : List Cond := Bundle.ownAtoms0 "RootLoom" ic X ["java/lang/RuntimeException", "java/lang/Exception"]
def xi_wy : List Cond := (xe_at 82 "java/lang/IndexOutOfBoundsException" ++ xe_at 85 "java/lang/IllegalArgumentException").filter goodWord ++ [.classLink "RootLoom" 80 "java/lang/IndexOutOfBoundsException", .initialized "java/lang/IndexOutOfBoundsException", .classLink "RootLoom" 83 "java/lang/IllegalArgumentException", .initialized "java/lang/IllegalArgumentException", .classLink "RootLoomLaw" 13 "java/lang/IndexOutOfBoundsException", .classLink "RootLoomLaw" 15 "java/lang/IllegalArgumentException", xh_c, .static xh_y, .methodLink "RootLoomLaw" 51 xh_y, .initialized "RootLoomLaw"]
