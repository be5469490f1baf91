/-! What an exception's making asks of a state, beside the tables' words. -/
def xe_I : String := "java/lang/IndexOutOfBoundsException"
def xe_A : String := "java/lang/IllegalArgumentException"
def xe_names : List String := ["java/lang/RuntimeException", "java/lang/Exception"]
def xe_dl : List MethodName := [⟨"java/lang/RuntimeException", "<init>", "()V"⟩, ⟨"java/lang/Exception", "<init>", "()V"⟩, ⟨"java/lang/Throwable", "<init>", "()V"⟩]
def xe_cs : List (String × String) := [(xe_I, xe_I), (xe_A, xe_A)]
def xe_Z (C n d : String) (b : Nat) (U : State) : Prop := ∃ (c i a : Nat) (k : Class) (f : Field) (cell : Cell) (v : Value), U.vm.findClass C = some c ∧ U.fieldFound? C n d = some (c, k, i, f) ∧ f.isStatic = true ∧ k.statics = some a ∧ U.heap[a]? = some cell ∧ cell.vm.isStatics = true ∧ cell.cls = c ∧ f.slot < cell.slots.size ∧ k.staticTypes[f.slot]? = some f.type ∧ cell.slots[f.slot]? = some v ∧ v.isRef = true ∧ a < b
theorem xe_Z.moved {C n d : String} {b : Nat} {s U : State} (hvm : s.vm.Alike U.vm) (hq : ∀ a : Nat, a < s.heap.size → a < b → U.heap[a]? = s.heap[a]?) (h : xe_Z C n d b s) : xe_Z C n d b U := by
  obtain ⟨c, i, a, k, f, cell, v, h1, h2, h3, h4, h5, h6, h7, h8, h9, h10, h11, h12⟩ := h
  obtain ⟨k', hi', he⟩ := State.fieldFound?_setVm hvm h2
  exact ⟨c, i, a, k', f, cell, v, by rw [hvm.findClass]; exact h1, hi', h3, by rw [he]; exact h4, by rw [hq a (Array.getElem?_eq_some_iff.mp h5).1 h12]; exact h5, h6, h7, h8, by rw [he]; exact h9, h10, h11, h12⟩
theorem xe_Z.lays {C n d : String} {b : Nat} {s : State} {args : Array Value} (h : xe_Z C n d b s) : (Cond.laysStatic C n d).before args s = true := by
  obtain ⟨c, i, a, k, f, cell, v, h1, h2, h3, h4, h5, h6, h7, h8, h9, h10, h11, h12⟩ := h
  exact Cond.laysStatic_of h1 h2 h3 h4 h5 h6 h7 h8 h9
theorem xe_Z.ref {C n d : String} {b : Nat} {s : State} {args : Array Value} (h : xe_Z C n d b s) : (Cond.isRef (.static C n d)).before args s = true := by
  obtain ⟨c, i, a, k, f, cell, v, h1, h2, h3, h4, h5, h6, h7, h8, h9, h10, h11, h12⟩ := h
  have hev := Term.static_eval (args := args) (first := s) (o := none) (idx := []) h2 h3 h4 h5 h6 h10
  simp only [Cond.before, Cond.holds, Cond.value, hev]
  cases v <;> first | rfl | cases h11
theorem xe_Z.of {C n d : String} {s : State} {args : Array Value} (hl : (Cond.laysStatic C n d).before args s = true) (hr : (Cond.isRef (.static C n d)).before args s = true) : xe_Z C n d s.heap.size s := by
  obtain ⟨c, k, i, f, a, cell, h1, h2, h3, h4, h5, h6, h7, h8, h9⟩ := Cond.laysStatic_spec hl
  have hs : cell.slots[f.slot]? = some cell.slots[f.slot] := Array.getElem?_eq_getElem h8
  have hev := Term.static_eval (args := args) (first := s) (o := none) (idx := []) h2 h3 h4 h5 h6 hs
  simp only [Cond.before, Cond.holds, Cond.value, hev] at hr
  refine ⟨c, i, a, k, f, cell, _, h1, h2, h3, h4, h5, h6, h7, h8, h9, hs, ?_, (Array.getElem?_eq_some_iff.mp h5).1⟩
  generalize cell.slots[f.slot] = v at hr
  cases v <;> first | rfl | simp at hr
def xe_N (U : State) : Prop := ∃ cA cI : ClassId, U.vm.findClass xe_A = some cA ∧ U.vm.findClass xe_I = some cI ∧ U.vm.assignable cA cI = false
theorem xe_N.moved {s U : State} (hvm : s.vm.Alike U.vm) (h : xe_N s) : xe_N U := by
  obtain ⟨cA, cI, h1, h2, h3⟩ := h
  exact ⟨cA, cI, by rw [hvm.findClass]; exact h1, by rw [hvm.findClass]; exact h2, by rw [hvm.assignable]; exact h3⟩
def xe_G (b : Nat) (U : State) : Prop := (∀ x ∈ xe_dl, va_Nw (.declares x) U) ∧ (∀ q ∈ xe_cs, va_Nw (.castable q.1 q.2) U) ∧ xe_Z "java/lang/Throwable" "UNASSIGNED_STACK" "[Ljava/lang/StackTraceElement;" b U ∧ xe_Z "java/lang/Throwable" "SUPPRESSED_SENTINEL" "Ljava/util/List;" b U ∧ xe_N U
theorem xe_G.moved {b : Nat} {s U : State} (hW : s.WarmedH U.vm) (hq : ∀ a : Nat, a < s.heap.size → a < b → U.heap[a]? = s.heap[a]?) (h : xe_G b s) : xe_G b U :=
  ⟨fun x hx => va_Nw.warmD hW (h.1 x hx), fun q hx => va_Nw.warmC hW (h.2.1 q hx), xe_Z.moved hW.alike hq h.2.2.1, xe_Z.moved hW.alike hq h.2.2.2.1, h.2.2.2.2.moved hW.alike⟩
theorem xe_G.same {b : Nat} {s U : State} (hv : s.vm = U.vm) (hh : U.heap = s.heap) (h : xe_G b s) : xe_G b U :=
  ⟨fun x hx => va_Nw.same rfl hv (h.1 x hx), fun q hx => va_Nw.same rfl hv (h.2.1 q hx), xe_Z.moved (by rw [hv]; exact Vm.Alike.refl _) (fun a _ _ => by rw [hh]) h.2.2.1, xe_Z.moved (by rw [hv]; exact Vm.Alike.refl _) (fun a _ _ => by rw [hh]) h.2.2.2.1, h.2.2.2.2.moved (by rw [hv]; exact Vm.Alike.refl _)⟩
