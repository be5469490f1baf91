/-! What a run's own numbers must be. -/
def okX (X : zX) : Prop := X.1.2.2.2.2.2.1 = xs_Z
theorem w_46_102_e {X : zX} {f T : Int} {s : zS} {P : Prop} (hX : okX X) (h : w_46_102 X f T s (fun _ _ => P)) : P := by
  obtain ⟨C, -, v, s1, -, p⟩ := h hX _ (Nat.le_refl _)
  exact p
theorem w_138_e {X : zX} {v c : Int} {s : zS} {P : Prop} (hX : okX X) (h : w_138 X v c s (fun _ _ => P)) : P := by
  obtain ⟨C, -, v, s1, -, p⟩ := h hX _ (Nat.le_refl _)
  exact p
theorem w_143_e {X : zX} {s : zS} {P : Prop} (hX : okX X) (h : w_143 X s (fun _ _ => P)) : P := by
  obtain ⟨C, -, v, s1, -, p⟩ := h hX _ (Nat.le_refl _)
  exact p
theorem w_146_e {X : zX} {v c : Int} {s : zS} {P : Prop} (hX : okX X) (h : w_146 X v c s (fun _ _ => P)) : P := by
  obtain ⟨C, -, v, s1, -, p⟩ := h hX _ (Nat.le_refl _)
  exact p
