/-! What a run's own numbers must be. -/
def okX (X : zX) : Prop := X.1.2.2.2.2.2.1 = xs_Z
theorem w_46_102_e {X : zX} {f T : Int} {s : zS} {P : Prop} (hX : okX X) (h : w_46_102 X f T s (fun _ _ => P)) : P := by
  obtain ⟨C, -, v, s1, -, p⟩ := h hX _ (Nat.le_refl _)
  exact p
