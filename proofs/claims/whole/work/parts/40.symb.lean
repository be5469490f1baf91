/-! The interpreter with unknown ints: the k-th unknown stands as .retAddr k; a box says between what it lies. -/
abbrev sy_E : Type := (Nat × List Value) ⊕ (Nat × List Value)
abbrev sy_W : Type := List sy_E
abbrev sy_S : Type := Nat × xi_L × List Value × sy_W
abbrev sy_B : Type := List (Int × Int)
def sy_v (ρ : Nat → Int32) (v : Value) : Value := match v with
  | .retAddr k => .int (ρ k)
  | .ref a => .ref a
  | .int x => .int x
  | .long x => .long x
  | .float x => .float x
  | .double x => .double x
  | .null => .null
def sy_i (ρ : Nat → Int32) (v : Value) : Int32 := match v with
  | .retAddr k => ρ k
  | .int x => x
  | _ => 0
def sy_l (v : Value) : Int64 := match v with
  | .long x => x
  | _ => 0
def sy_e (ρ : Nat → Int32) (x : sy_E) : xi_E := match x with
  | .inl (t, vs) => if t = 2 then .inl (2, .inr (vs.map sy_l)) else .inl (t, .inl (vs.map (sy_i ρ)))
  | .inr (ci, fs) => .inr (ci, fs.map (sy_v ρ))
def sy_L (ρ : Nat → Int32) (L : xi_L) : xi_L := L.map (fun o => o.map (sy_v ρ))
def sy_s (ρ : Nat → Int32) (A : sy_S) : xi_S := (A.1, sy_L ρ A.2.1, A.2.2.1.map (sy_v ρ), A.2.2.2.map (sy_e ρ))
def sy_in (bx : sy_B) (ρ : Nat → Int32) : Prop := ∀ (k : Nat) (q : Int × Int), bx[k]? = some q → q.1 ≤ (ρ k).toInt ∧ (ρ k).toInt ≤ q.2
def sy_rng (bx : sy_B) (v : Value) : Option (Int × Int) := match v with
  | .int x => some (x.toInt, x.toInt)
  | .retAddr k => bx[k]?
  | _ => none
def sy_int (bx : sy_B) (v : Value) : Option Int32 := match v with
  | .int x => some x
  | .retAddr k => match bx[k]? with
    | some q => if q.1 = q.2 then some (Int32.ofInt q.1) else none
    | none => none
  | _ => none
theorem sy_rng_ok {bx : sy_B} {ρ : Nat → Int32} (h : sy_in bx ρ) {v : Value} {q : Int × Int} (hv : sy_rng bx v = some q) : ∃ x : Int32, sy_v ρ v = .int x ∧ q.1 ≤ x.toInt ∧ x.toInt ≤ q.2 := by
  unfold sy_rng at hv
  split at hv
  · cases hv; exact ⟨_, rfl, Int.le_refl _, Int.le_refl _⟩
  · exact ⟨_, rfl, h _ _ hv⟩
  · cases hv
theorem sy_int_ok {bx : sy_B} {ρ : Nat → Int32} (h : sy_in bx ρ) {v : Value} {x : Int32} (hv : sy_int bx v = some x) : sy_v ρ v = .int x ∧ sy_i ρ v = x := by
  unfold sy_int at hv
  split at hv
  · cases hv; exact ⟨rfl, rfl⟩
  · next k =>
    split at hv
    · next q hq =>
      split at hv
      · next he =>
        cases hv
        obtain ⟨h1, h2⟩ := h k q hq
        have h3 : (ρ k).toInt = q.1 := by omega
        have h4 : Int32.ofInt q.1 = ρ k := by rw [← h3]; exact Int32.ofInt_toInt _
        rw [h4]
        exact ⟨rfl, rfl⟩
      · cases hv
    · cases hv
  · cases hv
-- is x < y, x ≤ y, x = y, by what they lie between
def sy_lt (a b : Int × Int) : Option Bool := if a.2 < b.1 then some true else if b.2 ≤ a.1 then some false else none
def sy_le (a b : Int × Int) : Option Bool := if a.2 ≤ b.1 then some true else if b.2 < a.1 then some false else none
def sy_eq (a b : Int × Int) : Option Bool := if a.1 = a.2 ∧ b.1 = b.2 ∧ a.1 = b.1 then some true else if a.2 < b.1 ∨ b.2 < a.1 then some false else none
def sy_not (o : Option Bool) : Option Bool := o.map (fun b => !b)
theorem sy_lt_ok {a b : Int × Int} {x y : Int32} {t : Bool} (h : sy_lt a b = some t) (hx : a.1 ≤ x.toInt ∧ x.toInt ≤ a.2) (hy : b.1 ≤ y.toInt ∧ y.toInt ≤ b.2) : decide (x < y) = t := by
  unfold sy_lt at h
  split at h
  · cases h; exact decide_eq_true (Int32.lt_iff_toInt_lt.mpr (by omega))
  · split at h
    · cases h; exact decide_eq_false (fun q => by have := Int32.lt_iff_toInt_lt.mp q; omega)
    · cases h
theorem sy_le_ok {a b : Int × Int} {x y : Int32} {t : Bool} (h : sy_le a b = some t) (hx : a.1 ≤ x.toInt ∧ x.toInt ≤ a.2) (hy : b.1 ≤ y.toInt ∧ y.toInt ≤ b.2) : decide (x ≤ y) = t := by
  unfold sy_le at h
  split at h
  · cases h; exact decide_eq_true (Int32.le_iff_toInt_le.mpr (by omega))
  · split at h
    · cases h; exact decide_eq_false (fun q => by have := Int32.le_iff_toInt_le.mp q; omega)
    · cases h
theorem sy_eq_ok {a b : Int × Int} {x y : Int32} {t : Bool} (h : sy_eq a b = some t) (hx : a.1 ≤ x.toInt ∧ x.toInt ≤ a.2) (hy : b.1 ≤ y.toInt ∧ y.toInt ≤ b.2) : decide (x = y) = t := by
  unfold sy_eq at h
  split at h
  · cases h; exact decide_eq_true (Int32.toInt_inj.mp (by omega))
  · split at h
    · cases h; exact decide_eq_false (fun q => by have := congrArg Int32.toInt q; omega)
    · cases h
theorem sy_ne_ok {a b : Int × Int} {x y : Int32} {t : Bool} (h : sy_not (sy_eq a b) = some t) (hx : a.1 ≤ x.toInt ∧ x.toInt ≤ a.2) (hy : b.1 ≤ y.toInt ∧ y.toInt ≤ b.2) : decide (¬ x = y) = t := by
  unfold sy_not at h
  cases he : sy_eq a b with
  | none => rw [he] at h; cases h
  | some u =>
    rw [he] at h
    cases h
    have h1 := sy_eq_ok he hx hy
    rw [decide_not, h1]
-- a box cut at c in its k-th unknown
def sy_cut (bx : sy_B) (k : Nat) (c : Int) : List sy_B := match bx[k]? with
  | some q => (if q.1 < c then [bx.set k (q.1, c - 1)] else []) ++ (if c ≤ q.2 then [bx.set k (c, q.2)] else [])
  | none => []
theorem sy_in_set {bx : sy_B} {ρ : Nat → Int32} (h : sy_in bx ρ) {k : Nat} {q : Int × Int} (hq : q.1 ≤ (ρ k).toInt ∧ (ρ k).toInt ≤ q.2) : sy_in (bx.set k q) ρ := by
  intro j r hr
  by_cases hj : j = k
  · subst hj
    by_cases hl : j < bx.length
    · rw [List.getElem?_set_self hl] at hr
      cases hr
      exact hq
    · rw [List.getElem?_eq_none (by rw [List.length_set]; omega)] at hr
      cases hr
  · rw [List.getElem?_set_ne (Ne.symm hj)] at hr
    exact h j r hr
theorem sy_cut_ok {bx : sy_B} {ρ : Nat → Int32} (h : sy_in bx ρ) {k : Nat} {c : Int} (hk : k < bx.length) : ∃ b ∈ sy_cut bx k c, sy_in b ρ := by
  unfold sy_cut
  have hq : bx[k]? = some bx[k] := List.getElem?_eq_getElem hk
  rw [hq]
  dsimp only
  obtain ⟨h1, h2⟩ := h k _ hq
  by_cases h3 : (ρ k).toInt < c
  · refine ⟨bx.set k (bx[k].1, c - 1), ?_, sy_in_set h ⟨h1, by show _ ≤ c - 1; omega⟩⟩
    rw [if_pos (by omega)]
    exact List.mem_append_left _ List.mem_cons_self
  · refine ⟨bx.set k (c, bx[k].2), ?_, sy_in_set h ⟨by show c ≤ _; omega, h2⟩⟩
    rw [if_pos (c := c ≤ bx[k].2) (by omega)]
    exact List.mem_append_right _ List.mem_cons_self
