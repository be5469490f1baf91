/-! Bits of words. -/
def tb (x : Int) (k : Nat) : Bool := (Int32.ofInt x).toBitVec.getLsbD k
theorem tb_O {x y : Int} {k : Nat} : tb (zO x y) k = (tb x k || tb y k) := by
  simp [tb, zO]
theorem tb_A {x y : Int} {k : Nat} : tb (zA x y) k = (tb x k && tb y k) := by
  simp [tb, zA]
theorem tb_E {x y : Int} {k : Nat} : tb (zE x y) k = (tb x k ^^ tb y k) := by
  simp [tb, zE]
theorem tb_0 {k : Nat} : tb 0 k = false := by
  have : Int32.ofInt 0 = 0 := rfl
  simp [tb, this]
theorem tb_m {k : Nat} (h : k < 32) : tb (-1) k = true := by
  have : ∀ k, k < 32 → tb (-1) k = true := by decide +kernel
  exact this k h
theorem tb_L {x : Int} {k : Nat} (hx : 0 ≤ x ∧ x < 16) (h : k < 32) : tb (zL 1 x) k = decide ((k : Int) = x) := by
  have : ∀ j : Nat, j < 16 → ∀ k : Nat, k < 32 → tb (zL 1 (j : Int)) k = decide (k = j) := by decide +kernel
  have e := this x.toNat (by omega) k h
  rw [show ((x.toNat : Nat) : Int) = x by omega] at e
  rw [e]
  exact decide_eq_decide.mpr (by omega)
theorem tb_eq {x y : Int} (hx : -2147483648 ≤ x ∧ x ≤ 2147483647) (hy : -2147483648 ≤ y ∧ y ≤ 2147483647) (h : ∀ k, k < 32 → tb x k = tb y k) : x = y := by
  have e : Int32.ofInt x = Int32.ofInt y := by
    apply Int32.toBitVec_inj.mp
    apply BitVec.eq_of_getLsbD_eq
    intro i hi
    exact h i hi
  have ex : (Int32.ofInt x).toInt = x := Int32.toInt_ofInt_of_le (by omega) (by omega)
  have ey : (Int32.ofInt y).toInt = y := Int32.toInt_ofInt_of_le (by omega) (by omega)
  rw [← ex, ← ey, e]
theorem zA_r {x y : Int} : -2147483648 ≤ zA x y ∧ zA x y ≤ 2147483647 := by
  unfold zA
  have := Int32.le_toInt (Int32.ofInt x &&& Int32.ofInt y)
  have := Int32.toInt_lt (Int32.ofInt x &&& Int32.ofInt y)
  omega
theorem zL_r {x y : Int} : -2147483648 ≤ zL x y ∧ zL x y ≤ 2147483647 := by
  unfold zL
  have := Int32.le_toInt (Int32.ofInt x <<< (Int32.ofInt y &&& 31))
  have := Int32.toInt_lt (Int32.ofInt x <<< (Int32.ofInt y &&& 31))
  omega
theorem tb_bm {f : Int → Int} {k : Nat} (h : k < 32) (n : Nat) (hn : n ≤ 16) : tb (bm f n) k = decide (k < n ∧ 0 < f k) := by
  induction n with
  | zero => simp [bm, tb_0]
  | succ j ih =>
    have ih := ih (by omega)
    simp only [bm]
    by_cases q : f j ≤ 0
    · rw [if_pos q, ih]
      apply decide_eq_decide.mpr
      by_cases e : k = j
      · subst e
        constructor
        · intro h; omega
        · intro h; omega
      · constructor
        · intro h; exact ⟨by omega, h.2⟩
        · intro h; exact ⟨by omega, h.2⟩
    · rw [if_neg q, tb_O, ih, tb_L (by omega) h]
      by_cases e : k = j
      · subst e
        have : 0 < f k := by omega
        simp [this]
      · have e1 : ¬ ((k : Int) = j) := by omega
        simp only [e1, decide_false, Bool.or_false]
        apply decide_eq_decide.mpr
        constructor
        · intro h; exact ⟨by omega, h.2⟩
        · intro h; exact ⟨by omega, h.2⟩
