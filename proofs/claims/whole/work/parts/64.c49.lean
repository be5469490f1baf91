theorem tb_1 {j : Nat} (h : j < 32) : tb 1 j = decide (j = 0) := by
  have : ∀ j, j < 32 → tb 1 j = decide (j = 0) := by decide +kernel
  exact this j h
theorem and1 {y : Int} : zA y 1 = 1 ↔ tb y 0 = true := by
  constructor
  · intro h
    have := tb_A (x := y) (y := 1) (k := 0)
    rw [h, tb_1 (by omega)] at this
    simpa using this.symm
  · intro h
    refine tb_eq zA_r (by omega) (fun k hk => ?_)
    rw [tb_A, tb_1 hk]
    by_cases e : k = 0
    · subst e; rw [h]; rfl
    · rw [decide_eq_false e, Bool.and_false]
theorem sh31 : ∀ k : Nat, k < 16 → ((Int32.ofInt (k : Int)).toUInt32 &&& Int32.toUInt32 31).toBitVec = BitVec.ofNat 32 k ∧ (Int32.ofInt (k : Int) &&& 31).toBitVec = BitVec.ofNat 32 k := by decide +kernel
theorem tb_U0 {x : Int} {k : Nat} (h : k < 16) : tb (zU x k) 0 = tb x k := by
  unfold tb zU
  rw [Int32.ofInt_toInt]
  have e := (sh31 k h).1
  simp only [UInt32.toBitVec_toInt32]
  rw [UInt32.toBitVec_shiftRight]
  rw [e]
  simp [BitVec.getLsbD_ushiftRight]
  congr 1
  omega
theorem smk : ∀ k : Nat, k < 16 → ((BitVec.ofNat 32 k).smod 32).toNat = k := by decide +kernel
theorem tb_R0 {x : Int} {k : Nat} (h : k < 16) : tb (zR x k) 0 = tb x k := by
  unfold tb zR
  rw [Int32.ofInt_toInt]
  have e := (sh31 k h).2
  rw [Int32.toBitVec_shiftRight]
  rw [e, BitVec.sshiftRight', smk k h, BitVec.getLsbD_sshiftRight]
  simp
  intro hh
  omega
theorem tb_U {x : Int} {k : Nat} (h : k < 16) : zA (zU x k) 1 = 1 ↔ tb x k = true := by rw [and1, tb_U0 h]
theorem tb_R {x : Int} {k : Nat} (h : k < 16) : zA (zR x k) 1 = 1 ↔ tb x k = true := by rw [and1, tb_R0 h]
-- counting
theorem cn_c {f g : Int → Int} (n : Nat) (h : ∀ k : Int, 0 ≤ k → k < n → f k = g k) : cn f n = cn g n := by
  induction n with
  | zero => rfl
  | succ k ih => simp only [cn]; rw [h k (by omega) (by omega), ih (fun j a b => h j a (by omega))]
theorem cn_le {f : Int → Int} (n : Nat) (h : ∀ k : Int, 0 ≤ k → k < n → 0 ≤ f k ∧ f k ≤ 1) : 0 ≤ cn f n ∧ cn f n ≤ n := by
  induction n with
  | zero => simp [cn]
  | succ k ih =>
    have := ih (fun j a b => h j a (by omega))
    have := h k (by omega) (by omega)
    simp only [cn]
    omega
theorem cn_up {f g : Int → Int} (n : Nat) {a : Int} (ha : 0 ≤ a ∧ a < n) (h : ∀ k : Int, 0 ≤ k → k < n → ¬ k = a → g k = f k) : cn g n = cn f n + g a - f a := by
  induction n with
  | zero => omega
  | succ k ih =>
    simp only [cn]
    by_cases e : a = k
    · rw [cn_c (f := g) (g := f) k (fun j p q => h j p (by omega) (by omega)), e]; omega
    · rw [ih (by omega) (fun j p q r => h j p (by omega) r), h k (by omega) (by omega) (fun w => e w.symm)]; omega
