/-! What each method asks before it, and where it leads; printed by a program. -/
-- RootLoom.laid
def w_7 (X : zX) (x1 : Int) (s : zS) (Q : Int → zS → Prop) : Prop := wW X 7 xm_7 0 (0, [some (.ref 2), some (.int (Int32.ofInt x1))], [], zw X s) Q
theorem w_7_i {X : zX} {x1 : Int} {s : zS} {Q : Int → zS → Prop} (h : ((-2147483648 ≤ (s 14 0) ∧ (s 14 0) ≤ 2147483647) ∧ (¬ (s 14 0) = 0 → ((-2147483648 ≤ x1 ∧ x1 ≤ 2147483647) ∧ ((x1 < 0 ∨ 2 < x1) → Q (-1) s) ∧ ((x1 = 0) → Q (s 14 1) s) ∧ ((x1 = 1) → Q (s 14 2) s) ∧ ((x1 = 2) → Q (s 14 3) s))) ∧ (¬ ¬ (s 14 0) = 0 → Q (-1) s))) : w_7 X x1 s Q := by
  intro hZ d hd
  have hM : xi_ml[7]? = some xm_7 := rfl
  refine gx_r hM hZ 3 (B := (7, [some (.ref 2), some (.int (Int32.ofInt x1))], [.int (Int32.ofInt (s 14 0))], zw X s)) rfl ?_
  refine gi_if1 hM hZ (fun x => decide (¬ x = 0)) (p := ¬ (s 14 0) = 0) rfl rfl (zd_ne h.1) ?_ ?_
  · intro hp
    replace h := h.2.1 hp
    refine gx_r hM hZ 1 (B := (13, [some (.ref 2), some (.int (Int32.ofInt x1))], [.int (Int32.ofInt x1)], zw X s)) rfl ?_
    by_cases hq0 : (x1 = 0)
    · refine gi_tab hM hZ (x := x1) (o := 27) rfl h.1 ?_ (by decide) ?_
      · rw [hq0]; rfl
      · replace h := h.2.2.1 hq0
        refine gx_r hM hZ 3 (B := (47, [some (.ref 2), some (.int (Int32.ofInt x1))], [.int (Int32.ofInt (s 14 1))], zw X s)) rfl ?_
        exact ⟨_, xi_To.rf _ _ _ _, (s 14 1), s, rfl, h⟩
    · by_cases hq1 : (x1 = 1)
      · refine gi_tab hM hZ (x := x1) (o := 35) rfl h.1 ?_ (by decide) ?_
        · rw [hq1]; rfl
        · replace h := h.2.2.2.1 hq1
          refine gx_r hM hZ 3 (B := (55, [some (.ref 2), some (.int (Int32.ofInt x1))], [.int (Int32.ofInt (s 14 2))], zw X s)) rfl ?_
          exact ⟨_, xi_To.rf _ _ _ _, (s 14 2), s, rfl, h⟩
      · by_cases hq2 : (x1 = 2)
        · refine gi_tab hM hZ (x := x1) (o := 43) rfl h.1 ?_ (by decide) ?_
          · rw [hq2]; rfl
          · replace h := h.2.2.2.2 hq2
            refine gx_r hM hZ 3 (B := (63, [some (.ref 2), some (.int (Int32.ofInt x1))], [.int (Int32.ofInt (s 14 3))], zw X s)) rfl ?_
            exact ⟨_, xi_To.rf _ _ _ _, (s 14 3), s, rfl, h⟩
        · refine gi_tab hM hZ (x := x1) (o := 51) rfl h.1 ?_ (by decide) ?_
          · exact if_pos (by omega)
          · replace h := h.2.1 (by omega)
            refine gx_r hM hZ 1 (B := (65, [some (.ref 2), some (.int (Int32.ofInt x1))], [.int (Int32.ofInt (-1))], zw X s)) rfl ?_
            exact ⟨_, xi_To.rf _ _ _ _, (-1), s, rfl, h⟩
  · intro hp
    replace h := h.2.2 hp
    refine gx_r hM hZ 1 (B := (11, [some (.ref 2), some (.int (Int32.ofInt x1))], [.int (Int32.ofInt (-1))], zw X s)) rfl ?_
    exact ⟨_, xi_To.rf _ _ _ _, (-1), s, rfl, h⟩
-- RootLoom.heap
def w_10 (X : zX) (x1 : Int) (s : zS) (Q : Int → zS → Prop) : Prop := wW X 10 xm_10 0 (0, [some (.ref 2), some (.int (Int32.ofInt x1))], [], zw X s) Q
def w_10_12 (X : zX) (s : zS) (Q : Int → zS → Prop) : Prop := wW X 10 xm_10 0 (12, [none, none], [], zw X s) Q
theorem w_10_i {X : zX} {x1 : Int} {s : zS} {Q : Int → zS → Prop} (h : ((-2147483648 ≤ x1 ∧ x1 ≤ 2147483647) ∧ (x1 < 3 → w_10_12 X s Q) ∧ (¬ x1 < 3 → ((-2147483648 ≤ x1 ∧ x1 ≤ 2147483647) ∧ (x1 ≤ 600 → (∀ s1 : zS, s1 = zu s 31 4 x1 → Q 1 s1)) ∧ (¬ x1 ≤ 600 → w_10_12 X s Q))))) : w_10 X x1 s Q := by
  intro hZ d hd
  have hM : xi_ml[10]? = some xm_10 := rfl
  refine gx_r hM hZ 2 (B := (2, [some (.ref 2), some (.int (Int32.ofInt x1))], [.int (Int32.ofInt 3), .int (Int32.ofInt x1)], zw X s)) rfl ?_
  refine gi_if2 hM hZ (fun x y => decide (x < y)) (p := x1 < 3) rfl rfl (zc_lt h.1 (by decide)) ?_ ?_
  · intro hp
    replace h := h.2.1 hp
    exact gx_fg [false, false] (h hZ d hd)
  · intro hp
    replace h := h.2.2 hp
    refine gx_r hM hZ 1 (B := (6, [some (.ref 2), some (.int (Int32.ofInt x1))], [.int (Int32.ofInt x1)], zw X s)) rfl ?_
    refine gi_sip hM hZ rfl rfl ?_
    refine gi_if2 hM hZ (fun x y => decide (x ≤ y)) (p := x1 ≤ 600) rfl rfl (zc_le h.1 (by decide)) ?_ ?_
    · intro hp
      replace h := h.2.1 hp
      refine gx_r hM hZ 3 (B := (19, [some (.ref 2), some (.int (Int32.ofInt x1))], [.int (Int32.ofInt x1), .ref 31], zw X s)) rfl ?_
      obtain ⟨s1, e1⟩ : ∃ q : zS, q = zu s 31 4 x1 := ⟨_, rfl⟩
      refine gj_put hM hZ rfl rfl rfl (Nat.le_of_ble_eq_true rfl) rfl rfl zq_31_4 e1 ?_
      replace h := h _ e1
      refine gx_r hM hZ 1 (B := (23, [some (.ref 2), some (.int (Int32.ofInt x1))], [.int (Int32.ofInt 1)], zw X s1)) rfl ?_
      exact ⟨_, xi_To.rf _ _ _ _, 1, s1, rfl, h⟩
    · intro hp
      replace h := h.2.2 hp
      exact gx_fg [false, false] (h hZ d hd)
theorem w_10_12_i {X : zX} {s : zS} {Q : Int → zS → Prop} (h : Q 0 s) : w_10_12 X s Q := by
  intro hZ d hd
  have hM : xi_ml[10]? = some xm_10 := rfl
  refine gx_r hM hZ 1 (B := (13, [none, none], [.int (Int32.ofInt 0)], zw X s)) rfl ?_
  exact ⟨_, xi_To.rf _ _ _ _, 0, s, rfl, h⟩
-- RootLoom.force
def w_11 (X : zX) (x1 : Int) (s : zS) (Q : Int → zS → Prop) : Prop := wW X 11 xm_11 0 (0, [some (.ref 2), some (.int (Int32.ofInt x1))], [], zw X s) Q
theorem w_11_i {X : zX} {x1 : Int} {s : zS} {Q : Int → zS → Prop} (h : ((-2147483648 ≤ x1 ∧ x1 ≤ 2147483647) ∧ (0 ≤ x1 → (∀ s1 : zS, s1 = zu s 31 5 x1 → Q 1 s1)) ∧ (¬ 0 ≤ x1 → Q 0 s))) : w_11 X x1 s Q := by
  intro hZ d hd
  have hM : xi_ml[11]? = some xm_11 := rfl
  refine gx_r hM hZ 1 (B := (1, [some (.ref 2), some (.int (Int32.ofInt x1))], [.int (Int32.ofInt x1)], zw X s)) rfl ?_
  refine gi_if1 hM hZ (fun x => decide (0 ≤ x)) (p := 0 ≤ x1) rfl rfl (zd_ge h.1) ?_ ?_
  · intro hp
    replace h := h.2.1 hp
    refine gx_r hM hZ 3 (B := (11, [some (.ref 2), some (.int (Int32.ofInt x1))], [.int (Int32.ofInt x1), .ref 31], zw X s)) rfl ?_
    obtain ⟨s1, e1⟩ : ∃ q : zS, q = zu s 31 5 x1 := ⟨_, rfl⟩
    refine gj_put hM hZ rfl rfl rfl (Nat.le_of_ble_eq_true rfl) rfl rfl zq_31_5 e1 ?_
    replace h := h _ e1
    refine gx_r hM hZ 1 (B := (15, [some (.ref 2), some (.int (Int32.ofInt x1))], [.int (Int32.ofInt 1)], zw X s1)) rfl ?_
    exact ⟨_, xi_To.rf _ _ _ _, 1, s1, rfl, h⟩
  · intro hp
    replace h := h.2.2 hp
    refine gx_r hM hZ 1 (B := (5, [some (.ref 2), some (.int (Int32.ofInt x1))], [.int (Int32.ofInt 0)], zw X s)) rfl ?_
    exact ⟨_, xi_To.rf _ _ _ _, 0, s, rfl, h⟩
-- RootLoom$Source.isPairType
def w_20 (X : zX) (x0 : Int) (s : zS) (Q : Int → zS → Prop) : Prop := wW X 20 xm_20 0 (0, [some (.int (Int32.ofInt x0))], [], zw X s) Q
def w_20_14 (X : zX) (s : zS) (Q : Int → zS → Prop) : Prop := wW X 20 xm_20 0 (14, [none], [], zw X s) Q
theorem w_20_i {X : zX} {x0 : Int} {s : zS} {Q : Int → zS → Prop} (h : ((-2147483648 ≤ x0 ∧ x0 ≤ 2147483647) ∧ (x0 ≤ 0 → w_20_14 X s Q) ∧ (¬ x0 ≤ 0 → ((-2147483648 ≤ x0 ∧ x0 ≤ 2147483647) ∧ (8 ≤ x0 → w_20_14 X s Q) ∧ (¬ 8 ≤ x0 → Q 1 s))))) : w_20 X x0 s Q := by
  intro hZ d hd
  have hM : xi_ml[20]? = some xm_20 := rfl
  refine gx_r hM hZ 1 (B := (1, [some (.int (Int32.ofInt x0))], [.int (Int32.ofInt x0)], zw X s)) rfl ?_
  refine gi_if1 hM hZ (fun x => decide (x ≤ 0)) (p := x0 ≤ 0) rfl rfl (zd_le h.1) ?_ ?_
  · intro hp
    replace h := h.2.1 hp
    exact gx_fg [false] (h hZ d hd)
  · intro hp
    replace h := h.2.2 hp
    refine gx_r hM hZ 1 (B := (5, [some (.int (Int32.ofInt x0))], [.int (Int32.ofInt x0)], zw X s)) rfl ?_
    refine gi_bip hM hZ rfl rfl ?_
    refine gi_if2 hM hZ (fun x y => decide (y ≤ x)) (p := 8 ≤ x0) rfl rfl (zc_ge h.1 (by decide)) ?_ ?_
    · intro hp
      replace h := h.2.1 hp
      exact gx_fg [false] (h hZ d hd)
    · intro hp
      replace h := h.2.2 hp
      refine gx_r hM hZ 2 (B := (15, [some (.int (Int32.ofInt x0))], [.int (Int32.ofInt 1)], zw X s)) rfl ?_
      exact ⟨_, xi_To.rf _ _ _ _, 1, s, rfl, h⟩
theorem w_20_14_i {X : zX} {s : zS} {Q : Int → zS → Prop} (h : Q 0 s) : w_20_14 X s Q := by
  intro hZ d hd
  have hM : xi_ml[20]? = some xm_20 := rfl
  refine gx_r hM hZ 1 (B := (15, [none], [.int (Int32.ofInt 0)], zw X s)) rfl ?_
  exact ⟨_, xi_To.rf _ _ _ _, 0, s, rfl, h⟩
-- RootLoom$Source.isType
def w_21 (X : zX) (x0 : Int) (s : zS) (Q : Int → zS → Prop) : Prop := wW X 21 xm_21 0 (0, [some (.int (Int32.ofInt x0))], [], zw X s) Q
def w_21_14 (X : zX) (s : zS) (Q : Int → zS → Prop) : Prop := wW X 21 xm_21 0 (14, [none], [], zw X s) Q
theorem w_21_i {X : zX} {x0 : Int} {s : zS} {Q : Int → zS → Prop} (h : ((-2147483648 ≤ x0 ∧ x0 ≤ 2147483647) ∧ (x0 < 0 → w_21_14 X s Q) ∧ (¬ x0 < 0 → ((-2147483648 ≤ x0 ∧ x0 ≤ 2147483647) ∧ (8 ≤ x0 → w_21_14 X s Q) ∧ (¬ 8 ≤ x0 → Q 1 s))))) : w_21 X x0 s Q := by
  intro hZ d hd
  have hM : xi_ml[21]? = some xm_21 := rfl
  refine gx_r hM hZ 1 (B := (1, [some (.int (Int32.ofInt x0))], [.int (Int32.ofInt x0)], zw X s)) rfl ?_
  refine gi_if1 hM hZ (fun x => decide (x < 0)) (p := x0 < 0) rfl rfl (zd_lt h.1) ?_ ?_
  · intro hp
    replace h := h.2.1 hp
    exact gx_fg [false] (h hZ d hd)
  · intro hp
    replace h := h.2.2 hp
    refine gx_r hM hZ 1 (B := (5, [some (.int (Int32.ofInt x0))], [.int (Int32.ofInt x0)], zw X s)) rfl ?_
    refine gi_bip hM hZ rfl rfl ?_
    refine gi_if2 hM hZ (fun x y => decide (y ≤ x)) (p := 8 ≤ x0) rfl rfl (zc_ge h.1 (by decide)) ?_ ?_
    · intro hp
      replace h := h.2.1 hp
      exact gx_fg [false] (h hZ d hd)
    · intro hp
      replace h := h.2.2 hp
      refine gx_r hM hZ 2 (B := (15, [some (.int (Int32.ofInt x0))], [.int (Int32.ofInt 1)], zw X s)) rfl ?_
      exact ⟨_, xi_To.rf _ _ _ _, 1, s, rfl, h⟩
theorem w_21_14_i {X : zX} {s : zS} {Q : Int → zS → Prop} (h : Q 0 s) : w_21_14 X s Q := by
  intro hZ d hd
  have hM : xi_ml[21]? = some xm_21 := rfl
  refine gx_r hM hZ 1 (B := (15, [none], [.int (Int32.ofInt 0)], zw X s)) rfl ?_
  exact ⟨_, xi_To.rf _ _ _ _, 0, s, rfl, h⟩
-- RootLoom$Source.isFunction
def w_25 (X : zX) (x1 : Int) (s : zS) (Q : Int → zS → Prop) : Prop := wW X 25 xm_25 0 (0, [some (.ref 3), some (.int (Int32.ofInt x1))], [], zw X s) Q
def w_25_16 (X : zX) (s : zS) (Q : Int → zS → Prop) : Prop := wW X 25 xm_25 0 (16, [none, none], [], zw X s) Q
theorem w_25_i {X : zX} {x1 : Int} {s : zS} {Q : Int → zS → Prop} (h : ((-2147483648 ≤ x1 ∧ x1 ≤ 2147483647) ∧ (x1 < 0 → w_25_16 X s Q) ∧ (¬ x1 < 0 → (((-2147483648 ≤ x1 ∧ x1 ≤ 2147483647) ∧ (-2147483648 ≤ (s 3 6) ∧ (s 3 6) ≤ 2147483647)) ∧ ((s 3 6) ≤ x1 → w_25_16 X s Q) ∧ (¬ (s 3 6) ≤ x1 → Q 1 s))))) : w_25 X x1 s Q := by
  intro hZ d hd
  have hM : xi_ml[25]? = some xm_25 := rfl
  refine gx_r hM hZ 1 (B := (1, [some (.ref 3), some (.int (Int32.ofInt x1))], [.int (Int32.ofInt x1)], zw X s)) rfl ?_
  refine gi_if1 hM hZ (fun x => decide (x < 0)) (p := x1 < 0) rfl rfl (zd_lt h.1) ?_ ?_
  · intro hp
    replace h := h.2.1 hp
    exact gx_fg [false, false] (h hZ d hd)
  · intro hp
    replace h := h.2.2 hp
    refine gx_r hM hZ 3 (B := (9, [some (.ref 3), some (.int (Int32.ofInt x1))], [.int (Int32.ofInt (s 3 6)), .int (Int32.ofInt x1)], zw X s)) rfl ?_
    refine gi_if2 hM hZ (fun x y => decide (y ≤ x)) (p := (s 3 6) ≤ x1) rfl rfl (zc_ge h.1.1 h.1.2) ?_ ?_
    · intro hp
      replace h := h.2.1 hp
      exact gx_fg [false, false] (h hZ d hd)
    · intro hp
      replace h := h.2.2 hp
      refine gx_r hM hZ 2 (B := (17, [some (.ref 3), some (.int (Int32.ofInt x1))], [.int (Int32.ofInt 1)], zw X s)) rfl ?_
      exact ⟨_, xi_To.rf _ _ _ _, 1, s, rfl, h⟩
theorem w_25_16_i {X : zX} {s : zS} {Q : Int → zS → Prop} (h : Q 0 s) : w_25_16 X s Q := by
  intro hZ d hd
  have hM : xi_ml[25]? = some xm_25 := rfl
  refine gx_r hM hZ 1 (B := (17, [none, none], [.int (Int32.ofInt 0)], zw X s)) rfl ?_
  exact ⟨_, xi_To.rf _ _ _ _, 0, s, rfl, h⟩
-- RootLoom$Source.isNode
def w_27 (X : zX) (x1 : Int) (s : zS) (Q : Int → zS → Prop) : Prop := wW X 27 xm_27 0 (0, [some (.ref 3), some (.int (Int32.ofInt x1))], [], zw X s) Q
def w_27_16 (X : zX) (s : zS) (Q : Int → zS → Prop) : Prop := wW X 27 xm_27 0 (16, [none, none], [], zw X s) Q
theorem w_27_i {X : zX} {x1 : Int} {s : zS} {Q : Int → zS → Prop} (h : ((-2147483648 ≤ x1 ∧ x1 ≤ 2147483647) ∧ (x1 < 0 → w_27_16 X s Q) ∧ (¬ x1 < 0 → (((-2147483648 ≤ x1 ∧ x1 ≤ 2147483647) ∧ (-2147483648 ≤ (s 3 11) ∧ (s 3 11) ≤ 2147483647)) ∧ ((s 3 11) ≤ x1 → w_27_16 X s Q) ∧ (¬ (s 3 11) ≤ x1 → Q 1 s))))) : w_27 X x1 s Q := by
  intro hZ d hd
  have hM : xi_ml[27]? = some xm_27 := rfl
  refine gx_r hM hZ 1 (B := (1, [some (.ref 3), some (.int (Int32.ofInt x1))], [.int (Int32.ofInt x1)], zw X s)) rfl ?_
  refine gi_if1 hM hZ (fun x => decide (x < 0)) (p := x1 < 0) rfl rfl (zd_lt h.1) ?_ ?_
  · intro hp
    replace h := h.2.1 hp
    exact gx_fg [false, false] (h hZ d hd)
  · intro hp
    replace h := h.2.2 hp
    refine gx_r hM hZ 3 (B := (9, [some (.ref 3), some (.int (Int32.ofInt x1))], [.int (Int32.ofInt (s 3 11)), .int (Int32.ofInt x1)], zw X s)) rfl ?_
    refine gi_if2 hM hZ (fun x y => decide (y ≤ x)) (p := (s 3 11) ≤ x1) rfl rfl (zc_ge h.1.1 h.1.2) ?_ ?_
    · intro hp
      replace h := h.2.1 hp
      exact gx_fg [false, false] (h hZ d hd)
    · intro hp
      replace h := h.2.2 hp
      refine gx_r hM hZ 2 (B := (17, [some (.ref 3), some (.int (Int32.ofInt x1))], [.int (Int32.ofInt 1)], zw X s)) rfl ?_
      exact ⟨_, xi_To.rf _ _ _ _, 1, s, rfl, h⟩
theorem w_27_16_i {X : zX} {s : zS} {Q : Int → zS → Prop} (h : Q 0 s) : w_27_16 X s Q := by
  intro hZ d hd
  have hM : xi_ml[27]? = some xm_27 := rfl
  refine gx_r hM hZ 1 (B := (17, [none, none], [.int (Int32.ofInt 0)], zw X s)) rfl ?_
  exact ⟨_, xi_To.rf _ _ _ _, 0, s, rfl, h⟩
-- RootLoom$Source.ownInstructions
def w_29 (X : zX) (x0 : Int) (s : zS) (Q : Int → zS → Prop) : Prop := wW X 29 xm_29 0 (0, [some (.int (Int32.ofInt x0))], [], zw X s) Q
theorem w_29_i {X : zX} {x0 : Int} {s : zS} {Q : Int → zS → Prop} (h : ((-2147483648 ≤ x0 ∧ x0 ≤ 2147483647) ∧ ((¬ x0 = 10 ∧ ¬ x0 = 13) → Q 1 s) ∧ ((x0 = 10) → Q 2 s) ∧ ((x0 = 13) → Q 0 s))) : w_29 X x0 s Q := by
  intro hZ d hd
  have hM : xi_ml[29]? = some xm_29 := rfl
  refine gx_r hM hZ 1 (B := (1, [some (.int (Int32.ofInt x0))], [.int (Int32.ofInt x0)], zw X s)) rfl ?_
  by_cases hq0 : (x0 = 10)
  · refine gi_lok hM hZ (x := x0) (o := 29) rfl rfl h.1 ?_ (by decide) ?_
    · rw [hq0]; rfl
    · replace h := h.2.2.1 hq0
      refine gx_r hM hZ 1 (B := (31, [some (.int (Int32.ofInt x0))], [.int (Int32.ofInt 2)], zw X s)) rfl ?_
      exact ⟨_, xi_To.rf _ _ _ _, 2, s, rfl, h⟩
  · by_cases hq1 : (x0 = 13)
    · refine gi_lok hM hZ (x := x0) (o := 27) rfl rfl h.1 ?_ (by decide) ?_
      · rw [hq1]; rfl
      · replace h := h.2.2.2 hq1
        refine gx_r hM hZ 1 (B := (29, [some (.int (Int32.ofInt x0))], [.int (Int32.ofInt 0)], zw X s)) rfl ?_
        exact ⟨_, xi_To.rf _ _ _ _, 0, s, rfl, h⟩
    · refine gi_lok hM hZ (x := x0) (o := 31) rfl rfl h.1 ?_ (by decide) ?_
      · simp only [Op.lookupswitch.offset]
        rw [if_neg (by omega)]
        rw [if_neg (by omega)]
      · replace h := h.2.1 (by omega)
        refine gx_r hM hZ 1 (B := (33, [some (.int (Int32.ofInt x0))], [.int (Int32.ofInt 1)], zw X s)) rfl ?_
        exact ⟨_, xi_To.rf _ _ _ _, 1, s, rfl, h⟩
-- RootLoom$Source.partOf
def w_31 (X : zX) (x1 x2 : Int) (s : zS) (Q : Int → zS → Prop) : Prop := wW X 31 xm_31 0 (0, [some (.ref 3), some (.int (Int32.ofInt x1)), some (.int (Int32.ofInt x2))], [], zw X s) Q
theorem w_31_i {X : zX} {x1 x2 : Int} {s : zS} {Q : Int → zS → Prop} (h : (0 ≤ ((x1 * 3) + x2) ∧ ((x1 * 3) + x2) < 450) ∧ Q (s 11 ((x1 * 3) + x2)) s) : w_31 X x1 x2 s Q := by
  intro hZ d hd
  have hM : xi_ml[31]? = some xm_31 := rfl
  refine gx_r hM hZ 4 (B := (6, [some (.ref 3), some (.int (Int32.ofInt x1)), some (.int (Int32.ofInt x2))], [.int (Int32.ofInt 3), .int (Int32.ofInt x1), .ref 11], zw X s)) rfl ?_
  refine gi_mul hM hZ rfl ?_
  refine gx_r hM hZ 1 (B := (8, [some (.ref 3), some (.int (Int32.ofInt x1)), some (.int (Int32.ofInt x2))], [.int (Int32.ofInt x2), .int (Int32.ofInt (x1 * 3)), .ref 11], zw X s)) rfl ?_
  refine gi_add hM hZ rfl ?_
  refine gi_iald hM hZ (s := s) (len := 450) rfl rfl (Nat.le_of_ble_eq_true rfl) h.1 ?_
  replace h := h.2
  exact ⟨_, xi_To.rf _ _ _ _, (s 11 ((x1 * 3) + x2)), s, rfl, h⟩
-- RootLoom$Source.waitingAt
def w_32 (X : zX) (x0 x1 : Int) (s : zS) (Q : Int → zS → Prop) : Prop := wW X 32 xm_32 0 (0, [some (.int (Int32.ofInt x0)), some (.int (Int32.ofInt x1))], [], zw X s) Q
theorem w_32_i {X : zX} {x0 x1 : Int} {s : zS} {Q : Int → zS → Prop} (h : ((-2147483648 ≤ x0 ∧ x0 ≤ 2147483647) ∧ ((¬ x0 = 3 ∧ ¬ x0 = 4 ∧ ¬ x0 = 5 ∧ ¬ x0 = 13 ∧ ¬ x0 = 14 ∧ ¬ x0 = 15 ∧ ¬ x0 = 6) → Q 0 s) ∧ ((x0 = 3 ∨ x0 = 4 ∨ x0 = 5 ∨ x0 = 13 ∨ x0 = 14 ∨ x0 = 15) → ((-2147483648 ≤ x1 ∧ x1 ≤ 2147483647) ∧ (¬ x1 = 1 → Q 0 s) ∧ (¬ ¬ x1 = 1 → Q 1 s))) ∧ ((x0 = 6) → ((-2147483648 ≤ x1 ∧ x1 ≤ 2147483647) ∧ (¬ x1 = 2 → Q 0 s) ∧ (¬ ¬ x1 = 2 → Q 1 s))))) : w_32 X x0 x1 s Q := by
  intro hZ d hd
  have hM : xi_ml[32]? = some xm_32 := rfl
  refine gx_r hM hZ 1 (B := (1, [some (.int (Int32.ofInt x0)), some (.int (Int32.ofInt x1))], [.int (Int32.ofInt x0)], zw X s)) rfl ?_
  by_cases hq0 : (x0 = 3 ∨ x0 = 4 ∨ x0 = 5 ∨ x0 = 13 ∨ x0 = 14 ∨ x0 = 15)
  · refine gi_tab hM hZ (x := x0) (o := 67) rfl h.1 ?_ (by decide) ?_
    · rcases hq0 with e | e | e | e | e | e <;> (rw [e]; rfl)
    · replace h := h.2.2.1 hq0
      refine gx_r hM hZ 2 (B := (70, [some (.int (Int32.ofInt x0)), some (.int (Int32.ofInt x1))], [.int (Int32.ofInt 1), .int (Int32.ofInt x1)], zw X s)) rfl ?_
      refine gi_if2 hM hZ (fun x y => decide (¬ x = y)) (p := ¬ x1 = 1) rfl rfl (zc_ne h.1 (by decide)) ?_ ?_
      · intro hp
        replace h := h.2.1 hp
        refine gx_r hM hZ 1 (B := (78, [some (.int (Int32.ofInt x0)), some (.int (Int32.ofInt x1))], [.int (Int32.ofInt 0)], zw X s)) rfl ?_
        exact ⟨_, xi_To.rf _ _ _ _, 0, s, rfl, h⟩
      · intro hp
        replace h := h.2.2 hp
        refine gx_r hM hZ 2 (B := (78, [some (.int (Int32.ofInt x0)), some (.int (Int32.ofInt x1))], [.int (Int32.ofInt 1)], zw X s)) rfl ?_
        exact ⟨_, xi_To.rf _ _ _ _, 1, s, rfl, h⟩
  · by_cases hq1 : (x0 = 6)
    · refine gi_tab hM hZ (x := x0) (o := 78) rfl h.1 ?_ (by decide) ?_
      · rw [hq1]; rfl
      · replace h := h.2.2.2 hq1
        refine gx_r hM hZ 2 (B := (81, [some (.int (Int32.ofInt x0)), some (.int (Int32.ofInt x1))], [.int (Int32.ofInt 2), .int (Int32.ofInt x1)], zw X s)) rfl ?_
        refine gi_if2 hM hZ (fun x y => decide (¬ x = y)) (p := ¬ x1 = 2) rfl rfl (zc_ne h.1 (by decide)) ?_ ?_
        · intro hp
          replace h := h.2.1 hp
          refine gx_r hM hZ 1 (B := (89, [some (.int (Int32.ofInt x0)), some (.int (Int32.ofInt x1))], [.int (Int32.ofInt 0)], zw X s)) rfl ?_
          exact ⟨_, xi_To.rf _ _ _ _, 0, s, rfl, h⟩
        · intro hp
          replace h := h.2.2 hp
          refine gx_r hM hZ 2 (B := (89, [some (.int (Int32.ofInt x0)), some (.int (Int32.ofInt x1))], [.int (Int32.ofInt 1)], zw X s)) rfl ?_
          exact ⟨_, xi_To.rf _ _ _ _, 1, s, rfl, h⟩
    · refine gi_tab hM hZ (x := x0) (o := 89) rfl h.1 ?_ (by decide) ?_
      · by_cases hr : x0 < 3 ∨ 15 < x0
        · exact if_pos hr
        · have e : x0 = 7 ∨ x0 = 8 ∨ x0 = 9 ∨ x0 = 10 ∨ x0 = 11 ∨ x0 = 12 := by omega
          rcases e with e | e | e | e | e | e <;> (rw [e]; rfl)
      · replace h := h.2.1 (by omega)
        refine gx_r hM hZ 1 (B := (91, [some (.int (Int32.ofInt x0)), some (.int (Int32.ofInt x1))], [.int (Int32.ofInt 0)], zw X s)) rfl ?_
        exact ⟨_, xi_To.rf _ _ _ _, 0, s, rfl, h⟩
-- RootLoom$Source.parameterType
def w_34 (X : zX) (x1 x2 : Int) (s : zS) (Q : Int → zS → Prop) : Prop := wW X 34 xm_34 0 (0, [some (.ref 3), some (.int (Int32.ofInt x1)), some (.int (Int32.ofInt x2))], [], zw X s) Q
theorem w_34_i {X : zX} {x1 x2 : Int} {s : zS} {Q : Int → zS → Prop} (h : (0 ≤ ((x1 * 3) + x2) ∧ ((x1 * 3) + x2) < 18) ∧ Q (s 8 ((x1 * 3) + x2)) s) : w_34 X x1 x2 s Q := by
  intro hZ d hd
  have hM : xi_ml[34]? = some xm_34 := rfl
  refine gx_r hM hZ 4 (B := (6, [some (.ref 3), some (.int (Int32.ofInt x1)), some (.int (Int32.ofInt x2))], [.int (Int32.ofInt 3), .int (Int32.ofInt x1), .ref 8], zw X s)) rfl ?_
  refine gi_mul hM hZ rfl ?_
  refine gx_r hM hZ 1 (B := (8, [some (.ref 3), some (.int (Int32.ofInt x1)), some (.int (Int32.ofInt x2))], [.int (Int32.ofInt x2), .int (Int32.ofInt (x1 * 3)), .ref 8], zw X s)) rfl ?_
  refine gi_add hM hZ rfl ?_
  refine gi_iald hM hZ (s := s) (len := 18) rfl rfl (Nat.le_of_ble_eq_true rfl) h.1 ?_
  replace h := h.2
  exact ⟨_, xi_To.rf _ _ _ _, (s 8 ((x1 * 3) + x2)), s, rfl, h⟩
-- RootLoom$Code.clear
def w_38 (X : zX) (s : zS) (Q : Int → zS → Prop) : Prop := wW X 38 xm_38 0 (0, [some (.ref 14), none], [], zw X s) Q
def w_38_22 (X : zX) (x1 : Int) (s : zS) (Q : Int → zS → Prop) : Prop := wW X 38 xm_38 0 (22, [some (.ref 14), some (.int (Int32.ofInt x1))], [], zw X s) Q
theorem w_38_i {X : zX} {s : zS} {Q : Int → zS → Prop} (h : (∀ s1 : zS, s1 = zu s 14 0 0 → (∀ s2 : zS, s2 = zu s1 14 1 0 → (∀ s3 : zS, s3 = zu s2 14 2 0 → (∀ s4 : zS, s4 = zu s3 14 3 0 → w_38_22 X 0 s4 Q))))) : w_38 X s Q := by
  intro hZ d hd
  have hM : xi_ml[38]? = some xm_38 := rfl
  refine gx_r hM hZ 2 (B := (2, [some (.ref 14), none], [.int (Int32.ofInt 0), .ref 14], zw X s)) rfl ?_
  obtain ⟨s1, e1⟩ : ∃ q : zS, q = zu s 14 0 0 := ⟨_, rfl⟩
  refine gj_put hM hZ rfl rfl rfl (Nat.le_of_ble_eq_true rfl) rfl rfl zq_14_0 e1 ?_
  replace h := h _ e1
  refine gx_r hM hZ 2 (B := (7, [some (.ref 14), none], [.int (Int32.ofInt 0), .ref 14], zw X s1)) rfl ?_
  obtain ⟨s2, e2⟩ : ∃ q : zS, q = zu s1 14 1 0 := ⟨_, rfl⟩
  refine gj_put hM hZ rfl rfl rfl (Nat.le_of_ble_eq_true rfl) rfl rfl zq_14_1 e2 ?_
  replace h := h _ e2
  refine gx_r hM hZ 2 (B := (12, [some (.ref 14), none], [.int (Int32.ofInt 0), .ref 14], zw X s2)) rfl ?_
  obtain ⟨s3, e3⟩ : ∃ q : zS, q = zu s2 14 2 0 := ⟨_, rfl⟩
  refine gj_put hM hZ rfl rfl rfl (Nat.le_of_ble_eq_true rfl) rfl rfl zq_14_2 e3 ?_
  replace h := h _ e3
  refine gx_r hM hZ 2 (B := (17, [some (.ref 14), none], [.int (Int32.ofInt 0), .ref 14], zw X s3)) rfl ?_
  obtain ⟨s4, e4⟩ : ∃ q : zS, q = zu s3 14 3 0 := ⟨_, rfl⟩
  refine gj_put hM hZ rfl rfl rfl (Nat.le_of_ble_eq_true rfl) rfl rfl zq_14_3 e4 ?_
  replace h := h _ e4
  refine gx_r hM hZ 2 (B := (22, [some (.ref 14), some (.int (Int32.ofInt 0))], [], zw X s4)) rfl ?_
  exact gx_fg [true, true] (h hZ d hd)
theorem w_38_22_i {X : zX} {x1 : Int} {s : zS} {Q : Int → zS → Prop} (h : ((-2147483648 ≤ x1 ∧ x1 ≤ 2147483647) ∧ (6 ≤ x1 → Q 0 s) ∧ (¬ 6 ≤ x1 → (0 ≤ x1 ∧ x1 < 6) ∧ (∀ s1 : zS, s1 = zu s 19 x1 (-1) → w_38_22 X (x1 + 1) s1 Q)))) : w_38_22 X x1 s Q := by
  intro hZ d hd
  have hM : xi_ml[38]? = some xm_38 := rfl
  refine gx_r hM hZ 1 (B := (23, [some (.ref 14), some (.int (Int32.ofInt x1))], [.int (Int32.ofInt x1)], zw X s)) rfl ?_
  refine gi_bip hM hZ rfl rfl ?_
  refine gi_if2 hM hZ (fun x y => decide (y ≤ x)) (p := 6 ≤ x1) rfl rfl (zc_ge h.1 (by decide)) ?_ ?_
  · intro hp
    replace h := h.2.1 hp
    exact ⟨_, xi_To.rf _ _ _ _, 0, s, rfl, h⟩
  · intro hp
    replace h := h.2.2 hp
    refine gx_r hM hZ 4 (B := (34, [some (.ref 14), some (.int (Int32.ofInt x1))], [.int (Int32.ofInt (-1)), .int (Int32.ofInt x1), .ref 19], zw X s)) rfl ?_
    obtain ⟨s1, e1⟩ : ∃ q : zS, q = zu s 19 x1 (-1) := ⟨_, rfl⟩
    refine gj_iast hM hZ (len := 6) rfl rfl (Nat.le_of_ble_eq_true rfl) zp_19 h.1 e1 ?_
    replace h := h.2 _ e1
    refine gi_inc hM hZ (x := x1) (m := 1) rfl rfl ?_
    refine gx_r hM hZ 0 (B := (38, [some (.ref 14), some (.int (Int32.ofInt (x1 + 1)))], [], zw X s1)) rfl ?_
    refine gx_r hM hZ 1 (B := (22, [some (.ref 14), some (.int (Int32.ofInt (x1 + 1)))], [], zw X s1)) rfl ?_
    exact gx_fg [true, true] (h hZ d hd)
-- RootLoom$Code.add
def w_39 (X : zX) (x1 x2 : Int) (s : zS) (Q : Int → zS → Prop) : Prop := wW X 39 xm_39 0 (0, [some (.ref 14), some (.int (Int32.ofInt x1)), some (.int (Int32.ofInt x2)), none], [], zw X s) Q
theorem w_39_i {X : zX} {x1 x2 : Int} {s : zS} {Q : Int → zS → Prop} (h : (0 ≤ (s 14 1) ∧ (s 14 1) < 400) ∧ (∀ s1 : zS, s1 = zu s 15 (s 14 1) x1 → (0 ≤ (s 14 1) ∧ (s 14 1) < 400) ∧ (∀ s2 : zS, s2 = zu s1 16 (s 14 1) x2 → (∀ s3 : zS, s3 = zu s2 14 1 ((s2 14 1) + 1) → Q (s 14 1) s3)))) : w_39 X x1 x2 s Q := by
  intro hZ d hd
  have hM : xi_ml[39]? = some xm_39 := rfl
  refine gx_r hM hZ 7 (B := (11, [some (.ref 14), some (.int (Int32.ofInt x1)), some (.int (Int32.ofInt x2)), some (.int (Int32.ofInt (s 14 1)))], [.int (Int32.ofInt x1), .int (Int32.ofInt (s 14 1)), .ref 15], zw X s)) rfl ?_
  obtain ⟨s1, e1⟩ : ∃ q : zS, q = zu s 15 (s 14 1) x1 := ⟨_, rfl⟩
  refine gj_iast hM hZ (len := 400) rfl rfl (Nat.le_of_ble_eq_true rfl) zp_15 h.1 e1 ?_
  replace h := h.2 _ e1
  refine gx_r hM hZ 4 (B := (18, [some (.ref 14), some (.int (Int32.ofInt x1)), some (.int (Int32.ofInt x2)), some (.int (Int32.ofInt (s 14 1)))], [.int (Int32.ofInt x2), .int (Int32.ofInt (s 14 1)), .ref 16], zw X s1)) rfl ?_
  obtain ⟨s2, e2⟩ : ∃ q : zS, q = zu s1 16 (s 14 1) x2 := ⟨_, rfl⟩
  refine gj_iast hM hZ (len := 400) rfl rfl (Nat.le_of_ble_eq_true rfl) zp_16 h.1 e2 ?_
  replace h := h.2 _ e2
  refine gx_r hM hZ 4 (B := (25, [some (.ref 14), some (.int (Int32.ofInt x1)), some (.int (Int32.ofInt x2)), some (.int (Int32.ofInt (s 14 1)))], [.int (Int32.ofInt 1), .int (Int32.ofInt (s2 14 1)), .ref 14], zw X s2)) rfl ?_
  refine gi_add hM hZ rfl ?_
  obtain ⟨s3, e3⟩ : ∃ q : zS, q = zu s2 14 1 ((s2 14 1) + 1) := ⟨_, rfl⟩
  refine gj_put hM hZ rfl rfl rfl (Nat.le_of_ble_eq_true rfl) rfl rfl zq_14_1 e3 ?_
  replace h := h _ e3
  refine gx_r hM hZ 1 (B := (30, [some (.ref 14), some (.int (Int32.ofInt x1)), some (.int (Int32.ofInt x2)), some (.int (Int32.ofInt (s 14 1)))], [.int (Int32.ofInt (s 14 1))], zw X s3)) rfl ?_
  exact ⟨_, xi_To.rf _ _ _ _, (s 14 1), s3, rfl, h⟩
-- RootLoom$Code.isMapped
def w_40 (X : zX) (x1 : Int) (s : zS) (Q : Int → zS → Prop) : Prop := wW X 40 xm_40 0 (0, [some (.ref 14), some (.int (Int32.ofInt x1))], [], zw X s) Q
def w_40_22 (X : zX) (s : zS) (Q : Int → zS → Prop) : Prop := wW X 40 xm_40 0 (22, [none, none], [], zw X s) Q
theorem w_40_i {X : zX} {x1 : Int} {s : zS} {Q : Int → zS → Prop} (h : (0 ≤ x1 ∧ x1 < 400) ∧ ((-2147483648 ≤ (s 15 x1) ∧ (s 15 x1) ≤ 2147483647) ∧ ((s 15 x1) = 6 → w_40_22 X s Q) ∧ (¬ (s 15 x1) = 6 → (0 ≤ x1 ∧ x1 < 400) ∧ ((-2147483648 ≤ (s 15 x1) ∧ (s 15 x1) ≤ 2147483647) ∧ (¬ (s 15 x1) = 13 → Q 0 s) ∧ (¬ ¬ (s 15 x1) = 13 → w_40_22 X s Q))))) : w_40 X x1 s Q := by
  intro hZ d hd
  have hM : xi_ml[40]? = some xm_40 := rfl
  refine gx_r hM hZ 3 (B := (5, [some (.ref 14), some (.int (Int32.ofInt x1))], [.int (Int32.ofInt x1), .ref 15], zw X s)) rfl ?_
  refine gi_iald hM hZ (s := s) (len := 400) rfl rfl (Nat.le_of_ble_eq_true rfl) h.1 ?_
  replace h := h.2
  refine gi_bip hM hZ rfl rfl ?_
  refine gi_if2 hM hZ (fun x y => decide (x = y)) (p := (s 15 x1) = 6) rfl rfl (zc_eq h.1 (by decide)) ?_ ?_
  · intro hp
    replace h := h.2.1 hp
    exact gx_fg [false, false] (h hZ d hd)
  · intro hp
    replace h := h.2.2 hp
    refine gx_r hM hZ 3 (B := (16, [some (.ref 14), some (.int (Int32.ofInt x1))], [.int (Int32.ofInt x1), .ref 15], zw X s)) rfl ?_
    refine gi_iald hM hZ (s := s) (len := 400) rfl rfl (Nat.le_of_ble_eq_true rfl) h.1 ?_
    replace h := h.2
    refine gi_bip hM hZ rfl rfl ?_
    refine gi_if2 hM hZ (fun x y => decide (¬ x = y)) (p := ¬ (s 15 x1) = 13) rfl rfl (zc_ne h.1 (by decide)) ?_ ?_
    · intro hp
      replace h := h.2.1 hp
      refine gx_r hM hZ 1 (B := (27, [some (.ref 14), some (.int (Int32.ofInt x1))], [.int (Int32.ofInt 0)], zw X s)) rfl ?_
      exact ⟨_, xi_To.rf _ _ _ _, 0, s, rfl, h⟩
    · intro hp
      replace h := h.2.2 hp
      exact gx_fg [false, false] (h hZ d hd)
theorem w_40_22_i {X : zX} {s : zS} {Q : Int → zS → Prop} (h : Q 1 s) : w_40_22 X s Q := by
  intro hZ d hd
  have hM : xi_ml[40]? = some xm_40 := rfl
  refine gx_r hM hZ 2 (B := (27, [none, none], [.int (Int32.ofInt 1)], zw X s)) rfl ?_
  exact ⟨_, xi_To.rf _ _ _ _, 1, s, rfl, h⟩
-- RootLoom$Code.keepTypes
def w_41_3 (X : zX) (s : zS) (Q : Int → zS → Prop) : Prop := wW X 41 xm_41 0 (0, [some (.ref 14), some (.ref 3), none], [], zw X s) Q
def w_41_3_2 (X : zX) (x2 : Int) (s : zS) (Q : Int → zS → Prop) : Prop := wW X 41 xm_41 0 (2, [some (.ref 14), some (.ref 3), some (.int (Int32.ofInt x2))], [], zw X s) Q
theorem w_41_3_i {X : zX} {s : zS} {Q : Int → zS → Prop} (h : w_41_3_2 X 0 s Q) : w_41_3 X s Q := by
  intro hZ d hd
  have hM : xi_ml[41]? = some xm_41 := rfl
  refine gx_r hM hZ 2 (B := (2, [some (.ref 14), some (.ref 3), some (.int (Int32.ofInt 0))], [], zw X s)) rfl ?_
  exact gx_fg [true, true, true] (h hZ d hd)
theorem w_41_3_2_i {X : zX} {x2 : Int} {s : zS} {Q : Int → zS → Prop} (h : ((-2147483648 ≤ x2 ∧ x2 ≤ 2147483647) ∧ (8 ≤ x2 → Q 0 s) ∧ (¬ 8 ≤ x2 → (0 ≤ x2 ∧ x2 < 8) ∧ (0 ≤ x2 ∧ x2 < 8) ∧ (∀ s1 : zS, s1 = zu s 20 x2 (s 4 x2) → (0 ≤ x2 ∧ x2 < 8) ∧ (0 ≤ x2 ∧ x2 < 8) ∧ (∀ s2 : zS, s2 = zu s1 21 x2 (s1 5 x2) → w_41_3_2 X (x2 + 1) s2 Q))))) : w_41_3_2 X x2 s Q := by
  intro hZ d hd
  have hM : xi_ml[41]? = some xm_41 := rfl
  refine gx_r hM hZ 1 (B := (3, [some (.ref 14), some (.ref 3), some (.int (Int32.ofInt x2))], [.int (Int32.ofInt x2)], zw X s)) rfl ?_
  refine gi_bip hM hZ rfl rfl ?_
  refine gi_if2 hM hZ (fun x y => decide (y ≤ x)) (p := 8 ≤ x2) rfl rfl (zc_ge h.1 (by decide)) ?_ ?_
  · intro hp
    replace h := h.2.1 hp
    exact ⟨_, xi_To.rf _ _ _ _, 0, s, rfl, h⟩
  · intro hp
    replace h := h.2.2 hp
    refine gx_r hM hZ 6 (B := (18, [some (.ref 14), some (.ref 3), some (.int (Int32.ofInt x2))], [.int (Int32.ofInt x2), .ref 4, .int (Int32.ofInt x2), .ref 20], zw X s)) rfl ?_
    refine gi_iald hM hZ (s := s) (len := 8) rfl rfl (Nat.le_of_ble_eq_true rfl) h.1 ?_
    replace h := h.2
    obtain ⟨s1, e1⟩ : ∃ q : zS, q = zu s 20 x2 (s 4 x2) := ⟨_, rfl⟩
    refine gj_iast hM hZ (len := 8) rfl rfl (Nat.le_of_ble_eq_true rfl) zp_20 h.1 e1 ?_
    replace h := h.2 _ e1
    refine gx_r hM hZ 6 (B := (30, [some (.ref 14), some (.ref 3), some (.int (Int32.ofInt x2))], [.int (Int32.ofInt x2), .ref 5, .int (Int32.ofInt x2), .ref 21], zw X s1)) rfl ?_
    refine gi_iald hM hZ (s := s1) (len := 8) rfl rfl (Nat.le_of_ble_eq_true rfl) h.1 ?_
    replace h := h.2
    obtain ⟨s2, e2⟩ : ∃ q : zS, q = zu s1 21 x2 (s1 5 x2) := ⟨_, rfl⟩
    refine gj_iast hM hZ (len := 8) rfl rfl (Nat.le_of_ble_eq_true rfl) zp_21 h.1 e2 ?_
    replace h := h.2 _ e2
    refine gi_inc hM hZ (x := x2) (m := 1) rfl rfl ?_
    refine gx_r hM hZ 0 (B := (35, [some (.ref 14), some (.ref 3), some (.int (Int32.ofInt (x2 + 1)))], [], zw X s2)) rfl ?_
    refine gx_r hM hZ 1 (B := (2, [some (.ref 14), some (.ref 3), some (.int (Int32.ofInt (x2 + 1)))], [], zw X s2)) rfl ?_
    exact gx_fg [true, true, true] (h hZ d hd)
-- RootLoom$Code.startOf
def w_42 (X : zX) (x1 : Int) (s : zS) (Q : Int → zS → Prop) : Prop := wW X 42 xm_42 0 (0, [some (.ref 14), some (.int (Int32.ofInt x1))], [], zw X s) Q
def w_42_26 (X : zX) (s : zS) (Q : Int → zS → Prop) : Prop := wW X 42 xm_42 0 (26, [none, none], [], zw X s) Q
theorem w_42_i {X : zX} {x1 : Int} {s : zS} {Q : Int → zS → Prop} (h : ((-2147483648 ≤ (s 14 0) ∧ (s 14 0) ≤ 2147483647) ∧ ((s 14 0) = 0 → w_42_26 X s Q) ∧ (¬ (s 14 0) = 0 → ((-2147483648 ≤ x1 ∧ x1 ≤ 2147483647) ∧ (x1 < 0 → w_42_26 X s Q) ∧ (¬ x1 < 0 → ((-2147483648 ≤ x1 ∧ x1 ≤ 2147483647) ∧ (6 ≤ x1 → w_42_26 X s Q) ∧ (¬ 6 ≤ x1 → (0 ≤ x1 ∧ x1 < 6) ∧ Q (s 19 x1) s))))))) : w_42 X x1 s Q := by
  intro hZ d hd
  have hM : xi_ml[42]? = some xm_42 := rfl
  refine gx_r hM hZ 2 (B := (4, [some (.ref 14), some (.int (Int32.ofInt x1))], [.int (Int32.ofInt (s 14 0))], zw X s)) rfl ?_
  refine gi_if1 hM hZ (fun x => decide (x = 0)) (p := (s 14 0) = 0) rfl rfl (zd_eq h.1) ?_ ?_
  · intro hp
    replace h := h.2.1 hp
    exact gx_fg [false, false] (h hZ d hd)
  · intro hp
    replace h := h.2.2 hp
    refine gx_r hM hZ 1 (B := (8, [some (.ref 14), some (.int (Int32.ofInt x1))], [.int (Int32.ofInt x1)], zw X s)) rfl ?_
    refine gi_if1 hM hZ (fun x => decide (x < 0)) (p := x1 < 0) rfl rfl (zd_lt h.1) ?_ ?_
    · intro hp
      replace h := h.2.1 hp
      exact gx_fg [false, false] (h hZ d hd)
    · intro hp
      replace h := h.2.2 hp
      refine gx_r hM hZ 1 (B := (12, [some (.ref 14), some (.int (Int32.ofInt x1))], [.int (Int32.ofInt x1)], zw X s)) rfl ?_
      refine gi_bip hM hZ rfl rfl ?_
      refine gi_if2 hM hZ (fun x y => decide (y ≤ x)) (p := 6 ≤ x1) rfl rfl (zc_ge h.1 (by decide)) ?_ ?_
      · intro hp
        replace h := h.2.1 hp
        exact gx_fg [false, false] (h hZ d hd)
      · intro hp
        replace h := h.2.2 hp
        refine gx_r hM hZ 3 (B := (22, [some (.ref 14), some (.int (Int32.ofInt x1))], [.int (Int32.ofInt x1), .ref 19], zw X s)) rfl ?_
        refine gi_iald hM hZ (s := s) (len := 6) rfl rfl (Nat.le_of_ble_eq_true rfl) h.1 ?_
        replace h := h.2
        refine gx_r hM hZ 1 (B := (27, [some (.ref 14), some (.int (Int32.ofInt x1))], [.int (Int32.ofInt (s 19 x1))], zw X s)) rfl ?_
        exact ⟨_, xi_To.rf _ _ _ _, (s 19 x1), s, rfl, h⟩
theorem w_42_26_i {X : zX} {s : zS} {Q : Int → zS → Prop} (h : Q (-1) s) : w_42_26 X s Q := by
  intro hZ d hd
  have hM : xi_ml[42]? = some xm_42 := rfl
  refine gx_r hM hZ 1 (B := (27, [none, none], [.int (Int32.ofInt (-1))], zw X s)) rfl ?_
  exact ⟨_, xi_To.rf _ _ _ _, (-1), s, rfl, h⟩
-- RootLoom$Code.has
def w_43 (X : zX) (x1 : Int) (s : zS) (Q : Int → zS → Prop) : Prop := wW X 43 xm_43 0 (0, [some (.ref 14), some (.int (Int32.ofInt x1))], [], zw X s) Q
def w_43_23 (X : zX) (s : zS) (Q : Int → zS → Prop) : Prop := wW X 43 xm_43 0 (23, [none, none], [], zw X s) Q
theorem w_43_i {X : zX} {x1 : Int} {s : zS} {Q : Int → zS → Prop} (h : ((-2147483648 ≤ (s 14 0) ∧ (s 14 0) ≤ 2147483647) ∧ ((s 14 0) = 0 → w_43_23 X s Q) ∧ (¬ (s 14 0) = 0 → ((-2147483648 ≤ x1 ∧ x1 ≤ 2147483647) ∧ (x1 < 0 → w_43_23 X s Q) ∧ (¬ x1 < 0 → (((-2147483648 ≤ x1 ∧ x1 ≤ 2147483647) ∧ (-2147483648 ≤ (s 14 1) ∧ (s 14 1) ≤ 2147483647)) ∧ ((s 14 1) ≤ x1 → w_43_23 X s Q) ∧ (¬ (s 14 1) ≤ x1 → Q 1 s))))))) : w_43 X x1 s Q := by
  intro hZ d hd
  have hM : xi_ml[43]? = some xm_43 := rfl
  refine gx_r hM hZ 2 (B := (4, [some (.ref 14), some (.int (Int32.ofInt x1))], [.int (Int32.ofInt (s 14 0))], zw X s)) rfl ?_
  refine gi_if1 hM hZ (fun x => decide (x = 0)) (p := (s 14 0) = 0) rfl rfl (zd_eq h.1) ?_ ?_
  · intro hp
    replace h := h.2.1 hp
    exact gx_fg [false, false] (h hZ d hd)
  · intro hp
    replace h := h.2.2 hp
    refine gx_r hM hZ 1 (B := (8, [some (.ref 14), some (.int (Int32.ofInt x1))], [.int (Int32.ofInt x1)], zw X s)) rfl ?_
    refine gi_if1 hM hZ (fun x => decide (x < 0)) (p := x1 < 0) rfl rfl (zd_lt h.1) ?_ ?_
    · intro hp
      replace h := h.2.1 hp
      exact gx_fg [false, false] (h hZ d hd)
    · intro hp
      replace h := h.2.2 hp
      refine gx_r hM hZ 3 (B := (16, [some (.ref 14), some (.int (Int32.ofInt x1))], [.int (Int32.ofInt (s 14 1)), .int (Int32.ofInt x1)], zw X s)) rfl ?_
      refine gi_if2 hM hZ (fun x y => decide (y ≤ x)) (p := (s 14 1) ≤ x1) rfl rfl (zc_ge h.1.1 h.1.2) ?_ ?_
      · intro hp
        replace h := h.2.1 hp
        exact gx_fg [false, false] (h hZ d hd)
      · intro hp
        replace h := h.2.2 hp
        refine gx_r hM hZ 2 (B := (24, [some (.ref 14), some (.int (Int32.ofInt x1))], [.int (Int32.ofInt 1)], zw X s)) rfl ?_
        exact ⟨_, xi_To.rf _ _ _ _, 1, s, rfl, h⟩
theorem w_43_23_i {X : zX} {s : zS} {Q : Int → zS → Prop} (h : Q 0 s) : w_43_23 X s Q := by
  intro hZ d hd
  have hM : xi_ml[43]? = some xm_43 := rfl
  refine gx_r hM hZ 1 (B := (24, [none, none], [.int (Int32.ofInt 0)], zw X s)) rfl ?_
  exact ⟨_, xi_To.rf _ _ _ _, 0, s, rfl, h⟩
-- RootLoom$Weaver.begin
def w_47 (X : zX) (x1 : Int) (s : zS) (Q : Int → zS → Prop) : Prop := wW X 47 xm_47 0 (0, [some (.ref 22), some (.int (Int32.ofInt x1))], [], zw X s) Q
theorem w_47_i {X : zX} {x1 : Int} {s : zS} {Q : Int → zS → Prop} (h : (0 ≤ (s 22 6) ∧ (s 22 6) < 150) ∧ (∀ s1 : zS, s1 = zu s 23 (s 22 6) x1 → (0 ≤ (s1 22 6) ∧ (s1 22 6) < 150) ∧ (∀ s2 : zS, s2 = zu s1 24 (s1 22 6) 0 → (∀ s3 : zS, s3 = zu s2 22 6 ((s2 22 6) + 1) → Q 0 s3)))) : w_47 X x1 s Q := by
  intro hZ d hd
  have hM : xi_ml[47]? = some xm_47 := rfl
  refine gx_r hM hZ 5 (B := (9, [some (.ref 22), some (.int (Int32.ofInt x1))], [.int (Int32.ofInt x1), .int (Int32.ofInt (s 22 6)), .ref 23], zw X s)) rfl ?_
  obtain ⟨s1, e1⟩ : ∃ q : zS, q = zu s 23 (s 22 6) x1 := ⟨_, rfl⟩
  refine gj_iast hM hZ (len := 150) rfl rfl (Nat.le_of_ble_eq_true rfl) zp_23 h.1 e1 ?_
  replace h := h.2 _ e1
  refine gx_r hM hZ 5 (B := (19, [some (.ref 22), some (.int (Int32.ofInt x1))], [.int (Int32.ofInt 0), .int (Int32.ofInt (s1 22 6)), .ref 24], zw X s1)) rfl ?_
  obtain ⟨s2, e2⟩ : ∃ q : zS, q = zu s1 24 (s1 22 6) 0 := ⟨_, rfl⟩
  refine gj_iast hM hZ (len := 150) rfl rfl (Nat.le_of_ble_eq_true rfl) zp_24 h.1 e2 ?_
  replace h := h.2 _ e2
  refine gx_r hM hZ 4 (B := (26, [some (.ref 22), some (.int (Int32.ofInt x1))], [.int (Int32.ofInt 1), .int (Int32.ofInt (s2 22 6)), .ref 22], zw X s2)) rfl ?_
  refine gi_add hM hZ rfl ?_
  obtain ⟨s3, e3⟩ : ∃ q : zS, q = zu s2 22 6 ((s2 22 6) + 1) := ⟨_, rfl⟩
  refine gj_put hM hZ rfl rfl rfl (Nat.le_of_ble_eq_true rfl) rfl rfl zq_22_6 e3 ?_
  replace h := h _ e3
  exact ⟨_, xi_To.rf _ _ _ _, 0, s3, rfl, h⟩
-- RootLoom$Weaver.putType
def w_49 (X : zX) (x1 : Int) (s : zS) (Q : Int → zS → Prop) : Prop := wW X 49 xm_49 0 (0, [some (.ref 22), some (.int (Int32.ofInt x1))], [], zw X s) Q
theorem w_49_i {X : zX} {x1 : Int} {s : zS} {Q : Int → zS → Prop} (h : ((-2147483648 ≤ (s 22 8) ∧ (s 22 8) ≤ 2147483647) ∧ (¬ (s 22 8) = 16 → (0 ≤ (s 22 8) ∧ (s 22 8) < 16) ∧ (∀ s1 : zS, s1 = zu s 27 (s 22 8) x1 → (∀ s2 : zS, s2 = zu s1 22 8 ((s1 22 8) + 1) → Q 0 s2))) ∧ (¬ ¬ (s 22 8) = 16 → (∀ s3 : zS, s3 = zu s 22 10 0 → Q 0 s3)))) : w_49 X x1 s Q := by
  intro hZ d hd
  have hM : xi_ml[49]? = some xm_49 := rfl
  refine gx_r hM hZ 2 (B := (4, [some (.ref 22), some (.int (Int32.ofInt x1))], [.int (Int32.ofInt (s 22 8))], zw X s)) rfl ?_
  refine gi_bip hM hZ rfl rfl ?_
  refine gi_if2 hM hZ (fun x y => decide (¬ x = y)) (p := ¬ (s 22 8) = 16) rfl rfl (zc_ne h.1 (by decide)) ?_ ?_
  · intro hp
    replace h := h.2.1 hp
    refine gx_r hM hZ 5 (B := (24, [some (.ref 22), some (.int (Int32.ofInt x1))], [.int (Int32.ofInt x1), .int (Int32.ofInt (s 22 8)), .ref 27], zw X s)) rfl ?_
    obtain ⟨s1, e1⟩ : ∃ q : zS, q = zu s 27 (s 22 8) x1 := ⟨_, rfl⟩
    refine gj_iast hM hZ (len := 16) rfl rfl (Nat.le_of_ble_eq_true rfl) zp_27 h.1 e1 ?_
    replace h := h.2 _ e1
    refine gx_r hM hZ 4 (B := (31, [some (.ref 22), some (.int (Int32.ofInt x1))], [.int (Int32.ofInt 1), .int (Int32.ofInt (s1 22 8)), .ref 22], zw X s1)) rfl ?_
    refine gi_add hM hZ rfl ?_
    obtain ⟨s2, e2⟩ : ∃ q : zS, q = zu s1 22 8 ((s1 22 8) + 1) := ⟨_, rfl⟩
    refine gj_put hM hZ rfl rfl rfl (Nat.le_of_ble_eq_true rfl) rfl rfl zq_22_8 e2 ?_
    replace h := h _ e2
    exact ⟨_, xi_To.rf _ _ _ _, 0, s2, rfl, h⟩
  · intro hp
    replace h := h.2.2 hp
    refine gx_r hM hZ 2 (B := (11, [some (.ref 22), some (.int (Int32.ofInt x1))], [.int (Int32.ofInt 0), .ref 22], zw X s)) rfl ?_
    obtain ⟨s3, e3⟩ : ∃ q : zS, q = zu s 22 10 0 := ⟨_, rfl⟩
    refine gj_put hM hZ rfl rfl rfl (Nat.le_of_ble_eq_true rfl) rfl rfl zq_22_10 e3 ?_
    replace h := h _ e3
    exact ⟨_, xi_To.rf _ _ _ _, 0, s3, rfl, h⟩
-- RootLoom$Weaver.must
def w_51 (X : zX) (x1 : Int) (s : zS) (Q : Int → zS → Prop) : Prop := wW X 51 xm_51 0 (0, [some (.ref 22), some (.int (Int32.ofInt x1))], [], zw X s) Q
theorem w_51_i {X : zX} {x1 : Int} {s : zS} {Q : Int → zS → Prop} (h : ((-2147483648 ≤ x1 ∧ x1 ≤ 2147483647) ∧ (¬ x1 = 0 → Q 0 s) ∧ (¬ ¬ x1 = 0 → (∀ s1 : zS, s1 = zu s 22 10 0 → Q 0 s1)))) : w_51 X x1 s Q := by
  intro hZ d hd
  have hM : xi_ml[51]? = some xm_51 := rfl
  refine gx_r hM hZ 1 (B := (1, [some (.ref 22), some (.int (Int32.ofInt x1))], [.int (Int32.ofInt x1)], zw X s)) rfl ?_
  refine gi_if1 hM hZ (fun x => decide (¬ x = 0)) (p := ¬ x1 = 0) rfl rfl (zd_ne h.1) ?_ ?_
  · intro hp
    replace h := h.2.1 hp
    exact ⟨_, xi_To.rf _ _ _ _, 0, s, rfl, h⟩
  · intro hp
    replace h := h.2.2 hp
    refine gx_r hM hZ 2 (B := (6, [some (.ref 22), some (.int (Int32.ofInt x1))], [.int (Int32.ofInt 0), .ref 22], zw X s)) rfl ?_
    obtain ⟨s1, e1⟩ : ∃ q : zS, q = zu s 22 10 0 := ⟨_, rfl⟩
    refine gj_put hM hZ rfl rfl rfl (Nat.le_of_ble_eq_true rfl) rfl rfl zq_22_10 e1 ?_
    replace h := h _ e1
    exact ⟨_, xi_To.rf _ _ _ _, 0, s1, rfl, h⟩
-- RootLoom$Weaver.takeType
def w_54 (X : zX) (s : zS) (Q : Int → zS → Prop) : Prop := wW X 54 xm_54 0 (0, [some (.ref 22)], [], zw X s) Q
theorem w_54_i {X : zX} {s : zS} {Q : Int → zS → Prop} (h : ((-2147483648 ≤ (s 22 8) ∧ (s 22 8) ≤ 2147483647) ∧ (¬ (s 22 8) = 0 → (∀ s1 : zS, s1 = zu s 22 8 ((s 22 8) - 1) → (0 ≤ (s1 22 8) ∧ (s1 22 8) < 16) ∧ Q (s1 27 (s1 22 8)) s1)) ∧ (¬ ¬ (s 22 8) = 0 → (∀ s2 : zS, s2 = zu s 22 10 0 → Q 0 s2)))) : w_54 X s Q := by
  intro hZ d hd
  have hM : xi_ml[54]? = some xm_54 := rfl
  refine gx_r hM hZ 2 (B := (4, [some (.ref 22)], [.int (Int32.ofInt (s 22 8))], zw X s)) rfl ?_
  refine gi_if1 hM hZ (fun x => decide (¬ x = 0)) (p := ¬ (s 22 8) = 0) rfl rfl (zd_ne h.1) ?_ ?_
  · intro hp
    replace h := h.2.1 hp
    refine gx_r hM hZ 4 (B := (20, [some (.ref 22)], [.int (Int32.ofInt 1), .int (Int32.ofInt (s 22 8)), .ref 22], zw X s)) rfl ?_
    refine gi_sub hM hZ rfl ?_
    obtain ⟨s1, e1⟩ : ∃ q : zS, q = zu s 22 8 ((s 22 8) - 1) := ⟨_, rfl⟩
    refine gj_put hM hZ rfl rfl rfl (Nat.le_of_ble_eq_true rfl) rfl rfl zq_22_8 e1 ?_
    replace h := h _ e1
    refine gx_r hM hZ 4 (B := (32, [some (.ref 22)], [.int (Int32.ofInt (s1 22 8)), .ref 27], zw X s1)) rfl ?_
    refine gi_iald hM hZ (s := s1) (len := 16) rfl rfl (Nat.le_of_ble_eq_true rfl) h.1 ?_
    replace h := h.2
    exact ⟨_, xi_To.rf _ _ _ _, (s1 27 (s1 22 8)), s1, rfl, h⟩
  · intro hp
    replace h := h.2.2 hp
    refine gx_r hM hZ 2 (B := (9, [some (.ref 22)], [.int (Int32.ofInt 0), .ref 22], zw X s)) rfl ?_
    obtain ⟨s2, e2⟩ : ∃ q : zS, q = zu s 22 10 0 := ⟨_, rfl⟩
    refine gj_put hM hZ rfl rfl rfl (Nat.le_of_ble_eq_true rfl) rfl rfl zq_22_10 e2 ?_
    replace h := h _ e2
    refine gx_r hM hZ 1 (B := (13, [some (.ref 22)], [.int (Int32.ofInt 0)], zw X s2)) rfl ?_
    exact ⟨_, xi_To.rf _ _ _ _, 0, s2, rfl, h⟩
-- RootLoom$Weaver.mattersBehind
def w_65 (X : zX) (x1 : Int) (s : zS) (Q : Int → zS → Prop) : Prop := wW X 65 xm_65 0 (0, [some (.ref 22), some (.int (Int32.ofInt x1))], [], zw X s) Q
theorem w_65_i {X : zX} {x1 : Int} {s : zS} {Q : Int → zS → Prop} (h : (0 ≤ x1 ∧ x1 < 400) ∧ ((-2147483648 ≤ (s 15 x1) ∧ (s 15 x1) ≤ 2147483647) ∧ ((¬ (s 15 x1) = 10 ∧ ¬ (s 15 x1) = 11 ∧ ¬ (s 15 x1) = 14) → (0 ≤ (x1 + 1) ∧ (x1 + 1) < 401) ∧ Q (s 30 (x1 + 1)) s) ∧ (((s 15 x1) = 10) → (0 ≤ (x1 + 1) ∧ (x1 + 1) < 401) ∧ (0 ≤ x1 ∧ x1 < 400) ∧ (0 ≤ (s 16 x1) ∧ (s 16 x1) < 401) ∧ Q (zO (s 30 (x1 + 1)) (s 30 (s 16 x1))) s) ∧ (((s 15 x1) = 11) → (0 ≤ x1 ∧ x1 < 400) ∧ (0 ≤ (s 16 x1) ∧ (s 16 x1) < 401) ∧ Q (s 30 (s 16 x1)) s) ∧ (((s 15 x1) = 14) → Q 0 s))) : w_65 X x1 s Q := by
  intro hZ d hd
  have hM : xi_ml[65]? = some xm_65 := rfl
  refine gx_r hM hZ 4 (B := (8, [some (.ref 22), some (.int (Int32.ofInt x1))], [.int (Int32.ofInt x1), .ref 15], zw X s)) rfl ?_
  refine gi_iald hM hZ (s := s) (len := 400) rfl rfl (Nat.le_of_ble_eq_true rfl) h.1 ?_
  replace h := h.2
  by_cases hq0 : ((s 15 x1) = 10)
  · refine gi_tab hM hZ (x := (s 15 x1)) (o := 52) rfl h.1 ?_ (by decide) ?_
    · rw [hq0]; rfl
    · replace h := h.2.2.1 hq0
      refine gx_r hM hZ 4 (B := (67, [some (.ref 22), some (.int (Int32.ofInt x1))], [.int (Int32.ofInt 1), .int (Int32.ofInt x1), .ref 30], zw X s)) rfl ?_
      refine gi_add hM hZ rfl ?_
      refine gi_iald hM hZ (s := s) (len := 401) rfl rfl (Nat.le_of_ble_eq_true rfl) h.1 ?_
      replace h := h.2
      refine gx_r hM hZ 6 (B := (81, [some (.ref 22), some (.int (Int32.ofInt x1))], [.int (Int32.ofInt x1), .ref 16, .ref 30, .int (Int32.ofInt (s 30 (x1 + 1)))], zw X s)) rfl ?_
      refine gi_iald hM hZ (s := s) (len := 400) rfl rfl (Nat.le_of_ble_eq_true rfl) h.1 ?_
      replace h := h.2
      refine gi_iald hM hZ (s := s) (len := 401) rfl rfl (Nat.le_of_ble_eq_true rfl) h.1 ?_
      replace h := h.2
      refine gi_or hM hZ rfl ?_
      exact ⟨_, xi_To.rf _ _ _ _, (zO (s 30 (x1 + 1)) (s 30 (s 16 x1))), s, rfl, h⟩
  · by_cases hq1 : ((s 15 x1) = 11)
    · refine gi_tab hM hZ (x := (s 15 x1)) (o := 37) rfl h.1 ?_ (by decide) ?_
      · rw [hq1]; rfl
      · replace h := h.2.2.2.1 hq1
        refine gx_r hM hZ 6 (B := (58, [some (.ref 22), some (.int (Int32.ofInt x1))], [.int (Int32.ofInt x1), .ref 16, .ref 30], zw X s)) rfl ?_
        refine gi_iald hM hZ (s := s) (len := 400) rfl rfl (Nat.le_of_ble_eq_true rfl) h.1 ?_
        replace h := h.2
        refine gi_iald hM hZ (s := s) (len := 401) rfl rfl (Nat.le_of_ble_eq_true rfl) h.1 ?_
        replace h := h.2
        exact ⟨_, xi_To.rf _ _ _ _, (s 30 (s 16 x1)), s, rfl, h⟩
    · by_cases hq2 : ((s 15 x1) = 14)
      · refine gi_tab hM hZ (x := (s 15 x1)) (o := 35) rfl h.1 ?_ (by decide) ?_
        · rw [hq2]; rfl
        · replace h := h.2.2.2.2 hq2
          refine gx_r hM hZ 1 (B := (45, [some (.ref 22), some (.int (Int32.ofInt x1))], [.int (Int32.ofInt 0)], zw X s)) rfl ?_
          exact ⟨_, xi_To.rf _ _ _ _, 0, s, rfl, h⟩
      · refine gi_tab hM hZ (x := (s 15 x1)) (o := 76) rfl h.1 ?_ (by decide) ?_
        · by_cases hr : (s 15 x1) < 10 ∨ 14 < (s 15 x1)
          · exact if_pos hr
          · have e : (s 15 x1) = 12 ∨ (s 15 x1) = 13 := by omega
            rcases e with e | e <;> (rw [e]; rfl)
        · replace h := h.2.1 (by omega)
          refine gx_r hM hZ 4 (B := (91, [some (.ref 22), some (.int (Int32.ofInt x1))], [.int (Int32.ofInt 1), .int (Int32.ofInt x1), .ref 30], zw X s)) rfl ?_
          refine gi_add hM hZ rfl ?_
          refine gi_iald hM hZ (s := s) (len := 401) rfl rfl (Nat.le_of_ble_eq_true rfl) h.1 ?_
          replace h := h.2
          exact ⟨_, xi_To.rf _ _ _ _, (s 30 (x1 + 1)), s, rfl, h⟩
-- RootLoom$Machine.forget
def w_67 (X : zX) (s : zS) (Q : Int → zS → Prop) : Prop := wW X 67 xm_67 0 (0, [some (.ref 31)], [], zw X s) Q
theorem w_67_i {X : zX} {s : zS} {Q : Int → zS → Prop} (h : (∀ s1 : zS, s1 = zu s 31 8 (-1) → Q 0 s1)) : w_67 X s Q := by
  intro hZ d hd
  have hM : xi_ml[67]? = some xm_67 := rfl
  refine gx_r hM hZ 2 (B := (2, [some (.ref 31)], [.int (Int32.ofInt (-1)), .ref 31], zw X s)) rfl ?_
  obtain ⟨s1, e1⟩ : ∃ q : zS, q = zu s 31 8 (-1) := ⟨_, rfl⟩
  refine gj_put hM hZ rfl rfl rfl (Nat.le_of_ble_eq_true rfl) rfl rfl zq_31_8 e1 ?_
  replace h := h _ e1
  exact ⟨_, xi_To.rf _ _ _ _, 0, s1, rfl, h⟩
-- RootLoom$Machine.isForced
def w_72 (X : zX) (s : zS) (Q : Int → zS → Prop) : Prop := wW X 72 xm_72 0 (0, [some (.ref 31)], [], zw X s) Q
def w_72_33 (X : zX) (s : zS) (Q : Int → zS → Prop) : Prop := wW X 72 xm_72 0 (33, [none], [], zw X s) Q
theorem w_72_i {X : zX} {s : zS} {Q : Int → zS → Prop} (h : (∀ s1 : zS, s1 = zu s 31 7 ((s 31 7) + 1) → ((-2147483648 ≤ (s1 31 5) ∧ (s1 31 5) ≤ 2147483647) ∧ ((s1 31 5) ≤ 0 → w_72_33 X s1 Q) ∧ (¬ (s1 31 5) ≤ 0 → ((-2147483648 ≤ (s1 31 5) ∧ (s1 31 5) ≤ 2147483647) ∧ ¬ (s1 31 5) = 0) ∧ ((-2147483648 ≤ (zM (s1 31 7) (s1 31 5)) ∧ (zM (s1 31 7) (s1 31 5)) ≤ 2147483647) ∧ (¬ (zM (s1 31 7) (s1 31 5)) = 0 → w_72_33 X s1 Q) ∧ (¬ ¬ (zM (s1 31 7) (s1 31 5)) = 0 → Q 1 s1)))))) : w_72 X s Q := by
  intro hZ d hd
  have hM : xi_ml[72]? = some xm_72 := rfl
  refine gx_r hM hZ 4 (B := (6, [some (.ref 31)], [.int (Int32.ofInt 1), .int (Int32.ofInt (s 31 7)), .ref 31], zw X s)) rfl ?_
  refine gi_add hM hZ rfl ?_
  obtain ⟨s1, e1⟩ : ∃ q : zS, q = zu s 31 7 ((s 31 7) + 1) := ⟨_, rfl⟩
  refine gj_put hM hZ rfl rfl rfl (Nat.le_of_ble_eq_true rfl) rfl rfl zq_31_7 e1 ?_
  replace h := h _ e1
  refine gx_r hM hZ 2 (B := (14, [some (.ref 31)], [.int (Int32.ofInt (s1 31 5))], zw X s1)) rfl ?_
  refine gi_if1 hM hZ (fun x => decide (x ≤ 0)) (p := (s1 31 5) ≤ 0) rfl rfl (zd_le h.1) ?_ ?_
  · intro hp
    replace h := h.2.1 hp
    exact gx_fg [false] (h hZ d hd)
  · intro hp
    replace h := h.2.2 hp
    refine gx_r hM hZ 4 (B := (25, [some (.ref 31)], [.int (Int32.ofInt (s1 31 5)), .int (Int32.ofInt (s1 31 7))], zw X s1)) rfl ?_
    refine gi_rem hM hZ rfl h.1.1 h.1.2 ?_
    replace h := h.2
    refine gi_if1 hM hZ (fun x => decide (¬ x = 0)) (p := ¬ (zM (s1 31 7) (s1 31 5)) = 0) rfl rfl (zd_ne h.1) ?_ ?_
    · intro hp
      replace h := h.2.1 hp
      exact gx_fg [false] (h hZ d hd)
    · intro hp
      replace h := h.2.2 hp
      refine gx_r hM hZ 2 (B := (34, [some (.ref 31)], [.int (Int32.ofInt 1)], zw X s1)) rfl ?_
      exact ⟨_, xi_To.rf _ _ _ _, 1, s1, rfl, h⟩
theorem w_72_33_i {X : zX} {s : zS} {Q : Int → zS → Prop} (h : Q 0 s) : w_72_33 X s Q := by
  intro hZ d hd
  have hM : xi_ml[72]? = some xm_72 := rfl
  refine gx_r hM hZ 1 (B := (34, [none], [.int (Int32.ofInt 0)], zw X s)) rfl ?_
  exact ⟨_, xi_To.rf _ _ _ _, 0, s, rfl, h⟩
-- RootLoom$Machine.printedAt
def w_82 (X : zX) (x1 : Int) (s : zS) (Q : Int → zS → Prop) : Prop := wW X 82 xm_82 0 (0, [some (.ref 31), some (.int (Int32.ofInt x1))], [], zw X s) Q
def w_82_29 (X : zX) (s : zS) (Q : Int → zS → Prop) : Prop := wW X 82 xm_82 0 (29, [none, none], [], zw X s) Q
theorem w_82_i {X : zX} {x1 : Int} {s : zS} {Q : Int → zS → Prop} (h : ((-2147483648 ≤ (s 31 8) ∧ (s 31 8) ≤ 2147483647) ∧ ((s 31 8) = (-1) → w_82_29 X s Q) ∧ (¬ (s 31 8) = (-1) → ((-2147483648 ≤ x1 ∧ x1 ≤ 2147483647) ∧ (x1 < 0 → w_82_29 X s Q) ∧ (¬ x1 < 0 → (((-2147483648 ≤ x1 ∧ x1 ≤ 2147483647) ∧ (-2147483648 ≤ (s 31 14) ∧ (s 31 14) ≤ 2147483647)) ∧ ((s 31 14) ≤ x1 → w_82_29 X s Q) ∧ (¬ (s 31 14) ≤ x1 → (0 ≤ x1 ∧ x1 < 64) ∧ Q (s 44 x1) s))))))) : w_82 X x1 s Q := by
  intro hZ d hd
  have hM : xi_ml[82]? = some xm_82 := rfl
  refine gx_r hM hZ 3 (B := (5, [some (.ref 31), some (.int (Int32.ofInt x1))], [.int (Int32.ofInt (-1)), .int (Int32.ofInt (s 31 8))], zw X s)) rfl ?_
  refine gi_if2 hM hZ (fun x y => decide (x = y)) (p := (s 31 8) = (-1)) rfl rfl (zc_eq h.1 (by decide)) ?_ ?_
  · intro hp
    replace h := h.2.1 hp
    exact gx_fg [false, false] (h hZ d hd)
  · intro hp
    replace h := h.2.2 hp
    refine gx_r hM hZ 1 (B := (9, [some (.ref 31), some (.int (Int32.ofInt x1))], [.int (Int32.ofInt x1)], zw X s)) rfl ?_
    refine gi_if1 hM hZ (fun x => decide (x < 0)) (p := x1 < 0) rfl rfl (zd_lt h.1) ?_ ?_
    · intro hp
      replace h := h.2.1 hp
      exact gx_fg [false, false] (h hZ d hd)
    · intro hp
      replace h := h.2.2 hp
      refine gx_r hM hZ 3 (B := (17, [some (.ref 31), some (.int (Int32.ofInt x1))], [.int (Int32.ofInt (s 31 14)), .int (Int32.ofInt x1)], zw X s)) rfl ?_
      refine gi_if2 hM hZ (fun x y => decide (y ≤ x)) (p := (s 31 14) ≤ x1) rfl rfl (zc_ge h.1.1 h.1.2) ?_ ?_
      · intro hp
        replace h := h.2.1 hp
        exact gx_fg [false, false] (h hZ d hd)
      · intro hp
        replace h := h.2.2 hp
        refine gx_r hM hZ 3 (B := (25, [some (.ref 31), some (.int (Int32.ofInt x1))], [.int (Int32.ofInt x1), .ref 44], zw X s)) rfl ?_
        refine gi_iald hM hZ (s := s) (len := 64) rfl rfl (Nat.le_of_ble_eq_true rfl) h.1 ?_
        replace h := h.2
        refine gx_r hM hZ 1 (B := (30, [some (.ref 31), some (.int (Int32.ofInt x1))], [.int (Int32.ofInt (s 44 x1))], zw X s)) rfl ?_
        exact ⟨_, xi_To.rf _ _ _ _, (s 44 x1), s, rfl, h⟩
theorem w_82_29_i {X : zX} {s : zS} {Q : Int → zS → Prop} (h : Q 0 s) : w_82_29 X s Q := by
  intro hZ d hd
  have hM : xi_ml[82]? = some xm_82 := rfl
  refine gx_r hM hZ 1 (B := (30, [none, none], [.int (Int32.ofInt 0)], zw X s)) rfl ?_
  exact ⟨_, xi_To.rf _ _ _ _, 0, s, rfl, h⟩
-- RootLoom$Machine.walk
def w_83 (X : zX) (x1 x2 : Int) (s : zS) (Q : Int → zS → Prop) : Prop := wW X 83 xm_83 0 (0, [some (.ref 31), some (.int (Int32.ofInt x1)), some (.int (Int32.ofInt x2)), none, none, none, none], [], zw X s) Q
def w_83_18 (X : zX) (s : zS) (Q : Int → zS → Prop) : Prop := wW X 83 xm_83 0 (18, [none, none, none, none, none, none, none], [], zw X s) Q
def w_83_34 (X : zX) (x1 x2 x3 x4 x5 : Int) (s : zS) (Q : Int → zS → Prop) : Prop := wW X 83 xm_83 0 (34, [some (.ref 31), some (.int (Int32.ofInt x1)), some (.int (Int32.ofInt x2)), some (.int (Int32.ofInt x3)), some (.int (Int32.ofInt x4)), some (.int (Int32.ofInt x5)), none], [], zw X s) Q
def w_83_49 (X : zX) (s : zS) (Q : Int → zS → Prop) : Prop := wW X 83 xm_83 0 (49, [none, none, none, none, none, none, none], [], zw X s) Q
def w_83_66 (X : zX) (x1 x2 x3 x4 x5 t0 : Int) (s : zS) (Q : Int → zS → Prop) : Prop := wW X 83 xm_83 0 (66, [some (.ref 31), some (.int (Int32.ofInt x1)), some (.int (Int32.ofInt x2)), some (.int (Int32.ofInt x3)), some (.int (Int32.ofInt x4)), some (.int (Int32.ofInt x5)), none], [.int (Int32.ofInt t0)], zw X s) Q
def w_83_94 (X : zX) (x1 x2 x4 x5 x6 t0 : Int) (s : zS) (Q : Int → zS → Prop) : Prop := wW X 83 xm_83 0 (94, [some (.ref 31), some (.int (Int32.ofInt x1)), some (.int (Int32.ofInt x2)), none, some (.int (Int32.ofInt x4)), some (.int (Int32.ofInt x5)), some (.int (Int32.ofInt x6))], [.int (Int32.ofInt t0)], zw X s) Q
def w_83_123 (X : zX) (x1 x2 x3 x5 t0 : Int) (s : zS) (Q : Int → zS → Prop) : Prop := wW X 83 xm_83 0 (123, [some (.ref 31), some (.int (Int32.ofInt x1)), some (.int (Int32.ofInt x2)), some (.int (Int32.ofInt x3)), none, some (.int (Int32.ofInt x5)), none], [.int (Int32.ofInt t0)], zw X s) Q
theorem w_83_i {X : zX} {x1 x2 : Int} {s : zS} {Q : Int → zS → Prop} (h : ((-2147483648 ≤ (s 31 8) ∧ (s 31 8) ≤ 2147483647) ∧ (¬ (s 31 8) = 1 → w_83_18 X s Q) ∧ (¬ ¬ (s 31 8) = 1 → ((-2147483648 ≤ x2 ∧ x2 ≤ 2147483647) ∧ (x2 < 0 → w_83_18 X s Q) ∧ (¬ x2 < 0 → ((-2147483648 ≤ x2 ∧ x2 ≤ 2147483647) ∧ (x2 ≤ 20 → w_83_34 X x1 x2 (s 31 15) (s 31 16) 0 s Q) ∧ (¬ x2 ≤ 20 → w_83_18 X s Q))))))) : w_83 X x1 x2 s Q := by
  intro hZ d hd
  have hM : xi_ml[83]? = some xm_83 := rfl
  refine gx_r hM hZ 3 (B := (5, [some (.ref 31), some (.int (Int32.ofInt x1)), some (.int (Int32.ofInt x2)), none, none, none, none], [.int (Int32.ofInt 1), .int (Int32.ofInt (s 31 8))], zw X s)) rfl ?_
  refine gi_if2 hM hZ (fun x y => decide (¬ x = y)) (p := ¬ (s 31 8) = 1) rfl rfl (zc_ne h.1 (by decide)) ?_ ?_
  · intro hp
    replace h := h.2.1 hp
    exact gx_fg [false, false, false, false, false, false, false] (h hZ d hd)
  · intro hp
    replace h := h.2.2 hp
    refine gx_r hM hZ 1 (B := (9, [some (.ref 31), some (.int (Int32.ofInt x1)), some (.int (Int32.ofInt x2)), none, none, none, none], [.int (Int32.ofInt x2)], zw X s)) rfl ?_
    refine gi_if1 hM hZ (fun x => decide (x < 0)) (p := x2 < 0) rfl rfl (zd_lt h.1) ?_ ?_
    · intro hp
      replace h := h.2.1 hp
      exact gx_fg [false, false, false, false, false, false, false] (h hZ d hd)
    · intro hp
      replace h := h.2.2 hp
      refine gx_r hM hZ 1 (B := (13, [some (.ref 31), some (.int (Int32.ofInt x1)), some (.int (Int32.ofInt x2)), none, none, none, none], [.int (Int32.ofInt x2)], zw X s)) rfl ?_
      refine gi_bip hM hZ rfl rfl ?_
      refine gi_if2 hM hZ (fun x y => decide (x ≤ y)) (p := x2 ≤ 20) rfl rfl (zc_le h.1 (by decide)) ?_ ?_
      · intro hp
        replace h := h.2.1 hp
        refine gx_r hM hZ 8 (B := (34, [some (.ref 31), some (.int (Int32.ofInt x1)), some (.int (Int32.ofInt x2)), some (.int (Int32.ofInt (s 31 15))), some (.int (Int32.ofInt (s 31 16))), some (.int (Int32.ofInt 0)), none], [], zw X s)) rfl ?_
        exact gx_fg [true, true, true, true, true, true, false] (h hZ d hd)
      · intro hp
        replace h := h.2.2 hp
        exact gx_fg [false, false, false, false, false, false, false] (h hZ d hd)
theorem w_83_18_i {X : zX} {s : zS} {Q : Int → zS → Prop} (h : Q (-1) s) : w_83_18 X s Q := by
  intro hZ d hd
  have hM : xi_ml[83]? = some xm_83 := rfl
  refine gx_r hM hZ 1 (B := (19, [none, none, none, none, none, none, none], [.int (Int32.ofInt (-1))], zw X s)) rfl ?_
  exact ⟨_, xi_To.rf _ _ _ _, (-1), s, rfl, h⟩
theorem w_83_34_i {X : zX} {x1 x2 x3 x4 x5 : Int} {s : zS} {Q : Int → zS → Prop} (h : (((-2147483648 ≤ x5 ∧ x5 ≤ 2147483647) ∧ (-2147483648 ≤ x2 ∧ x2 ≤ 2147483647)) ∧ (x2 ≤ x5 → (∀ s1 : zS, s1 = zu s 31 17 x3 → ((-2147483648 ≤ x4 ∧ x4 ≤ 2147483647) ∧ (¬ x4 = 0 → ((-2147483648 ≤ x3 ∧ x3 ≤ 2147483647) ∧ (¬ x3 = 0 → Q 2 s1) ∧ (¬ ¬ x3 = 0 → Q 1 s1))) ∧ (¬ ¬ x4 = 0 → Q 0 s1)))) ∧ (¬ x2 ≤ x5 → ((-2147483648 ≤ x4 ∧ x4 ≤ 2147483647) ∧ (x4 = 0 → w_83_49 X s Q) ∧ (¬ x4 = 0 → ((-2147483648 ≤ x3 ∧ x3 ≤ 2147483647) ∧ (¬ x3 = 0 → ((-2147483648 ≤ (zA (zU x1 x5) 1) ∧ (zA (zU x1 x5) 1) ≤ 2147483647) ∧ (¬ (zA (zU x1 x5) 1) = 1 → w_83_66 X x1 x2 x3 x4 x5 0 s Q) ∧ (¬ ¬ (zA (zU x1 x5) 1) = 1 → w_83_66 X x1 x2 x3 x4 x5 1 s Q))) ∧ (¬ ¬ x3 = 0 → w_83_49 X s Q))))))) : w_83_34 X x1 x2 x3 x4 x5 s Q := by
  intro hZ d hd
  have hM : xi_ml[83]? = some xm_83 := rfl
  refine gx_r hM hZ 2 (B := (37, [some (.ref 31), some (.int (Int32.ofInt x1)), some (.int (Int32.ofInt x2)), some (.int (Int32.ofInt x3)), some (.int (Int32.ofInt x4)), some (.int (Int32.ofInt x5)), none], [.int (Int32.ofInt x2), .int (Int32.ofInt x5)], zw X s)) rfl ?_
  refine gi_if2 hM hZ (fun x y => decide (y ≤ x)) (p := x2 ≤ x5) rfl rfl (zc_ge h.1.1 h.1.2) ?_ ?_
  · intro hp
    replace h := h.2.1 hp
    refine gx_r hM hZ 2 (B := (133, [some (.ref 31), some (.int (Int32.ofInt x1)), some (.int (Int32.ofInt x2)), some (.int (Int32.ofInt x3)), some (.int (Int32.ofInt x4)), some (.int (Int32.ofInt x5)), none], [.int (Int32.ofInt x3), .ref 31], zw X s)) rfl ?_
    obtain ⟨s1, e1⟩ : ∃ q : zS, q = zu s 31 17 x3 := ⟨_, rfl⟩
    refine gj_put hM hZ rfl rfl rfl (Nat.le_of_ble_eq_true rfl) rfl rfl zq_31_17 e1 ?_
    replace h := h _ e1
    refine gx_r hM hZ 1 (B := (138, [some (.ref 31), some (.int (Int32.ofInt x1)), some (.int (Int32.ofInt x2)), some (.int (Int32.ofInt x3)), some (.int (Int32.ofInt x4)), some (.int (Int32.ofInt x5)), none], [.int (Int32.ofInt x4)], zw X s1)) rfl ?_
    refine gi_if1 hM hZ (fun x => decide (¬ x = 0)) (p := ¬ x4 = 0) rfl rfl (zd_ne h.1) ?_ ?_
    · intro hp
      replace h := h.2.1 hp
      refine gx_r hM hZ 1 (B := (144, [some (.ref 31), some (.int (Int32.ofInt x1)), some (.int (Int32.ofInt x2)), some (.int (Int32.ofInt x3)), some (.int (Int32.ofInt x4)), some (.int (Int32.ofInt x5)), none], [.int (Int32.ofInt x3)], zw X s1)) rfl ?_
      refine gi_if1 hM hZ (fun x => decide (¬ x = 0)) (p := ¬ x3 = 0) rfl rfl (zd_ne h.1) ?_ ?_
      · intro hp
        replace h := h.2.1 hp
        refine gx_r hM hZ 1 (B := (152, [some (.ref 31), some (.int (Int32.ofInt x1)), some (.int (Int32.ofInt x2)), some (.int (Int32.ofInt x3)), some (.int (Int32.ofInt x4)), some (.int (Int32.ofInt x5)), none], [.int (Int32.ofInt 2)], zw X s1)) rfl ?_
        exact ⟨_, xi_To.rf _ _ _ _, 2, s1, rfl, h⟩
      · intro hp
        replace h := h.2.2 hp
        refine gx_r hM hZ 2 (B := (152, [some (.ref 31), some (.int (Int32.ofInt x1)), some (.int (Int32.ofInt x2)), some (.int (Int32.ofInt x3)), some (.int (Int32.ofInt x4)), some (.int (Int32.ofInt x5)), none], [.int (Int32.ofInt 1)], zw X s1)) rfl ?_
        exact ⟨_, xi_To.rf _ _ _ _, 1, s1, rfl, h⟩
    · intro hp
      replace h := h.2.2 hp
      refine gx_r hM hZ 1 (B := (142, [some (.ref 31), some (.int (Int32.ofInt x1)), some (.int (Int32.ofInt x2)), some (.int (Int32.ofInt x3)), some (.int (Int32.ofInt x4)), some (.int (Int32.ofInt x5)), none], [.int (Int32.ofInt 0)], zw X s1)) rfl ?_
      exact ⟨_, xi_To.rf _ _ _ _, 0, s1, rfl, h⟩
  · intro hp
    replace h := h.2.2 hp
    refine gx_r hM hZ 1 (B := (42, [some (.ref 31), some (.int (Int32.ofInt x1)), some (.int (Int32.ofInt x2)), some (.int (Int32.ofInt x3)), some (.int (Int32.ofInt x4)), some (.int (Int32.ofInt x5)), none], [.int (Int32.ofInt x4)], zw X s)) rfl ?_
    refine gi_if1 hM hZ (fun x => decide (x = 0)) (p := x4 = 0) rfl rfl (zd_eq h.1) ?_ ?_
    · intro hp
      replace h := h.2.1 hp
      exact gx_fg [false, false, false, false, false, false, false] (h hZ d hd)
    · intro hp
      replace h := h.2.2 hp
      refine gx_r hM hZ 1 (B := (46, [some (.ref 31), some (.int (Int32.ofInt x1)), some (.int (Int32.ofInt x2)), some (.int (Int32.ofInt x3)), some (.int (Int32.ofInt x4)), some (.int (Int32.ofInt x5)), none], [.int (Int32.ofInt x3)], zw X s)) rfl ?_
      refine gi_if1 hM hZ (fun x => decide (¬ x = 0)) (p := ¬ x3 = 0) rfl rfl (zd_ne h.1) ?_ ?_
      · intro hp
        replace h := h.2.1 hp
        refine gx_r hM hZ 2 (B := (54, [some (.ref 31), some (.int (Int32.ofInt x1)), some (.int (Int32.ofInt x2)), some (.int (Int32.ofInt x3)), some (.int (Int32.ofInt x4)), some (.int (Int32.ofInt x5)), none], [.int (Int32.ofInt x5), .int (Int32.ofInt x1)], zw X s)) rfl ?_
        refine gi_ushr hM hZ rfl ?_
        refine gx_r hM hZ 1 (B := (56, [some (.ref 31), some (.int (Int32.ofInt x1)), some (.int (Int32.ofInt x2)), some (.int (Int32.ofInt x3)), some (.int (Int32.ofInt x4)), some (.int (Int32.ofInt x5)), none], [.int (Int32.ofInt 1), .int (Int32.ofInt (zU x1 x5))], zw X s)) rfl ?_
        refine gi_and hM hZ rfl ?_
        refine gx_r hM hZ 1 (B := (58, [some (.ref 31), some (.int (Int32.ofInt x1)), some (.int (Int32.ofInt x2)), some (.int (Int32.ofInt x3)), some (.int (Int32.ofInt x4)), some (.int (Int32.ofInt x5)), none], [.int (Int32.ofInt 1), .int (Int32.ofInt (zA (zU x1 x5) 1))], zw X s)) rfl ?_
        refine gi_if2 hM hZ (fun x y => decide (¬ x = y)) (p := ¬ (zA (zU x1 x5) 1) = 1) rfl rfl (zc_ne h.1 (by decide)) ?_ ?_
        · intro hp
          replace h := h.2.1 hp
          refine gx_r hM hZ 1 (B := (66, [some (.ref 31), some (.int (Int32.ofInt x1)), some (.int (Int32.ofInt x2)), some (.int (Int32.ofInt x3)), some (.int (Int32.ofInt x4)), some (.int (Int32.ofInt x5)), none], [.int (Int32.ofInt 0)], zw X s)) rfl ?_
          exact gx_fg [true, true, true, true, true, true, false] (h hZ d hd)
        · intro hp
          replace h := h.2.2 hp
          refine gx_r hM hZ 2 (B := (66, [some (.ref 31), some (.int (Int32.ofInt x1)), some (.int (Int32.ofInt x2)), some (.int (Int32.ofInt x3)), some (.int (Int32.ofInt x4)), some (.int (Int32.ofInt x5)), none], [.int (Int32.ofInt 1)], zw X s)) rfl ?_
          exact gx_fg [true, true, true, true, true, true, false] (h hZ d hd)
      · intro hp
        replace h := h.2.2 hp
        exact gx_fg [false, false, false, false, false, false, false] (h hZ d hd)
theorem w_83_49_i {X : zX} {s : zS} {Q : Int → zS → Prop} (h : Q (-1) s) : w_83_49 X s Q := by
  intro hZ d hd
  have hM : xi_ml[83]? = some xm_83 := rfl
  refine gx_r hM hZ 1 (B := (50, [none, none, none, none, none, none, none], [.int (Int32.ofInt (-1))], zw X s)) rfl ?_
  exact ⟨_, xi_To.rf _ _ _ _, (-1), s, rfl, h⟩
theorem w_83_66_i {X : zX} {x1 x2 x3 x4 x5 t0 : Int} {s : zS} {Q : Int → zS → Prop} (h : ((-2147483648 ≤ t0 ∧ t0 ≤ 2147483647) ∧ (t0 = 0 → (0 ≤ x3 ∧ x3 < 201) ∧ w_83_94 X x1 x2 x4 x5 t0 (s 33 x3) s Q) ∧ (¬ t0 = 0 → (0 ≤ x3 ∧ x3 < 201) ∧ w_83_94 X x1 x2 x4 x5 t0 (s 34 x3) s Q))) : w_83_66 X x1 x2 x3 x4 x5 t0 s Q := by
  intro hZ d hd
  have hM : xi_ml[83]? = some xm_83 := rfl
  refine gx_r hM hZ 2 (B := (70, [some (.ref 31), some (.int (Int32.ofInt x1)), some (.int (Int32.ofInt x2)), some (.int (Int32.ofInt x3)), some (.int (Int32.ofInt x4)), some (.int (Int32.ofInt x5)), some (.int (Int32.ofInt t0))], [.int (Int32.ofInt t0)], zw X s)) rfl ?_
  refine gi_if1 hM hZ (fun x => decide (x = 0)) (p := t0 = 0) rfl rfl (zd_eq h.1) ?_ ?_
  · intro hp
    replace h := h.2.1 hp
    refine gx_r hM hZ 4 (B := (93, [some (.ref 31), some (.int (Int32.ofInt x1)), some (.int (Int32.ofInt x2)), some (.int (Int32.ofInt x3)), some (.int (Int32.ofInt x4)), some (.int (Int32.ofInt x5)), some (.int (Int32.ofInt t0))], [.int (Int32.ofInt x3), .ref 33], zw X s)) rfl ?_
    refine gi_iald hM hZ (s := s) (len := 201) rfl rfl (Nat.le_of_ble_eq_true rfl) h.1 ?_
    replace h := h.2
    exact gx_fg [true, true, true, false, true, true, true] (h hZ d hd)
  · intro hp
    replace h := h.2.2 hp
    refine gx_r hM hZ 4 (B := (81, [some (.ref 31), some (.int (Int32.ofInt x1)), some (.int (Int32.ofInt x2)), some (.int (Int32.ofInt x3)), some (.int (Int32.ofInt x4)), some (.int (Int32.ofInt x5)), some (.int (Int32.ofInt t0))], [.int (Int32.ofInt x3), .ref 34], zw X s)) rfl ?_
    refine gi_iald hM hZ (s := s) (len := 201) rfl rfl (Nat.le_of_ble_eq_true rfl) h.1 ?_
    replace h := h.2
    refine gx_r hM hZ 1 (B := (94, [some (.ref 31), some (.int (Int32.ofInt x1)), some (.int (Int32.ofInt x2)), some (.int (Int32.ofInt x3)), some (.int (Int32.ofInt x4)), some (.int (Int32.ofInt x5)), some (.int (Int32.ofInt t0))], [.int (Int32.ofInt (s 34 x3))], zw X s)) rfl ?_
    exact gx_fg [true, true, true, false, true, true, true] (h hZ d hd)
theorem w_83_94_i {X : zX} {x1 x2 x4 x5 x6 t0 : Int} {s : zS} {Q : Int → zS → Prop} (h : ((-2147483648 ≤ x6 ∧ x6 ≤ 2147483647) ∧ (x6 = 0 → (0 ≤ x4 ∧ x4 < 8) ∧ w_83_123 X x1 x2 t0 x5 (s 20 x4) s Q) ∧ (¬ x6 = 0 → (0 ≤ x4 ∧ x4 < 8) ∧ w_83_123 X x1 x2 t0 x5 (s 21 x4) s Q))) : w_83_94 X x1 x2 x4 x5 x6 t0 s Q := by
  intro hZ d hd
  have hM : xi_ml[83]? = some xm_83 := rfl
  refine gx_r hM hZ 2 (B := (97, [some (.ref 31), some (.int (Int32.ofInt x1)), some (.int (Int32.ofInt x2)), some (.int (Int32.ofInt t0)), some (.int (Int32.ofInt x4)), some (.int (Int32.ofInt x5)), some (.int (Int32.ofInt x6))], [.int (Int32.ofInt x6)], zw X s)) rfl ?_
  refine gi_if1 hM hZ (fun x => decide (x = 0)) (p := x6 = 0) rfl rfl (zd_eq h.1) ?_ ?_
  · intro hp
    replace h := h.2.1 hp
    refine gx_r hM hZ 4 (B := (122, [some (.ref 31), some (.int (Int32.ofInt x1)), some (.int (Int32.ofInt x2)), some (.int (Int32.ofInt t0)), some (.int (Int32.ofInt x4)), some (.int (Int32.ofInt x5)), some (.int (Int32.ofInt x6))], [.int (Int32.ofInt x4), .ref 20], zw X s)) rfl ?_
    refine gi_iald hM hZ (s := s) (len := 8) rfl rfl (Nat.le_of_ble_eq_true rfl) h.1 ?_
    replace h := h.2
    exact gx_fg [true, true, true, true, false, true, false] (h hZ d hd)
  · intro hp
    replace h := h.2.2 hp
    refine gx_r hM hZ 4 (B := (109, [some (.ref 31), some (.int (Int32.ofInt x1)), some (.int (Int32.ofInt x2)), some (.int (Int32.ofInt t0)), some (.int (Int32.ofInt x4)), some (.int (Int32.ofInt x5)), some (.int (Int32.ofInt x6))], [.int (Int32.ofInt x4), .ref 21], zw X s)) rfl ?_
    refine gi_iald hM hZ (s := s) (len := 8) rfl rfl (Nat.le_of_ble_eq_true rfl) h.1 ?_
    replace h := h.2
    refine gx_r hM hZ 1 (B := (123, [some (.ref 31), some (.int (Int32.ofInt x1)), some (.int (Int32.ofInt x2)), some (.int (Int32.ofInt t0)), some (.int (Int32.ofInt x4)), some (.int (Int32.ofInt x5)), some (.int (Int32.ofInt x6))], [.int (Int32.ofInt (s 21 x4))], zw X s)) rfl ?_
    exact gx_fg [true, true, true, true, false, true, false] (h hZ d hd)
theorem w_83_123_i {X : zX} {x1 x2 x3 x5 t0 : Int} {s : zS} {Q : Int → zS → Prop} (h : w_83_34 X x1 x2 x3 t0 (x5 + 1) s Q) : w_83_123 X x1 x2 x3 x5 t0 s Q := by
  intro hZ d hd
  have hM : xi_ml[83]? = some xm_83 := rfl
  refine gx_r hM hZ 1 (B := (125, [some (.ref 31), some (.int (Int32.ofInt x1)), some (.int (Int32.ofInt x2)), some (.int (Int32.ofInt x3)), some (.int (Int32.ofInt t0)), some (.int (Int32.ofInt x5)), none], [], zw X s)) rfl ?_
  refine gi_inc hM hZ (x := x5) (m := 1) rfl rfl ?_
  refine gx_r hM hZ 0 (B := (128, [some (.ref 31), some (.int (Int32.ofInt x1)), some (.int (Int32.ofInt x2)), some (.int (Int32.ofInt x3)), some (.int (Int32.ofInt t0)), some (.int (Int32.ofInt (x5 + 1))), none], [], zw X s)) rfl ?_
  refine gx_r hM hZ 1 (B := (34, [some (.ref 31), some (.int (Int32.ofInt x1)), some (.int (Int32.ofInt x2)), some (.int (Int32.ofInt x3)), some (.int (Int32.ofInt t0)), some (.int (Int32.ofInt (x5 + 1))), none], [], zw X s)) rfl ?_
  exact gx_fg [true, true, true, true, true, true, false] (h hZ d hd)
-- RootLoom$Pairs.clear
def w_85 (X : zX) (s : zS) (Q : Int → zS → Prop) : Prop := wW X 85 xm_85 0 (0, [some (.ref 32)], [], zw X s) Q
theorem w_85_i {X : zX} {s : zS} {Q : Int → zS → Prop} (h : (∀ s1 : zS, s1 = zu s 32 4 0 → Q 0 s1)) : w_85 X s Q := by
  intro hZ d hd
  have hM : xi_ml[85]? = some xm_85 := rfl
  refine gx_r hM hZ 2 (B := (2, [some (.ref 32)], [.int (Int32.ofInt 0), .ref 32], zw X s)) rfl ?_
  obtain ⟨s1, e1⟩ : ∃ q : zS, q = zu s 32 4 0 := ⟨_, rfl⟩
  refine gj_put hM hZ rfl rfl rfl (Nat.le_of_ble_eq_true rfl) rfl rfl zq_32_4 e1 ?_
  replace h := h _ e1
  exact ⟨_, xi_To.rf _ _ _ _, 0, s1, rfl, h⟩
-- RootLoom$Pairs.words
def w_86 (X : zX) (s : zS) (Q : Int → zS → Prop) : Prop := wW X 86 xm_86 0 (0, [some (.ref 32)], [], zw X s) Q
theorem w_86_i {X : zX} {s : zS} {Q : Int → zS → Prop} (h : Q ((s 32 4) * 3) s) : w_86 X s Q := by
  intro hZ d hd
  have hM : xi_ml[86]? = some xm_86 := rfl
  refine gx_r hM hZ 3 (B := (5, [some (.ref 32)], [.int (Int32.ofInt 3), .int (Int32.ofInt (s 32 4))], zw X s)) rfl ?_
  refine gi_mul hM hZ rfl ?_
  exact ⟨_, xi_To.rf _ _ _ _, ((s 32 4) * 3), s, rfl, h⟩
-- RootLoom$Pairs.beginCollection
def w_87 (X : zX) (s : zS) (Q : Int → zS → Prop) : Prop := wW X 87 xm_87 0 (0, [some (.ref 32)], [], zw X s) Q
theorem w_87_i {X : zX} {s : zS} {Q : Int → zS → Prop} (h : (∀ s1 : zS, s1 = zu s 32 6 ((s 32 6) + 1) → (∀ s2 : zS, s2 = zu s1 32 8 0 → Q 0 s2))) : w_87 X s Q := by
  intro hZ d hd
  have hM : xi_ml[87]? = some xm_87 := rfl
  refine gx_r hM hZ 4 (B := (6, [some (.ref 32)], [.int (Int32.ofInt 1), .int (Int32.ofInt (s 32 6)), .ref 32], zw X s)) rfl ?_
  refine gi_add hM hZ rfl ?_
  obtain ⟨s1, e1⟩ : ∃ q : zS, q = zu s 32 6 ((s 32 6) + 1) := ⟨_, rfl⟩
  refine gj_put hM hZ rfl rfl rfl (Nat.le_of_ble_eq_true rfl) rfl rfl zq_32_6 e1 ?_
  replace h := h _ e1
  refine gx_r hM hZ 2 (B := (12, [some (.ref 32)], [.int (Int32.ofInt 0), .ref 32], zw X s1)) rfl ?_
  obtain ⟨s2, e2⟩ : ∃ q : zS, q = zu s1 32 8 0 := ⟨_, rfl⟩
  refine gj_put hM hZ rfl rfl rfl (Nat.le_of_ble_eq_true rfl) rfl rfl zq_32_8 e2 ?_
  replace h := h _ e2
  exact ⟨_, xi_To.rf _ _ _ _, 0, s2, rfl, h⟩
-- RootLoom$Pairs.keep
def w_88 (X : zX) (x1 : Int) (s : zS) (Q : Int → zS → Prop) : Prop := wW X 88 xm_88 0 (0, [some (.ref 32), some (.int (Int32.ofInt x1))], [], zw X s) Q
theorem w_88_i {X : zX} {x1 : Int} {s : zS} {Q : Int → zS → Prop} (h : ((-2147483648 ≤ x1 ∧ x1 ≤ 2147483647) ∧ (x1 = 0 → Q 0 s) ∧ (¬ x1 = 0 → (0 ≤ x1 ∧ x1 < 201) ∧ (((-2147483648 ≤ (s 37 x1) ∧ (s 37 x1) ≤ 2147483647) ∧ (-2147483648 ≤ (s 32 6) ∧ (s 32 6) ≤ 2147483647)) ∧ ((s 37 x1) = (s 32 6) → Q 0 s) ∧ (¬ (s 37 x1) = (s 32 6) → (0 ≤ x1 ∧ x1 < 201) ∧ (∀ s1 : zS, s1 = zu s 37 x1 (s 32 6) → (0 ≤ (s1 32 8) ∧ (s1 32 8) < 200) ∧ (∀ s2 : zS, s2 = zu s1 38 (s1 32 8) x1 → (∀ s3 : zS, s3 = zu s2 32 8 ((s2 32 8) + 1) → Q 0 s3)))))))) : w_88 X x1 s Q := by
  intro hZ d hd
  have hM : xi_ml[88]? = some xm_88 := rfl
  refine gx_r hM hZ 1 (B := (1, [some (.ref 32), some (.int (Int32.ofInt x1))], [.int (Int32.ofInt x1)], zw X s)) rfl ?_
  refine gi_if1 hM hZ (fun x => decide (x = 0)) (p := x1 = 0) rfl rfl (zd_eq h.1) ?_ ?_
  · intro hp
    replace h := h.2.1 hp
    exact ⟨_, xi_To.rf _ _ _ _, 0, s, rfl, h⟩
  · intro hp
    replace h := h.2.2 hp
    refine gx_r hM hZ 3 (B := (9, [some (.ref 32), some (.int (Int32.ofInt x1))], [.int (Int32.ofInt x1), .ref 37], zw X s)) rfl ?_
    refine gi_iald hM hZ (s := s) (len := 201) rfl rfl (Nat.le_of_ble_eq_true rfl) h.1 ?_
    replace h := h.2
    refine gx_r hM hZ 2 (B := (14, [some (.ref 32), some (.int (Int32.ofInt x1))], [.int (Int32.ofInt (s 32 6)), .int (Int32.ofInt (s 37 x1))], zw X s)) rfl ?_
    refine gi_if2 hM hZ (fun x y => decide (x = y)) (p := (s 37 x1) = (s 32 6)) rfl rfl (zc_eq h.1.1 h.1.2) ?_ ?_
    · intro hp
      replace h := h.2.1 hp
      exact ⟨_, xi_To.rf _ _ _ _, 0, s, rfl, h⟩
    · intro hp
      replace h := h.2.2 hp
      refine gx_r hM hZ 5 (B := (26, [some (.ref 32), some (.int (Int32.ofInt x1))], [.int (Int32.ofInt (s 32 6)), .int (Int32.ofInt x1), .ref 37], zw X s)) rfl ?_
      obtain ⟨s1, e1⟩ : ∃ q : zS, q = zu s 37 x1 (s 32 6) := ⟨_, rfl⟩
      refine gj_iast hM hZ (len := 201) rfl rfl (Nat.le_of_ble_eq_true rfl) zp_37 h.1 e1 ?_
      replace h := h.2 _ e1
      refine gx_r hM hZ 5 (B := (36, [some (.ref 32), some (.int (Int32.ofInt x1))], [.int (Int32.ofInt x1), .int (Int32.ofInt (s1 32 8)), .ref 38], zw X s1)) rfl ?_
      obtain ⟨s2, e2⟩ : ∃ q : zS, q = zu s1 38 (s1 32 8) x1 := ⟨_, rfl⟩
      refine gj_iast hM hZ (len := 200) rfl rfl (Nat.le_of_ble_eq_true rfl) zp_38 h.1 e2 ?_
      replace h := h.2 _ e2
      refine gx_r hM hZ 4 (B := (43, [some (.ref 32), some (.int (Int32.ofInt x1))], [.int (Int32.ofInt 1), .int (Int32.ofInt (s2 32 8)), .ref 32], zw X s2)) rfl ?_
      refine gi_add hM hZ rfl ?_
      obtain ⟨s3, e3⟩ : ∃ q : zS, q = zu s2 32 8 ((s2 32 8) + 1) := ⟨_, rfl⟩
      refine gj_put hM hZ rfl rfl rfl (Nat.le_of_ble_eq_true rfl) rfl rfl zq_32_8 e3 ?_
      replace h := h _ e3
      exact ⟨_, xi_To.rf _ _ _ _, 0, s3, rfl, h⟩
-- RootLoom$Pairs.make
def w_90 (X : zX) (x1 x2 x3 : Int) (s : zS) (Q : Int → zS → Prop) : Prop := wW X 90 xm_90 0 (0, [some (.ref 32), some (.int (Int32.ofInt x1)), some (.int (Int32.ofInt x2)), some (.int (Int32.ofInt x3)), none], [], zw X s) Q
theorem w_90_i {X : zX} {x1 x2 x3 : Int} {s : zS} {Q : Int → zS → Prop} (h : (0 ≤ (s 32 4) ∧ (s 32 4) < 200) ∧ (∀ s1 : zS, s1 = zu s 32 4 ((s 32 4) + 1) → (0 ≤ (s 36 (s 32 4)) ∧ (s 36 (s 32 4)) < 201) ∧ (∀ s2 : zS, s2 = zu s1 35 (s 36 (s 32 4)) x1 → (0 ≤ (s 36 (s 32 4)) ∧ (s 36 (s 32 4)) < 201) ∧ (∀ s3 : zS, s3 = zu s2 33 (s 36 (s 32 4)) x2 → (0 ≤ (s 36 (s 32 4)) ∧ (s 36 (s 32 4)) < 201) ∧ (∀ s4 : zS, s4 = zu s3 34 (s 36 (s 32 4)) x3 → Q (s 36 (s 32 4)) s4))))) : w_90 X x1 x2 x3 s Q := by
  intro hZ d hd
  have hM : xi_ml[90]? = some xm_90 := rfl
  refine gx_r hM hZ 4 (B := (8, [some (.ref 32), some (.int (Int32.ofInt x1)), some (.int (Int32.ofInt x2)), some (.int (Int32.ofInt x3)), none], [.int (Int32.ofInt (s 32 4)), .ref 36], zw X s)) rfl ?_
  refine gi_iald hM hZ (s := s) (len := 200) rfl rfl (Nat.le_of_ble_eq_true rfl) h.1 ?_
  replace h := h.2
  refine gx_r hM hZ 5 (B := (17, [some (.ref 32), some (.int (Int32.ofInt x1)), some (.int (Int32.ofInt x2)), some (.int (Int32.ofInt x3)), some (.int (Int32.ofInt (s 36 (s 32 4))))], [.int (Int32.ofInt 1), .int (Int32.ofInt (s 32 4)), .ref 32], zw X s)) rfl ?_
  refine gi_add hM hZ rfl ?_
  obtain ⟨s1, e1⟩ : ∃ q : zS, q = zu s 32 4 ((s 32 4) + 1) := ⟨_, rfl⟩
  refine gj_put hM hZ rfl rfl rfl (Nat.le_of_ble_eq_true rfl) rfl rfl zq_32_4 e1 ?_
  replace h := h _ e1
  refine gx_r hM hZ 4 (B := (28, [some (.ref 32), some (.int (Int32.ofInt x1)), some (.int (Int32.ofInt x2)), some (.int (Int32.ofInt x3)), some (.int (Int32.ofInt (s 36 (s 32 4))))], [.int (Int32.ofInt x1), .int (Int32.ofInt (s 36 (s 32 4))), .ref 35], zw X s1)) rfl ?_
  obtain ⟨s2, e2⟩ : ∃ q : zS, q = zu s1 35 (s 36 (s 32 4)) x1 := ⟨_, rfl⟩
  refine gj_iast hM hZ (len := 201) rfl rfl (Nat.le_of_ble_eq_true rfl) zp_35 h.1 e2 ?_
  replace h := h.2 _ e2
  refine gx_r hM hZ 4 (B := (36, [some (.ref 32), some (.int (Int32.ofInt x1)), some (.int (Int32.ofInt x2)), some (.int (Int32.ofInt x3)), some (.int (Int32.ofInt (s 36 (s 32 4))))], [.int (Int32.ofInt x2), .int (Int32.ofInt (s 36 (s 32 4))), .ref 33], zw X s2)) rfl ?_
  obtain ⟨s3, e3⟩ : ∃ q : zS, q = zu s2 33 (s 36 (s 32 4)) x2 := ⟨_, rfl⟩
  refine gj_iast hM hZ (len := 201) rfl rfl (Nat.le_of_ble_eq_true rfl) zp_33 h.1 e3 ?_
  replace h := h.2 _ e3
  refine gx_r hM hZ 4 (B := (44, [some (.ref 32), some (.int (Int32.ofInt x1)), some (.int (Int32.ofInt x2)), some (.int (Int32.ofInt x3)), some (.int (Int32.ofInt (s 36 (s 32 4))))], [.int (Int32.ofInt x3), .int (Int32.ofInt (s 36 (s 32 4))), .ref 34], zw X s3)) rfl ?_
  obtain ⟨s4, e4⟩ : ∃ q : zS, q = zu s3 34 (s 36 (s 32 4)) x3 := ⟨_, rfl⟩
  refine gj_iast hM hZ (len := 201) rfl rfl (Nat.le_of_ble_eq_true rfl) zp_34 h.1 e4 ?_
  replace h := h.2 _ e4
  refine gx_r hM hZ 1 (B := (47, [some (.ref 32), some (.int (Int32.ofInt x1)), some (.int (Int32.ofInt x2)), some (.int (Int32.ofInt x3)), some (.int (Int32.ofInt (s 36 (s 32 4))))], [.int (Int32.ofInt (s 36 (s 32 4)))], zw X s4)) rfl ?_
  exact ⟨_, xi_To.rf _ _ _ _, (s 36 (s 32 4)), s4, rfl, h⟩
-- RootLoom$Frames.openFirst
def w_92 (X : zX) (x1 x2 x3 : Int) (s : zS) (Q : Int → zS → Prop) : Prop := wW X 92 xm_92 0 (0, [some (.ref 39), some (.int (Int32.ofInt x1)), some (.int (Int32.ofInt x2)), some (.int (Int32.ofInt x3))], [], zw X s) Q
theorem w_92_i {X : zX} {x1 x2 x3 : Int} {s : zS} {Q : Int → zS → Prop} (h : (∀ s1 : zS, s1 = zu s 39 4 0 → (∀ s2 : zS, s2 = zu s1 42 0 0 → (∀ s3 : zS, s3 = zu s2 40 0 x1 → (∀ s4 : zS, s4 = zu s3 40 1 x2 → (∀ s5 : zS, s5 = zu s4 40 2 x3 → Q 0 s5)))))) : w_92 X x1 x2 x3 s Q := by
  intro hZ d hd
  have hM : xi_ml[92]? = some xm_92 := rfl
  refine gx_r hM hZ 2 (B := (2, [some (.ref 39), some (.int (Int32.ofInt x1)), some (.int (Int32.ofInt x2)), some (.int (Int32.ofInt x3))], [.int (Int32.ofInt 0), .ref 39], zw X s)) rfl ?_
  obtain ⟨s1, e1⟩ : ∃ q : zS, q = zu s 39 4 0 := ⟨_, rfl⟩
  refine gj_put hM hZ rfl rfl rfl (Nat.le_of_ble_eq_true rfl) rfl rfl zq_39_4 e1 ?_
  replace h := h _ e1
  refine gx_r hM hZ 4 (B := (11, [some (.ref 39), some (.int (Int32.ofInt x1)), some (.int (Int32.ofInt x2)), some (.int (Int32.ofInt x3))], [.int (Int32.ofInt 0), .int (Int32.ofInt 0), .ref 42], zw X s1)) rfl ?_
  obtain ⟨s2, e2⟩ : ∃ q : zS, q = zu s1 42 0 0 := ⟨_, rfl⟩
  refine gj_iast hM hZ (len := 24) rfl rfl (Nat.le_of_ble_eq_true rfl) zp_42 (by decide) e2 ?_
  replace h := h _ e2
  refine gx_r hM hZ 4 (B := (18, [some (.ref 39), some (.int (Int32.ofInt x1)), some (.int (Int32.ofInt x2)), some (.int (Int32.ofInt x3))], [.int (Int32.ofInt x1), .int (Int32.ofInt 0), .ref 40], zw X s2)) rfl ?_
  obtain ⟨s3, e3⟩ : ∃ q : zS, q = zu s2 40 0 x1 := ⟨_, rfl⟩
  refine gj_iast hM hZ (len := 192) rfl rfl (Nat.le_of_ble_eq_true rfl) zp_40 (by decide) e3 ?_
  replace h := h _ e3
  refine gx_r hM hZ 4 (B := (25, [some (.ref 39), some (.int (Int32.ofInt x1)), some (.int (Int32.ofInt x2)), some (.int (Int32.ofInt x3))], [.int (Int32.ofInt x2), .int (Int32.ofInt 1), .ref 40], zw X s3)) rfl ?_
  obtain ⟨s4, e4⟩ : ∃ q : zS, q = zu s3 40 1 x2 := ⟨_, rfl⟩
  refine gj_iast hM hZ (len := 192) rfl rfl (Nat.le_of_ble_eq_true rfl) zp_40 (by decide) e4 ?_
  replace h := h _ e4
  refine gx_r hM hZ 4 (B := (32, [some (.ref 39), some (.int (Int32.ofInt x1)), some (.int (Int32.ofInt x2)), some (.int (Int32.ofInt x3))], [.int (Int32.ofInt x3), .int (Int32.ofInt 2), .ref 40], zw X s4)) rfl ?_
  obtain ⟨s5, e5⟩ : ∃ q : zS, q = zu s4 40 2 x3 := ⟨_, rfl⟩
  refine gj_iast hM hZ (len := 192) rfl rfl (Nat.le_of_ble_eq_true rfl) zp_40 (by decide) e5 ?_
  replace h := h _ e5
  exact ⟨_, xi_To.rf _ _ _ _, 0, s5, rfl, h⟩
-- RootLoom$Frames.push
def w_93 (X : zX) (x1 : Int) (s : zS) (Q : Int → zS → Prop) : Prop := wW X 93 xm_93 0 (0, [some (.ref 39), some (.int (Int32.ofInt x1))], [], zw X s) Q
theorem w_93_i {X : zX} {x1 : Int} {s : zS} {Q : Int → zS → Prop} (h : (0 ≤ (s 39 4) ∧ (s 39 4) < 24) ∧ (0 ≤ (((s 39 4) * 16) + (s 42 (s 39 4))) ∧ (((s 39 4) * 16) + (s 42 (s 39 4))) < 384) ∧ (∀ s1 : zS, s1 = zu s 41 (((s 39 4) * 16) + (s 42 (s 39 4))) x1 → (0 ≤ (s1 39 4) ∧ (s1 39 4) < 24) ∧ (0 ≤ (s1 39 4) ∧ (s1 39 4) < 24) ∧ (∀ s2 : zS, s2 = zu s1 42 (s1 39 4) ((s1 42 (s1 39 4)) + 1) → Q 0 s2))) : w_93 X x1 s Q := by
  intro hZ d hd
  have hM : xi_ml[93]? = some xm_93 := rfl
  refine gx_r hM hZ 4 (B := (8, [some (.ref 39), some (.int (Int32.ofInt x1))], [.int (Int32.ofInt (s 39 4)), .ref 41], zw X s)) rfl ?_
  refine gi_bip hM hZ rfl rfl ?_
  refine gi_mul hM hZ rfl ?_
  refine gx_r hM hZ 4 (B := (19, [some (.ref 39), some (.int (Int32.ofInt x1))], [.int (Int32.ofInt (s 39 4)), .ref 42, .int (Int32.ofInt ((s 39 4) * 16)), .ref 41], zw X s)) rfl ?_
  refine gi_iald hM hZ (s := s) (len := 24) rfl rfl (Nat.le_of_ble_eq_true rfl) h.1 ?_
  replace h := h.2
  refine gi_add hM hZ rfl ?_
  refine gx_r hM hZ 1 (B := (22, [some (.ref 39), some (.int (Int32.ofInt x1))], [.int (Int32.ofInt x1), .int (Int32.ofInt (((s 39 4) * 16) + (s 42 (s 39 4)))), .ref 41], zw X s)) rfl ?_
  obtain ⟨s1, e1⟩ : ∃ q : zS, q = zu s 41 (((s 39 4) * 16) + (s 42 (s 39 4))) x1 := ⟨_, rfl⟩
  refine gj_iast hM hZ (len := 384) rfl rfl (Nat.le_of_ble_eq_true rfl) zp_41 h.1 e1 ?_
  replace h := h.2 _ e1
  refine gx_r hM hZ 5 (B := (32, [some (.ref 39), some (.int (Int32.ofInt x1))], [.int (Int32.ofInt (s1 39 4)), .ref 42, .int (Int32.ofInt (s1 39 4)), .ref 42], zw X s1)) rfl ?_
  refine gi_iald hM hZ (s := s1) (len := 24) rfl rfl (Nat.le_of_ble_eq_true rfl) h.1 ?_
  replace h := h.2
  refine gx_r hM hZ 1 (B := (34, [some (.ref 39), some (.int (Int32.ofInt x1))], [.int (Int32.ofInt 1), .int (Int32.ofInt (s1 42 (s1 39 4))), .int (Int32.ofInt (s1 39 4)), .ref 42], zw X s1)) rfl ?_
  refine gi_add hM hZ rfl ?_
  obtain ⟨s2, e2⟩ : ∃ q : zS, q = zu s1 42 (s1 39 4) ((s1 42 (s1 39 4)) + 1) := ⟨_, rfl⟩
  refine gj_iast hM hZ (len := 24) rfl rfl (Nat.le_of_ble_eq_true rfl) zp_42 h.1 e2 ?_
  replace h := h.2 _ e2
  exact ⟨_, xi_To.rf _ _ _ _, 0, s2, rfl, h⟩
-- RootLoom$Frames.load
def w_94 (X : zX) (x1 : Int) (s : zS) (Q : Int → zS → Prop) : Prop := wW X 94 xm_94 0 (0, [some (.ref 39), some (.int (Int32.ofInt x1))], [], zw X s) Q
theorem w_94_i {X : zX} {x1 : Int} {s : zS} {Q : Int → zS → Prop} (h : (0 ≤ (((s 39 4) * 8) + x1) ∧ (((s 39 4) * 8) + x1) < 192) ∧ Q (s 40 (((s 39 4) * 8) + x1)) s) : w_94 X x1 s Q := by
  intro hZ d hd
  have hM : xi_ml[94]? = some xm_94 := rfl
  refine gx_r hM hZ 4 (B := (8, [some (.ref 39), some (.int (Int32.ofInt x1))], [.int (Int32.ofInt (s 39 4)), .ref 40], zw X s)) rfl ?_
  refine gi_bip hM hZ rfl rfl ?_
  refine gi_mul hM hZ rfl ?_
  refine gx_r hM hZ 1 (B := (12, [some (.ref 39), some (.int (Int32.ofInt x1))], [.int (Int32.ofInt x1), .int (Int32.ofInt ((s 39 4) * 8)), .ref 40], zw X s)) rfl ?_
  refine gi_add hM hZ rfl ?_
  refine gi_iald hM hZ (s := s) (len := 192) rfl rfl (Nat.le_of_ble_eq_true rfl) h.1 ?_
  replace h := h.2
  exact ⟨_, xi_To.rf _ _ _ _, (s 40 (((s 39 4) * 8) + x1)), s, rfl, h⟩
-- RootLoom$Frames.pop
def w_95 (X : zX) (s : zS) (Q : Int → zS → Prop) : Prop := wW X 95 xm_95 0 (0, [some (.ref 39)], [], zw X s) Q
theorem w_95_i {X : zX} {s : zS} {Q : Int → zS → Prop} (h : (0 ≤ (s 39 4) ∧ (s 39 4) < 24) ∧ (0 ≤ (s 39 4) ∧ (s 39 4) < 24) ∧ (∀ s1 : zS, s1 = zu s 42 (s 39 4) ((s 42 (s 39 4)) - 1) → (0 ≤ (s1 39 4) ∧ (s1 39 4) < 24) ∧ (0 ≤ (((s1 39 4) * 16) + (s1 42 (s1 39 4))) ∧ (((s1 39 4) * 16) + (s1 42 (s1 39 4))) < 384) ∧ Q (s1 41 (((s1 39 4) * 16) + (s1 42 (s1 39 4)))) s1)) : w_95 X s Q := by
  intro hZ d hd
  have hM : xi_ml[95]? = some xm_95 := rfl
  refine gx_r hM hZ 5 (B := (9, [some (.ref 39)], [.int (Int32.ofInt (s 39 4)), .ref 42, .int (Int32.ofInt (s 39 4)), .ref 42], zw X s)) rfl ?_
  refine gi_iald hM hZ (s := s) (len := 24) rfl rfl (Nat.le_of_ble_eq_true rfl) h.1 ?_
  replace h := h.2
  refine gx_r hM hZ 1 (B := (11, [some (.ref 39)], [.int (Int32.ofInt 1), .int (Int32.ofInt (s 42 (s 39 4))), .int (Int32.ofInt (s 39 4)), .ref 42], zw X s)) rfl ?_
  refine gi_sub hM hZ rfl ?_
  obtain ⟨s1, e1⟩ : ∃ q : zS, q = zu s 42 (s 39 4) ((s 42 (s 39 4)) - 1) := ⟨_, rfl⟩
  refine gj_iast hM hZ (len := 24) rfl rfl (Nat.le_of_ble_eq_true rfl) zp_42 h.1 e1 ?_
  replace h := h.2 _ e1
  refine gx_r hM hZ 4 (B := (21, [some (.ref 39)], [.int (Int32.ofInt (s1 39 4)), .ref 41], zw X s1)) rfl ?_
  refine gi_bip hM hZ rfl rfl ?_
  refine gi_mul hM hZ rfl ?_
  refine gx_r hM hZ 4 (B := (32, [some (.ref 39)], [.int (Int32.ofInt (s1 39 4)), .ref 42, .int (Int32.ofInt ((s1 39 4) * 16)), .ref 41], zw X s1)) rfl ?_
  refine gi_iald hM hZ (s := s1) (len := 24) rfl rfl (Nat.le_of_ble_eq_true rfl) h.1 ?_
  replace h := h.2
  refine gi_add hM hZ rfl ?_
  refine gi_iald hM hZ (s := s1) (len := 384) rfl rfl (Nat.le_of_ble_eq_true rfl) h.1 ?_
  replace h := h.2
  exact ⟨_, xi_To.rf _ _ _ _, (s1 41 (((s1 39 4) * 16) + (s1 42 (s1 39 4)))), s1, rfl, h⟩
-- RootLoom$Frames.store
def w_96 (X : zX) (x1 x2 : Int) (s : zS) (Q : Int → zS → Prop) : Prop := wW X 96 xm_96 0 (0, [some (.ref 39), some (.int (Int32.ofInt x1)), some (.int (Int32.ofInt x2))], [], zw X s) Q
theorem w_96_i {X : zX} {x1 x2 : Int} {s : zS} {Q : Int → zS → Prop} (h : (0 ≤ (((s 39 4) * 8) + x1) ∧ (((s 39 4) * 8) + x1) < 192) ∧ (∀ s1 : zS, s1 = zu s 40 (((s 39 4) * 8) + x1) x2 → Q 0 s1)) : w_96 X x1 x2 s Q := by
  intro hZ d hd
  have hM : xi_ml[96]? = some xm_96 := rfl
  refine gx_r hM hZ 4 (B := (8, [some (.ref 39), some (.int (Int32.ofInt x1)), some (.int (Int32.ofInt x2))], [.int (Int32.ofInt (s 39 4)), .ref 40], zw X s)) rfl ?_
  refine gi_bip hM hZ rfl rfl ?_
  refine gi_mul hM hZ rfl ?_
  refine gx_r hM hZ 1 (B := (12, [some (.ref 39), some (.int (Int32.ofInt x1)), some (.int (Int32.ofInt x2))], [.int (Int32.ofInt x1), .int (Int32.ofInt ((s 39 4) * 8)), .ref 40], zw X s)) rfl ?_
  refine gi_add hM hZ rfl ?_
  refine gx_r hM hZ 1 (B := (14, [some (.ref 39), some (.int (Int32.ofInt x1)), some (.int (Int32.ofInt x2))], [.int (Int32.ofInt x2), .int (Int32.ofInt (((s 39 4) * 8) + x1)), .ref 40], zw X s)) rfl ?_
  obtain ⟨s1, e1⟩ : ∃ q : zS, q = zu s 40 (((s 39 4) * 8) + x1) x2 := ⟨_, rfl⟩
  refine gj_iast hM hZ (len := 192) rfl rfl (Nat.le_of_ble_eq_true rfl) zp_40 h.1 e1 ?_
  replace h := h.2 _ e1
  exact ⟨_, xi_To.rf _ _ _ _, 0, s1, rfl, h⟩
-- RootLoom$Frames.openNext
def w_97 (X : zX) (x1 x2 : Int) (s : zS) (Q : Int → zS → Prop) : Prop := wW X 97 xm_97 0 (0, [some (.ref 39), some (.int (Int32.ofInt x1)), some (.int (Int32.ofInt x2)), none, none, none], [], zw X s) Q
def w_97_34 (X : zX) (x1 x2 x3 x4 x5 : Int) (s : zS) (Q : Int → zS → Prop) : Prop := wW X 97 xm_97 0 (34, [some (.ref 39), some (.int (Int32.ofInt x1)), some (.int (Int32.ofInt x2)), some (.int (Int32.ofInt x3)), some (.int (Int32.ofInt x4)), some (.int (Int32.ofInt x5))], [], zw X s) Q
theorem w_97_i {X : zX} {x1 x2 : Int} {s : zS} {Q : Int → zS → Prop} (h : (0 ≤ (s 39 4) ∧ (s 39 4) < 24) ∧ w_97_34 X x1 x2 ((((s 39 4) * 16) + (s 42 (s 39 4))) - x2) (((s 39 4) + 1) * 8) 0 s Q) : w_97 X x1 x2 s Q := by
  intro hZ d hd
  have hM : xi_ml[97]? = some xm_97 := rfl
  refine gx_r hM hZ 2 (B := (4, [some (.ref 39), some (.int (Int32.ofInt x1)), some (.int (Int32.ofInt x2)), none, none, none], [.int (Int32.ofInt (s 39 4))], zw X s)) rfl ?_
  refine gi_bip hM hZ rfl rfl ?_
  refine gi_mul hM hZ rfl ?_
  refine gx_r hM hZ 4 (B := (15, [some (.ref 39), some (.int (Int32.ofInt x1)), some (.int (Int32.ofInt x2)), none, none, none], [.int (Int32.ofInt (s 39 4)), .ref 42, .int (Int32.ofInt ((s 39 4) * 16))], zw X s)) rfl ?_
  refine gi_iald hM hZ (s := s) (len := 24) rfl rfl (Nat.le_of_ble_eq_true rfl) h.1 ?_
  replace h := h.2
  refine gi_add hM hZ rfl ?_
  refine gx_r hM hZ 1 (B := (18, [some (.ref 39), some (.int (Int32.ofInt x1)), some (.int (Int32.ofInt x2)), none, none, none], [.int (Int32.ofInt x2), .int (Int32.ofInt (((s 39 4) * 16) + (s 42 (s 39 4))))], zw X s)) rfl ?_
  refine gi_sub hM hZ rfl ?_
  refine gx_r hM hZ 4 (B := (25, [some (.ref 39), some (.int (Int32.ofInt x1)), some (.int (Int32.ofInt x2)), some (.int (Int32.ofInt ((((s 39 4) * 16) + (s 42 (s 39 4))) - x2))), none, none], [.int (Int32.ofInt 1), .int (Int32.ofInt (s 39 4))], zw X s)) rfl ?_
  refine gi_add hM hZ rfl ?_
  refine gi_bip hM hZ rfl rfl ?_
  refine gi_mul hM hZ rfl ?_
  refine gx_r hM hZ 3 (B := (34, [some (.ref 39), some (.int (Int32.ofInt x1)), some (.int (Int32.ofInt x2)), some (.int (Int32.ofInt ((((s 39 4) * 16) + (s 42 (s 39 4))) - x2))), some (.int (Int32.ofInt (((s 39 4) + 1) * 8))), some (.int (Int32.ofInt 0))], [], zw X s)) rfl ?_
  exact gx_fg [true, true, true, true, true, true] (h hZ d hd)
theorem w_97_34_i {X : zX} {x1 x2 x3 x4 x5 : Int} {s : zS} {Q : Int → zS → Prop} (h : (((-2147483648 ≤ x5 ∧ x5 ≤ 2147483647) ∧ (-2147483648 ≤ x2 ∧ x2 ≤ 2147483647)) ∧ (x2 ≤ x5 → (0 ≤ (s 39 4) ∧ (s 39 4) < 24) ∧ (0 ≤ (s 39 4) ∧ (s 39 4) < 24) ∧ (∀ s1 : zS, s1 = zu s 42 (s 39 4) ((s 42 (s 39 4)) - x2) → (0 ≤ (s1 39 4) ∧ (s1 39 4) < 24) ∧ (∀ s2 : zS, s2 = zu s1 43 (s1 39 4) x1 → (∀ s3 : zS, s3 = zu s2 39 4 ((s2 39 4) + 1) → (0 ≤ (s3 39 4) ∧ (s3 39 4) < 24) ∧ (∀ s4 : zS, s4 = zu s3 42 (s3 39 4) 0 → Q 0 s4))))) ∧ (¬ x2 ≤ x5 → (0 ≤ (x3 + x5) ∧ (x3 + x5) < 384) ∧ (0 ≤ (x4 + x5) ∧ (x4 + x5) < 192) ∧ (∀ s5 : zS, s5 = zu s 40 (x4 + x5) (s 41 (x3 + x5)) → w_97_34 X x1 x2 x3 x4 (x5 + 1) s5 Q)))) : w_97_34 X x1 x2 x3 x4 x5 s Q := by
  intro hZ d hd
  have hM : xi_ml[97]? = some xm_97 := rfl
  refine gx_r hM hZ 2 (B := (37, [some (.ref 39), some (.int (Int32.ofInt x1)), some (.int (Int32.ofInt x2)), some (.int (Int32.ofInt x3)), some (.int (Int32.ofInt x4)), some (.int (Int32.ofInt x5))], [.int (Int32.ofInt x2), .int (Int32.ofInt x5)], zw X s)) rfl ?_
  refine gi_if2 hM hZ (fun x y => decide (y ≤ x)) (p := x2 ≤ x5) rfl rfl (zc_ge h.1.1 h.1.2) ?_ ?_
  · intro hp
    replace h := h.2.1 hp
    refine gx_r hM hZ 5 (B := (74, [some (.ref 39), some (.int (Int32.ofInt x1)), some (.int (Int32.ofInt x2)), some (.int (Int32.ofInt x3)), some (.int (Int32.ofInt x4)), some (.int (Int32.ofInt x5))], [.int (Int32.ofInt (s 39 4)), .ref 42, .int (Int32.ofInt (s 39 4)), .ref 42], zw X s)) rfl ?_
    refine gi_iald hM hZ (s := s) (len := 24) rfl rfl (Nat.le_of_ble_eq_true rfl) h.1 ?_
    replace h := h.2
    refine gx_r hM hZ 1 (B := (76, [some (.ref 39), some (.int (Int32.ofInt x1)), some (.int (Int32.ofInt x2)), some (.int (Int32.ofInt x3)), some (.int (Int32.ofInt x4)), some (.int (Int32.ofInt x5))], [.int (Int32.ofInt x2), .int (Int32.ofInt (s 42 (s 39 4))), .int (Int32.ofInt (s 39 4)), .ref 42], zw X s)) rfl ?_
    refine gi_sub hM hZ rfl ?_
    obtain ⟨s1, e1⟩ : ∃ q : zS, q = zu s 42 (s 39 4) ((s 42 (s 39 4)) - x2) := ⟨_, rfl⟩
    refine gj_iast hM hZ (len := 24) rfl rfl (Nat.le_of_ble_eq_true rfl) zp_42 h.1 e1 ?_
    replace h := h.2 _ e1
    refine gx_r hM hZ 5 (B := (87, [some (.ref 39), some (.int (Int32.ofInt x1)), some (.int (Int32.ofInt x2)), some (.int (Int32.ofInt x3)), some (.int (Int32.ofInt x4)), some (.int (Int32.ofInt x5))], [.int (Int32.ofInt x1), .int (Int32.ofInt (s1 39 4)), .ref 43], zw X s1)) rfl ?_
    obtain ⟨s2, e2⟩ : ∃ q : zS, q = zu s1 43 (s1 39 4) x1 := ⟨_, rfl⟩
    refine gj_iast hM hZ (len := 24) rfl rfl (Nat.le_of_ble_eq_true rfl) zp_43 h.1 e2 ?_
    replace h := h.2 _ e2
    refine gx_r hM hZ 4 (B := (94, [some (.ref 39), some (.int (Int32.ofInt x1)), some (.int (Int32.ofInt x2)), some (.int (Int32.ofInt x3)), some (.int (Int32.ofInt x4)), some (.int (Int32.ofInt x5))], [.int (Int32.ofInt 1), .int (Int32.ofInt (s2 39 4)), .ref 39], zw X s2)) rfl ?_
    refine gi_add hM hZ rfl ?_
    obtain ⟨s3, e3⟩ : ∃ q : zS, q = zu s2 39 4 ((s2 39 4) + 1) := ⟨_, rfl⟩
    refine gj_put hM hZ rfl rfl rfl (Nat.le_of_ble_eq_true rfl) rfl rfl zq_39_4 e3 ?_
    replace h := h _ e3
    refine gx_r hM hZ 5 (B := (107, [some (.ref 39), some (.int (Int32.ofInt x1)), some (.int (Int32.ofInt x2)), some (.int (Int32.ofInt x3)), some (.int (Int32.ofInt x4)), some (.int (Int32.ofInt x5))], [.int (Int32.ofInt 0), .int (Int32.ofInt (s3 39 4)), .ref 42], zw X s3)) rfl ?_
    obtain ⟨s4, e4⟩ : ∃ q : zS, q = zu s3 42 (s3 39 4) 0 := ⟨_, rfl⟩
    refine gj_iast hM hZ (len := 24) rfl rfl (Nat.le_of_ble_eq_true rfl) zp_42 h.1 e4 ?_
    replace h := h.2 _ e4
    exact ⟨_, xi_To.rf _ _ _ _, 0, s4, rfl, h⟩
  · intro hp
    replace h := h.2.2 hp
    refine gx_r hM hZ 4 (B := (48, [some (.ref 39), some (.int (Int32.ofInt x1)), some (.int (Int32.ofInt x2)), some (.int (Int32.ofInt x3)), some (.int (Int32.ofInt x4)), some (.int (Int32.ofInt x5))], [.int (Int32.ofInt x5), .int (Int32.ofInt x4), .ref 40], zw X s)) rfl ?_
    refine gi_add hM hZ rfl ?_
    refine gx_r hM hZ 4 (B := (56, [some (.ref 39), some (.int (Int32.ofInt x1)), some (.int (Int32.ofInt x2)), some (.int (Int32.ofInt x3)), some (.int (Int32.ofInt x4)), some (.int (Int32.ofInt x5))], [.int (Int32.ofInt x5), .int (Int32.ofInt x3), .ref 41, .int (Int32.ofInt (x4 + x5)), .ref 40], zw X s)) rfl ?_
    refine gi_add hM hZ rfl ?_
    refine gi_iald hM hZ (s := s) (len := 384) rfl rfl (Nat.le_of_ble_eq_true rfl) h.1 ?_
    replace h := h.2
    obtain ⟨s5, e5⟩ : ∃ q : zS, q = zu s 40 (x4 + x5) (s 41 (x3 + x5)) := ⟨_, rfl⟩
    refine gj_iast hM hZ (len := 192) rfl rfl (Nat.le_of_ble_eq_true rfl) zp_40 h.1 e5 ?_
    replace h := h.2 _ e5
    refine gi_inc hM hZ (x := x5) (m := 1) rfl rfl ?_
    refine gx_r hM hZ 0 (B := (62, [some (.ref 39), some (.int (Int32.ofInt x1)), some (.int (Int32.ofInt x2)), some (.int (Int32.ofInt x3)), some (.int (Int32.ofInt x4)), some (.int (Int32.ofInt (x5 + 1)))], [], zw X s5)) rfl ?_
    refine gx_r hM hZ 1 (B := (34, [some (.ref 39), some (.int (Int32.ofInt x1)), some (.int (Int32.ofInt x2)), some (.int (Int32.ofInt x3)), some (.int (Int32.ofInt x4)), some (.int (Int32.ofInt (x5 + 1)))], [], zw X s5)) rfl ?_
    exact gx_fg [true, true, true, true, true, true] (h hZ d hd)
-- RootLoomModel.thrown
def w_99 (X : zX) (s : zS) (Q : Int → zS → Prop) : Prop := wW X 99 xm_99 0 (0, [some (.ref 45)], [], zw X s) Q
theorem w_99_i {X : zX} {s : zS} {Q : Int → zS → Prop} (h : Q (s 45 0) s) : w_99 X s Q := by
  intro hZ d hd
  have hM : xi_ml[99]? = some xm_99 := rfl
  refine gx_r hM hZ 2 (B := (4, [some (.ref 45)], [.int (Int32.ofInt (s 45 0))], zw X s)) rfl ?_
  exact ⟨_, xi_To.rf _ _ _ _, (s 45 0), s, rfl, h⟩
-- RootLoomModel.in
def w_101 (X : zX) (x0 x1 x2 : Int) (s : zS) (Q : Int → zS → Prop) : Prop := wW X 101 xm_101 0 (0, [some (.int (Int32.ofInt x0)), some (.int (Int32.ofInt x1)), some (.int (Int32.ofInt x2))], [], zw X s) Q
def w_101_14 (X : zX) (s : zS) (Q : Int → zS → Prop) : Prop := wW X 101 xm_101 0 (14, [none, none, none], [], zw X s) Q
theorem w_101_i {X : zX} {x0 x1 x2 : Int} {s : zS} {Q : Int → zS → Prop} (h : (((-2147483648 ≤ x0 ∧ x0 ≤ 2147483647) ∧ (-2147483648 ≤ x1 ∧ x1 ≤ 2147483647)) ∧ (x0 < x1 → w_101_14 X s Q) ∧ (¬ x0 < x1 → (((-2147483648 ≤ x0 ∧ x0 ≤ 2147483647) ∧ (-2147483648 ≤ x2 ∧ x2 ≤ 2147483647)) ∧ (x2 < x0 → w_101_14 X s Q) ∧ (¬ x2 < x0 → Q 1 s))))) : w_101 X x0 x1 x2 s Q := by
  intro hZ d hd
  have hM : xi_ml[101]? = some xm_101 := rfl
  refine gx_r hM hZ 2 (B := (2, [some (.int (Int32.ofInt x0)), some (.int (Int32.ofInt x1)), some (.int (Int32.ofInt x2))], [.int (Int32.ofInt x1), .int (Int32.ofInt x0)], zw X s)) rfl ?_
  refine gi_if2 hM hZ (fun x y => decide (x < y)) (p := x0 < x1) rfl rfl (zc_lt h.1.1 h.1.2) ?_ ?_
  · intro hp
    replace h := h.2.1 hp
    exact gx_fg [false, false, false] (h hZ d hd)
  · intro hp
    replace h := h.2.2 hp
    refine gx_r hM hZ 2 (B := (7, [some (.int (Int32.ofInt x0)), some (.int (Int32.ofInt x1)), some (.int (Int32.ofInt x2))], [.int (Int32.ofInt x2), .int (Int32.ofInt x0)], zw X s)) rfl ?_
    refine gi_if2 hM hZ (fun x y => decide (y < x)) (p := x2 < x0) rfl rfl (zc_gt h.1.1 h.1.2) ?_ ?_
    · intro hp
      replace h := h.2.1 hp
      exact gx_fg [false, false, false] (h hZ d hd)
    · intro hp
      replace h := h.2.2 hp
      refine gx_r hM hZ 2 (B := (15, [some (.int (Int32.ofInt x0)), some (.int (Int32.ofInt x1)), some (.int (Int32.ofInt x2))], [.int (Int32.ofInt 1)], zw X s)) rfl ?_
      exact ⟨_, xi_To.rf _ _ _ _, 1, s, rfl, h⟩
theorem w_101_14_i {X : zX} {s : zS} {Q : Int → zS → Prop} (h : Q 0 s) : w_101_14 X s Q := by
  intro hZ d hd
  have hM : xi_ml[101]? = some xm_101 := rfl
  refine gx_r hM hZ 1 (B := (15, [none, none, none], [.int (Int32.ofInt 0)], zw X s)) rfl ?_
  exact ⟨_, xi_To.rf _ _ _ _, 0, s, rfl, h⟩
-- RootLoomModel.larger
def w_111 (X : zX) (x0 x1 : Int) (s : zS) (Q : Int → zS → Prop) : Prop := wW X 111 xm_111 0 (0, [some (.int (Int32.ofInt x0)), some (.int (Int32.ofInt x1))], [], zw X s) Q
theorem w_111_i {X : zX} {x0 x1 : Int} {s : zS} {Q : Int → zS → Prop} (h : (((-2147483648 ≤ x0 ∧ x0 ≤ 2147483647) ∧ (-2147483648 ≤ x1 ∧ x1 ≤ 2147483647)) ∧ (x0 ≤ x1 → Q x1 s) ∧ (¬ x0 ≤ x1 → Q x0 s))) : w_111 X x0 x1 s Q := by
  intro hZ d hd
  have hM : xi_ml[111]? = some xm_111 := rfl
  refine gx_r hM hZ 2 (B := (2, [some (.int (Int32.ofInt x0)), some (.int (Int32.ofInt x1))], [.int (Int32.ofInt x1), .int (Int32.ofInt x0)], zw X s)) rfl ?_
  refine gi_if2 hM hZ (fun x y => decide (x ≤ y)) (p := x0 ≤ x1) rfl rfl (zc_le h.1.1 h.1.2) ?_ ?_
  · intro hp
    replace h := h.2.1 hp
    refine gx_r hM hZ 1 (B := (10, [some (.int (Int32.ofInt x0)), some (.int (Int32.ofInt x1))], [.int (Int32.ofInt x1)], zw X s)) rfl ?_
    exact ⟨_, xi_To.rf _ _ _ _, x1, s, rfl, h⟩
  · intro hp
    replace h := h.2.2 hp
    refine gx_r hM hZ 2 (B := (10, [some (.int (Int32.ofInt x0)), some (.int (Int32.ofInt x1))], [.int (Int32.ofInt x0)], zw X s)) rfl ?_
    exact ⟨_, xi_To.rf _ _ _ _, x0, s, rfl, h⟩
-- RootLoomModel.cut
def w_112 (X : zX) (x0 : Int) (s : zS) (Q : Int → zS → Prop) : Prop := wW X 112 xm_112 0 (0, [some (.int (Int32.ofInt x0))], [], zw X s) Q
theorem w_112_i {X : zX} {x0 : Int} {s : zS} {Q : Int → zS → Prop} (h : ((-2147483648 ≤ x0 ∧ x0 ≤ 2147483647) ∧ (x0 ≤ 1000 → Q x0 s) ∧ (¬ x0 ≤ 1000 → Q 1000 s))) : w_112 X x0 s Q := by
  intro hZ d hd
  have hM : xi_ml[112]? = some xm_112 := rfl
  refine gx_r hM hZ 1 (B := (1, [some (.int (Int32.ofInt x0))], [.int (Int32.ofInt x0)], zw X s)) rfl ?_
  refine gi_sip hM hZ rfl rfl ?_
  refine gi_if2 hM hZ (fun x y => decide (x ≤ y)) (p := x0 ≤ 1000) rfl rfl (zc_le h.1 (by decide)) ?_ ?_
  · intro hp
    replace h := h.2.1 hp
    refine gx_r hM hZ 1 (B := (14, [some (.int (Int32.ofInt x0))], [.int (Int32.ofInt x0)], zw X s)) rfl ?_
    exact ⟨_, xi_To.rf _ _ _ _, x0, s, rfl, h⟩
  · intro hp
    replace h := h.2.2 hp
    refine gi_sip hM hZ rfl rfl ?_
    refine gx_r hM hZ 1 (B := (14, [some (.int (Int32.ofInt x0))], [.int (Int32.ofInt 1000)], zw X s)) rfl ?_
    exact ⟨_, xi_To.rf _ _ _ _, 1000, s, rfl, h⟩
-- RootLoomModel.later
def w_114 (X : zX) (x1 x2 : Int) (s : zS) (Q : Int → zS → Prop) : Prop := wW X 114 xm_114 0 (0, [some (.ref 45), some (.int (Int32.ofInt x1)), some (.int (Int32.ofInt x2))], [], zw X s) Q
theorem w_114_i {X : zX} {x1 x2 : Int} {s : zS} {Q : Int → zS → Prop} (h : (0 ≤ (s 45 27) ∧ (s 45 27) < 1200) ∧ (∀ s1 : zS, s1 = zu s 67 (s 45 27) x1 → (0 ≤ (s1 45 27) ∧ (s1 45 27) < 1200) ∧ (∀ s2 : zS, s2 = zu s1 68 (s1 45 27) x2 → (∀ s3 : zS, s3 = zu s2 45 27 ((s2 45 27) + 1) → Q 0 s3)))) : w_114 X x1 x2 s Q := by
  intro hZ d hd
  have hM : xi_ml[114]? = some xm_114 := rfl
  refine gx_r hM hZ 5 (B := (9, [some (.ref 45), some (.int (Int32.ofInt x1)), some (.int (Int32.ofInt x2))], [.int (Int32.ofInt x1), .int (Int32.ofInt (s 45 27)), .ref 67], zw X s)) rfl ?_
  obtain ⟨s1, e1⟩ : ∃ q : zS, q = zu s 67 (s 45 27) x1 := ⟨_, rfl⟩
  refine gj_iast hM hZ (len := 1200) rfl rfl (Nat.le_of_ble_eq_true rfl) zp_67 h.1 e1 ?_
  replace h := h.2 _ e1
  refine gx_r hM hZ 5 (B := (19, [some (.ref 45), some (.int (Int32.ofInt x1)), some (.int (Int32.ofInt x2))], [.int (Int32.ofInt x2), .int (Int32.ofInt (s1 45 27)), .ref 68], zw X s1)) rfl ?_
  obtain ⟨s2, e2⟩ : ∃ q : zS, q = zu s1 68 (s1 45 27) x2 := ⟨_, rfl⟩
  refine gj_iast hM hZ (len := 1200) rfl rfl (Nat.le_of_ble_eq_true rfl) zp_68 h.1 e2 ?_
  replace h := h.2 _ e2
  refine gx_r hM hZ 4 (B := (26, [some (.ref 45), some (.int (Int32.ofInt x1)), some (.int (Int32.ofInt x2))], [.int (Int32.ofInt 1), .int (Int32.ofInt (s2 45 27)), .ref 45], zw X s2)) rfl ?_
  refine gi_add hM hZ rfl ?_
  obtain ⟨s3, e3⟩ : ∃ q : zS, q = zu s2 45 27 ((s2 45 27) + 1) := ⟨_, rfl⟩
  refine gj_put hM hZ rfl rfl rfl (Nat.le_of_ble_eq_true rfl) rfl rfl zq_45_27 e3 ?_
  replace h := h _ e3
  exact ⟨_, xi_To.rf _ _ _ _, 0, s3, rfl, h⟩
-- RootLoomModel.say
def w_116 (X : zX) (x1 x2 : Int) (s : zS) (Q : Int → zS → Prop) : Prop := wW X 116 xm_116 0 (0, [some (.ref 45), some (.int (Int32.ofInt x1)), some (.int (Int32.ofInt x2))], [], zw X s) Q
theorem w_116_i {X : zX} {x1 x2 : Int} {s : zS} {Q : Int → zS → Prop} (h : (0 ≤ (s 45 16) ∧ (s 45 16) < 400) ∧ (∀ s1 : zS, s1 = zu s 58 (s 45 16) x1 → (0 ≤ (s1 45 16) ∧ (s1 45 16) < 400) ∧ (∀ s2 : zS, s2 = zu s1 59 (s1 45 16) x2 → (0 ≤ (s2 45 16) ∧ (s2 45 16) < 400) ∧ (∀ s3 : zS, s3 = zu s2 60 (s2 45 16) 0 → (0 ≤ (s3 45 16) ∧ (s3 45 16) < 400) ∧ (∀ s4 : zS, s4 = zu s3 61 (s3 45 16) 0 → (0 ≤ (s4 45 16) ∧ (s4 45 16) < 400) ∧ (∀ s5 : zS, s5 = zu s4 62 (s4 45 16) 0 → (∀ s6 : zS, s6 = zu s5 45 16 ((s5 45 16) + 1) → Q 0 s6))))))) : w_116 X x1 x2 s Q := by
  intro hZ d hd
  have hM : xi_ml[116]? = some xm_116 := rfl
  refine gx_r hM hZ 5 (B := (9, [some (.ref 45), some (.int (Int32.ofInt x1)), some (.int (Int32.ofInt x2))], [.int (Int32.ofInt x1), .int (Int32.ofInt (s 45 16)), .ref 58], zw X s)) rfl ?_
  obtain ⟨s1, e1⟩ : ∃ q : zS, q = zu s 58 (s 45 16) x1 := ⟨_, rfl⟩
  refine gj_iast hM hZ (len := 400) rfl rfl (Nat.le_of_ble_eq_true rfl) zp_58 h.1 e1 ?_
  replace h := h.2 _ e1
  refine gx_r hM hZ 5 (B := (19, [some (.ref 45), some (.int (Int32.ofInt x1)), some (.int (Int32.ofInt x2))], [.int (Int32.ofInt x2), .int (Int32.ofInt (s1 45 16)), .ref 59], zw X s1)) rfl ?_
  obtain ⟨s2, e2⟩ : ∃ q : zS, q = zu s1 59 (s1 45 16) x2 := ⟨_, rfl⟩
  refine gj_iast hM hZ (len := 400) rfl rfl (Nat.le_of_ble_eq_true rfl) zp_59 h.1 e2 ?_
  replace h := h.2 _ e2
  refine gx_r hM hZ 5 (B := (29, [some (.ref 45), some (.int (Int32.ofInt x1)), some (.int (Int32.ofInt x2))], [.int (Int32.ofInt 0), .int (Int32.ofInt (s2 45 16)), .ref 60], zw X s2)) rfl ?_
  obtain ⟨s3, e3⟩ : ∃ q : zS, q = zu s2 60 (s2 45 16) 0 := ⟨_, rfl⟩
  refine gj_iast hM hZ (len := 400) rfl rfl (Nat.le_of_ble_eq_true rfl) zp_60 h.1 e3 ?_
  replace h := h.2 _ e3
  refine gx_r hM hZ 5 (B := (39, [some (.ref 45), some (.int (Int32.ofInt x1)), some (.int (Int32.ofInt x2))], [.int (Int32.ofInt 0), .int (Int32.ofInt (s3 45 16)), .ref 61], zw X s3)) rfl ?_
  obtain ⟨s4, e4⟩ : ∃ q : zS, q = zu s3 61 (s3 45 16) 0 := ⟨_, rfl⟩
  refine gj_iast hM hZ (len := 400) rfl rfl (Nat.le_of_ble_eq_true rfl) zp_61 h.1 e4 ?_
  replace h := h.2 _ e4
  refine gx_r hM hZ 5 (B := (49, [some (.ref 45), some (.int (Int32.ofInt x1)), some (.int (Int32.ofInt x2))], [.int (Int32.ofInt 0), .int (Int32.ofInt (s4 45 16)), .ref 62], zw X s4)) rfl ?_
  obtain ⟨s5, e5⟩ : ∃ q : zS, q = zu s4 62 (s4 45 16) 0 := ⟨_, rfl⟩
  refine gj_iast hM hZ (len := 400) rfl rfl (Nat.le_of_ble_eq_true rfl) zp_62 h.1 e5 ?_
  replace h := h.2 _ e5
  refine gx_r hM hZ 4 (B := (56, [some (.ref 45), some (.int (Int32.ofInt x1)), some (.int (Int32.ofInt x2))], [.int (Int32.ofInt 1), .int (Int32.ofInt (s5 45 16)), .ref 45], zw X s5)) rfl ?_
  refine gi_add hM hZ rfl ?_
  obtain ⟨s6, e6⟩ : ∃ q : zS, q = zu s5 45 16 ((s5 45 16) + 1) := ⟨_, rfl⟩
  refine gj_put hM hZ rfl rfl rfl (Nat.le_of_ble_eq_true rfl) rfl rfl zq_45_16 e6 ?_
  replace h := h _ e6
  exact ⟨_, xi_To.rf _ _ _ _, 0, s6, rfl, h⟩
-- RootLoomModel.pushType
def w_117 (X : zX) (x1 : Int) (s : zS) (Q : Int → zS → Prop) : Prop := wW X 117 xm_117 0 (0, [some (.ref 45), some (.int (Int32.ofInt x1))], [], zw X s) Q
theorem w_117_i {X : zX} {x1 : Int} {s : zS} {Q : Int → zS → Prop} (h : (0 ≤ (s 45 30) ∧ (s 45 30) < 40) ∧ (∀ s1 : zS, s1 = zu s 69 (s 45 30) x1 → (∀ s2 : zS, s2 = zu s1 45 30 ((s1 45 30) + 1) → Q 0 s2))) : w_117 X x1 s Q := by
  intro hZ d hd
  have hM : xi_ml[117]? = some xm_117 := rfl
  refine gx_r hM hZ 5 (B := (9, [some (.ref 45), some (.int (Int32.ofInt x1))], [.int (Int32.ofInt x1), .int (Int32.ofInt (s 45 30)), .ref 69], zw X s)) rfl ?_
  obtain ⟨s1, e1⟩ : ∃ q : zS, q = zu s 69 (s 45 30) x1 := ⟨_, rfl⟩
  refine gj_iast hM hZ (len := 40) rfl rfl (Nat.le_of_ble_eq_true rfl) zp_69 h.1 e1 ?_
  replace h := h.2 _ e1
  refine gx_r hM hZ 4 (B := (16, [some (.ref 45), some (.int (Int32.ofInt x1))], [.int (Int32.ofInt 1), .int (Int32.ofInt (s1 45 30)), .ref 45], zw X s1)) rfl ?_
  refine gi_add hM hZ rfl ?_
  obtain ⟨s2, e2⟩ : ∃ q : zS, q = zu s1 45 30 ((s1 45 30) + 1) := ⟨_, rfl⟩
  refine gj_put hM hZ rfl rfl rfl (Nat.le_of_ble_eq_true rfl) rfl rfl zq_45_30 e2 ?_
  replace h := h _ e2
  exact ⟨_, xi_To.rf _ _ _ _, 0, s2, rfl, h⟩
-- RootLoomModel.need
def w_118 (X : zX) (x1 : Int) (s : zS) (Q : Int → zS → Prop) : Prop := wW X 118 xm_118 0 (0, [some (.ref 45), some (.int (Int32.ofInt x1))], [], zw X s) Q
def w_118_12 (X : zX) (s : zS) (Q : Int → zS → Prop) : Prop := wW X 118 xm_118 0 (12, [none, none], [.ref 45], zw X s) Q
def w_118_17 (X : zX) (t1 : Int) (s : zS) (Q : Int → zS → Prop) : Prop := wW X 118 xm_118 0 (17, [none, none], [.int (Int32.ofInt t1), .ref 45], zw X s) Q
theorem w_118_i {X : zX} {x1 : Int} {s : zS} {Q : Int → zS → Prop} (h : ((-2147483648 ≤ (s 45 36) ∧ (s 45 36) ≤ 2147483647) ∧ (¬ (s 45 36) = 0 → w_118_12 X s Q) ∧ (¬ ¬ (s 45 36) = 0 → ((-2147483648 ≤ x1 ∧ x1 ≤ 2147483647) ∧ (¬ x1 = 0 → w_118_17 X 0 s Q) ∧ (¬ ¬ x1 = 0 → w_118_12 X s Q))))) : w_118 X x1 s Q := by
  intro hZ d hd
  have hM : xi_ml[118]? = some xm_118 := rfl
  refine gx_r hM hZ 3 (B := (5, [some (.ref 45), some (.int (Int32.ofInt x1))], [.int (Int32.ofInt (s 45 36)), .ref 45], zw X s)) rfl ?_
  refine gi_if1 hM hZ (fun x => decide (¬ x = 0)) (p := ¬ (s 45 36) = 0) rfl rfl (zd_ne h.1) ?_ ?_
  · intro hp
    replace h := h.2.1 hp
    exact gx_fg [false, false] (h hZ d hd)
  · intro hp
    replace h := h.2.2 hp
    refine gx_r hM hZ 1 (B := (9, [some (.ref 45), some (.int (Int32.ofInt x1))], [.int (Int32.ofInt x1), .ref 45], zw X s)) rfl ?_
    refine gi_if1 hM hZ (fun x => decide (¬ x = 0)) (p := ¬ x1 = 0) rfl rfl (zd_ne h.1) ?_ ?_
    · intro hp
      replace h := h.2.1 hp
      refine gx_r hM hZ 1 (B := (17, [some (.ref 45), some (.int (Int32.ofInt x1))], [.int (Int32.ofInt 0), .ref 45], zw X s)) rfl ?_
      exact gx_fg [false, false] (h hZ d hd)
    · intro hp
      replace h := h.2.2 hp
      exact gx_fg [false, false] (h hZ d hd)
theorem w_118_12_i {X : zX} {s : zS} {Q : Int → zS → Prop} (h : w_118_17 X 1 s Q) : w_118_12 X s Q := by
  intro hZ d hd
  have hM : xi_ml[118]? = some xm_118 := rfl
  refine gx_r hM hZ 2 (B := (17, [none, none], [.int (Int32.ofInt 1), .ref 45], zw X s)) rfl ?_
  exact gx_fg [false, false] (h hZ d hd)
theorem w_118_17_i {X : zX} {t1 : Int} {s : zS} {Q : Int → zS → Prop} (h : ((t1 = 0 ∨ t1 = 1) ∧ (∀ s1 : zS, s1 = zu s 45 36 t1 → Q 0 s1))) : w_118_17 X t1 s Q := by
  intro hZ d hd
  have hM : xi_ml[118]? = some xm_118 := rfl
  obtain ⟨s1, e1⟩ : ∃ q : zS, q = zu s 45 36 t1 := ⟨_, rfl⟩
  refine gj_put hM hZ rfl rfl rfl (Nat.le_of_ble_eq_true rfl) rfl (zb_fok h.1) zq_45_36 e1 ?_
  replace h := h.2 _ e1
  exact ⟨_, xi_To.rf _ _ _ _, 0, s1, rfl, h⟩
-- RootLoomModel.popType
def w_122 (X : zX) (s : zS) (Q : Int → zS → Prop) : Prop := wW X 122 xm_122 0 (0, [some (.ref 45)], [], zw X s) Q
theorem w_122_i {X : zX} {s : zS} {Q : Int → zS → Prop} (h : (∀ s1 : zS, s1 = zu s 45 30 ((s 45 30) - 1) → (0 ≤ (s1 45 30) ∧ (s1 45 30) < 40) ∧ Q (s1 69 (s1 45 30)) s1)) : w_122 X s Q := by
  intro hZ d hd
  have hM : xi_ml[122]? = some xm_122 := rfl
  refine gx_r hM hZ 4 (B := (6, [some (.ref 45)], [.int (Int32.ofInt 1), .int (Int32.ofInt (s 45 30)), .ref 45], zw X s)) rfl ?_
  refine gi_sub hM hZ rfl ?_
  obtain ⟨s1, e1⟩ : ∃ q : zS, q = zu s 45 30 ((s 45 30) - 1) := ⟨_, rfl⟩
  refine gj_put hM hZ rfl rfl rfl (Nat.le_of_ble_eq_true rfl) rfl rfl zq_45_30 e1 ?_
  replace h := h _ e1
  refine gx_r hM hZ 4 (B := (18, [some (.ref 45)], [.int (Int32.ofInt (s1 45 30)), .ref 69], zw X s1)) rfl ?_
  refine gi_iald hM hZ (s := s1) (len := 40) rfl rfl (Nat.le_of_ble_eq_true rfl) h.1 ?_
  replace h := h.2
  exact ⟨_, xi_To.rf _ _ _ _, (s1 69 (s1 45 30)), s1, rfl, h⟩
-- RootLoomModel.seeWhatMatters
def w_127 (X : zX) (s : zS) (Q : Int → zS → Prop) : Prop := wW X 127 xm_127 0 (0, [some (.ref 45), none, none], [], zw X s) Q
def w_127_17 (X : zX) (x1 : Int) (s : zS) (Q : Int → zS → Prop) : Prop := wW X 127 xm_127 0 (17, [some (.ref 45), some (.int (Int32.ofInt x1)), none], [], zw X s) Q
def w_127_69 (X : zX) (x1 t0 : Int) (s : zS) (Q : Int → zS → Prop) : Prop := wW X 127 xm_127 0 (69, [some (.ref 45), some (.int (Int32.ofInt x1)), none], [.int (Int32.ofInt t0)], zw X s) Q
def w_127_95 (X : zX) (x1 x2 : Int) (s : zS) (Q : Int → zS → Prop) : Prop := wW X 127 xm_127 0 (95, [some (.ref 45), some (.int (Int32.ofInt x1)), some (.int (Int32.ofInt x2))], [], zw X s) Q
def w_127_130 (X : zX) (x1 x2 : Int) (s : zS) (Q : Int → zS → Prop) : Prop := wW X 127 xm_127 0 (130, [some (.ref 45), some (.int (Int32.ofInt x1)), some (.int (Int32.ofInt x2))], [], zw X s) Q
def w_127_154 (X : zX) (x1 x2 : Int) (s : zS) (Q : Int → zS → Prop) : Prop := wW X 127 xm_127 0 (154, [some (.ref 45), some (.int (Int32.ofInt x1)), some (.int (Int32.ofInt x2))], [], zw X s) Q
set_option maxRecDepth 20000 in
theorem w_127_i {X : zX} {s : zS} {Q : Int → zS → Prop} (h : (0 ≤ (s 45 16) ∧ (s 45 16) < 401) ∧ (∀ s1 : zS, s1 = zu s 63 (s 45 16) 0 → w_127_17 X ((s1 45 16) - 1) s1 Q)) : w_127 X s Q := by
  intro hZ d hd
  have hM : xi_ml[127]? = some xm_127 := rfl
  refine gx_r hM hZ 5 (B := (9, [some (.ref 45), none, none], [.int (Int32.ofInt 0), .int (Int32.ofInt (s 45 16)), .ref 63], zw X s)) rfl ?_
  obtain ⟨s1, e1⟩ : ∃ q : zS, q = zu s 63 (s 45 16) 0 := ⟨_, rfl⟩
  refine gj_iast hM hZ (len := 401) rfl rfl (Nat.le_of_ble_eq_true rfl) zp_63 h.1 e1 ?_
  replace h := h.2 _ e1
  refine gx_r hM hZ 3 (B := (15, [some (.ref 45), none, none], [.int (Int32.ofInt 1), .int (Int32.ofInt (s1 45 16))], zw X s1)) rfl ?_
  refine gi_sub hM hZ rfl ?_
  refine gx_r hM hZ 1 (B := (17, [some (.ref 45), some (.int (Int32.ofInt ((s1 45 16) - 1))), none], [], zw X s1)) rfl ?_
  exact gx_fg [true, true, false] (h hZ d hd)
set_option maxRecDepth 20000 in
theorem w_127_17_i {X : zX} {x1 : Int} {s : zS} {Q : Int → zS → Prop} (h : ((-2147483648 ≤ x1 ∧ x1 ≤ 2147483647) ∧ (x1 < 0 → Q 0 s) ∧ (¬ x1 < 0 → (0 ≤ x1 ∧ x1 < 400) ∧ ((-2147483648 ≤ (s 58 x1) ∧ (s 58 x1) ≤ 2147483647) ∧ (¬ (s 58 x1) = 14 → (0 ≤ x1 ∧ x1 < 400) ∧ ((-2147483648 ≤ (s 58 x1) ∧ (s 58 x1) ≤ 2147483647) ∧ (¬ (s 58 x1) = 11 → (0 ≤ (x1 + 1) ∧ (x1 + 1) < 401) ∧ w_127_69 X x1 (s 63 (x1 + 1)) s Q) ∧ (¬ ¬ (s 58 x1) = 11 → (0 ≤ x1 ∧ x1 < 400) ∧ (0 ≤ (s 59 x1) ∧ (s 59 x1) < 401) ∧ w_127_69 X x1 (s 63 (s 59 x1)) s Q))) ∧ (¬ ¬ (s 58 x1) = 14 → w_127_69 X x1 0 s Q))))) : w_127_17 X x1 s Q := by
  intro hZ d hd
  have hM : xi_ml[127]? = some xm_127 := rfl
  refine gx_r hM hZ 1 (B := (18, [some (.ref 45), some (.int (Int32.ofInt x1)), none], [.int (Int32.ofInt x1)], zw X s)) rfl ?_
  refine gi_if1 hM hZ (fun x => decide (x < 0)) (p := x1 < 0) rfl rfl (zd_lt h.1) ?_ ?_
  · intro hp
    replace h := h.2.1 hp
    exact ⟨_, xi_To.rf _ _ _ _, 0, s, rfl, h⟩
  · intro hp
    replace h := h.2.2 hp
    refine gx_r hM hZ 3 (B := (26, [some (.ref 45), some (.int (Int32.ofInt x1)), none], [.int (Int32.ofInt x1), .ref 58], zw X s)) rfl ?_
    refine gi_iald hM hZ (s := s) (len := 400) rfl rfl (Nat.le_of_ble_eq_true rfl) h.1 ?_
    replace h := h.2
    refine gi_bip hM hZ rfl rfl ?_
    refine gi_if2 hM hZ (fun x y => decide (¬ x = y)) (p := ¬ (s 58 x1) = 14) rfl rfl (zc_ne h.1 (by decide)) ?_ ?_
    · intro hp
      replace h := h.2.1 hp
      refine gx_r hM hZ 3 (B := (41, [some (.ref 45), some (.int (Int32.ofInt x1)), none], [.int (Int32.ofInt x1), .ref 58], zw X s)) rfl ?_
      refine gi_iald hM hZ (s := s) (len := 400) rfl rfl (Nat.le_of_ble_eq_true rfl) h.1 ?_
      replace h := h.2
      refine gi_bip hM hZ rfl rfl ?_
      refine gi_if2 hM hZ (fun x y => decide (¬ x = y)) (p := ¬ (s 58 x1) = 11) rfl rfl (zc_ne h.1 (by decide)) ?_ ?_
      · intro hp
        replace h := h.2.1 hp
        refine gx_r hM hZ 4 (B := (67, [some (.ref 45), some (.int (Int32.ofInt x1)), none], [.int (Int32.ofInt 1), .int (Int32.ofInt x1), .ref 63], zw X s)) rfl ?_
        refine gi_add hM hZ rfl ?_
        refine gi_iald hM hZ (s := s) (len := 401) rfl rfl (Nat.le_of_ble_eq_true rfl) h.1 ?_
        replace h := h.2
        exact gx_fg [true, true, false] (h hZ d hd)
      · intro hp
        replace h := h.2.2 hp
        refine gx_r hM hZ 5 (B := (56, [some (.ref 45), some (.int (Int32.ofInt x1)), none], [.int (Int32.ofInt x1), .ref 59, .ref 63], zw X s)) rfl ?_
        refine gi_iald hM hZ (s := s) (len := 400) rfl rfl (Nat.le_of_ble_eq_true rfl) h.1 ?_
        replace h := h.2
        refine gi_iald hM hZ (s := s) (len := 401) rfl rfl (Nat.le_of_ble_eq_true rfl) h.1 ?_
        replace h := h.2
        refine gx_r hM hZ 1 (B := (69, [some (.ref 45), some (.int (Int32.ofInt x1)), none], [.int (Int32.ofInt (s 63 (s 59 x1)))], zw X s)) rfl ?_
        exact gx_fg [true, true, false] (h hZ d hd)
    · intro hp
      replace h := h.2.2 hp
      refine gx_r hM hZ 2 (B := (69, [some (.ref 45), some (.int (Int32.ofInt x1)), none], [.int (Int32.ofInt 0)], zw X s)) rfl ?_
      exact gx_fg [true, true, false] (h hZ d hd)
set_option maxRecDepth 20000 in
theorem w_127_69_i {X : zX} {x1 t0 : Int} {s : zS} {Q : Int → zS → Prop} (h : (0 ≤ x1 ∧ x1 < 400) ∧ ((-2147483648 ≤ (s 58 x1) ∧ (s 58 x1) ≤ 2147483647) ∧ (¬ (s 58 x1) = 10 → w_127_95 X x1 t0 s Q) ∧ (¬ ¬ (s 58 x1) = 10 → (0 ≤ x1 ∧ x1 < 400) ∧ (0 ≤ (s 59 x1) ∧ (s 59 x1) < 401) ∧ w_127_95 X x1 (zO t0 (s 63 (s 59 x1))) s Q))) : w_127_69 X x1 t0 s Q := by
  intro hZ d hd
  have hM : xi_ml[127]? = some xm_127 := rfl
  refine gx_r hM hZ 4 (B := (75, [some (.ref 45), some (.int (Int32.ofInt x1)), some (.int (Int32.ofInt t0))], [.int (Int32.ofInt x1), .ref 58], zw X s)) rfl ?_
  refine gi_iald hM hZ (s := s) (len := 400) rfl rfl (Nat.le_of_ble_eq_true rfl) h.1 ?_
  replace h := h.2
  refine gi_bip hM hZ rfl rfl ?_
  refine gi_if2 hM hZ (fun x y => decide (¬ x = y)) (p := ¬ (s 58 x1) = 10) rfl rfl (zc_ne h.1 (by decide)) ?_ ?_
  · intro hp
    replace h := h.2.1 hp
    exact gx_fg [true, true, true] (h hZ d hd)
  · intro hp
    replace h := h.2.2 hp
    refine gx_r hM hZ 6 (B := (91, [some (.ref 45), some (.int (Int32.ofInt x1)), some (.int (Int32.ofInt t0))], [.int (Int32.ofInt x1), .ref 59, .ref 63, .int (Int32.ofInt t0)], zw X s)) rfl ?_
    refine gi_iald hM hZ (s := s) (len := 400) rfl rfl (Nat.le_of_ble_eq_true rfl) h.1 ?_
    replace h := h.2
    refine gi_iald hM hZ (s := s) (len := 401) rfl rfl (Nat.le_of_ble_eq_true rfl) h.1 ?_
    replace h := h.2
    refine gi_or hM hZ rfl ?_
    refine gx_r hM hZ 1 (B := (95, [some (.ref 45), some (.int (Int32.ofInt x1)), some (.int (Int32.ofInt (zO t0 (s 63 (s 59 x1)))))], [], zw X s)) rfl ?_
    exact gx_fg [true, true, true] (h hZ d hd)
set_option maxRecDepth 20000 in
theorem w_127_95_i {X : zX} {x1 x2 : Int} {s : zS} {Q : Int → zS → Prop} (h : (0 ≤ x1 ∧ x1 < 400) ∧ (0 ≤ x1 ∧ x1 < 400) ∧ (∀ s1 : zS, s1 = zu s 61 x1 (zA (s 61 x1) x2) → (0 ≤ x1 ∧ x1 < 400) ∧ ((-2147483648 ≤ (s1 58 x1) ∧ (s1 58 x1) ≤ 2147483647) ∧ (¬ (s1 58 x1) = 2 → w_127_130 X x1 x2 s1 Q) ∧ (¬ ¬ (s1 58 x1) = 2 → (0 ≤ x1 ∧ x1 < 400) ∧ w_127_130 X x1 (zO x2 (zL 1 (s1 59 x1))) s1 Q)))) : w_127_95 X x1 x2 s Q := by
  intro hZ d hd
  have hM : xi_ml[127]? = some xm_127 := rfl
  refine gx_r hM hZ 6 (B := (105, [some (.ref 45), some (.int (Int32.ofInt x1)), some (.int (Int32.ofInt x2))], [.int (Int32.ofInt x1), .ref 61, .int (Int32.ofInt x1), .ref 61], zw X s)) rfl ?_
  refine gi_iald hM hZ (s := s) (len := 400) rfl rfl (Nat.le_of_ble_eq_true rfl) h.1 ?_
  replace h := h.2
  refine gx_r hM hZ 1 (B := (107, [some (.ref 45), some (.int (Int32.ofInt x1)), some (.int (Int32.ofInt x2))], [.int (Int32.ofInt x2), .int (Int32.ofInt (s 61 x1)), .int (Int32.ofInt x1), .ref 61], zw X s)) rfl ?_
  refine gi_and hM hZ rfl ?_
  obtain ⟨s1, e1⟩ : ∃ q : zS, q = zu s 61 x1 (zA (s 61 x1) x2) := ⟨_, rfl⟩
  refine gj_iast hM hZ (len := 400) rfl rfl (Nat.le_of_ble_eq_true rfl) zp_61 h.1 e1 ?_
  replace h := h.2 _ e1
  refine gx_r hM hZ 3 (B := (114, [some (.ref 45), some (.int (Int32.ofInt x1)), some (.int (Int32.ofInt x2))], [.int (Int32.ofInt x1), .ref 58], zw X s1)) rfl ?_
  refine gi_iald hM hZ (s := s1) (len := 400) rfl rfl (Nat.le_of_ble_eq_true rfl) h.1 ?_
  replace h := h.2
  refine gx_r hM hZ 1 (B := (116, [some (.ref 45), some (.int (Int32.ofInt x1)), some (.int (Int32.ofInt x2))], [.int (Int32.ofInt 2), .int (Int32.ofInt (s1 58 x1))], zw X s1)) rfl ?_
  refine gi_if2 hM hZ (fun x y => decide (¬ x = y)) (p := ¬ (s1 58 x1) = 2) rfl rfl (zc_ne h.1 (by decide)) ?_ ?_
  · intro hp
    replace h := h.2.1 hp
    exact gx_fg [true, true, true] (h hZ d hd)
  · intro hp
    replace h := h.2.2 hp
    refine gx_r hM hZ 5 (B := (126, [some (.ref 45), some (.int (Int32.ofInt x1)), some (.int (Int32.ofInt x2))], [.int (Int32.ofInt x1), .ref 59, .int (Int32.ofInt 1), .int (Int32.ofInt x2)], zw X s1)) rfl ?_
    refine gi_iald hM hZ (s := s1) (len := 400) rfl rfl (Nat.le_of_ble_eq_true rfl) h.1 ?_
    replace h := h.2
    refine gi_shl hM hZ rfl ?_
    refine gi_or hM hZ rfl ?_
    refine gx_r hM hZ 1 (B := (130, [some (.ref 45), some (.int (Int32.ofInt x1)), some (.int (Int32.ofInt (zO x2 (zL 1 (s1 59 x1)))))], [], zw X s1)) rfl ?_
    exact gx_fg [true, true, true] (h hZ d hd)
set_option maxRecDepth 20000 in
theorem w_127_130_i {X : zX} {x1 x2 : Int} {s : zS} {Q : Int → zS → Prop} (h : (0 ≤ x1 ∧ x1 < 400) ∧ ((-2147483648 ≤ (s 58 x1) ∧ (s 58 x1) ≤ 2147483647) ∧ (¬ (s 58 x1) = 12 → w_127_154 X x1 x2 s Q) ∧ (¬ ¬ (s 58 x1) = 12 → (0 ≤ x1 ∧ x1 < 400) ∧ w_127_154 X x1 (zA x2 (zE (zL 1 (s 59 x1)) (-1))) s Q))) : w_127_130 X x1 x2 s Q := by
  intro hZ d hd
  have hM : xi_ml[127]? = some xm_127 := rfl
  refine gx_r hM hZ 3 (B := (135, [some (.ref 45), some (.int (Int32.ofInt x1)), some (.int (Int32.ofInt x2))], [.int (Int32.ofInt x1), .ref 58], zw X s)) rfl ?_
  refine gi_iald hM hZ (s := s) (len := 400) rfl rfl (Nat.le_of_ble_eq_true rfl) h.1 ?_
  replace h := h.2
  refine gi_bip hM hZ rfl rfl ?_
  refine gi_if2 hM hZ (fun x y => decide (¬ x = y)) (p := ¬ (s 58 x1) = 12) rfl rfl (zc_ne h.1 (by decide)) ?_ ?_
  · intro hp
    replace h := h.2.1 hp
    exact gx_fg [true, true, true] (h hZ d hd)
  · intro hp
    replace h := h.2.2 hp
    refine gx_r hM hZ 5 (B := (148, [some (.ref 45), some (.int (Int32.ofInt x1)), some (.int (Int32.ofInt x2))], [.int (Int32.ofInt x1), .ref 59, .int (Int32.ofInt 1), .int (Int32.ofInt x2)], zw X s)) rfl ?_
    refine gi_iald hM hZ (s := s) (len := 400) rfl rfl (Nat.le_of_ble_eq_true rfl) h.1 ?_
    replace h := h.2
    refine gi_shl hM hZ rfl ?_
    refine gx_r hM hZ 1 (B := (151, [some (.ref 45), some (.int (Int32.ofInt x1)), some (.int (Int32.ofInt x2))], [.int (Int32.ofInt (-1)), .int (Int32.ofInt (zL 1 (s 59 x1))), .int (Int32.ofInt x2)], zw X s)) rfl ?_
    refine gi_xor hM hZ rfl ?_
    refine gi_and hM hZ rfl ?_
    refine gx_r hM hZ 1 (B := (154, [some (.ref 45), some (.int (Int32.ofInt x1)), some (.int (Int32.ofInt (zA x2 (zE (zL 1 (s 59 x1)) (-1)))))], [], zw X s)) rfl ?_
    exact gx_fg [true, true, true] (h hZ d hd)
set_option maxRecDepth 20000 in
theorem w_127_154_i {X : zX} {x1 x2 : Int} {s : zS} {Q : Int → zS → Prop} (h : (0 ≤ x1 ∧ x1 < 401) ∧ (∀ s1 : zS, s1 = zu s 63 x1 x2 → w_127_17 X (x1 + (-1)) s1 Q)) : w_127_154 X x1 x2 s Q := by
  intro hZ d hd
  have hM : xi_ml[127]? = some xm_127 := rfl
  refine gx_r hM hZ 4 (B := (160, [some (.ref 45), some (.int (Int32.ofInt x1)), some (.int (Int32.ofInt x2))], [.int (Int32.ofInt x2), .int (Int32.ofInt x1), .ref 63], zw X s)) rfl ?_
  obtain ⟨s1, e1⟩ : ∃ q : zS, q = zu s 63 x1 x2 := ⟨_, rfl⟩
  refine gj_iast hM hZ (len := 401) rfl rfl (Nat.le_of_ble_eq_true rfl) zp_63 h.1 e1 ?_
  replace h := h.2 _ e1
  refine gi_inc hM hZ (x := x1) (m := (-1)) rfl rfl ?_
  refine gx_r hM hZ 0 (B := (164, [some (.ref 45), some (.int (Int32.ofInt (x1 + (-1)))), some (.int (Int32.ofInt x2))], [], zw X s1)) rfl ?_
  refine gx_r hM hZ 1 (B := (17, [some (.ref 45), some (.int (Int32.ofInt (x1 + (-1)))), some (.int (Int32.ofInt x2))], [], zw X s1)) rfl ?_
  exact gx_fg [true, true, false] (h hZ d hd)
-- RootLoomModel.isMapped
def w_129 (X : zX) (x1 : Int) (s : zS) (Q : Int → zS → Prop) : Prop := wW X 129 xm_129 0 (0, [some (.ref 45), some (.int (Int32.ofInt x1))], [], zw X s) Q
def w_129_22 (X : zX) (s : zS) (Q : Int → zS → Prop) : Prop := wW X 129 xm_129 0 (22, [none, none], [], zw X s) Q
theorem w_129_i {X : zX} {x1 : Int} {s : zS} {Q : Int → zS → Prop} (h : (0 ≤ x1 ∧ x1 < 400) ∧ ((-2147483648 ≤ (s 58 x1) ∧ (s 58 x1) ≤ 2147483647) ∧ ((s 58 x1) = 6 → w_129_22 X s Q) ∧ (¬ (s 58 x1) = 6 → (0 ≤ x1 ∧ x1 < 400) ∧ ((-2147483648 ≤ (s 58 x1) ∧ (s 58 x1) ≤ 2147483647) ∧ (¬ (s 58 x1) = 13 → Q 0 s) ∧ (¬ ¬ (s 58 x1) = 13 → w_129_22 X s Q))))) : w_129 X x1 s Q := by
  intro hZ d hd
  have hM : xi_ml[129]? = some xm_129 := rfl
  refine gx_r hM hZ 3 (B := (5, [some (.ref 45), some (.int (Int32.ofInt x1))], [.int (Int32.ofInt x1), .ref 58], zw X s)) rfl ?_
  refine gi_iald hM hZ (s := s) (len := 400) rfl rfl (Nat.le_of_ble_eq_true rfl) h.1 ?_
  replace h := h.2
  refine gi_bip hM hZ rfl rfl ?_
  refine gi_if2 hM hZ (fun x y => decide (x = y)) (p := (s 58 x1) = 6) rfl rfl (zc_eq h.1 (by decide)) ?_ ?_
  · intro hp
    replace h := h.2.1 hp
    exact gx_fg [false, false] (h hZ d hd)
  · intro hp
    replace h := h.2.2 hp
    refine gx_r hM hZ 3 (B := (16, [some (.ref 45), some (.int (Int32.ofInt x1))], [.int (Int32.ofInt x1), .ref 58], zw X s)) rfl ?_
    refine gi_iald hM hZ (s := s) (len := 400) rfl rfl (Nat.le_of_ble_eq_true rfl) h.1 ?_
    replace h := h.2
    refine gi_bip hM hZ rfl rfl ?_
    refine gi_if2 hM hZ (fun x y => decide (¬ x = y)) (p := ¬ (s 58 x1) = 13) rfl rfl (zc_ne h.1 (by decide)) ?_ ?_
    · intro hp
      replace h := h.2.1 hp
      refine gx_r hM hZ 1 (B := (27, [some (.ref 45), some (.int (Int32.ofInt x1))], [.int (Int32.ofInt 0)], zw X s)) rfl ?_
      exact ⟨_, xi_To.rf _ _ _ _, 0, s, rfl, h⟩
    · intro hp
      replace h := h.2.2 hp
      exact gx_fg [false, false] (h hZ d hd)
theorem w_129_22_i {X : zX} {s : zS} {Q : Int → zS → Prop} (h : Q 1 s) : w_129_22 X s Q := by
  intro hZ d hd
  have hM : xi_ml[129]? = some xm_129 := rfl
  refine gx_r hM hZ 2 (B := (27, [none, none], [.int (Int32.ofInt 1)], zw X s)) rfl ?_
  exact ⟨_, xi_To.rf _ _ _ _, 1, s, rfl, h⟩
-- RootLoomModel.force
def w_135 (X : zX) (x1 : Int) (s : zS) (Q : Int → zS → Prop) : Prop := wW X 135 xm_135 0 (0, [some (.ref 45), some (.int (Int32.ofInt x1))], [], zw X s) Q
theorem w_135_i {X : zX} {x1 : Int} {s : zS} {Q : Int → zS → Prop} (h : (∀ s1 : zS, s1 = zu s 45 0 0 → ((-2147483648 ≤ x1 ∧ x1 ≤ 2147483647) ∧ (0 ≤ x1 → (∀ s2 : zS, s2 = zu s1 45 38 x1 → Q 1 s2)) ∧ (¬ 0 ≤ x1 → Q 0 s1)))) : w_135 X x1 s Q := by
  intro hZ d hd
  have hM : xi_ml[135]? = some xm_135 := rfl
  refine gx_r hM hZ 2 (B := (2, [some (.ref 45), some (.int (Int32.ofInt x1))], [.int (Int32.ofInt 0), .ref 45], zw X s)) rfl ?_
  obtain ⟨s1, e1⟩ : ∃ q : zS, q = zu s 45 0 0 := ⟨_, rfl⟩
  refine gj_put hM hZ rfl rfl rfl (Nat.le_of_ble_eq_true rfl) rfl rfl zq_45_0 e1 ?_
  replace h := h _ e1
  refine gx_r hM hZ 1 (B := (6, [some (.ref 45), some (.int (Int32.ofInt x1))], [.int (Int32.ofInt x1)], zw X s1)) rfl ?_
  refine gi_if1 hM hZ (fun x => decide (0 ≤ x)) (p := 0 ≤ x1) rfl rfl (zd_ge h.1) ?_ ?_
  · intro hp
    replace h := h.2.1 hp
    refine gx_r hM hZ 2 (B := (13, [some (.ref 45), some (.int (Int32.ofInt x1))], [.int (Int32.ofInt x1), .ref 45], zw X s1)) rfl ?_
    obtain ⟨s2, e2⟩ : ∃ q : zS, q = zu s1 45 38 x1 := ⟨_, rfl⟩
    refine gj_put hM hZ rfl rfl rfl (Nat.le_of_ble_eq_true rfl) rfl rfl zq_45_38 e2 ?_
    replace h := h _ e2
    refine gx_r hM hZ 1 (B := (17, [some (.ref 45), some (.int (Int32.ofInt x1))], [.int (Int32.ofInt 1)], zw X s2)) rfl ?_
    exact ⟨_, xi_To.rf _ _ _ _, 1, s2, rfl, h⟩
  · intro hp
    replace h := h.2.2 hp
    refine gx_r hM hZ 1 (B := (10, [some (.ref 45), some (.int (Int32.ofInt x1))], [.int (Int32.ofInt 0)], zw X s1)) rfl ?_
    exact ⟨_, xi_To.rf _ _ _ _, 0, s1, rfl, h⟩
-- RootLoomModel.isDue
def w_139 (X : zX) (x1 : Int) (s : zS) (Q : Int → zS → Prop) : Prop := wW X 139 xm_139 0 (0, [some (.ref 45), some (.int (Int32.ofInt x1))], [], zw X s) Q
def w_139_29 (X : zX) (x1 : Int) (s : zS) (Q : Int → zS → Prop) : Prop := wW X 139 xm_139 0 (29, [none, some (.int (Int32.ofInt x1))], [], zw X s) Q
def w_139_33 (X : zX) (s : zS) (Q : Int → zS → Prop) : Prop := wW X 139 xm_139 0 (33, [none, none], [], zw X s) Q
theorem w_139_i {X : zX} {x1 : Int} {s : zS} {Q : Int → zS → Prop} (h : (∀ s1 : zS, s1 = zu s 45 58 ((s 45 58) + 1) → ((-2147483648 ≤ (s1 45 38) ∧ (s1 45 38) ≤ 2147483647) ∧ ((s1 45 38) ≤ 0 → w_139_29 X x1 s1 Q) ∧ (¬ (s1 45 38) ≤ 0 → ((-2147483648 ≤ (s1 45 38) ∧ (s1 45 38) ≤ 2147483647) ∧ ¬ (s1 45 38) = 0) ∧ ((-2147483648 ≤ (zM (s1 45 58) (s1 45 38)) ∧ (zM (s1 45 58) (s1 45 38)) ≤ 2147483647) ∧ ((zM (s1 45 58) (s1 45 38)) = 0 → w_139_33 X s1 Q) ∧ (¬ (zM (s1 45 58) (s1 45 38)) = 0 → w_139_29 X x1 s1 Q)))))) : w_139 X x1 s Q := by
  intro hZ d hd
  have hM : xi_ml[139]? = some xm_139 := rfl
  refine gx_r hM hZ 4 (B := (6, [some (.ref 45), some (.int (Int32.ofInt x1))], [.int (Int32.ofInt 1), .int (Int32.ofInt (s 45 58)), .ref 45], zw X s)) rfl ?_
  refine gi_add hM hZ rfl ?_
  obtain ⟨s1, e1⟩ : ∃ q : zS, q = zu s 45 58 ((s 45 58) + 1) := ⟨_, rfl⟩
  refine gj_put hM hZ rfl rfl rfl (Nat.le_of_ble_eq_true rfl) rfl rfl zq_45_58 e1 ?_
  replace h := h _ e1
  refine gx_r hM hZ 2 (B := (14, [some (.ref 45), some (.int (Int32.ofInt x1))], [.int (Int32.ofInt (s1 45 38))], zw X s1)) rfl ?_
  refine gi_if1 hM hZ (fun x => decide (x ≤ 0)) (p := (s1 45 38) ≤ 0) rfl rfl (zd_le h.1) ?_ ?_
  · intro hp
    replace h := h.2.1 hp
    exact gx_fg [false, true] (h hZ d hd)
  · intro hp
    replace h := h.2.2 hp
    refine gx_r hM hZ 4 (B := (25, [some (.ref 45), some (.int (Int32.ofInt x1))], [.int (Int32.ofInt (s1 45 38)), .int (Int32.ofInt (s1 45 58))], zw X s1)) rfl ?_
    refine gi_rem hM hZ rfl h.1.1 h.1.2 ?_
    replace h := h.2
    refine gi_if1 hM hZ (fun x => decide (x = 0)) (p := (zM (s1 45 58) (s1 45 38)) = 0) rfl rfl (zd_eq h.1) ?_ ?_
    · intro hp
      replace h := h.2.1 hp
      exact gx_fg [false, false] (h hZ d hd)
    · intro hp
      replace h := h.2.2 hp
      exact gx_fg [false, true] (h hZ d hd)
theorem w_139_29_i {X : zX} {x1 : Int} {s : zS} {Q : Int → zS → Prop} (h : ((-2147483648 ≤ x1 ∧ x1 ≤ 2147483647) ∧ (¬ x1 = 0 → Q 0 s) ∧ (¬ ¬ x1 = 0 → w_139_33 X s Q))) : w_139_29 X x1 s Q := by
  intro hZ d hd
  have hM : xi_ml[139]? = some xm_139 := rfl
  refine gx_r hM hZ 1 (B := (30, [none, some (.int (Int32.ofInt x1))], [.int (Int32.ofInt x1)], zw X s)) rfl ?_
  refine gi_if1 hM hZ (fun x => decide (¬ x = 0)) (p := ¬ x1 = 0) rfl rfl (zd_ne h.1) ?_ ?_
  · intro hp
    replace h := h.2.1 hp
    refine gx_r hM hZ 1 (B := (38, [none, some (.int (Int32.ofInt x1))], [.int (Int32.ofInt 0)], zw X s)) rfl ?_
    exact ⟨_, xi_To.rf _ _ _ _, 0, s, rfl, h⟩
  · intro hp
    replace h := h.2.2 hp
    exact gx_fg [false, false] (h hZ d hd)
theorem w_139_33_i {X : zX} {s : zS} {Q : Int → zS → Prop} (h : Q 1 s) : w_139_33 X s Q := by
  intro hZ d hd
  have hM : xi_ml[139]? = some xm_139 := rfl
  refine gx_r hM hZ 2 (B := (38, [none, none], [.int (Int32.ofInt 1)], zw X s)) rfl ?_
  exact ⟨_, xi_To.rf _ _ _ _, 1, s, rfl, h⟩
-- RootLoomModel.stay
def w_142 (X : zX) (x1 : Int) (s : zS) (Q : Int → zS → Prop) : Prop := wW X 142 xm_142 0 (0, [some (.ref 45), some (.int (Int32.ofInt x1))], [], zw X s) Q
theorem w_142_i {X : zX} {x1 : Int} {s : zS} {Q : Int → zS → Prop} (h : ((-2147483648 ≤ x1 ∧ x1 ≤ 2147483647) ∧ (x1 < 0 → Q 0 s) ∧ (¬ x1 < 0 → (0 ≤ x1 ∧ x1 < 200) ∧ ((-2147483648 ≤ (s 78 x1) ∧ (s 78 x1) ≤ 2147483647) ∧ ((s 78 x1) = 0 → (0 ≤ x1 ∧ x1 < 200) ∧ (∀ s1 : zS, s1 = zu s 78 x1 1 → (0 ≤ (s1 45 54) ∧ (s1 45 54) < 200) ∧ (∀ s2 : zS, s2 = zu s1 79 (s1 45 54) x1 → (∀ s3 : zS, s3 = zu s2 45 54 ((s2 45 54) + 1) → Q 0 s3)))) ∧ (¬ (s 78 x1) = 0 → Q 0 s))))) : w_142 X x1 s Q := by
  intro hZ d hd
  have hM : xi_ml[142]? = some xm_142 := rfl
  refine gx_r hM hZ 1 (B := (1, [some (.ref 45), some (.int (Int32.ofInt x1))], [.int (Int32.ofInt x1)], zw X s)) rfl ?_
  refine gi_if1 hM hZ (fun x => decide (x < 0)) (p := x1 < 0) rfl rfl (zd_lt h.1) ?_ ?_
  · intro hp
    replace h := h.2.1 hp
    exact ⟨_, xi_To.rf _ _ _ _, 0, s, rfl, h⟩
  · intro hp
    replace h := h.2.2 hp
    refine gx_r hM hZ 3 (B := (9, [some (.ref 45), some (.int (Int32.ofInt x1))], [.int (Int32.ofInt x1), .ref 78], zw X s)) rfl ?_
    refine gi_zald hM hZ (s := s) (len := 200) rfl rfl (Nat.le_of_ble_eq_true rfl) h.1 ?_
    replace h := h.2
    refine gi_if1 hM hZ (fun x => decide (x = 0)) (p := (s 78 x1) = 0) rfl rfl (zd_eq h.1) ?_ ?_
    · intro hp
      replace h := h.2.1 hp
      refine gx_r hM hZ 4 (B := (20, [some (.ref 45), some (.int (Int32.ofInt x1))], [.int (Int32.ofInt 1), .int (Int32.ofInt x1), .ref 78], zw X s)) rfl ?_
      obtain ⟨s1, e1⟩ : ∃ q : zS, q = zu s 78 x1 1 := ⟨_, rfl⟩
      refine gj_zast hM hZ (len := 200) rfl rfl (Nat.le_of_ble_eq_true rfl) zp_78 h.1 (.inr rfl) e1 ?_
      replace h := h.2 _ e1
      refine gx_r hM hZ 5 (B := (30, [some (.ref 45), some (.int (Int32.ofInt x1))], [.int (Int32.ofInt x1), .int (Int32.ofInt (s1 45 54)), .ref 79], zw X s1)) rfl ?_
      obtain ⟨s2, e2⟩ : ∃ q : zS, q = zu s1 79 (s1 45 54) x1 := ⟨_, rfl⟩
      refine gj_iast hM hZ (len := 200) rfl rfl (Nat.le_of_ble_eq_true rfl) zp_79 h.1 e2 ?_
      replace h := h.2 _ e2
      refine gx_r hM hZ 4 (B := (37, [some (.ref 45), some (.int (Int32.ofInt x1))], [.int (Int32.ofInt 1), .int (Int32.ofInt (s2 45 54)), .ref 45], zw X s2)) rfl ?_
      refine gi_add hM hZ rfl ?_
      obtain ⟨s3, e3⟩ : ∃ q : zS, q = zu s2 45 54 ((s2 45 54) + 1) := ⟨_, rfl⟩
      refine gj_put hM hZ rfl rfl rfl (Nat.le_of_ble_eq_true rfl) rfl rfl zq_45_54 e3 ?_
      replace h := h _ e3
      exact ⟨_, xi_To.rf _ _ _ _, 0, s3, rfl, h⟩
    · intro hp
      replace h := h.2.2 hp
      exact ⟨_, xi_To.rf _ _ _ _, 0, s, rfl, h⟩
-- RootLoomModel.pop
def w_144 (X : zX) (s : zS) (Q : Int → zS → Prop) : Prop := wW X 144 xm_144 0 (0, [some (.ref 45)], [], zw X s) Q
theorem w_144_i {X : zX} {s : zS} {Q : Int → zS → Prop} (h : (0 ≤ (s 45 56) ∧ (s 45 56) < 24) ∧ (0 ≤ (s 45 56) ∧ (s 45 56) < 24) ∧ (∀ s1 : zS, s1 = zu s 81 (s 45 56) ((s 81 (s 45 56)) - 1) → (0 ≤ (s1 45 56) ∧ (s1 45 56) < 24) ∧ (0 ≤ ((16 * (s1 45 56)) + (s1 81 (s1 45 56))) ∧ ((16 * (s1 45 56)) + (s1 81 (s1 45 56))) < 384) ∧ Q (s1 83 ((16 * (s1 45 56)) + (s1 81 (s1 45 56)))) s1)) : w_144 X s Q := by
  intro hZ d hd
  have hM : xi_ml[144]? = some xm_144 := rfl
  refine gx_r hM hZ 5 (B := (9, [some (.ref 45)], [.int (Int32.ofInt (s 45 56)), .ref 81, .int (Int32.ofInt (s 45 56)), .ref 81], zw X s)) rfl ?_
  refine gi_iald hM hZ (s := s) (len := 24) rfl rfl (Nat.le_of_ble_eq_true rfl) h.1 ?_
  replace h := h.2
  refine gx_r hM hZ 1 (B := (11, [some (.ref 45)], [.int (Int32.ofInt 1), .int (Int32.ofInt (s 81 (s 45 56))), .int (Int32.ofInt (s 45 56)), .ref 81], zw X s)) rfl ?_
  refine gi_sub hM hZ rfl ?_
  obtain ⟨s1, e1⟩ : ∃ q : zS, q = zu s 81 (s 45 56) ((s 81 (s 45 56)) - 1) := ⟨_, rfl⟩
  refine gj_iast hM hZ (len := 24) rfl rfl (Nat.le_of_ble_eq_true rfl) zp_81 h.1 e1 ?_
  replace h := h.2 _ e1
  refine gx_r hM hZ 2 (B := (17, [some (.ref 45)], [.ref 83], zw X s1)) rfl ?_
  refine gi_bip hM hZ rfl rfl ?_
  refine gx_r hM hZ 2 (B := (23, [some (.ref 45)], [.int (Int32.ofInt (s1 45 56)), .int (Int32.ofInt 16), .ref 83], zw X s1)) rfl ?_
  refine gi_mul hM hZ rfl ?_
  refine gx_r hM hZ 4 (B := (32, [some (.ref 45)], [.int (Int32.ofInt (s1 45 56)), .ref 81, .int (Int32.ofInt (16 * (s1 45 56))), .ref 83], zw X s1)) rfl ?_
  refine gi_iald hM hZ (s := s1) (len := 24) rfl rfl (Nat.le_of_ble_eq_true rfl) h.1 ?_
  replace h := h.2
  refine gi_add hM hZ rfl ?_
  refine gi_iald hM hZ (s := s1) (len := 384) rfl rfl (Nat.le_of_ble_eq_true rfl) h.1 ?_
  replace h := h.2
  exact ⟨_, xi_To.rf _ _ _ _, (s1 83 ((16 * (s1 45 56)) + (s1 81 (s1 45 56)))), s1, rfl, h⟩
-- RootLoomModel.push
def w_145 (X : zX) (x1 : Int) (s : zS) (Q : Int → zS → Prop) : Prop := wW X 145 xm_145 0 (0, [some (.ref 45), some (.int (Int32.ofInt x1))], [], zw X s) Q
theorem w_145_i {X : zX} {x1 : Int} {s : zS} {Q : Int → zS → Prop} (h : (0 ≤ (s 45 56) ∧ (s 45 56) < 24) ∧ (0 ≤ ((16 * (s 45 56)) + (s 81 (s 45 56))) ∧ ((16 * (s 45 56)) + (s 81 (s 45 56))) < 384) ∧ (∀ s1 : zS, s1 = zu s 83 ((16 * (s 45 56)) + (s 81 (s 45 56))) x1 → (0 ≤ (s1 45 56) ∧ (s1 45 56) < 24) ∧ (0 ≤ (s1 45 56) ∧ (s1 45 56) < 24) ∧ (∀ s2 : zS, s2 = zu s1 81 (s1 45 56) ((s1 81 (s1 45 56)) + 1) → Q 0 s2))) : w_145 X x1 s Q := by
  intro hZ d hd
  have hM : xi_ml[145]? = some xm_145 := rfl
  refine gx_r hM hZ 2 (B := (4, [some (.ref 45), some (.int (Int32.ofInt x1))], [.ref 83], zw X s)) rfl ?_
  refine gi_bip hM hZ rfl rfl ?_
  refine gx_r hM hZ 2 (B := (10, [some (.ref 45), some (.int (Int32.ofInt x1))], [.int (Int32.ofInt (s 45 56)), .int (Int32.ofInt 16), .ref 83], zw X s)) rfl ?_
  refine gi_mul hM hZ rfl ?_
  refine gx_r hM hZ 4 (B := (19, [some (.ref 45), some (.int (Int32.ofInt x1))], [.int (Int32.ofInt (s 45 56)), .ref 81, .int (Int32.ofInt (16 * (s 45 56))), .ref 83], zw X s)) rfl ?_
  refine gi_iald hM hZ (s := s) (len := 24) rfl rfl (Nat.le_of_ble_eq_true rfl) h.1 ?_
  replace h := h.2
  refine gi_add hM hZ rfl ?_
  refine gx_r hM hZ 1 (B := (22, [some (.ref 45), some (.int (Int32.ofInt x1))], [.int (Int32.ofInt x1), .int (Int32.ofInt ((16 * (s 45 56)) + (s 81 (s 45 56)))), .ref 83], zw X s)) rfl ?_
  obtain ⟨s1, e1⟩ : ∃ q : zS, q = zu s 83 ((16 * (s 45 56)) + (s 81 (s 45 56))) x1 := ⟨_, rfl⟩
  refine gj_iast hM hZ (len := 384) rfl rfl (Nat.le_of_ble_eq_true rfl) zp_83 h.1 e1 ?_
  replace h := h.2 _ e1
  refine gx_r hM hZ 5 (B := (32, [some (.ref 45), some (.int (Int32.ofInt x1))], [.int (Int32.ofInt (s1 45 56)), .ref 81, .int (Int32.ofInt (s1 45 56)), .ref 81], zw X s1)) rfl ?_
  refine gi_iald hM hZ (s := s1) (len := 24) rfl rfl (Nat.le_of_ble_eq_true rfl) h.1 ?_
  replace h := h.2
  refine gx_r hM hZ 1 (B := (34, [some (.ref 45), some (.int (Int32.ofInt x1))], [.int (Int32.ofInt 1), .int (Int32.ofInt (s1 81 (s1 45 56))), .int (Int32.ofInt (s1 45 56)), .ref 81], zw X s1)) rfl ?_
  refine gi_add hM hZ rfl ?_
  obtain ⟨s2, e2⟩ : ∃ q : zS, q = zu s1 81 (s1 45 56) ((s1 81 (s1 45 56)) + 1) := ⟨_, rfl⟩
  refine gj_iast hM hZ (len := 24) rfl rfl (Nat.le_of_ble_eq_true rfl) zp_81 h.1 e2 ?_
  replace h := h.2 _ e2
  exact ⟨_, xi_To.rf _ _ _ _, 0, s2, rfl, h⟩
-- RootLoomModel.hasRoom
def w_149 (X : zX) (s : zS) (Q : Int → zS → Prop) : Prop := wW X 149 xm_149 0 (0, [some (.ref 45)], [], zw X s) Q
theorem w_149_i {X : zX} {s : zS} {Q : Int → zS → Prop} (h : (((-2147483648 ≤ ((3 * (s 45 48)) + 3) ∧ ((3 * (s 45 48)) + 3) ≤ 2147483647) ∧ (-2147483648 ≤ (s 45 37) ∧ (s 45 37) ≤ 2147483647)) ∧ ((s 45 37) < ((3 * (s 45 48)) + 3) → Q 0 s) ∧ (¬ (s 45 37) < ((3 * (s 45 48)) + 3) → Q 1 s))) : w_149 X s Q := by
  intro hZ d hd
  have hM : xi_ml[149]? = some xm_149 := rfl
  refine gx_r hM hZ 3 (B := (5, [some (.ref 45)], [.int (Int32.ofInt (s 45 48)), .int (Int32.ofInt 3)], zw X s)) rfl ?_
  refine gi_mul hM hZ rfl ?_
  refine gx_r hM hZ 1 (B := (7, [some (.ref 45)], [.int (Int32.ofInt 3), .int (Int32.ofInt (3 * (s 45 48)))], zw X s)) rfl ?_
  refine gi_add hM hZ rfl ?_
  refine gx_r hM hZ 2 (B := (12, [some (.ref 45)], [.int (Int32.ofInt (s 45 37)), .int (Int32.ofInt ((3 * (s 45 48)) + 3))], zw X s)) rfl ?_
  refine gi_if2 hM hZ (fun x y => decide (y < x)) (p := (s 45 37) < ((3 * (s 45 48)) + 3)) rfl rfl (zc_gt h.1.1 h.1.2) ?_ ?_
  · intro hp
    replace h := h.2.1 hp
    refine gx_r hM hZ 1 (B := (20, [some (.ref 45)], [.int (Int32.ofInt 0)], zw X s)) rfl ?_
    exact ⟨_, xi_To.rf _ _ _ _, 0, s, rfl, h⟩
  · intro hp
    replace h := h.2.2 hp
    refine gx_r hM hZ 2 (B := (20, [some (.ref 45)], [.int (Int32.ofInt 1)], zw X s)) rfl ?_
    exact ⟨_, xi_To.rf _ _ _ _, 1, s, rfl, h⟩
-- RootLoomModel.latest
def w_152 (X : zX) (x1 : Int) (s : zS) (Q : Int → zS → Prop) : Prop := wW X 152 xm_152 0 (0, [some (.ref 45), some (.int (Int32.ofInt x1))], [], zw X s) Q
theorem w_152_i {X : zX} {x1 : Int} {s : zS} {Q : Int → zS → Prop} (h : (∀ s1 : zS, s1 = zu s 45 0 0 → ((-2147483648 ≤ (s1 45 39) ∧ (s1 45 39) ≤ 2147483647) ∧ (¬ (s1 45 39) = 0 → ((-2147483648 ≤ x1 ∧ x1 ≤ 2147483647) ∧ ((x1 < 0 ∨ 6 < x1) → Q (-1) s1) ∧ ((x1 = 0) → Q (s1 45 39) s1) ∧ ((x1 = 1) → Q (s1 45 40) s1) ∧ ((x1 = 2) → Q (s1 45 41) s1) ∧ ((x1 = 3) → Q (3 * (s1 45 48)) s1) ∧ ((x1 = 4) → Q (s1 45 42) s1) ∧ ((x1 = 5) → Q (s1 45 43) s1) ∧ ((x1 = 6) → Q (s1 45 44) s1))) ∧ (¬ ¬ (s1 45 39) = 0 → Q (-1) s1)))) : w_152 X x1 s Q := by
  intro hZ d hd
  have hM : xi_ml[152]? = some xm_152 := rfl
  refine gx_r hM hZ 2 (B := (2, [some (.ref 45), some (.int (Int32.ofInt x1))], [.int (Int32.ofInt 0), .ref 45], zw X s)) rfl ?_
  obtain ⟨s1, e1⟩ : ∃ q : zS, q = zu s 45 0 0 := ⟨_, rfl⟩
  refine gj_put hM hZ rfl rfl rfl (Nat.le_of_ble_eq_true rfl) rfl rfl zq_45_0 e1 ?_
  replace h := h _ e1
  refine gx_r hM hZ 2 (B := (9, [some (.ref 45), some (.int (Int32.ofInt x1))], [.int (Int32.ofInt (s1 45 39))], zw X s1)) rfl ?_
  refine gi_if1 hM hZ (fun x => decide (¬ x = 0)) (p := ¬ (s1 45 39) = 0) rfl rfl (zd_ne h.1) ?_ ?_
  · intro hp
    replace h := h.2.1 hp
    refine gx_r hM hZ 1 (B := (15, [some (.ref 45), some (.int (Int32.ofInt x1))], [.int (Int32.ofInt x1)], zw X s1)) rfl ?_
    by_cases hq0 : (x1 = 0)
    · refine gi_tab hM hZ (x := x1) (o := 41) rfl h.1 ?_ (by decide) ?_
      · rw [hq0]; rfl
      · replace h := h.2.2.1 hq0
        refine gx_r hM hZ 2 (B := (60, [some (.ref 45), some (.int (Int32.ofInt x1))], [.int (Int32.ofInt (s1 45 39))], zw X s1)) rfl ?_
        exact ⟨_, xi_To.rf _ _ _ _, (s1 45 39), s1, rfl, h⟩
    · by_cases hq1 : (x1 = 1)
      · refine gi_tab hM hZ (x := x1) (o := 46) rfl h.1 ?_ (by decide) ?_
        · rw [hq1]; rfl
        · replace h := h.2.2.2.1 hq1
          refine gx_r hM hZ 2 (B := (65, [some (.ref 45), some (.int (Int32.ofInt x1))], [.int (Int32.ofInt (s1 45 40))], zw X s1)) rfl ?_
          exact ⟨_, xi_To.rf _ _ _ _, (s1 45 40), s1, rfl, h⟩
      · by_cases hq2 : (x1 = 2)
        · refine gi_tab hM hZ (x := x1) (o := 51) rfl h.1 ?_ (by decide) ?_
          · rw [hq2]; rfl
          · replace h := h.2.2.2.2.1 hq2
            refine gx_r hM hZ 2 (B := (70, [some (.ref 45), some (.int (Int32.ofInt x1))], [.int (Int32.ofInt (s1 45 41))], zw X s1)) rfl ?_
            exact ⟨_, xi_To.rf _ _ _ _, (s1 45 41), s1, rfl, h⟩
        · by_cases hq3 : (x1 = 3)
          · refine gi_tab hM hZ (x := x1) (o := 56) rfl h.1 ?_ (by decide) ?_
            · rw [hq3]; rfl
            · replace h := h.2.2.2.2.2.1 hq3
              refine gx_r hM hZ 3 (B := (76, [some (.ref 45), some (.int (Int32.ofInt x1))], [.int (Int32.ofInt (s1 45 48)), .int (Int32.ofInt 3)], zw X s1)) rfl ?_
              refine gi_mul hM hZ rfl ?_
              exact ⟨_, xi_To.rf _ _ _ _, (3 * (s1 45 48)), s1, rfl, h⟩
          · by_cases hq4 : (x1 = 4)
            · refine gi_tab hM hZ (x := x1) (o := 63) rfl h.1 ?_ (by decide) ?_
              · rw [hq4]; rfl
              · replace h := h.2.2.2.2.2.2.1 hq4
                refine gx_r hM hZ 2 (B := (82, [some (.ref 45), some (.int (Int32.ofInt x1))], [.int (Int32.ofInt (s1 45 42))], zw X s1)) rfl ?_
                exact ⟨_, xi_To.rf _ _ _ _, (s1 45 42), s1, rfl, h⟩
            · by_cases hq5 : (x1 = 5)
              · refine gi_tab hM hZ (x := x1) (o := 68) rfl h.1 ?_ (by decide) ?_
                · rw [hq5]; rfl
                · replace h := h.2.2.2.2.2.2.2.1 hq5
                  refine gx_r hM hZ 2 (B := (87, [some (.ref 45), some (.int (Int32.ofInt x1))], [.int (Int32.ofInt (s1 45 43))], zw X s1)) rfl ?_
                  exact ⟨_, xi_To.rf _ _ _ _, (s1 45 43), s1, rfl, h⟩
              · by_cases hq6 : (x1 = 6)
                · refine gi_tab hM hZ (x := x1) (o := 73) rfl h.1 ?_ (by decide) ?_
                  · rw [hq6]; rfl
                  · replace h := h.2.2.2.2.2.2.2.2 hq6
                    refine gx_r hM hZ 2 (B := (92, [some (.ref 45), some (.int (Int32.ofInt x1))], [.int (Int32.ofInt (s1 45 44))], zw X s1)) rfl ?_
                    exact ⟨_, xi_To.rf _ _ _ _, (s1 45 44), s1, rfl, h⟩
                · refine gi_tab hM hZ (x := x1) (o := 78) rfl h.1 ?_ (by decide) ?_
                  · exact if_pos (by omega)
                  · replace h := h.2.1 (by omega)
                    refine gx_r hM hZ 1 (B := (94, [some (.ref 45), some (.int (Int32.ofInt x1))], [.int (Int32.ofInt (-1))], zw X s1)) rfl ?_
                    exact ⟨_, xi_To.rf _ _ _ _, (-1), s1, rfl, h⟩
  · intro hp
    replace h := h.2.2 hp
    refine gx_r hM hZ 1 (B := (13, [some (.ref 45), some (.int (Int32.ofInt x1))], [.int (Int32.ofInt (-1))], zw X s1)) rfl ?_
    exact ⟨_, xi_To.rf _ _ _ _, (-1), s1, rfl, h⟩
-- java/lang/Math.max
def w_157 (X : zX) (x0 x1 : Int) (s : zS) (Q : Int → zS → Prop) : Prop := wW X 157 xm_157 0 (0, [some (.int (Int32.ofInt x0)), some (.int (Int32.ofInt x1))], [], zw X s) Q
theorem w_157_i {X : zX} {x0 x1 : Int} {s : zS} {Q : Int → zS → Prop} (h : (((-2147483648 ≤ x0 ∧ x0 ≤ 2147483647) ∧ (-2147483648 ≤ x1 ∧ x1 ≤ 2147483647)) ∧ (x0 < x1 → Q x1 s) ∧ (¬ x0 < x1 → Q x0 s))) : w_157 X x0 x1 s Q := by
  intro hZ d hd
  have hM : xi_ml[157]? = some xm_157 := rfl
  refine gx_r hM hZ 2 (B := (2, [some (.int (Int32.ofInt x0)), some (.int (Int32.ofInt x1))], [.int (Int32.ofInt x1), .int (Int32.ofInt x0)], zw X s)) rfl ?_
  refine gi_if2 hM hZ (fun x y => decide (x < y)) (p := x0 < x1) rfl rfl (zc_lt h.1.1 h.1.2) ?_ ?_
  · intro hp
    replace h := h.2.1 hp
    refine gx_r hM hZ 1 (B := (10, [some (.int (Int32.ofInt x0)), some (.int (Int32.ofInt x1))], [.int (Int32.ofInt x1)], zw X s)) rfl ?_
    exact ⟨_, xi_To.rf _ _ _ _, x1, s, rfl, h⟩
  · intro hp
    replace h := h.2.2 hp
    refine gx_r hM hZ 2 (B := (10, [some (.int (Int32.ofInt x0)), some (.int (Int32.ofInt x1))], [.int (Int32.ofInt x0)], zw X s)) rfl ?_
    exact ⟨_, xi_To.rf _ _ _ _, x0, s, rfl, h⟩
-- java/lang/Math.min
def w_158 (X : zX) (x0 x1 : Int) (s : zS) (Q : Int → zS → Prop) : Prop := wW X 158 xm_158 0 (0, [some (.int (Int32.ofInt x0)), some (.int (Int32.ofInt x1))], [], zw X s) Q
theorem w_158_i {X : zX} {x0 x1 : Int} {s : zS} {Q : Int → zS → Prop} (h : (((-2147483648 ≤ x0 ∧ x0 ≤ 2147483647) ∧ (-2147483648 ≤ x1 ∧ x1 ≤ 2147483647)) ∧ (x1 < x0 → Q x1 s) ∧ (¬ x1 < x0 → Q x0 s))) : w_158 X x0 x1 s Q := by
  intro hZ d hd
  have hM : xi_ml[158]? = some xm_158 := rfl
  refine gx_r hM hZ 2 (B := (2, [some (.int (Int32.ofInt x0)), some (.int (Int32.ofInt x1))], [.int (Int32.ofInt x1), .int (Int32.ofInt x0)], zw X s)) rfl ?_
  refine gi_if2 hM hZ (fun x y => decide (y < x)) (p := x1 < x0) rfl rfl (zc_gt h.1.1 h.1.2) ?_ ?_
  · intro hp
    replace h := h.2.1 hp
    refine gx_r hM hZ 1 (B := (10, [some (.int (Int32.ofInt x0)), some (.int (Int32.ofInt x1))], [.int (Int32.ofInt x1)], zw X s)) rfl ?_
    exact ⟨_, xi_To.rf _ _ _ _, x1, s, rfl, h⟩
  · intro hp
    replace h := h.2.2 hp
    refine gx_r hM hZ 2 (B := (10, [some (.int (Int32.ofInt x0)), some (.int (Int32.ofInt x1))], [.int (Int32.ofInt x0)], zw X s)) rfl ?_
    exact ⟨_, xi_To.rf _ _ _ _, x0, s, rfl, h⟩
-- RootLoom.entry
def w_8 (X : zX) (x1 : Int) (s : zS) (Q : Int → zS → Prop) : Prop := wW X 8 xm_8 1 (0, [some (.ref 2), some (.int (Int32.ofInt x1))], [], zw X s) Q
theorem w_8_i {X : zX} {x1 : Int} {s : zS} {Q : Int → zS → Prop} (h : (w_42 X x1 s (fun v1 s1 => Q v1 s1))) : w_8 X x1 s Q := by
  intro hZ d hd
  have hM : xi_ml[8]? = some xm_8 := rfl
  refine gx_r hM hZ 3 (B := (5, [some (.ref 2), some (.int (Int32.ofInt x1))], [.int (Int32.ofInt x1), .ref 14], zw X s)) rfl ?_
  refine gi_call hM (s := s) (hj := 0) hZ rfl rfl (by omega) h ?_
  intro v1 s1 h
  exact ⟨_, xi_To.rf _ _ _ _, v1, s1, rfl, h⟩
-- RootLoom.map
def w_9 (X : zX) (x1 x2 : Int) (s : zS) (Q : Int → zS → Prop) : Prop := wW X 9 xm_9 1 (0, [some (.ref 2), some (.int (Int32.ofInt x1)), some (.int (Int32.ofInt x2))], [], zw X s) Q
def w_9_22 (X : zX) (s : zS) (Q : Int → zS → Prop) : Prop := wW X 9 xm_9 1 (22, [none, none, none], [], zw X s) Q
theorem w_9_i {X : zX} {x1 x2 : Int} {s : zS} {Q : Int → zS → Prop} (h : (w_43 X x1 s (fun v1 s1 => ((-2147483648 ≤ v1 ∧ v1 ≤ 2147483647) ∧ (v1 = 0 → w_9_22 X s1 Q) ∧ (¬ v1 = 0 → (w_40 X x1 s1 (fun v2 s2 => ((-2147483648 ≤ v2 ∧ v2 ≤ 2147483647) ∧ (¬ v2 = 0 → ((-2147483648 ≤ x2 ∧ x2 ≤ 2147483647) ∧ ((¬ x2 = 0 ∧ ¬ x2 = 1) → Q (-1) s2) ∧ ((x2 = 0) → (0 ≤ x1 ∧ x1 < 400) ∧ Q (s2 17 x1) s2) ∧ ((x2 = 1) → (0 ≤ x1 ∧ x1 < 400) ∧ Q (s2 18 x1) s2))) ∧ (¬ ¬ v2 = 0 → w_9_22 X s2 Q))))))))) : w_9 X x1 x2 s Q := by
  intro hZ d hd
  have hM : xi_ml[9]? = some xm_9 := rfl
  refine gx_r hM hZ 3 (B := (5, [some (.ref 2), some (.int (Int32.ofInt x1)), some (.int (Int32.ofInt x2))], [.int (Int32.ofInt x1), .ref 14], zw X s)) rfl ?_
  refine gi_call hM (s := s) (hj := 0) hZ rfl rfl (by omega) h ?_
  intro v1 s1 h
  refine gi_if1 hM hZ (fun x => decide (x = 0)) (p := v1 = 0) rfl rfl (zd_eq h.1) ?_ ?_
  · intro hp
    replace h := h.2.1 hp
    exact gx_fg [false, false, false] (h hZ d hd)
  · intro hp
    replace h := h.2.2 hp
    refine gx_r hM hZ 3 (B := (16, [some (.ref 2), some (.int (Int32.ofInt x1)), some (.int (Int32.ofInt x2))], [.int (Int32.ofInt x1), .ref 14], zw X s1)) rfl ?_
    refine gi_call hM (s := s1) (hj := 0) hZ rfl rfl (by omega) h ?_
    intro v2 s2 h
    refine gi_if1 hM hZ (fun x => decide (¬ x = 0)) (p := ¬ v2 = 0) rfl rfl (zd_ne h.1) ?_ ?_
    · intro hp
      replace h := h.2.1 hp
      refine gx_r hM hZ 1 (B := (25, [some (.ref 2), some (.int (Int32.ofInt x1)), some (.int (Int32.ofInt x2))], [.int (Int32.ofInt x2)], zw X s2)) rfl ?_
      by_cases hq0 : (x2 = 0)
      · refine gi_lok hM hZ (x := x2) (o := 27) rfl rfl h.1 ?_ (by decide) ?_
        · rw [hq0]; rfl
        · replace h := h.2.2.1 hq0
          refine gx_r hM hZ 4 (B := (60, [some (.ref 2), some (.int (Int32.ofInt x1)), some (.int (Int32.ofInt x2))], [.int (Int32.ofInt x1), .ref 17], zw X s2)) rfl ?_
          refine gi_iald hM hZ (s := s2) (len := 400) rfl rfl (Nat.le_of_ble_eq_true rfl) h.1 ?_
          replace h := h.2
          exact ⟨_, xi_To.rf _ _ _ _, (s2 17 x1), s2, rfl, h⟩
      · by_cases hq1 : (x2 = 1)
        · refine gi_lok hM hZ (x := x2) (o := 37) rfl rfl h.1 ?_ (by decide) ?_
          · rw [hq1]; rfl
          · replace h := h.2.2.2 hq1
            refine gx_r hM hZ 4 (B := (70, [some (.ref 2), some (.int (Int32.ofInt x1)), some (.int (Int32.ofInt x2))], [.int (Int32.ofInt x1), .ref 18], zw X s2)) rfl ?_
            refine gi_iald hM hZ (s := s2) (len := 400) rfl rfl (Nat.le_of_ble_eq_true rfl) h.1 ?_
            replace h := h.2
            exact ⟨_, xi_To.rf _ _ _ _, (s2 18 x1), s2, rfl, h⟩
        · refine gi_lok hM hZ (x := x2) (o := 47) rfl rfl h.1 ?_ (by decide) ?_
          · simp only [Op.lookupswitch.offset]
            rw [if_neg (by omega)]
            rw [if_neg (by omega)]
          · replace h := h.2.1 (by omega)
            refine gx_r hM hZ 1 (B := (73, [some (.ref 2), some (.int (Int32.ofInt x1)), some (.int (Int32.ofInt x2))], [.int (Int32.ofInt (-1))], zw X s2)) rfl ?_
            exact ⟨_, xi_To.rf _ _ _ _, (-1), s2, rfl, h⟩
    · intro hp
      replace h := h.2.2 hp
      exact gx_fg [false, false, false] (h hZ d hd)
theorem w_9_22_i {X : zX} {s : zS} {Q : Int → zS → Prop} (h : Q (-1) s) : w_9_22 X s Q := by
  intro hZ d hd
  have hM : xi_ml[9]? = some xm_9 := rfl
  refine gx_r hM hZ 1 (B := (23, [none, none, none], [.int (Int32.ofInt (-1))], zw X s)) rfl ?_
  exact ⟨_, xi_To.rf _ _ _ _, (-1), s, rfl, h⟩
-- RootLoom.out
def w_14 (X : zX) (x1 : Int) (s : zS) (Q : Int → zS → Prop) : Prop := wW X 14 xm_14 1 (0, [some (.ref 2), some (.int (Int32.ofInt x1))], [], zw X s) Q
theorem w_14_i {X : zX} {x1 : Int} {s : zS} {Q : Int → zS → Prop} (h : (w_82 X x1 s (fun v1 s1 => Q v1 s1))) : w_14 X x1 s Q := by
  intro hZ d hd
  have hM : xi_ml[14]? = some xm_14 := rfl
  refine gx_r hM hZ 3 (B := (5, [some (.ref 2), some (.int (Int32.ofInt x1))], [.int (Int32.ofInt x1), .ref 31], zw X s)) rfl ?_
  refine gi_call hM (s := s) (hj := 0) hZ rfl rfl (by omega) h ?_
  intro v1 s1 h
  exact ⟨_, xi_To.rf _ _ _ _, v1, s1, rfl, h⟩
-- RootLoom.tell
def w_15 (X : zX) (x1 x2 : Int) (s : zS) (Q : Int → zS → Prop) : Prop := wW X 15 xm_15 1 (0, [some (.ref 2), some (.int (Int32.ofInt x1)), some (.int (Int32.ofInt x2))], [], zw X s) Q
theorem w_15_i {X : zX} {x1 x2 : Int} {s : zS} {Q : Int → zS → Prop} (h : (w_83 X x1 x2 s (fun v1 s1 => Q v1 s1))) : w_15 X x1 x2 s Q := by
  intro hZ d hd
  have hM : xi_ml[15]? = some xm_15 := rfl
  refine gx_r hM hZ 4 (B := (6, [some (.ref 2), some (.int (Int32.ofInt x1)), some (.int (Int32.ofInt x2))], [.int (Int32.ofInt x2), .int (Int32.ofInt x1), .ref 31], zw X s)) rfl ?_
  refine gi_call hM (s := s) (hj := 0) hZ rfl rfl (by omega) h ?_
  intro v1 s1 h
  exact ⟨_, xi_To.rf _ _ _ _, v1, s1, rfl, h⟩
-- RootLoom.value
def w_16 (X : zX) (x1 x2 : Int) (s : zS) (Q : Int → zS → Prop) : Prop := wW X 16 xm_16 1 (0, [some (.ref 2), some (.int (Int32.ofInt x1)), some (.int (Int32.ofInt x2))], [], zw X s) Q
theorem w_16_i {X : zX} {x1 x2 : Int} {s : zS} {Q : Int → zS → Prop} (h : (w_83 X x1 x2 s (fun v1 s1 => ((-2147483648 ≤ v1 ∧ v1 ≤ 2147483647) ∧ (¬ v1 = 0 → Q 0 s1) ∧ (¬ ¬ v1 = 0 → Q (s1 31 17) s1))))) : w_16 X x1 x2 s Q := by
  intro hZ d hd
  have hM : xi_ml[16]? = some xm_16 := rfl
  refine gx_r hM hZ 4 (B := (6, [some (.ref 2), some (.int (Int32.ofInt x1)), some (.int (Int32.ofInt x2))], [.int (Int32.ofInt x2), .int (Int32.ofInt x1), .ref 31], zw X s)) rfl ?_
  refine gi_call hM (s := s) (hj := 0) hZ rfl rfl (by omega) h ?_
  intro v1 s1 h
  refine gi_if1 hM hZ (fun x => decide (¬ x = 0)) (p := ¬ v1 = 0) rfl rfl (zd_ne h.1) ?_ ?_
  · intro hp
    replace h := h.2.1 hp
    refine gx_r hM hZ 1 (B := (23, [some (.ref 2), some (.int (Int32.ofInt x1)), some (.int (Int32.ofInt x2))], [.int (Int32.ofInt 0)], zw X s1)) rfl ?_
    exact ⟨_, xi_To.rf _ _ _ _, 0, s1, rfl, h⟩
  · intro hp
    replace h := h.2.2 hp
    refine gx_r hM hZ 4 (B := (23, [some (.ref 2), some (.int (Int32.ofInt x1)), some (.int (Int32.ofInt x2))], [.int (Int32.ofInt (s1 31 17))], zw X s1)) rfl ?_
    exact ⟨_, xi_To.rf _ _ _ _, (s1 31 17), s1, rfl, h⟩
-- RootLoom$Source.setType
def w_19 (X : zX) (x1 x2 x3 : Int) (s : zS) (Q : Int → zS → Prop) : Prop := wW X 19 xm_19 1 (0, [some (.ref 3), some (.int (Int32.ofInt x1)), some (.int (Int32.ofInt x2)), some (.int (Int32.ofInt x3))], [], zw X s) Q
def w_19_21 (X : zX) (s : zS) (Q : Int → zS → Prop) : Prop := wW X 19 xm_19 1 (21, [none, none, none, none], [], zw X s) Q
theorem w_19_i {X : zX} {x1 x2 x3 : Int} {s : zS} {Q : Int → zS → Prop} (h : (w_20 X x1 s (fun v1 s1 => ((-2147483648 ≤ v1 ∧ v1 ≤ 2147483647) ∧ (v1 = 0 → w_19_21 X s1 Q) ∧ (¬ v1 = 0 → (w_21 X x2 s1 (fun v2 s2 => ((-2147483648 ≤ v2 ∧ v2 ≤ 2147483647) ∧ (v2 = 0 → w_19_21 X s2 Q) ∧ (¬ v2 = 0 → (w_21 X x3 s2 (fun v3 s3 => ((-2147483648 ≤ v3 ∧ v3 ≤ 2147483647) ∧ (¬ v3 = 0 → (0 ≤ x1 ∧ x1 < 8) ∧ (∀ s4 : zS, s4 = zu s3 4 x1 x2 → (0 ≤ x1 ∧ x1 < 8) ∧ (∀ s5 : zS, s5 = zu s4 5 x1 x3 → Q 1 s5))) ∧ (¬ ¬ v3 = 0 → w_19_21 X s3 Q))))))))))))) : w_19 X x1 x2 x3 s Q := by
  intro hZ d hd
  have hM : xi_ml[19]? = some xm_19 := rfl
  refine gx_r hM hZ 1 (B := (1, [some (.ref 3), some (.int (Int32.ofInt x1)), some (.int (Int32.ofInt x2)), some (.int (Int32.ofInt x3))], [.int (Int32.ofInt x1)], zw X s)) rfl ?_
  refine gi_call hM (s := s) (hj := 0) hZ rfl rfl (by omega) h ?_
  intro v1 s1 h
  refine gi_if1 hM hZ (fun x => decide (x = 0)) (p := v1 = 0) rfl rfl (zd_eq h.1) ?_ ?_
  · intro hp
    replace h := h.2.1 hp
    exact gx_fg [false, false, false, false] (h hZ d hd)
  · intro hp
    replace h := h.2.2 hp
    refine gx_r hM hZ 1 (B := (8, [some (.ref 3), some (.int (Int32.ofInt x1)), some (.int (Int32.ofInt x2)), some (.int (Int32.ofInt x3))], [.int (Int32.ofInt x2)], zw X s1)) rfl ?_
    refine gi_call hM (s := s1) (hj := 0) hZ rfl rfl (by omega) h ?_
    intro v2 s2 h
    refine gi_if1 hM hZ (fun x => decide (x = 0)) (p := v2 = 0) rfl rfl (zd_eq h.1) ?_ ?_
    · intro hp
      replace h := h.2.1 hp
      exact gx_fg [false, false, false, false] (h hZ d hd)
    · intro hp
      replace h := h.2.2 hp
      refine gx_r hM hZ 1 (B := (15, [some (.ref 3), some (.int (Int32.ofInt x1)), some (.int (Int32.ofInt x2)), some (.int (Int32.ofInt x3))], [.int (Int32.ofInt x3)], zw X s2)) rfl ?_
      refine gi_call hM (s := s2) (hj := 0) hZ rfl rfl (by omega) h ?_
      intro v3 s3 h
      refine gi_if1 hM hZ (fun x => decide (¬ x = 0)) (p := ¬ v3 = 0) rfl rfl (zd_ne h.1) ?_ ?_
      · intro hp
        replace h := h.2.1 hp
        refine gx_r hM hZ 4 (B := (29, [some (.ref 3), some (.int (Int32.ofInt x1)), some (.int (Int32.ofInt x2)), some (.int (Int32.ofInt x3))], [.int (Int32.ofInt x2), .int (Int32.ofInt x1), .ref 4], zw X s3)) rfl ?_
        obtain ⟨s4, e4⟩ : ∃ q : zS, q = zu s3 4 x1 x2 := ⟨_, rfl⟩
        refine gj_iast hM hZ (len := 8) rfl rfl (Nat.le_of_ble_eq_true rfl) zp_4 h.1 e4 ?_
        replace h := h.2 _ e4
        refine gx_r hM hZ 4 (B := (36, [some (.ref 3), some (.int (Int32.ofInt x1)), some (.int (Int32.ofInt x2)), some (.int (Int32.ofInt x3))], [.int (Int32.ofInt x3), .int (Int32.ofInt x1), .ref 5], zw X s4)) rfl ?_
        obtain ⟨s5, e5⟩ : ∃ q : zS, q = zu s4 5 x1 x3 := ⟨_, rfl⟩
        refine gj_iast hM hZ (len := 8) rfl rfl (Nat.le_of_ble_eq_true rfl) zp_5 h.1 e5 ?_
        replace h := h.2 _ e5
        refine gx_r hM hZ 1 (B := (38, [some (.ref 3), some (.int (Int32.ofInt x1)), some (.int (Int32.ofInt x2)), some (.int (Int32.ofInt x3))], [.int (Int32.ofInt 1)], zw X s5)) rfl ?_
        exact ⟨_, xi_To.rf _ _ _ _, 1, s5, rfl, h⟩
      · intro hp
        replace h := h.2.2 hp
        exact gx_fg [false, false, false, false] (h hZ d hd)
theorem w_19_21_i {X : zX} {s : zS} {Q : Int → zS → Prop} (h : Q 0 s) : w_19_21 X s Q := by
  intro hZ d hd
  have hM : xi_ml[19]? = some xm_19 := rfl
  refine gx_r hM hZ 1 (B := (22, [none, none, none, none], [.int (Int32.ofInt 0)], zw X s)) rfl ?_
  exact ⟨_, xi_To.rf _ _ _ _, 0, s, rfl, h⟩
-- RootLoom$Source.addFunction
def w_22 (X : zX) (x1 x2 x3 x4 x5 : Int) (s : zS) (Q : Int → zS → Prop) : Prop := wW X 22 xm_22 1 (0, [some (.ref 3), some (.int (Int32.ofInt x1)), some (.int (Int32.ofInt x2)), some (.int (Int32.ofInt x3)), some (.int (Int32.ofInt x4)), some (.int (Int32.ofInt x5)), none], [], zw X s) Q
def w_22_25 (X : zX) (s : zS) (Q : Int → zS → Prop) : Prop := wW X 22 xm_22 1 (25, [none, none, none, none, none, none, none], [], zw X s) Q
def w_22_38 (X : zX) (x1 x2 x3 x4 x5 : Int) (s : zS) (Q : Int → zS → Prop) : Prop := wW X 22 xm_22 1 (38, [some (.ref 3), some (.int (Int32.ofInt x1)), some (.int (Int32.ofInt x2)), some (.int (Int32.ofInt x3)), some (.int (Int32.ofInt x4)), some (.int (Int32.ofInt x5)), none], [], zw X s) Q
def w_22_51 (X : zX) (x1 x2 x3 x4 x5 : Int) (s : zS) (Q : Int → zS → Prop) : Prop := wW X 22 xm_22 1 (51, [some (.ref 3), some (.int (Int32.ofInt x1)), some (.int (Int32.ofInt x2)), some (.int (Int32.ofInt x3)), some (.int (Int32.ofInt x4)), some (.int (Int32.ofInt x5)), none], [], zw X s) Q
def w_22_64 (X : zX) (s : zS) (Q : Int → zS → Prop) : Prop := wW X 22 xm_22 1 (64, [none, none, none, none, none, none, none], [], zw X s) Q
def w_22_66 (X : zX) (x1 x2 x3 x4 x5 : Int) (s : zS) (Q : Int → zS → Prop) : Prop := wW X 22 xm_22 1 (66, [some (.ref 3), some (.int (Int32.ofInt x1)), some (.int (Int32.ofInt x2)), some (.int (Int32.ofInt x3)), some (.int (Int32.ofInt x4)), some (.int (Int32.ofInt x5)), none], [], zw X s) Q
theorem w_22_i {X : zX} {x1 x2 x3 x4 x5 : Int} {s : zS} {Q : Int → zS → Prop} (h : ((-2147483648 ≤ (s 3 6) ∧ (s 3 6) ≤ 2147483647) ∧ (6 ≤ (s 3 6) → w_22_25 X s Q) ∧ (¬ 6 ≤ (s 3 6) → (w_21 X x1 s (fun v1 s1 => ((-2147483648 ≤ v1 ∧ v1 ≤ 2147483647) ∧ (v1 = 0 → w_22_25 X s1 Q) ∧ (¬ v1 = 0 → ((-2147483648 ≤ x2 ∧ x2 ≤ 2147483647) ∧ (x2 < 0 → w_22_25 X s1 Q) ∧ (¬ x2 < 0 → ((-2147483648 ≤ x2 ∧ x2 ≤ 2147483647) ∧ (x2 ≤ 3 → ((-2147483648 ≤ x2 ∧ x2 ≤ 2147483647) ∧ (x2 ≤ 0 → w_22_38 X x1 x2 x3 x4 x5 s1 Q) ∧ (¬ x2 ≤ 0 → (w_21 X x3 s1 (fun v2 s2 => ((-2147483648 ≤ v2 ∧ v2 ≤ 2147483647) ∧ (v2 = 0 → w_22_64 X s2 Q) ∧ (¬ v2 = 0 → w_22_38 X x1 x2 x3 x4 x5 s2 Q))))))) ∧ (¬ x2 ≤ 3 → w_22_25 X s1 Q))))))))))) : w_22 X x1 x2 x3 x4 x5 s Q := by
  intro hZ d hd
  have hM : xi_ml[22]? = some xm_22 := rfl
  refine gx_r hM hZ 2 (B := (4, [some (.ref 3), some (.int (Int32.ofInt x1)), some (.int (Int32.ofInt x2)), some (.int (Int32.ofInt x3)), some (.int (Int32.ofInt x4)), some (.int (Int32.ofInt x5)), none], [.int (Int32.ofInt (s 3 6))], zw X s)) rfl ?_
  refine gi_bip hM hZ rfl rfl ?_
  refine gi_if2 hM hZ (fun x y => decide (y ≤ x)) (p := 6 ≤ (s 3 6)) rfl rfl (zc_ge h.1 (by decide)) ?_ ?_
  · intro hp
    replace h := h.2.1 hp
    exact gx_fg [false, false, false, false, false, false, false] (h hZ d hd)
  · intro hp
    replace h := h.2.2 hp
    refine gx_r hM hZ 1 (B := (10, [some (.ref 3), some (.int (Int32.ofInt x1)), some (.int (Int32.ofInt x2)), some (.int (Int32.ofInt x3)), some (.int (Int32.ofInt x4)), some (.int (Int32.ofInt x5)), none], [.int (Int32.ofInt x1)], zw X s)) rfl ?_
    refine gi_call hM (s := s) (hj := 0) hZ rfl rfl (by omega) h ?_
    intro v1 s1 h
    refine gi_if1 hM hZ (fun x => decide (x = 0)) (p := v1 = 0) rfl rfl (zd_eq h.1) ?_ ?_
    · intro hp
      replace h := h.2.1 hp
      exact gx_fg [false, false, false, false, false, false, false] (h hZ d hd)
    · intro hp
      replace h := h.2.2 hp
      refine gx_r hM hZ 1 (B := (17, [some (.ref 3), some (.int (Int32.ofInt x1)), some (.int (Int32.ofInt x2)), some (.int (Int32.ofInt x3)), some (.int (Int32.ofInt x4)), some (.int (Int32.ofInt x5)), none], [.int (Int32.ofInt x2)], zw X s1)) rfl ?_
      refine gi_if1 hM hZ (fun x => decide (x < 0)) (p := x2 < 0) rfl rfl (zd_lt h.1) ?_ ?_
      · intro hp
        replace h := h.2.1 hp
        exact gx_fg [false, false, false, false, false, false, false] (h hZ d hd)
      · intro hp
        replace h := h.2.2 hp
        refine gx_r hM hZ 2 (B := (22, [some (.ref 3), some (.int (Int32.ofInt x1)), some (.int (Int32.ofInt x2)), some (.int (Int32.ofInt x3)), some (.int (Int32.ofInt x4)), some (.int (Int32.ofInt x5)), none], [.int (Int32.ofInt 3), .int (Int32.ofInt x2)], zw X s1)) rfl ?_
        refine gi_if2 hM hZ (fun x y => decide (x ≤ y)) (p := x2 ≤ 3) rfl rfl (zc_le h.1 (by decide)) ?_ ?_
        · intro hp
          replace h := h.2.1 hp
          refine gx_r hM hZ 1 (B := (28, [some (.ref 3), some (.int (Int32.ofInt x1)), some (.int (Int32.ofInt x2)), some (.int (Int32.ofInt x3)), some (.int (Int32.ofInt x4)), some (.int (Int32.ofInt x5)), none], [.int (Int32.ofInt x2)], zw X s1)) rfl ?_
          refine gi_if1 hM hZ (fun x => decide (x ≤ 0)) (p := x2 ≤ 0) rfl rfl (zd_le h.1) ?_ ?_
          · intro hp
            replace h := h.2.1 hp
            exact gx_fg [true, true, true, true, true, true, false] (h hZ d hd)
          · intro hp
            replace h := h.2.2 hp
            refine gx_r hM hZ 1 (B := (32, [some (.ref 3), some (.int (Int32.ofInt x1)), some (.int (Int32.ofInt x2)), some (.int (Int32.ofInt x3)), some (.int (Int32.ofInt x4)), some (.int (Int32.ofInt x5)), none], [.int (Int32.ofInt x3)], zw X s1)) rfl ?_
            refine gi_call hM (s := s1) (hj := 0) hZ rfl rfl (by omega) h ?_
            intro v2 s2 h
            refine gi_if1 hM hZ (fun x => decide (x = 0)) (p := v2 = 0) rfl rfl (zd_eq h.1) ?_ ?_
            · intro hp
              replace h := h.2.1 hp
              exact gx_fg [false, false, false, false, false, false, false] (h hZ d hd)
            · intro hp
              replace h := h.2.2 hp
              exact gx_fg [true, true, true, true, true, true, false] (h hZ d hd)
        · intro hp
          replace h := h.2.2 hp
          exact gx_fg [false, false, false, false, false, false, false] (h hZ d hd)
theorem w_22_25_i {X : zX} {s : zS} {Q : Int → zS → Prop} (h : Q (-1) s) : w_22_25 X s Q := by
  intro hZ d hd
  have hM : xi_ml[22]? = some xm_22 := rfl
  refine gx_r hM hZ 1 (B := (26, [none, none, none, none, none, none, none], [.int (Int32.ofInt (-1))], zw X s)) rfl ?_
  exact ⟨_, xi_To.rf _ _ _ _, (-1), s, rfl, h⟩
theorem w_22_38_i {X : zX} {x1 x2 x3 x4 x5 : Int} {s : zS} {Q : Int → zS → Prop} (h : ((-2147483648 ≤ x2 ∧ x2 ≤ 2147483647) ∧ (x2 ≤ 1 → w_22_51 X x1 x2 x3 x4 x5 s Q) ∧ (¬ x2 ≤ 1 → (w_21 X x4 s (fun v1 s1 => ((-2147483648 ≤ v1 ∧ v1 ≤ 2147483647) ∧ (v1 = 0 → w_22_64 X s1 Q) ∧ (¬ v1 = 0 → w_22_51 X x1 x2 x3 x4 x5 s1 Q))))))) : w_22_38 X x1 x2 x3 x4 x5 s Q := by
  intro hZ d hd
  have hM : xi_ml[22]? = some xm_22 := rfl
  refine gx_r hM hZ 2 (B := (40, [some (.ref 3), some (.int (Int32.ofInt x1)), some (.int (Int32.ofInt x2)), some (.int (Int32.ofInt x3)), some (.int (Int32.ofInt x4)), some (.int (Int32.ofInt x5)), none], [.int (Int32.ofInt 1), .int (Int32.ofInt x2)], zw X s)) rfl ?_
  refine gi_if2 hM hZ (fun x y => decide (x ≤ y)) (p := x2 ≤ 1) rfl rfl (zc_le h.1 (by decide)) ?_ ?_
  · intro hp
    replace h := h.2.1 hp
    exact gx_fg [true, true, true, true, true, true, false] (h hZ d hd)
  · intro hp
    replace h := h.2.2 hp
    refine gx_r hM hZ 1 (B := (45, [some (.ref 3), some (.int (Int32.ofInt x1)), some (.int (Int32.ofInt x2)), some (.int (Int32.ofInt x3)), some (.int (Int32.ofInt x4)), some (.int (Int32.ofInt x5)), none], [.int (Int32.ofInt x4)], zw X s)) rfl ?_
    refine gi_call hM (s := s) (hj := 0) hZ rfl rfl (by omega) h ?_
    intro v1 s1 h
    refine gi_if1 hM hZ (fun x => decide (x = 0)) (p := v1 = 0) rfl rfl (zd_eq h.1) ?_ ?_
    · intro hp
      replace h := h.2.1 hp
      exact gx_fg [false, false, false, false, false, false, false] (h hZ d hd)
    · intro hp
      replace h := h.2.2 hp
      exact gx_fg [true, true, true, true, true, true, false] (h hZ d hd)
theorem w_22_51_i {X : zX} {x1 x2 x3 x4 x5 : Int} {s : zS} {Q : Int → zS → Prop} (h : ((-2147483648 ≤ x2 ∧ x2 ≤ 2147483647) ∧ (x2 ≤ 2 → w_22_66 X x1 x2 x3 x4 x5 s Q) ∧ (¬ x2 ≤ 2 → (w_21 X x5 s (fun v1 s1 => ((-2147483648 ≤ v1 ∧ v1 ≤ 2147483647) ∧ (¬ v1 = 0 → w_22_66 X x1 x2 x3 x4 x5 s1 Q) ∧ (¬ ¬ v1 = 0 → w_22_64 X s1 Q))))))) : w_22_51 X x1 x2 x3 x4 x5 s Q := by
  intro hZ d hd
  have hM : xi_ml[22]? = some xm_22 := rfl
  refine gx_r hM hZ 2 (B := (53, [some (.ref 3), some (.int (Int32.ofInt x1)), some (.int (Int32.ofInt x2)), some (.int (Int32.ofInt x3)), some (.int (Int32.ofInt x4)), some (.int (Int32.ofInt x5)), none], [.int (Int32.ofInt 2), .int (Int32.ofInt x2)], zw X s)) rfl ?_
  refine gi_if2 hM hZ (fun x y => decide (x ≤ y)) (p := x2 ≤ 2) rfl rfl (zc_le h.1 (by decide)) ?_ ?_
  · intro hp
    replace h := h.2.1 hp
    exact gx_fg [true, true, true, true, true, true, false] (h hZ d hd)
  · intro hp
    replace h := h.2.2 hp
    refine gx_r hM hZ 1 (B := (58, [some (.ref 3), some (.int (Int32.ofInt x1)), some (.int (Int32.ofInt x2)), some (.int (Int32.ofInt x3)), some (.int (Int32.ofInt x4)), some (.int (Int32.ofInt x5)), none], [.int (Int32.ofInt x5)], zw X s)) rfl ?_
    refine gi_call hM (s := s) (hj := 0) hZ rfl rfl (by omega) h ?_
    intro v1 s1 h
    refine gi_if1 hM hZ (fun x => decide (¬ x = 0)) (p := ¬ v1 = 0) rfl rfl (zd_ne h.1) ?_ ?_
    · intro hp
      replace h := h.2.1 hp
      exact gx_fg [true, true, true, true, true, true, false] (h hZ d hd)
    · intro hp
      replace h := h.2.2 hp
      exact gx_fg [false, false, false, false, false, false, false] (h hZ d hd)
theorem w_22_64_i {X : zX} {s : zS} {Q : Int → zS → Prop} (h : Q (-1) s) : w_22_64 X s Q := by
  intro hZ d hd
  have hM : xi_ml[22]? = some xm_22 := rfl
  refine gx_r hM hZ 1 (B := (65, [none, none, none, none, none, none, none], [.int (Int32.ofInt (-1))], zw X s)) rfl ?_
  exact ⟨_, xi_To.rf _ _ _ _, (-1), s, rfl, h⟩
theorem w_22_66_i {X : zX} {x1 x2 x3 x4 x5 : Int} {s : zS} {Q : Int → zS → Prop} (h : (0 ≤ (s 3 6) ∧ (s 3 6) < 6) ∧ (∀ s1 : zS, s1 = zu s 6 (s 3 6) x1 → (0 ≤ (s 3 6) ∧ (s 3 6) < 6) ∧ (∀ s2 : zS, s2 = zu s1 7 (s 3 6) x2 → (0 ≤ ((s 3 6) * 3) ∧ ((s 3 6) * 3) < 18) ∧ (∀ s3 : zS, s3 = zu s2 8 ((s 3 6) * 3) x3 → (0 ≤ (((s 3 6) * 3) + 1) ∧ (((s 3 6) * 3) + 1) < 18) ∧ (∀ s4 : zS, s4 = zu s3 8 (((s 3 6) * 3) + 1) x4 → (0 ≤ (((s 3 6) * 3) + 2) ∧ (((s 3 6) * 3) + 2) < 18) ∧ (∀ s5 : zS, s5 = zu s4 8 (((s 3 6) * 3) + 2) x5 → (0 ≤ (s 3 6) ∧ (s 3 6) < 6) ∧ (∀ s6 : zS, s6 = zu s5 9 (s 3 6) (-1) → (∀ s7 : zS, s7 = zu s6 3 6 ((s6 3 6) + 1) → Q (s 3 6) s7)))))))) : w_22_66 X x1 x2 x3 x4 x5 s Q := by
  intro hZ d hd
  have hM : xi_ml[22]? = some xm_22 := rfl
  refine gx_r hM hZ 7 (B := (79, [some (.ref 3), some (.int (Int32.ofInt x1)), some (.int (Int32.ofInt x2)), some (.int (Int32.ofInt x3)), some (.int (Int32.ofInt x4)), some (.int (Int32.ofInt x5)), some (.int (Int32.ofInt (s 3 6)))], [.int (Int32.ofInt x1), .int (Int32.ofInt (s 3 6)), .ref 6], zw X s)) rfl ?_
  obtain ⟨s1, e1⟩ : ∃ q : zS, q = zu s 6 (s 3 6) x1 := ⟨_, rfl⟩
  refine gj_iast hM hZ (len := 6) rfl rfl (Nat.le_of_ble_eq_true rfl) zp_6 h.1 e1 ?_
  replace h := h.2 _ e1
  refine gx_r hM hZ 4 (B := (87, [some (.ref 3), some (.int (Int32.ofInt x1)), some (.int (Int32.ofInt x2)), some (.int (Int32.ofInt x3)), some (.int (Int32.ofInt x4)), some (.int (Int32.ofInt x5)), some (.int (Int32.ofInt (s 3 6)))], [.int (Int32.ofInt x2), .int (Int32.ofInt (s 3 6)), .ref 7], zw X s1)) rfl ?_
  obtain ⟨s2, e2⟩ : ∃ q : zS, q = zu s1 7 (s 3 6) x2 := ⟨_, rfl⟩
  refine gj_iast hM hZ (len := 6) rfl rfl (Nat.le_of_ble_eq_true rfl) zp_7 h.1 e2 ?_
  replace h := h.2 _ e2
  refine gx_r hM hZ 4 (B := (95, [some (.ref 3), some (.int (Int32.ofInt x1)), some (.int (Int32.ofInt x2)), some (.int (Int32.ofInt x3)), some (.int (Int32.ofInt x4)), some (.int (Int32.ofInt x5)), some (.int (Int32.ofInt (s 3 6)))], [.int (Int32.ofInt 3), .int (Int32.ofInt (s 3 6)), .ref 8], zw X s2)) rfl ?_
  refine gi_mul hM hZ rfl ?_
  refine gx_r hM hZ 1 (B := (97, [some (.ref 3), some (.int (Int32.ofInt x1)), some (.int (Int32.ofInt x2)), some (.int (Int32.ofInt x3)), some (.int (Int32.ofInt x4)), some (.int (Int32.ofInt x5)), some (.int (Int32.ofInt (s 3 6)))], [.int (Int32.ofInt x3), .int (Int32.ofInt ((s 3 6) * 3)), .ref 8], zw X s2)) rfl ?_
  obtain ⟨s3, e3⟩ : ∃ q : zS, q = zu s2 8 ((s 3 6) * 3) x3 := ⟨_, rfl⟩
  refine gj_iast hM hZ (len := 18) rfl rfl (Nat.le_of_ble_eq_true rfl) zp_8 h.1 e3 ?_
  replace h := h.2 _ e3
  refine gx_r hM hZ 4 (B := (105, [some (.ref 3), some (.int (Int32.ofInt x1)), some (.int (Int32.ofInt x2)), some (.int (Int32.ofInt x3)), some (.int (Int32.ofInt x4)), some (.int (Int32.ofInt x5)), some (.int (Int32.ofInt (s 3 6)))], [.int (Int32.ofInt 3), .int (Int32.ofInt (s 3 6)), .ref 8], zw X s3)) rfl ?_
  refine gi_mul hM hZ rfl ?_
  refine gx_r hM hZ 1 (B := (107, [some (.ref 3), some (.int (Int32.ofInt x1)), some (.int (Int32.ofInt x2)), some (.int (Int32.ofInt x3)), some (.int (Int32.ofInt x4)), some (.int (Int32.ofInt x5)), some (.int (Int32.ofInt (s 3 6)))], [.int (Int32.ofInt 1), .int (Int32.ofInt ((s 3 6) * 3)), .ref 8], zw X s3)) rfl ?_
  refine gi_add hM hZ rfl ?_
  refine gx_r hM hZ 1 (B := (110, [some (.ref 3), some (.int (Int32.ofInt x1)), some (.int (Int32.ofInt x2)), some (.int (Int32.ofInt x3)), some (.int (Int32.ofInt x4)), some (.int (Int32.ofInt x5)), some (.int (Int32.ofInt (s 3 6)))], [.int (Int32.ofInt x4), .int (Int32.ofInt (((s 3 6) * 3) + 1)), .ref 8], zw X s3)) rfl ?_
  obtain ⟨s4, e4⟩ : ∃ q : zS, q = zu s3 8 (((s 3 6) * 3) + 1) x4 := ⟨_, rfl⟩
  refine gj_iast hM hZ (len := 18) rfl rfl (Nat.le_of_ble_eq_true rfl) zp_8 h.1 e4 ?_
  replace h := h.2 _ e4
  refine gx_r hM hZ 4 (B := (118, [some (.ref 3), some (.int (Int32.ofInt x1)), some (.int (Int32.ofInt x2)), some (.int (Int32.ofInt x3)), some (.int (Int32.ofInt x4)), some (.int (Int32.ofInt x5)), some (.int (Int32.ofInt (s 3 6)))], [.int (Int32.ofInt 3), .int (Int32.ofInt (s 3 6)), .ref 8], zw X s4)) rfl ?_
  refine gi_mul hM hZ rfl ?_
  refine gx_r hM hZ 1 (B := (120, [some (.ref 3), some (.int (Int32.ofInt x1)), some (.int (Int32.ofInt x2)), some (.int (Int32.ofInt x3)), some (.int (Int32.ofInt x4)), some (.int (Int32.ofInt x5)), some (.int (Int32.ofInt (s 3 6)))], [.int (Int32.ofInt 2), .int (Int32.ofInt ((s 3 6) * 3)), .ref 8], zw X s4)) rfl ?_
  refine gi_add hM hZ rfl ?_
  refine gx_r hM hZ 1 (B := (123, [some (.ref 3), some (.int (Int32.ofInt x1)), some (.int (Int32.ofInt x2)), some (.int (Int32.ofInt x3)), some (.int (Int32.ofInt x4)), some (.int (Int32.ofInt x5)), some (.int (Int32.ofInt (s 3 6)))], [.int (Int32.ofInt x5), .int (Int32.ofInt (((s 3 6) * 3) + 2)), .ref 8], zw X s4)) rfl ?_
  obtain ⟨s5, e5⟩ : ∃ q : zS, q = zu s4 8 (((s 3 6) * 3) + 2) x5 := ⟨_, rfl⟩
  refine gj_iast hM hZ (len := 18) rfl rfl (Nat.le_of_ble_eq_true rfl) zp_8 h.1 e5 ?_
  replace h := h.2 _ e5
  refine gx_r hM hZ 4 (B := (131, [some (.ref 3), some (.int (Int32.ofInt x1)), some (.int (Int32.ofInt x2)), some (.int (Int32.ofInt x3)), some (.int (Int32.ofInt x4)), some (.int (Int32.ofInt x5)), some (.int (Int32.ofInt (s 3 6)))], [.int (Int32.ofInt (-1)), .int (Int32.ofInt (s 3 6)), .ref 9], zw X s5)) rfl ?_
  obtain ⟨s6, e6⟩ : ∃ q : zS, q = zu s5 9 (s 3 6) (-1) := ⟨_, rfl⟩
  refine gj_iast hM hZ (len := 6) rfl rfl (Nat.le_of_ble_eq_true rfl) zp_9 h.1 e6 ?_
  replace h := h.2 _ e6
  refine gx_r hM hZ 4 (B := (138, [some (.ref 3), some (.int (Int32.ofInt x1)), some (.int (Int32.ofInt x2)), some (.int (Int32.ofInt x3)), some (.int (Int32.ofInt x4)), some (.int (Int32.ofInt x5)), some (.int (Int32.ofInt (s 3 6)))], [.int (Int32.ofInt 1), .int (Int32.ofInt (s6 3 6)), .ref 3], zw X s6)) rfl ?_
  refine gi_add hM hZ rfl ?_
  obtain ⟨s7, e7⟩ : ∃ q : zS, q = zu s6 3 6 ((s6 3 6) + 1) := ⟨_, rfl⟩
  refine gj_put hM hZ rfl rfl rfl (Nat.le_of_ble_eq_true rfl) rfl rfl zq_3_6 e7 ?_
  replace h := h _ e7
  refine gx_r hM hZ 1 (B := (144, [some (.ref 3), some (.int (Int32.ofInt x1)), some (.int (Int32.ofInt x2)), some (.int (Int32.ofInt x3)), some (.int (Int32.ofInt x4)), some (.int (Int32.ofInt x5)), some (.int (Int32.ofInt (s 3 6)))], [.int (Int32.ofInt (s 3 6))], zw X s7)) rfl ?_
  exact ⟨_, xi_To.rf _ _ _ _, (s 3 6), s7, rfl, h⟩
-- RootLoom$Source.isExpression
def w_26 (X : zX) (x1 : Int) (s : zS) (Q : Int → zS → Prop) : Prop := wW X 26 xm_26 1 (0, [some (.ref 3), some (.int (Int32.ofInt x1))], [], zw X s) Q
def w_26_23 (X : zX) (s : zS) (Q : Int → zS → Prop) : Prop := wW X 26 xm_26 1 (23, [none, none], [], zw X s) Q
theorem w_26_i {X : zX} {x1 : Int} {s : zS} {Q : Int → zS → Prop} (h : (w_27 X x1 s (fun v1 s1 => ((-2147483648 ≤ v1 ∧ v1 ≤ 2147483647) ∧ (v1 = 0 → w_26_23 X s1 Q) ∧ (¬ v1 = 0 → (0 ≤ x1 ∧ x1 < 150) ∧ ((-2147483648 ≤ (s1 10 x1) ∧ (s1 10 x1) ≤ 2147483647) ∧ ((s1 10 x1) = 13 → w_26_23 X s1 Q) ∧ (¬ (s1 10 x1) = 13 → Q 1 s1))))))) : w_26 X x1 s Q := by
  intro hZ d hd
  have hM : xi_ml[26]? = some xm_26 := rfl
  refine gx_r hM hZ 2 (B := (2, [some (.ref 3), some (.int (Int32.ofInt x1))], [.int (Int32.ofInt x1), .ref 3], zw X s)) rfl ?_
  refine gi_call hM (s := s) (hj := 0) hZ rfl rfl (by omega) h ?_
  intro v1 s1 h
  refine gi_if1 hM hZ (fun x => decide (x = 0)) (p := v1 = 0) rfl rfl (zd_eq h.1) ?_ ?_
  · intro hp
    replace h := h.2.1 hp
    exact gx_fg [false, false] (h hZ d hd)
  · intro hp
    replace h := h.2.2 hp
    refine gx_r hM hZ 3 (B := (13, [some (.ref 3), some (.int (Int32.ofInt x1))], [.int (Int32.ofInt x1), .ref 10], zw X s1)) rfl ?_
    refine gi_iald hM hZ (s := s1) (len := 150) rfl rfl (Nat.le_of_ble_eq_true rfl) h.1 ?_
    replace h := h.2
    refine gi_bip hM hZ rfl rfl ?_
    refine gi_if2 hM hZ (fun x y => decide (x = y)) (p := (s1 10 x1) = 13) rfl rfl (zc_eq h.1 (by decide)) ?_ ?_
    · intro hp
      replace h := h.2.1 hp
      exact gx_fg [false, false] (h hZ d hd)
    · intro hp
      replace h := h.2.2 hp
      refine gx_r hM hZ 2 (B := (24, [some (.ref 3), some (.int (Int32.ofInt x1))], [.int (Int32.ofInt 1)], zw X s1)) rfl ?_
      exact ⟨_, xi_To.rf _ _ _ _, 1, s1, rfl, h⟩
theorem w_26_23_i {X : zX} {s : zS} {Q : Int → zS → Prop} (h : Q 0 s) : w_26_23 X s Q := by
  intro hZ d hd
  have hM : xi_ml[26]? = some xm_26 := rfl
  refine gx_r hM hZ 1 (B := (24, [none, none], [.int (Int32.ofInt 0)], zw X s)) rfl ?_
  exact ⟨_, xi_To.rf _ _ _ _, 0, s, rfl, h⟩
-- RootLoom$Source.childOf
def w_30 (X : zX) (x1 x2 : Int) (s : zS) (Q : Int → zS → Prop) : Prop := wW X 30 xm_30 1 (0, [some (.ref 3), some (.int (Int32.ofInt x1)), some (.int (Int32.ofInt x2)), none], [], zw X s) Q
def w_30_25 (X : zX) (x1 x2 : Int) (s : zS) (Q : Int → zS → Prop) : Prop := wW X 30 xm_30 1 (25, [some (.ref 3), some (.int (Int32.ofInt x1)), some (.int (Int32.ofInt x2)), none], [], zw X s) Q
theorem w_30_i {X : zX} {x1 x2 : Int} {s : zS} {Q : Int → zS → Prop} (h : (0 ≤ x1 ∧ x1 < 150) ∧ (0 ≤ (((s 10 x1) * 3) + x2) ∧ (((s 10 x1) * 3) + x2) < 54) ∧ ((-2147483648 ≤ (zP (((s 10 x1) * 3) + x2)) ∧ (zP (((s 10 x1) * 3) + x2)) ≤ 2147483647) ∧ ((zP (((s 10 x1) * 3) + x2)) = 4 → w_30_25 X x1 x2 s Q) ∧ (¬ (zP (((s 10 x1) * 3) + x2)) = 4 → ((-2147483648 ≤ (zP (((s 10 x1) * 3) + x2)) ∧ (zP (((s 10 x1) * 3) + x2)) ≤ 2147483647) ∧ (¬ (zP (((s 10 x1) * 3) + x2)) = 5 → Q (-1) s) ∧ (¬ ¬ (zP (((s 10 x1) * 3) + x2)) = 5 → w_30_25 X x1 x2 s Q))))) : w_30 X x1 x2 s Q := by
  intro hZ d hd
  have hM : xi_ml[30]? = some xm_30 := rfl
  refine gx_r hM hZ 4 (B := (8, [some (.ref 3), some (.int (Int32.ofInt x1)), some (.int (Int32.ofInt x2)), none], [.int (Int32.ofInt x1), .ref 10, .ref 0], zw X s)) rfl ?_
  refine gi_iald hM hZ (s := s) (len := 150) rfl rfl (Nat.le_of_ble_eq_true rfl) h.1 ?_
  replace h := h.2
  refine gx_r hM hZ 1 (B := (10, [some (.ref 3), some (.int (Int32.ofInt x1)), some (.int (Int32.ofInt x2)), none], [.int (Int32.ofInt 3), .int (Int32.ofInt (s 10 x1)), .ref 0], zw X s)) rfl ?_
  refine gi_mul hM hZ rfl ?_
  refine gx_r hM hZ 1 (B := (12, [some (.ref 3), some (.int (Int32.ofInt x1)), some (.int (Int32.ofInt x2)), none], [.int (Int32.ofInt x2), .int (Int32.ofInt ((s 10 x1) * 3)), .ref 0], zw X s)) rfl ?_
  refine gi_add hM hZ rfl ?_
  refine gi_parts hM hZ rfl h.1 ?_
  replace h := h.2
  refine gx_r hM hZ 3 (B := (17, [some (.ref 3), some (.int (Int32.ofInt x1)), some (.int (Int32.ofInt x2)), some (.int (Int32.ofInt (zP (((s 10 x1) * 3) + x2))))], [.int (Int32.ofInt 4), .int (Int32.ofInt (zP (((s 10 x1) * 3) + x2)))], zw X s)) rfl ?_
  refine gi_if2 hM hZ (fun x y => decide (x = y)) (p := (zP (((s 10 x1) * 3) + x2)) = 4) rfl rfl (zc_eq h.1 (by decide)) ?_ ?_
  · intro hp
    replace h := h.2.1 hp
    exact gx_fg [true, true, true, false] (h hZ d hd)
  · intro hp
    replace h := h.2.2 hp
    refine gx_r hM hZ 2 (B := (22, [some (.ref 3), some (.int (Int32.ofInt x1)), some (.int (Int32.ofInt x2)), some (.int (Int32.ofInt (zP (((s 10 x1) * 3) + x2))))], [.int (Int32.ofInt 5), .int (Int32.ofInt (zP (((s 10 x1) * 3) + x2)))], zw X s)) rfl ?_
    refine gi_if2 hM hZ (fun x y => decide (¬ x = y)) (p := ¬ (zP (((s 10 x1) * 3) + x2)) = 5) rfl rfl (zc_ne h.1 (by decide)) ?_ ?_
    · intro hp
      replace h := h.2.1 hp
      refine gx_r hM hZ 1 (B := (35, [some (.ref 3), some (.int (Int32.ofInt x1)), some (.int (Int32.ofInt x2)), some (.int (Int32.ofInt (zP (((s 10 x1) * 3) + x2))))], [.int (Int32.ofInt (-1))], zw X s)) rfl ?_
      exact ⟨_, xi_To.rf _ _ _ _, (-1), s, rfl, h⟩
    · intro hp
      replace h := h.2.2 hp
      exact gx_fg [true, true, true, false] (h hZ d hd)
theorem w_30_25_i {X : zX} {x1 x2 : Int} {s : zS} {Q : Int → zS → Prop} (h : (w_31 X x1 x2 s (fun v1 s1 => Q v1 s1))) : w_30_25 X x1 x2 s Q := by
  intro hZ d hd
  have hM : xi_ml[30]? = some xm_30 := rfl
  refine gx_r hM hZ 3 (B := (28, [some (.ref 3), some (.int (Int32.ofInt x1)), some (.int (Int32.ofInt x2)), none], [.int (Int32.ofInt x2), .int (Int32.ofInt x1), .ref 3], zw X s)) rfl ?_
  refine gi_call hM (s := s) (hj := 0) hZ rfl rfl (by omega) h ?_
  intro v1 s1 h
  refine gx_r hM hZ 1 (B := (35, [some (.ref 3), some (.int (Int32.ofInt x1)), some (.int (Int32.ofInt x2)), none], [.int (Int32.ofInt v1)], zw X s1)) rfl ?_
  exact ⟨_, xi_To.rf _ _ _ _, v1, s1, rfl, h⟩
-- RootLoom$Source.argumentsOf
def w_35 (X : zX) (x1 : Int) (s : zS) (Q : Int → zS → Prop) : Prop := wW X 35 xm_35 1 (0, [some (.ref 3), some (.int (Int32.ofInt x1)), none, none], [], zw X s) Q
def w_35_9 (X : zX) (x2 x3 : Int) (s : zS) (Q : Int → zS → Prop) : Prop := wW X 35 xm_35 1 (9, [some (.ref 3), none, some (.int (Int32.ofInt x2)), some (.int (Int32.ofInt x3))], [], zw X s) Q
def w_35_34 (X : zX) (x2 : Int) (s : zS) (Q : Int → zS → Prop) : Prop := wW X 35 xm_35 1 (34, [none, none, some (.int (Int32.ofInt x2)), none], [], zw X s) Q
theorem w_35_i {X : zX} {x1 : Int} {s : zS} {Q : Int → zS → Prop} (h : (w_31 X x1 1 s (fun v1 s1 => w_35_9 X 0 v1 s1 Q))) : w_35 X x1 s Q := by
  intro hZ d hd
  have hM : xi_ml[35]? = some xm_35 := rfl
  refine gx_r hM hZ 5 (B := (5, [some (.ref 3), some (.int (Int32.ofInt x1)), some (.int (Int32.ofInt 0)), none], [.int (Int32.ofInt 1), .int (Int32.ofInt x1), .ref 3], zw X s)) rfl ?_
  refine gi_call hM (s := s) (hj := 0) hZ rfl rfl (by omega) h ?_
  intro v1 s1 h
  refine gx_r hM hZ 1 (B := (9, [some (.ref 3), some (.int (Int32.ofInt x1)), some (.int (Int32.ofInt 0)), some (.int (Int32.ofInt v1))], [], zw X s1)) rfl ?_
  exact gx_fg [true, false, true, true] (h hZ d hd)
theorem w_35_9_i {X : zX} {x2 x3 : Int} {s : zS} {Q : Int → zS → Prop} (h : ((-2147483648 ≤ x3 ∧ x3 ≤ 2147483647) ∧ (x3 = (-1) → w_35_34 X x2 s Q) ∧ (¬ x3 = (-1) → ((-2147483648 ≤ x2 ∧ x2 ≤ 2147483647) ∧ (150 ≤ x2 → w_35_34 X x2 s Q) ∧ (¬ 150 ≤ x2 → (w_31 X x3 1 s (fun v1 s1 => w_35_9 X (x2 + 1) v1 s1 Q))))))) : w_35_9 X x2 x3 s Q := by
  intro hZ d hd
  have hM : xi_ml[35]? = some xm_35 := rfl
  refine gx_r hM hZ 2 (B := (11, [some (.ref 3), none, some (.int (Int32.ofInt x2)), some (.int (Int32.ofInt x3))], [.int (Int32.ofInt (-1)), .int (Int32.ofInt x3)], zw X s)) rfl ?_
  refine gi_if2 hM hZ (fun x y => decide (x = y)) (p := x3 = (-1)) rfl rfl (zc_eq h.1 (by decide)) ?_ ?_
  · intro hp
    replace h := h.2.1 hp
    exact gx_fg [false, false, true, false] (h hZ d hd)
  · intro hp
    replace h := h.2.2 hp
    refine gx_r hM hZ 1 (B := (15, [some (.ref 3), none, some (.int (Int32.ofInt x2)), some (.int (Int32.ofInt x3))], [.int (Int32.ofInt x2)], zw X s)) rfl ?_
    refine gi_sip hM hZ rfl rfl ?_
    refine gi_if2 hM hZ (fun x y => decide (y ≤ x)) (p := 150 ≤ x2) rfl rfl (zc_ge h.1 (by decide)) ?_ ?_
    · intro hp
      replace h := h.2.1 hp
      exact gx_fg [false, false, true, false] (h hZ d hd)
    · intro hp
      replace h := h.2.2 hp
      refine gi_inc hM hZ (x := x2) (m := 1) rfl rfl ?_
      refine gx_r hM hZ 0 (B := (24, [some (.ref 3), none, some (.int (Int32.ofInt (x2 + 1))), some (.int (Int32.ofInt x3))], [], zw X s)) rfl ?_
      refine gx_r hM hZ 3 (B := (27, [some (.ref 3), none, some (.int (Int32.ofInt (x2 + 1))), some (.int (Int32.ofInt x3))], [.int (Int32.ofInt 1), .int (Int32.ofInt x3), .ref 3], zw X s)) rfl ?_
      refine gi_call hM (s := s) (hj := 0) hZ rfl rfl (by omega) h ?_
      intro v1 s1 h
      refine gx_r hM hZ 2 (B := (9, [some (.ref 3), none, some (.int (Int32.ofInt (x2 + 1))), some (.int (Int32.ofInt v1))], [], zw X s1)) rfl ?_
      exact gx_fg [true, false, true, true] (h hZ d hd)
theorem w_35_34_i {X : zX} {x2 : Int} {s : zS} {Q : Int → zS → Prop} (h : Q x2 s) : w_35_34 X x2 s Q := by
  intro hZ d hd
  have hM : xi_ml[35]? = some xm_35 := rfl
  refine gx_r hM hZ 1 (B := (35, [none, none, some (.int (Int32.ofInt x2)), none], [.int (Int32.ofInt x2)], zw X s)) rfl ?_
  exact ⟨_, xi_To.rf _ _ _ _, x2, s, rfl, h⟩
-- RootLoom$Source.takesOnlyInts
def w_36 (X : zX) (x1 : Int) (s : zS) (Q : Int → zS → Prop) : Prop := wW X 36 xm_36 1 (0, [some (.ref 3), some (.int (Int32.ofInt x1)), none], [], zw X s) Q
def w_36_2 (X : zX) (x1 x2 : Int) (s : zS) (Q : Int → zS → Prop) : Prop := wW X 36 xm_36 1 (2, [some (.ref 3), some (.int (Int32.ofInt x1)), some (.int (Int32.ofInt x2))], [], zw X s) Q
theorem w_36_i {X : zX} {x1 : Int} {s : zS} {Q : Int → zS → Prop} (h : w_36_2 X x1 0 s Q) : w_36 X x1 s Q := by
  intro hZ d hd
  have hM : xi_ml[36]? = some xm_36 := rfl
  refine gx_r hM hZ 2 (B := (2, [some (.ref 3), some (.int (Int32.ofInt x1)), some (.int (Int32.ofInt 0))], [], zw X s)) rfl ?_
  exact gx_fg [true, true, true] (h hZ d hd)
theorem w_36_2_i {X : zX} {x1 x2 : Int} {s : zS} {Q : Int → zS → Prop} (h : (0 ≤ x1 ∧ x1 < 6) ∧ (((-2147483648 ≤ x2 ∧ x2 ≤ 2147483647) ∧ (-2147483648 ≤ (s 7 x1) ∧ (s 7 x1) ≤ 2147483647)) ∧ ((s 7 x1) ≤ x2 → Q 1 s) ∧ (¬ (s 7 x1) ≤ x2 → (w_34 X x1 x2 s (fun v1 s1 => ((-2147483648 ≤ v1 ∧ v1 ≤ 2147483647) ∧ (v1 = 0 → w_36_2 X x1 (x2 + 1) s1 Q) ∧ (¬ v1 = 0 → Q 0 s1))))))) : w_36_2 X x1 x2 s Q := by
  intro hZ d hd
  have hM : xi_ml[36]? = some xm_36 := rfl
  refine gx_r hM hZ 4 (B := (8, [some (.ref 3), some (.int (Int32.ofInt x1)), some (.int (Int32.ofInt x2))], [.int (Int32.ofInt x1), .ref 7, .int (Int32.ofInt x2)], zw X s)) rfl ?_
  refine gi_iald hM hZ (s := s) (len := 6) rfl rfl (Nat.le_of_ble_eq_true rfl) h.1 ?_
  replace h := h.2
  refine gi_if2 hM hZ (fun x y => decide (y ≤ x)) (p := (s 7 x1) ≤ x2) rfl rfl (zc_ge h.1.1 h.1.2) ?_ ?_
  · intro hp
    replace h := h.2.1 hp
    refine gx_r hM hZ 1 (B := (30, [some (.ref 3), some (.int (Int32.ofInt x1)), some (.int (Int32.ofInt x2))], [.int (Int32.ofInt 1)], zw X s)) rfl ?_
    exact ⟨_, xi_To.rf _ _ _ _, 1, s, rfl, h⟩
  · intro hp
    replace h := h.2.2 hp
    refine gx_r hM hZ 3 (B := (15, [some (.ref 3), some (.int (Int32.ofInt x1)), some (.int (Int32.ofInt x2))], [.int (Int32.ofInt x2), .int (Int32.ofInt x1), .ref 3], zw X s)) rfl ?_
    refine gi_call hM (s := s) (hj := 0) hZ rfl rfl (by omega) h ?_
    intro v1 s1 h
    refine gi_if1 hM hZ (fun x => decide (x = 0)) (p := v1 = 0) rfl rfl (zd_eq h.1) ?_ ?_
    · intro hp
      replace h := h.2.1 hp
      refine gi_inc hM hZ (x := x2) (m := 1) rfl rfl ?_
      refine gx_r hM hZ 0 (B := (26, [some (.ref 3), some (.int (Int32.ofInt x1)), some (.int (Int32.ofInt (x2 + 1)))], [], zw X s1)) rfl ?_
      refine gx_r hM hZ 1 (B := (2, [some (.ref 3), some (.int (Int32.ofInt x1)), some (.int (Int32.ofInt (x2 + 1)))], [], zw X s1)) rfl ?_
      exact gx_fg [true, true, true] (h hZ d hd)
    · intro hp
      replace h := h.2.2 hp
      refine gx_r hM hZ 1 (B := (22, [some (.ref 3), some (.int (Int32.ofInt x1)), some (.int (Int32.ofInt x2))], [.int (Int32.ofInt 0)], zw X s1)) rfl ?_
      exact ⟨_, xi_To.rf _ _ _ _, 0, s1, rfl, h⟩
-- RootLoom$Weaver.weaveLoad
def w_50 (X : zX) (x1 : Int) (s : zS) (Q : Int → zS → Prop) : Prop := wW X 50 xm_50 1 (0, [some (.ref 22), some (.int (Int32.ofInt x1)), none, none], [], zw X s) Q
def w_50_18 (X : zX) (x1 x2 t1 : Int) (s : zS) (Q : Int → zS → Prop) : Prop := wW X 50 xm_50 1 (18, [some (.ref 22), some (.int (Int32.ofInt x1)), some (.int (Int32.ofInt x2)), none], [.int (Int32.ofInt t1), .ref 22], zw X s) Q
def w_50_47 (X : zX) (x2 t1 t2 : Int) (s : zS) (Q : Int → zS → Prop) : Prop := wW X 50 xm_50 1 (47, [some (.ref 22), none, some (.int (Int32.ofInt x2)), none], [.int (Int32.ofInt t2), .int (Int32.ofInt t1), .ref 29], zw X s) Q
theorem w_50_i {X : zX} {x1 : Int} {s : zS} {Q : Int → zS → Prop} (h : (0 ≤ x1 ∧ x1 < 8) ∧ ((-2147483648 ≤ (s 28 x1) ∧ (s 28 x1) ≤ 2147483647) ∧ ((s 28 x1) = (-1) → w_50_18 X x1 (s 28 x1) 0 s Q) ∧ (¬ (s 28 x1) = (-1) → w_50_18 X x1 (s 28 x1) 1 s Q))) : w_50 X x1 s Q := by
  intro hZ d hd
  have hM : xi_ml[50]? = some xm_50 := rfl
  refine gx_r hM hZ 3 (B := (5, [some (.ref 22), some (.int (Int32.ofInt x1)), none, none], [.int (Int32.ofInt x1), .ref 28], zw X s)) rfl ?_
  refine gi_iald hM hZ (s := s) (len := 8) rfl rfl (Nat.le_of_ble_eq_true rfl) h.1 ?_
  replace h := h.2
  refine gx_r hM hZ 4 (B := (10, [some (.ref 22), some (.int (Int32.ofInt x1)), some (.int (Int32.ofInt (s 28 x1))), none], [.int (Int32.ofInt (-1)), .int (Int32.ofInt (s 28 x1)), .ref 22], zw X s)) rfl ?_
  refine gi_if2 hM hZ (fun x y => decide (x = y)) (p := (s 28 x1) = (-1)) rfl rfl (zc_eq h.1 (by decide)) ?_ ?_
  · intro hp
    replace h := h.2.1 hp
    refine gx_r hM hZ 1 (B := (18, [some (.ref 22), some (.int (Int32.ofInt x1)), some (.int (Int32.ofInt (s 28 x1))), none], [.int (Int32.ofInt 0), .ref 22], zw X s)) rfl ?_
    exact gx_fg [true, true, true, false] (h hZ d hd)
  · intro hp
    replace h := h.2.2 hp
    refine gx_r hM hZ 2 (B := (18, [some (.ref 22), some (.int (Int32.ofInt x1)), some (.int (Int32.ofInt (s 28 x1))), none], [.int (Int32.ofInt 1), .ref 22], zw X s)) rfl ?_
    exact gx_fg [true, true, true, false] (h hZ d hd)
theorem w_50_18_i {X : zX} {x1 x2 t1 : Int} {s : zS} {Q : Int → zS → Prop} (h : (w_51 X t1 s (fun _ s1 => (w_39 X 2 x1 s1 (fun v2 s2 => ((-2147483648 ≤ x2 ∧ x2 ≤ 2147483647) ∧ (x2 ≤ 0 → w_50_47 X x2 v2 0 s2 Q) ∧ (¬ x2 ≤ 0 → w_50_47 X x2 v2 (zL 1 x1) s2 Q))))))) : w_50_18 X x1 x2 t1 s Q := by
  intro hZ d hd
  have hM : xi_ml[50]? = some xm_50 := rfl
  refine gi_call hM (s := s) (hj := 0) hZ rfl rfl (by omega) h ?_
  intro _ s1 h
  refine gx_r hM hZ 4 (B := (27, [some (.ref 22), some (.int (Int32.ofInt x1)), some (.int (Int32.ofInt x2)), none], [.int (Int32.ofInt x1), .int (Int32.ofInt 2), .ref 14], zw X s1)) rfl ?_
  refine gi_call hM (s := s1) (hj := 0) hZ rfl rfl (by omega) h ?_
  intro v2 s2 h
  refine gx_r hM hZ 5 (B := (37, [some (.ref 22), some (.int (Int32.ofInt x1)), some (.int (Int32.ofInt x2)), some (.int (Int32.ofInt v2))], [.int (Int32.ofInt x2), .int (Int32.ofInt v2), .ref 29], zw X s2)) rfl ?_
  refine gi_if1 hM hZ (fun x => decide (x ≤ 0)) (p := x2 ≤ 0) rfl rfl (zd_le h.1) ?_ ?_
  · intro hp
    replace h := h.2.1 hp
    refine gx_r hM hZ 1 (B := (47, [some (.ref 22), some (.int (Int32.ofInt x1)), some (.int (Int32.ofInt x2)), some (.int (Int32.ofInt v2))], [.int (Int32.ofInt 0), .int (Int32.ofInt v2), .ref 29], zw X s2)) rfl ?_
    exact gx_fg [true, false, true, false] (h hZ d hd)
  · intro hp
    replace h := h.2.2 hp
    refine gx_r hM hZ 2 (B := (42, [some (.ref 22), some (.int (Int32.ofInt x1)), some (.int (Int32.ofInt x2)), some (.int (Int32.ofInt v2))], [.int (Int32.ofInt x1), .int (Int32.ofInt 1), .int (Int32.ofInt v2), .ref 29], zw X s2)) rfl ?_
    refine gi_shl hM hZ rfl ?_
    refine gx_r hM hZ 1 (B := (47, [some (.ref 22), some (.int (Int32.ofInt x1)), some (.int (Int32.ofInt x2)), some (.int (Int32.ofInt v2))], [.int (Int32.ofInt (zL 1 x1)), .int (Int32.ofInt v2), .ref 29], zw X s2)) rfl ?_
    exact gx_fg [true, false, true, false] (h hZ d hd)
theorem w_50_47_i {X : zX} {x2 t1 t2 : Int} {s : zS} {Q : Int → zS → Prop} (h : (0 ≤ t1 ∧ t1 < 400) ∧ (∀ s1 : zS, s1 = zu s 29 t1 t2 → (w_49 X x2 s1 (fun _ s2 => Q 0 s2)))) : w_50_47 X x2 t1 t2 s Q := by
  intro hZ d hd
  have hM : xi_ml[50]? = some xm_50 := rfl
  obtain ⟨s1, e1⟩ : ∃ q : zS, q = zu s 29 t1 t2 := ⟨_, rfl⟩
  refine gj_iast hM hZ (len := 400) rfl rfl (Nat.le_of_ble_eq_true rfl) zp_29 h.1 e1 ?_
  replace h := h.2 _ e1
  refine gx_r hM hZ 2 (B := (50, [some (.ref 22), none, some (.int (Int32.ofInt x2)), none], [.int (Int32.ofInt x2), .ref 22], zw X s1)) rfl ?_
  refine gi_call hM (s := s1) (hj := 0) hZ rfl rfl (by omega) h ?_
  intro _ s2 h
  exact ⟨_, xi_To.rf _ _ _ _, 0, s2, rfl, h⟩
-- RootLoom$Weaver.takeInt
def w_53 (X : zX) (s : zS) (Q : Int → zS → Prop) : Prop := wW X 53 xm_53 1 (0, [some (.ref 22)], [], zw X s) Q
def w_53_13 (X : zX) (t1 : Int) (s : zS) (Q : Int → zS → Prop) : Prop := wW X 53 xm_53 1 (13, [none], [.int (Int32.ofInt t1), .ref 22], zw X s) Q
theorem w_53_i {X : zX} {s : zS} {Q : Int → zS → Prop} (h : (w_54 X s (fun v1 s1 => ((-2147483648 ≤ v1 ∧ v1 ≤ 2147483647) ∧ (¬ v1 = 0 → w_53_13 X 0 s1 Q) ∧ (¬ ¬ v1 = 0 → w_53_13 X 1 s1 Q))))) : w_53 X s Q := by
  intro hZ d hd
  have hM : xi_ml[53]? = some xm_53 := rfl
  refine gx_r hM hZ 2 (B := (2, [some (.ref 22)], [.ref 22, .ref 22], zw X s)) rfl ?_
  refine gi_call hM (s := s) (hj := 0) hZ rfl rfl (by omega) h ?_
  intro v1 s1 h
  refine gi_if1 hM hZ (fun x => decide (¬ x = 0)) (p := ¬ v1 = 0) rfl rfl (zd_ne h.1) ?_ ?_
  · intro hp
    replace h := h.2.1 hp
    refine gx_r hM hZ 1 (B := (13, [some (.ref 22)], [.int (Int32.ofInt 0), .ref 22], zw X s1)) rfl ?_
    exact gx_fg [false] (h hZ d hd)
  · intro hp
    replace h := h.2.2 hp
    refine gx_r hM hZ 2 (B := (13, [some (.ref 22)], [.int (Int32.ofInt 1), .ref 22], zw X s1)) rfl ?_
    exact gx_fg [false] (h hZ d hd)
theorem w_53_13_i {X : zX} {t1 : Int} {s : zS} {Q : Int → zS → Prop} (h : (w_51 X t1 s (fun _ s1 => Q 0 s1))) : w_53_13 X t1 s Q := by
  intro hZ d hd
  have hM : xi_ml[53]? = some xm_53 := rfl
  refine gi_call hM (s := s) (hj := 0) hZ rfl rfl (by omega) h ?_
  intro _ s1 h
  exact ⟨_, xi_To.rf _ _ _ _, 0, s1, rfl, h⟩
-- RootLoom$Weaver.addMapped
def w_56 (X : zX) (x1 x2 : Int) (s : zS) (Q : Int → zS → Prop) : Prop := wW X 56 xm_56 1 (0, [some (.ref 22), some (.int (Int32.ofInt x1)), some (.int (Int32.ofInt x2)), none, none, none], [], zw X s) Q
def w_56_16 (X : zX) (x3 x4 x5 : Int) (s : zS) (Q : Int → zS → Prop) : Prop := wW X 56 xm_56 1 (16, [some (.ref 22), none, none, some (.int (Int32.ofInt x3)), some (.int (Int32.ofInt x4)), some (.int (Int32.ofInt x5))], [], zw X s) Q
def w_56_44 (X : zX) (x3 x4 x5 : Int) (s : zS) (Q : Int → zS → Prop) : Prop := wW X 56 xm_56 1 (44, [some (.ref 22), none, none, some (.int (Int32.ofInt x3)), some (.int (Int32.ofInt x4)), some (.int (Int32.ofInt x5))], [], zw X s) Q
theorem w_56_i {X : zX} {x1 x2 : Int} {s : zS} {Q : Int → zS → Prop} (h : (w_39 X x1 x2 s (fun v1 s1 => w_56_16 X v1 0 0 s1 Q))) : w_56 X x1 x2 s Q := by
  intro hZ d hd
  have hM : xi_ml[56]? = some xm_56 := rfl
  refine gx_r hM hZ 4 (B := (6, [some (.ref 22), some (.int (Int32.ofInt x1)), some (.int (Int32.ofInt x2)), none, none, none], [.int (Int32.ofInt x2), .int (Int32.ofInt x1), .ref 14], zw X s)) rfl ?_
  refine gi_call hM (s := s) (hj := 0) hZ rfl rfl (by omega) h ?_
  intro v1 s1 h
  refine gx_r hM hZ 5 (B := (16, [some (.ref 22), some (.int (Int32.ofInt x1)), some (.int (Int32.ofInt x2)), some (.int (Int32.ofInt v1)), some (.int (Int32.ofInt 0)), some (.int (Int32.ofInt 0))], [], zw X s1)) rfl ?_
  exact gx_fg [true, false, false, true, true, true] (h hZ d hd)
theorem w_56_16_i {X : zX} {x3 x4 x5 : Int} {s : zS} {Q : Int → zS → Prop} (h : (((-2147483648 ≤ x5 ∧ x5 ≤ 2147483647) ∧ (-2147483648 ≤ (s 22 8) ∧ (s 22 8) ≤ 2147483647)) ∧ ((s 22 8) ≤ x5 → (0 ≤ x3 ∧ x3 < 400) ∧ (∀ s1 : zS, s1 = zu s 18 x3 x4 → (∀ s2 : zS, s2 = zu s1 14 2 ((s1 14 2) + 1) → Q 0 s2))) ∧ (¬ (s 22 8) ≤ x5 → (0 ≤ x5 ∧ x5 < 16) ∧ ((-2147483648 ≤ (s 27 x5) ∧ (s 27 x5) ≤ 2147483647) ∧ ((s 27 x5) ≤ 0 → w_56_44 X x3 x4 x5 s Q) ∧ (¬ (s 27 x5) ≤ 0 → w_56_44 X x3 (zO x4 (zL 1 x5)) x5 s Q))))) : w_56_16 X x3 x4 x5 s Q := by
  intro hZ d hd
  have hM : xi_ml[56]? = some xm_56 := rfl
  refine gx_r hM hZ 3 (B := (22, [some (.ref 22), none, none, some (.int (Int32.ofInt x3)), some (.int (Int32.ofInt x4)), some (.int (Int32.ofInt x5))], [.int (Int32.ofInt (s 22 8)), .int (Int32.ofInt x5)], zw X s)) rfl ?_
  refine gi_if2 hM hZ (fun x y => decide (y ≤ x)) (p := (s 22 8) ≤ x5) rfl rfl (zc_ge h.1.1 h.1.2) ?_ ?_
  · intro hp
    replace h := h.2.1 hp
    refine gx_r hM hZ 5 (B := (60, [some (.ref 22), none, none, some (.int (Int32.ofInt x3)), some (.int (Int32.ofInt x4)), some (.int (Int32.ofInt x5))], [.int (Int32.ofInt x4), .int (Int32.ofInt x3), .ref 18], zw X s)) rfl ?_
    obtain ⟨s1, e1⟩ : ∃ q : zS, q = zu s 18 x3 x4 := ⟨_, rfl⟩
    refine gj_iast hM hZ (len := 400) rfl rfl (Nat.le_of_ble_eq_true rfl) zp_18 h.1 e1 ?_
    replace h := h.2 _ e1
    refine gx_r hM hZ 5 (B := (70, [some (.ref 22), none, none, some (.int (Int32.ofInt x3)), some (.int (Int32.ofInt x4)), some (.int (Int32.ofInt x5))], [.int (Int32.ofInt 1), .int (Int32.ofInt (s1 14 2)), .ref 14], zw X s1)) rfl ?_
    refine gi_add hM hZ rfl ?_
    obtain ⟨s2, e2⟩ : ∃ q : zS, q = zu s1 14 2 ((s1 14 2) + 1) := ⟨_, rfl⟩
    refine gj_put hM hZ rfl rfl rfl (Nat.le_of_ble_eq_true rfl) rfl rfl zq_14_2 e2 ?_
    replace h := h _ e2
    exact ⟨_, xi_To.rf _ _ _ _, 0, s2, rfl, h⟩
  · intro hp
    replace h := h.2.2 hp
    refine gx_r hM hZ 3 (B := (31, [some (.ref 22), none, none, some (.int (Int32.ofInt x3)), some (.int (Int32.ofInt x4)), some (.int (Int32.ofInt x5))], [.int (Int32.ofInt x5), .ref 27], zw X s)) rfl ?_
    refine gi_iald hM hZ (s := s) (len := 16) rfl rfl (Nat.le_of_ble_eq_true rfl) h.1 ?_
    replace h := h.2
    refine gi_if1 hM hZ (fun x => decide (x ≤ 0)) (p := (s 27 x5) ≤ 0) rfl rfl (zd_le h.1) ?_ ?_
    · intro hp
      replace h := h.2.1 hp
      exact gx_fg [true, false, false, true, true, true] (h hZ d hd)
    · intro hp
      replace h := h.2.2 hp
      refine gx_r hM hZ 3 (B := (40, [some (.ref 22), none, none, some (.int (Int32.ofInt x3)), some (.int (Int32.ofInt x4)), some (.int (Int32.ofInt x5))], [.int (Int32.ofInt x5), .int (Int32.ofInt 1), .int (Int32.ofInt x4)], zw X s)) rfl ?_
      refine gi_shl hM hZ rfl ?_
      refine gi_or hM hZ rfl ?_
      refine gx_r hM hZ 1 (B := (44, [some (.ref 22), none, none, some (.int (Int32.ofInt x3)), some (.int (Int32.ofInt (zO x4 (zL 1 x5)))), some (.int (Int32.ofInt x5))], [], zw X s)) rfl ?_
      exact gx_fg [true, false, false, true, true, true] (h hZ d hd)
theorem w_56_44_i {X : zX} {x3 x4 x5 : Int} {s : zS} {Q : Int → zS → Prop} (h : w_56_16 X x3 x4 (x5 + 1) s Q) : w_56_44 X x3 x4 x5 s Q := by
  intro hZ d hd
  have hM : xi_ml[56]? = some xm_56 := rfl
  refine gi_inc hM hZ (x := x5) (m := 1) rfl rfl ?_
  refine gx_r hM hZ 0 (B := (47, [some (.ref 22), none, none, some (.int (Int32.ofInt x3)), some (.int (Int32.ofInt x4)), some (.int (Int32.ofInt (x5 + 1)))], [], zw X s)) rfl ?_
  refine gx_r hM hZ 1 (B := (16, [some (.ref 22), none, none, some (.int (Int32.ofInt x3)), some (.int (Int32.ofInt x4)), some (.int (Int32.ofInt (x5 + 1)))], [], zw X s)) rfl ?_
  exact gx_fg [true, false, false, true, true, true] (h hZ d hd)
-- RootLoom$Weaver.takePairType
def w_57 (X : zX) (s : zS) (Q : Int → zS → Prop) : Prop := wW X 57 xm_57 1 (0, [some (.ref 22), none], [], zw X s) Q
def w_57_15 (X : zX) (x1 t1 : Int) (s : zS) (Q : Int → zS → Prop) : Prop := wW X 57 xm_57 1 (15, [none, some (.int (Int32.ofInt x1))], [.int (Int32.ofInt t1), .ref 22], zw X s) Q
theorem w_57_i {X : zX} {s : zS} {Q : Int → zS → Prop} (h : (w_54 X s (fun v1 s1 => ((-2147483648 ≤ v1 ∧ v1 ≤ 2147483647) ∧ (v1 ≤ 0 → w_57_15 X v1 0 s1 Q) ∧ (¬ v1 ≤ 0 → w_57_15 X v1 1 s1 Q))))) : w_57 X s Q := by
  intro hZ d hd
  have hM : xi_ml[57]? = some xm_57 := rfl
  refine gx_r hM hZ 1 (B := (1, [some (.ref 22), none], [.ref 22], zw X s)) rfl ?_
  refine gi_call hM (s := s) (hj := 0) hZ rfl rfl (by omega) h ?_
  intro v1 s1 h
  refine gx_r hM hZ 3 (B := (7, [some (.ref 22), some (.int (Int32.ofInt v1))], [.int (Int32.ofInt v1), .ref 22], zw X s1)) rfl ?_
  refine gi_if1 hM hZ (fun x => decide (x ≤ 0)) (p := v1 ≤ 0) rfl rfl (zd_le h.1) ?_ ?_
  · intro hp
    replace h := h.2.1 hp
    refine gx_r hM hZ 1 (B := (15, [some (.ref 22), some (.int (Int32.ofInt v1))], [.int (Int32.ofInt 0), .ref 22], zw X s1)) rfl ?_
    exact gx_fg [false, true] (h hZ d hd)
  · intro hp
    replace h := h.2.2 hp
    refine gx_r hM hZ 2 (B := (15, [some (.ref 22), some (.int (Int32.ofInt v1))], [.int (Int32.ofInt 1), .ref 22], zw X s1)) rfl ?_
    exact gx_fg [false, true] (h hZ d hd)
theorem w_57_15_i {X : zX} {x1 t1 : Int} {s : zS} {Q : Int → zS → Prop} (h : (w_51 X t1 s (fun _ s1 => ((-2147483648 ≤ x1 ∧ x1 ≤ 2147483647) ∧ (x1 ≤ 0 → Q 0 s1) ∧ (¬ x1 ≤ 0 → Q x1 s1))))) : w_57_15 X x1 t1 s Q := by
  intro hZ d hd
  have hM : xi_ml[57]? = some xm_57 := rfl
  refine gi_call hM (s := s) (hj := 0) hZ rfl rfl (by omega) h ?_
  intro _ s1 h
  refine gx_r hM hZ 1 (B := (19, [none, some (.int (Int32.ofInt x1))], [.int (Int32.ofInt x1)], zw X s1)) rfl ?_
  refine gi_if1 hM hZ (fun x => decide (x ≤ 0)) (p := x1 ≤ 0) rfl rfl (zd_le h.1) ?_ ?_
  · intro hp
    replace h := h.2.1 hp
    refine gx_r hM hZ 1 (B := (27, [none, some (.int (Int32.ofInt x1))], [.int (Int32.ofInt 0)], zw X s1)) rfl ?_
    exact ⟨_, xi_To.rf _ _ _ _, 0, s1, rfl, h⟩
  · intro hp
    replace h := h.2.2 hp
    refine gx_r hM hZ 2 (B := (27, [none, some (.int (Int32.ofInt x1))], [.int (Int32.ofInt x1)], zw X s1)) rfl ?_
    exact ⟨_, xi_To.rf _ _ _ _, x1, s1, rfl, h⟩
-- RootLoom$Weaver.joinWays
def w_58 (X : zX) (x1 : Int) (s : zS) (Q : Int → zS → Prop) : Prop := wW X 58 xm_58 1 (0, [some (.ref 22), some (.int (Int32.ofInt x1))], [], zw X s) Q
def w_58_19 (X : zX) (x1 t1 : Int) (s : zS) (Q : Int → zS → Prop) : Prop := wW X 58 xm_58 1 (19, [some (.ref 22), some (.int (Int32.ofInt x1))], [.int (Int32.ofInt t1), .ref 22], zw X s) Q
theorem w_58_i {X : zX} {x1 : Int} {s : zS} {Q : Int → zS → Prop} (h : (w_54 X s (fun v1 s1 => (0 ≤ x1 ∧ x1 < 150) ∧ (((-2147483648 ≤ v1 ∧ v1 ≤ 2147483647) ∧ (-2147483648 ≤ (s1 26 x1) ∧ (s1 26 x1) ≤ 2147483647)) ∧ (¬ v1 = (s1 26 x1) → w_58_19 X x1 0 s1 Q) ∧ (¬ ¬ v1 = (s1 26 x1) → w_58_19 X x1 1 s1 Q))))) : w_58 X x1 s Q := by
  intro hZ d hd
  have hM : xi_ml[58]? = some xm_58 := rfl
  refine gx_r hM hZ 2 (B := (2, [some (.ref 22), some (.int (Int32.ofInt x1))], [.ref 22, .ref 22], zw X s)) rfl ?_
  refine gi_call hM (s := s) (hj := 0) hZ rfl rfl (by omega) h ?_
  intro v1 s1 h
  refine gx_r hM hZ 3 (B := (10, [some (.ref 22), some (.int (Int32.ofInt x1))], [.int (Int32.ofInt x1), .ref 26, .int (Int32.ofInt v1), .ref 22], zw X s1)) rfl ?_
  refine gi_iald hM hZ (s := s1) (len := 150) rfl rfl (Nat.le_of_ble_eq_true rfl) h.1 ?_
  replace h := h.2
  refine gi_if2 hM hZ (fun x y => decide (¬ x = y)) (p := ¬ v1 = (s1 26 x1)) rfl rfl (zc_ne h.1.1 h.1.2) ?_ ?_
  · intro hp
    replace h := h.2.1 hp
    refine gx_r hM hZ 1 (B := (19, [some (.ref 22), some (.int (Int32.ofInt x1))], [.int (Int32.ofInt 0), .ref 22], zw X s1)) rfl ?_
    exact gx_fg [true, true] (h hZ d hd)
  · intro hp
    replace h := h.2.2 hp
    refine gx_r hM hZ 2 (B := (19, [some (.ref 22), some (.int (Int32.ofInt x1))], [.int (Int32.ofInt 1), .ref 22], zw X s1)) rfl ?_
    exact gx_fg [true, true] (h hZ d hd)
theorem w_58_19_i {X : zX} {x1 t1 : Int} {s : zS} {Q : Int → zS → Prop} (h : (w_51 X t1 s (fun _ s1 => (0 ≤ x1 ∧ x1 < 150) ∧ (0 ≤ (s1 25 x1) ∧ (s1 25 x1) < 400) ∧ (∀ s2 : zS, s2 = zu s1 16 (s1 25 x1) (s1 14 1) → (0 ≤ x1 ∧ x1 < 150) ∧ (w_49 X (s2 26 x1) s2 (fun _ s3 => Q 0 s3)))))) : w_58_19 X x1 t1 s Q := by
  intro hZ d hd
  have hM : xi_ml[58]? = some xm_58 := rfl
  refine gi_call hM (s := s) (hj := 0) hZ rfl rfl (by omega) h ?_
  intro _ s1 h
  refine gx_r hM hZ 6 (B := (34, [some (.ref 22), some (.int (Int32.ofInt x1))], [.int (Int32.ofInt x1), .ref 25, .ref 16], zw X s1)) rfl ?_
  refine gi_iald hM hZ (s := s1) (len := 150) rfl rfl (Nat.le_of_ble_eq_true rfl) h.1 ?_
  replace h := h.2
  refine gx_r hM hZ 3 (B := (42, [some (.ref 22), some (.int (Int32.ofInt x1))], [.int (Int32.ofInt (s1 14 1)), .int (Int32.ofInt (s1 25 x1)), .ref 16], zw X s1)) rfl ?_
  obtain ⟨s2, e2⟩ : ∃ q : zS, q = zu s1 16 (s1 25 x1) (s1 14 1) := ⟨_, rfl⟩
  refine gj_iast hM hZ (len := 400) rfl rfl (Nat.le_of_ble_eq_true rfl) zp_16 h.1 e2 ?_
  replace h := h.2 _ e2
  refine gx_r hM hZ 4 (B := (49, [some (.ref 22), some (.int (Int32.ofInt x1))], [.int (Int32.ofInt x1), .ref 26, .ref 22], zw X s2)) rfl ?_
  refine gi_iald hM hZ (s := s2) (len := 150) rfl rfl (Nat.le_of_ble_eq_true rfl) h.1 ?_
  replace h := h.2
  refine gi_call hM (s := s2) (hj := 0) hZ rfl rfl (by omega) h ?_
  intro _ s3 h
  exact ⟨_, xi_To.rf _ _ _ _, 0, s3, rfl, h⟩
-- RootLoom$Weaver.weaveStore
def w_63 (X : zX) (x1 : Int) (s : zS) (Q : Int → zS → Prop) : Prop := wW X 63 xm_63 1 (0, [some (.ref 22), some (.int (Int32.ofInt x1))], [], zw X s) Q
def w_63_16 (X : zX) (x1 t1 : Int) (s : zS) (Q : Int → zS → Prop) : Prop := wW X 63 xm_63 1 (16, [some (.ref 22), some (.int (Int32.ofInt x1))], [.int (Int32.ofInt t1), .ref 22], zw X s) Q
theorem w_63_i {X : zX} {x1 : Int} {s : zS} {Q : Int → zS → Prop} (h : (0 ≤ x1 ∧ x1 < 8) ∧ ((-2147483648 ≤ (s 28 x1) ∧ (s 28 x1) ≤ 2147483647) ∧ (¬ (s 28 x1) = (-1) → w_63_16 X x1 0 s Q) ∧ (¬ ¬ (s 28 x1) = (-1) → w_63_16 X x1 1 s Q))) : w_63 X x1 s Q := by
  intro hZ d hd
  have hM : xi_ml[63]? = some xm_63 := rfl
  refine gx_r hM hZ 4 (B := (6, [some (.ref 22), some (.int (Int32.ofInt x1))], [.int (Int32.ofInt x1), .ref 28, .ref 22], zw X s)) rfl ?_
  refine gi_iald hM hZ (s := s) (len := 8) rfl rfl (Nat.le_of_ble_eq_true rfl) h.1 ?_
  replace h := h.2
  refine gx_r hM hZ 1 (B := (8, [some (.ref 22), some (.int (Int32.ofInt x1))], [.int (Int32.ofInt (-1)), .int (Int32.ofInt (s 28 x1)), .ref 22], zw X s)) rfl ?_
  refine gi_if2 hM hZ (fun x y => decide (¬ x = y)) (p := ¬ (s 28 x1) = (-1)) rfl rfl (zc_ne h.1 (by decide)) ?_ ?_
  · intro hp
    replace h := h.2.1 hp
    refine gx_r hM hZ 1 (B := (16, [some (.ref 22), some (.int (Int32.ofInt x1))], [.int (Int32.ofInt 0), .ref 22], zw X s)) rfl ?_
    exact gx_fg [true, true] (h hZ d hd)
  · intro hp
    replace h := h.2.2 hp
    refine gx_r hM hZ 2 (B := (16, [some (.ref 22), some (.int (Int32.ofInt x1))], [.int (Int32.ofInt 1), .ref 22], zw X s)) rfl ?_
    exact gx_fg [true, true] (h hZ d hd)
theorem w_63_16_i {X : zX} {x1 t1 : Int} {s : zS} {Q : Int → zS → Prop} (h : (w_51 X t1 s (fun _ s1 => (w_39 X 12 x1 s1 (fun v2 s2 => (w_54 X s2 (fun v3 s3 => (0 ≤ x1 ∧ x1 < 8) ∧ (∀ s4 : zS, s4 = zu s3 28 x1 v3 → Q 0 s4)))))))) : w_63_16 X x1 t1 s Q := by
  intro hZ d hd
  have hM : xi_ml[63]? = some xm_63 := rfl
  refine gi_call hM (s := s) (hj := 0) hZ rfl rfl (by omega) h ?_
  intro _ s1 h
  refine gx_r hM hZ 2 (B := (23, [some (.ref 22), some (.int (Int32.ofInt x1))], [.ref 14], zw X s1)) rfl ?_
  refine gi_bip hM hZ rfl rfl ?_
  refine gx_r hM hZ 1 (B := (26, [some (.ref 22), some (.int (Int32.ofInt x1))], [.int (Int32.ofInt x1), .int (Int32.ofInt 12), .ref 14], zw X s1)) rfl ?_
  refine gi_call hM (s := s1) (hj := 0) hZ rfl rfl (by omega) h ?_
  intro v2 s2 h
  refine gx_r hM hZ 5 (B := (36, [some (.ref 22), some (.int (Int32.ofInt x1))], [.ref 22, .int (Int32.ofInt x1), .ref 28], zw X s2)) rfl ?_
  refine gi_call hM (s := s2) (hj := 0) hZ rfl rfl (by omega) h ?_
  intro v3 s3 h
  obtain ⟨s4, e4⟩ : ∃ q : zS, q = zu s3 28 x1 v3 := ⟨_, rfl⟩
  refine gj_iast hM hZ (len := 8) rfl rfl (Nat.le_of_ble_eq_true rfl) zp_28 h.1 e4 ?_
  replace h := h.2 _ e4
  exact ⟨_, xi_To.rf _ _ _ _, 0, s4, rfl, h⟩
-- RootLoom$Weaver.findWhatMatters
def w_64 (X : zX) (s : zS) (Q : Int → zS → Prop) : Prop := wW X 64 xm_64 1 (0, [some (.ref 22), none, none], [], zw X s) Q
def w_64_23 (X : zX) (x1 : Int) (s : zS) (Q : Int → zS → Prop) : Prop := wW X 64 xm_64 1 (23, [some (.ref 22), some (.int (Int32.ofInt x1)), none], [], zw X s) Q
def w_64_54 (X : zX) (x1 x2 : Int) (s : zS) (Q : Int → zS → Prop) : Prop := wW X 64 xm_64 1 (54, [some (.ref 22), some (.int (Int32.ofInt x1)), some (.int (Int32.ofInt x2))], [], zw X s) Q
def w_64_84 (X : zX) (x1 x2 : Int) (s : zS) (Q : Int → zS → Prop) : Prop := wW X 64 xm_64 1 (84, [some (.ref 22), some (.int (Int32.ofInt x1)), some (.int (Int32.ofInt x2))], [], zw X s) Q
def w_64_106 (X : zX) (x1 x2 : Int) (s : zS) (Q : Int → zS → Prop) : Prop := wW X 64 xm_64 1 (106, [some (.ref 22), some (.int (Int32.ofInt x1)), some (.int (Int32.ofInt x2))], [], zw X s) Q
theorem w_64_i {X : zX} {s : zS} {Q : Int → zS → Prop} (h : (0 ≤ (s 14 1) ∧ (s 14 1) < 401) ∧ (∀ s1 : zS, s1 = zu s 30 (s 14 1) 0 → w_64_23 X ((s1 14 1) - 1) s1 Q)) : w_64 X s Q := by
  intro hZ d hd
  have hM : xi_ml[64]? = some xm_64 := rfl
  refine gx_r hM hZ 6 (B := (12, [some (.ref 22), none, none], [.int (Int32.ofInt 0), .int (Int32.ofInt (s 14 1)), .ref 30], zw X s)) rfl ?_
  obtain ⟨s1, e1⟩ : ∃ q : zS, q = zu s 30 (s 14 1) 0 := ⟨_, rfl⟩
  refine gj_iast hM hZ (len := 401) rfl rfl (Nat.le_of_ble_eq_true rfl) zp_30 h.1 e1 ?_
  replace h := h.2 _ e1
  refine gx_r hM hZ 4 (B := (21, [some (.ref 22), none, none], [.int (Int32.ofInt 1), .int (Int32.ofInt (s1 14 1))], zw X s1)) rfl ?_
  refine gi_sub hM hZ rfl ?_
  refine gx_r hM hZ 1 (B := (23, [some (.ref 22), some (.int (Int32.ofInt ((s1 14 1) - 1))), none], [], zw X s1)) rfl ?_
  exact gx_fg [true, true, false] (h hZ d hd)
theorem w_64_23_i {X : zX} {x1 : Int} {s : zS} {Q : Int → zS → Prop} (h : ((-2147483648 ≤ x1 ∧ x1 ≤ 2147483647) ∧ (x1 < 0 → Q 0 s) ∧ (¬ x1 < 0 → (w_65 X x1 s (fun v1 s1 => (w_40 X x1 s1 (fun v2 s2 => ((-2147483648 ≤ v2 ∧ v2 ≤ 2147483647) ∧ (v2 = 0 → w_64_54 X x1 v1 s2 Q) ∧ (¬ v2 = 0 → (0 ≤ x1 ∧ x1 < 400) ∧ (∀ s3 : zS, s3 = zu s2 17 x1 v1 → w_64_54 X x1 v1 s3 Q)))))))))) : w_64_23 X x1 s Q := by
  intro hZ d hd
  have hM : xi_ml[64]? = some xm_64 := rfl
  refine gx_r hM hZ 1 (B := (24, [some (.ref 22), some (.int (Int32.ofInt x1)), none], [.int (Int32.ofInt x1)], zw X s)) rfl ?_
  refine gi_if1 hM hZ (fun x => decide (x < 0)) (p := x1 < 0) rfl rfl (zd_lt h.1) ?_ ?_
  · intro hp
    replace h := h.2.1 hp
    exact ⟨_, xi_To.rf _ _ _ _, 0, s, rfl, h⟩
  · intro hp
    replace h := h.2.2 hp
    refine gx_r hM hZ 2 (B := (29, [some (.ref 22), some (.int (Int32.ofInt x1)), none], [.int (Int32.ofInt x1), .ref 22], zw X s)) rfl ?_
    refine gi_call hM (s := s) (hj := 0) hZ rfl rfl (by omega) h ?_
    intro v1 s1 h
    refine gx_r hM hZ 4 (B := (38, [some (.ref 22), some (.int (Int32.ofInt x1)), some (.int (Int32.ofInt v1))], [.int (Int32.ofInt x1), .ref 14], zw X s1)) rfl ?_
    refine gi_call hM (s := s1) (hj := 0) hZ rfl rfl (by omega) h ?_
    intro v2 s2 h
    refine gi_if1 hM hZ (fun x => decide (x = 0)) (p := v2 = 0) rfl rfl (zd_eq h.1) ?_ ?_
    · intro hp
      replace h := h.2.1 hp
      exact gx_fg [true, true, true] (h hZ d hd)
    · intro hp
      replace h := h.2.2 hp
      refine gx_r hM hZ 5 (B := (53, [some (.ref 22), some (.int (Int32.ofInt x1)), some (.int (Int32.ofInt v1))], [.int (Int32.ofInt v1), .int (Int32.ofInt x1), .ref 17], zw X s2)) rfl ?_
      obtain ⟨s3, e3⟩ : ∃ q : zS, q = zu s2 17 x1 v1 := ⟨_, rfl⟩
      refine gj_iast hM hZ (len := 400) rfl rfl (Nat.le_of_ble_eq_true rfl) zp_17 h.1 e3 ?_
      replace h := h.2 _ e3
      exact gx_fg [true, true, true] (h hZ d hd)
theorem w_64_54_i {X : zX} {x1 x2 : Int} {s : zS} {Q : Int → zS → Prop} (h : (0 ≤ x1 ∧ x1 < 400) ∧ ((-2147483648 ≤ (s 15 x1) ∧ (s 15 x1) ≤ 2147483647) ∧ (¬ (s 15 x1) = 12 → w_64_84 X x1 x2 s Q) ∧ (¬ ¬ (s 15 x1) = 12 → (0 ≤ x1 ∧ x1 < 400) ∧ w_64_84 X x1 (zA x2 (zE (zL 1 (s 16 x1)) (-1))) s Q))) : w_64_54 X x1 x2 s Q := by
  intro hZ d hd
  have hM : xi_ml[64]? = some xm_64 := rfl
  refine gx_r hM hZ 4 (B := (62, [some (.ref 22), some (.int (Int32.ofInt x1)), some (.int (Int32.ofInt x2))], [.int (Int32.ofInt x1), .ref 15], zw X s)) rfl ?_
  refine gi_iald hM hZ (s := s) (len := 400) rfl rfl (Nat.le_of_ble_eq_true rfl) h.1 ?_
  replace h := h.2
  refine gi_bip hM hZ rfl rfl ?_
  refine gi_if2 hM hZ (fun x y => decide (¬ x = y)) (p := ¬ (s 15 x1) = 12) rfl rfl (zc_ne h.1 (by decide)) ?_ ?_
  · intro hp
    replace h := h.2.1 hp
    exact gx_fg [true, true, true] (h hZ d hd)
  · intro hp
    replace h := h.2.2 hp
    refine gx_r hM hZ 6 (B := (78, [some (.ref 22), some (.int (Int32.ofInt x1)), some (.int (Int32.ofInt x2))], [.int (Int32.ofInt x1), .ref 16, .int (Int32.ofInt 1), .int (Int32.ofInt x2)], zw X s)) rfl ?_
    refine gi_iald hM hZ (s := s) (len := 400) rfl rfl (Nat.le_of_ble_eq_true rfl) h.1 ?_
    replace h := h.2
    refine gi_shl hM hZ rfl ?_
    refine gx_r hM hZ 1 (B := (81, [some (.ref 22), some (.int (Int32.ofInt x1)), some (.int (Int32.ofInt x2))], [.int (Int32.ofInt (-1)), .int (Int32.ofInt (zL 1 (s 16 x1))), .int (Int32.ofInt x2)], zw X s)) rfl ?_
    refine gi_xor hM hZ rfl ?_
    refine gi_and hM hZ rfl ?_
    refine gx_r hM hZ 1 (B := (84, [some (.ref 22), some (.int (Int32.ofInt x1)), some (.int (Int32.ofInt (zA x2 (zE (zL 1 (s 16 x1)) (-1)))))], [], zw X s)) rfl ?_
    exact gx_fg [true, true, true] (h hZ d hd)
theorem w_64_84_i {X : zX} {x1 x2 : Int} {s : zS} {Q : Int → zS → Prop} (h : (0 ≤ x1 ∧ x1 < 400) ∧ ((-2147483648 ≤ (s 15 x1) ∧ (s 15 x1) ≤ 2147483647) ∧ (¬ (s 15 x1) = 2 → w_64_106 X x1 x2 s Q) ∧ (¬ ¬ (s 15 x1) = 2 → (0 ≤ x1 ∧ x1 < 400) ∧ w_64_106 X x1 (zO x2 (s 29 x1)) s Q))) : w_64_84 X x1 x2 s Q := by
  intro hZ d hd
  have hM : xi_ml[64]? = some xm_64 := rfl
  refine gx_r hM hZ 4 (B := (92, [some (.ref 22), some (.int (Int32.ofInt x1)), some (.int (Int32.ofInt x2))], [.int (Int32.ofInt x1), .ref 15], zw X s)) rfl ?_
  refine gi_iald hM hZ (s := s) (len := 400) rfl rfl (Nat.le_of_ble_eq_true rfl) h.1 ?_
  replace h := h.2
  refine gx_r hM hZ 1 (B := (94, [some (.ref 22), some (.int (Int32.ofInt x1)), some (.int (Int32.ofInt x2))], [.int (Int32.ofInt 2), .int (Int32.ofInt (s 15 x1))], zw X s)) rfl ?_
  refine gi_if2 hM hZ (fun x y => decide (¬ x = y)) (p := ¬ (s 15 x1) = 2) rfl rfl (zc_ne h.1 (by decide)) ?_ ?_
  · intro hp
    replace h := h.2.1 hp
    exact gx_fg [true, true, true] (h hZ d hd)
  · intro hp
    replace h := h.2.2 hp
    refine gx_r hM hZ 4 (B := (103, [some (.ref 22), some (.int (Int32.ofInt x1)), some (.int (Int32.ofInt x2))], [.int (Int32.ofInt x1), .ref 29, .int (Int32.ofInt x2)], zw X s)) rfl ?_
    refine gi_iald hM hZ (s := s) (len := 400) rfl rfl (Nat.le_of_ble_eq_true rfl) h.1 ?_
    replace h := h.2
    refine gi_or hM hZ rfl ?_
    refine gx_r hM hZ 1 (B := (106, [some (.ref 22), some (.int (Int32.ofInt x1)), some (.int (Int32.ofInt (zO x2 (s 29 x1))))], [], zw X s)) rfl ?_
    exact gx_fg [true, true, true] (h hZ d hd)
theorem w_64_106_i {X : zX} {x1 x2 : Int} {s : zS} {Q : Int → zS → Prop} (h : (0 ≤ x1 ∧ x1 < 401) ∧ (∀ s1 : zS, s1 = zu s 30 x1 x2 → w_64_23 X (x1 + (-1)) s1 Q)) : w_64_106 X x1 x2 s Q := by
  intro hZ d hd
  have hM : xi_ml[64]? = some xm_64 := rfl
  refine gx_r hM hZ 4 (B := (112, [some (.ref 22), some (.int (Int32.ofInt x1)), some (.int (Int32.ofInt x2))], [.int (Int32.ofInt x2), .int (Int32.ofInt x1), .ref 30], zw X s)) rfl ?_
  obtain ⟨s1, e1⟩ : ∃ q : zS, q = zu s 30 x1 x2 := ⟨_, rfl⟩
  refine gj_iast hM hZ (len := 401) rfl rfl (Nat.le_of_ble_eq_true rfl) zp_30 h.1 e1 ?_
  replace h := h.2 _ e1
  refine gi_inc hM hZ (x := x1) (m := (-1)) rfl rfl ?_
  refine gx_r hM hZ 0 (B := (116, [some (.ref 22), some (.int (Int32.ofInt (x1 + (-1)))), some (.int (Int32.ofInt x2))], [], zw X s1)) rfl ?_
  refine gx_r hM hZ 1 (B := (23, [some (.ref 22), some (.int (Int32.ofInt (x1 + (-1)))), some (.int (Int32.ofInt x2))], [], zw X s1)) rfl ?_
  exact gx_fg [true, true, false] (h hZ d hd)
-- RootLoom$Machine.doSum
def w_70 (X : zX) (x1 : Int) (s : zS) (Q : Int → zS → Prop) : Prop := wW X 70 xm_70 1 (0, [some (.ref 31), some (.int (Int32.ofInt x1)), none, none], [], zw X s) Q
def w_70_84 (X : zX) (t1 : Int) (s : zS) (Q : Int → zS → Prop) : Prop := wW X 70 xm_70 1 (84, [none, none, none, none], [.int (Int32.ofInt t1), .ref 39], zw X s) Q
theorem w_70_i {X : zX} {x1 : Int} {s : zS} {Q : Int → zS → Prop} (h : (w_95 X s (fun v1 s1 => (w_95 X s1 (fun v2 s2 => ((-2147483648 ≤ x1 ∧ x1 ≤ 2147483647) ∧ ((¬ x1 = 3 ∧ ¬ x1 = 4) → (((-2147483648 ≤ v2 ∧ v2 ≤ 2147483647) ∧ (-2147483648 ≤ v1 ∧ v1 ≤ 2147483647)) ∧ (v1 ≤ v2 → w_70_84 X 0 s2 Q) ∧ (¬ v1 ≤ v2 → w_70_84 X 1 s2 Q))) ∧ ((x1 = 3) → (w_93 X (zN (v2 + v1)) s2 (fun _ s3 => Q 0 s3))) ∧ ((x1 = 4) → (w_93 X (zN (v2 - v1)) s2 (fun _ s4 => Q 0 s4))))))))) : w_70 X x1 s Q := by
  intro hZ d hd
  have hM : xi_ml[70]? = some xm_70 := rfl
  refine gx_r hM hZ 2 (B := (4, [some (.ref 31), some (.int (Int32.ofInt x1)), none, none], [.ref 39], zw X s)) rfl ?_
  refine gi_call hM (s := s) (hj := 0) hZ rfl rfl (by omega) h ?_
  intro v1 s1 h
  refine gx_r hM hZ 3 (B := (12, [some (.ref 31), some (.int (Int32.ofInt x1)), some (.int (Int32.ofInt v1)), none], [.ref 39], zw X s1)) rfl ?_
  refine gi_call hM (s := s1) (hj := 0) hZ rfl rfl (by omega) h ?_
  intro v2 s2 h
  refine gx_r hM hZ 2 (B := (17, [some (.ref 31), some (.int (Int32.ofInt x1)), some (.int (Int32.ofInt v1)), some (.int (Int32.ofInt v2))], [.int (Int32.ofInt x1)], zw X s2)) rfl ?_
  by_cases hq0 : (x1 = 3)
  · refine gi_lok hM hZ (x := x1) (o := 27) rfl rfl h.1 ?_ (by decide) ?_
    · rw [hq0]; rfl
    · replace h := h.2.2.1 hq0
      refine gx_r hM hZ 4 (B := (50, [some (.ref 31), some (.int (Int32.ofInt x1)), some (.int (Int32.ofInt v1)), some (.int (Int32.ofInt v2))], [.int (Int32.ofInt v1), .int (Int32.ofInt v2), .ref 39], zw X s2)) rfl ?_
      refine gi_addN hM hZ rfl ?_
      refine gi_call hM (s := s2) (hj := 0) hZ rfl rfl (by omega) h ?_
      intro _ s3 h
      refine gx_r hM hZ 1 (B := (87, [some (.ref 31), some (.int (Int32.ofInt x1)), some (.int (Int32.ofInt v1)), some (.int (Int32.ofInt v2))], [], zw X s3)) rfl ?_
      exact ⟨_, xi_To.rf _ _ _ _, 0, s3, rfl, h⟩
  · by_cases hq1 : (x1 = 4)
    · refine gi_lok hM hZ (x := x1) (o := 40) rfl rfl h.1 ?_ (by decide) ?_
      · rw [hq1]; rfl
      · replace h := h.2.2.2 hq1
        refine gx_r hM hZ 4 (B := (63, [some (.ref 31), some (.int (Int32.ofInt x1)), some (.int (Int32.ofInt v1)), some (.int (Int32.ofInt v2))], [.int (Int32.ofInt v1), .int (Int32.ofInt v2), .ref 39], zw X s2)) rfl ?_
        refine gi_subN hM hZ rfl ?_
        refine gi_call hM (s := s2) (hj := 0) hZ rfl rfl (by omega) h ?_
        intro _ s4 h
        refine gx_r hM hZ 1 (B := (87, [some (.ref 31), some (.int (Int32.ofInt x1)), some (.int (Int32.ofInt v1)), some (.int (Int32.ofInt v2))], [], zw X s4)) rfl ?_
        exact ⟨_, xi_To.rf _ _ _ _, 0, s4, rfl, h⟩
    · refine gi_lok hM hZ (x := x1) (o := 53) rfl rfl h.1 ?_ (by decide) ?_
      · simp only [Op.lookupswitch.offset]
        rw [if_neg (by omega)]
        rw [if_neg (by omega)]
      · replace h := h.2.1 (by omega)
        refine gx_r hM hZ 4 (B := (76, [some (.ref 31), some (.int (Int32.ofInt x1)), some (.int (Int32.ofInt v1)), some (.int (Int32.ofInt v2))], [.int (Int32.ofInt v1), .int (Int32.ofInt v2), .ref 39], zw X s2)) rfl ?_
        refine gi_if2 hM hZ (fun x y => decide (y ≤ x)) (p := v1 ≤ v2) rfl rfl (zc_ge h.1.1 h.1.2) ?_ ?_
        · intro hp
          replace h := h.2.1 hp
          refine gx_r hM hZ 1 (B := (84, [some (.ref 31), some (.int (Int32.ofInt x1)), some (.int (Int32.ofInt v1)), some (.int (Int32.ofInt v2))], [.int (Int32.ofInt 0), .ref 39], zw X s2)) rfl ?_
          exact gx_fg [false, false, false, false] (h hZ d hd)
        · intro hp
          replace h := h.2.2 hp
          refine gx_r hM hZ 2 (B := (84, [some (.ref 31), some (.int (Int32.ofInt x1)), some (.int (Int32.ofInt v1)), some (.int (Int32.ofInt v2))], [.int (Int32.ofInt 1), .ref 39], zw X s2)) rfl ?_
          exact gx_fg [false, false, false, false] (h hZ d hd)
theorem w_70_84_i {X : zX} {t1 : Int} {s : zS} {Q : Int → zS → Prop} (h : (w_93 X t1 s (fun _ s1 => Q 0 s1))) : w_70_84 X t1 s Q := by
  intro hZ d hd
  have hM : xi_ml[70]? = some xm_70 := rfl
  refine gi_call hM (s := s) (hj := 0) hZ rfl rfl (by omega) h ?_
  intro _ s1 h
  exact ⟨_, xi_To.rf _ _ _ _, 0, s1, rfl, h⟩
-- RootLoom$Machine.isFull
def w_73 (X : zX) (s : zS) (Q : Int → zS → Prop) : Prop := wW X 73 xm_73 1 (0, [some (.ref 31)], [], zw X s) Q
theorem w_73_i {X : zX} {s : zS} {Q : Int → zS → Prop} (h : (w_86 X s (fun v1 s1 => (((-2147483648 ≤ (v1 + 3) ∧ (v1 + 3) ≤ 2147483647) ∧ (-2147483648 ≤ (s1 31 4) ∧ (s1 31 4) ≤ 2147483647)) ∧ ((v1 + 3) ≤ (s1 31 4) → Q 0 s1) ∧ (¬ (v1 + 3) ≤ (s1 31 4) → Q 1 s1))))) : w_73 X s Q := by
  intro hZ d hd
  have hM : xi_ml[73]? = some xm_73 := rfl
  refine gx_r hM hZ 2 (B := (4, [some (.ref 31)], [.ref 32], zw X s)) rfl ?_
  refine gi_call hM (s := s) (hj := 0) hZ rfl rfl (by omega) h ?_
  intro v1 s1 h
  refine gx_r hM hZ 1 (B := (8, [some (.ref 31)], [.int (Int32.ofInt 3), .int (Int32.ofInt v1)], zw X s1)) rfl ?_
  refine gi_add hM hZ rfl ?_
  refine gx_r hM hZ 2 (B := (13, [some (.ref 31)], [.int (Int32.ofInt (s1 31 4)), .int (Int32.ofInt (v1 + 3))], zw X s1)) rfl ?_
  refine gi_if2 hM hZ (fun x y => decide (x ≤ y)) (p := (v1 + 3) ≤ (s1 31 4)) rfl rfl (zc_le h.1.1 h.1.2) ?_ ?_
  · intro hp
    replace h := h.2.1 hp
    refine gx_r hM hZ 1 (B := (21, [some (.ref 31)], [.int (Int32.ofInt 0)], zw X s1)) rfl ?_
    exact ⟨_, xi_To.rf _ _ _ _, 0, s1, rfl, h⟩
  · intro hp
    replace h := h.2.2 hp
    refine gx_r hM hZ 2 (B := (21, [some (.ref 31)], [.int (Int32.ofInt 1)], zw X s1)) rfl ?_
    exact ⟨_, xi_To.rf _ _ _ _, 1, s1, rfl, h⟩
-- RootLoom$Machine.keepFrom
def w_75 (X : zX) (x1 x2 : Int) (s : zS) (Q : Int → zS → Prop) : Prop := wW X 75 xm_75 1 (0, [some (.ref 31), some (.int (Int32.ofInt x1)), some (.int (Int32.ofInt x2)), none], [], zw X s) Q
def w_75_2 (X : zX) (x1 x2 x3 : Int) (s : zS) (Q : Int → zS → Prop) : Prop := wW X 75 xm_75 1 (2, [some (.ref 31), some (.int (Int32.ofInt x1)), some (.int (Int32.ofInt x2)), some (.int (Int32.ofInt x3))], [], zw X s) Q
def w_75_46 (X : zX) (x1 x2 x3 : Int) (s : zS) (Q : Int → zS → Prop) : Prop := wW X 75 xm_75 1 (46, [some (.ref 31), some (.int (Int32.ofInt x1)), some (.int (Int32.ofInt x2)), some (.int (Int32.ofInt x3))], [], zw X s) Q
def w_75_54 (X : zX) (x1 x2 x3 : Int) (s : zS) (Q : Int → zS → Prop) : Prop := wW X 75 xm_75 1 (54, [some (.ref 31), some (.int (Int32.ofInt x1)), some (.int (Int32.ofInt x2)), some (.int (Int32.ofInt x3))], [], zw X s) Q
def w_75_105 (X : zX) (x1 x2 x3 : Int) (s : zS) (Q : Int → zS → Prop) : Prop := wW X 75 xm_75 1 (105, [some (.ref 31), some (.int (Int32.ofInt x1)), some (.int (Int32.ofInt x2)), some (.int (Int32.ofInt x3))], [], zw X s) Q
theorem w_75_i {X : zX} {x1 x2 : Int} {s : zS} {Q : Int → zS → Prop} (h : w_75_2 X x1 x2 0 s Q) : w_75 X x1 x2 s Q := by
  intro hZ d hd
  have hM : xi_ml[75]? = some xm_75 := rfl
  refine gx_r hM hZ 2 (B := (2, [some (.ref 31), some (.int (Int32.ofInt x1)), some (.int (Int32.ofInt x2)), some (.int (Int32.ofInt 0))], [], zw X s)) rfl ?_
  exact gx_fg [true, true, true, true] (h hZ d hd)
theorem w_75_2_i {X : zX} {x1 x2 x3 : Int} {s : zS} {Q : Int → zS → Prop} (h : ((-2147483648 ≤ x3 ∧ x3 ≤ 2147483647) ∧ (8 ≤ x3 → w_75_54 X x1 x2 0 s Q) ∧ (¬ 8 ≤ x3 → (0 ≤ x2 ∧ x2 < 400) ∧ ((-2147483648 ≤ (zA (zU (s 17 x2) x3) 1) ∧ (zA (zU (s 17 x2) x3) 1) ≤ 2147483647) ∧ (¬ (zA (zU (s 17 x2) x3) 1) = 1 → w_75_46 X x1 x2 x3 s Q) ∧ (¬ ¬ (zA (zU (s 17 x2) x3) 1) = 1 → (0 ≤ ((x1 * 8) + x3) ∧ ((x1 * 8) + x3) < 192) ∧ (w_88 X (s 40 ((x1 * 8) + x3)) s (fun _ s1 => w_75_46 X x1 x2 x3 s1 Q))))))) : w_75_2 X x1 x2 x3 s Q := by
  intro hZ d hd
  have hM : xi_ml[75]? = some xm_75 := rfl
  refine gx_r hM hZ 1 (B := (3, [some (.ref 31), some (.int (Int32.ofInt x1)), some (.int (Int32.ofInt x2)), some (.int (Int32.ofInt x3))], [.int (Int32.ofInt x3)], zw X s)) rfl ?_
  refine gi_bip hM hZ rfl rfl ?_
  refine gi_if2 hM hZ (fun x y => decide (y ≤ x)) (p := 8 ≤ x3) rfl rfl (zc_ge h.1 (by decide)) ?_ ?_
  · intro hp
    replace h := h.2.1 hp
    refine gx_r hM hZ 2 (B := (54, [some (.ref 31), some (.int (Int32.ofInt x1)), some (.int (Int32.ofInt x2)), some (.int (Int32.ofInt 0))], [], zw X s)) rfl ?_
    exact gx_fg [true, true, true, true] (h hZ d hd)
  · intro hp
    replace h := h.2.2 hp
    refine gx_r hM hZ 4 (B := (16, [some (.ref 31), some (.int (Int32.ofInt x1)), some (.int (Int32.ofInt x2)), some (.int (Int32.ofInt x3))], [.int (Int32.ofInt x2), .ref 17], zw X s)) rfl ?_
    refine gi_iald hM hZ (s := s) (len := 400) rfl rfl (Nat.le_of_ble_eq_true rfl) h.1 ?_
    replace h := h.2
    refine gx_r hM hZ 1 (B := (18, [some (.ref 31), some (.int (Int32.ofInt x1)), some (.int (Int32.ofInt x2)), some (.int (Int32.ofInt x3))], [.int (Int32.ofInt x3), .int (Int32.ofInt (s 17 x2))], zw X s)) rfl ?_
    refine gi_ushr hM hZ rfl ?_
    refine gx_r hM hZ 1 (B := (20, [some (.ref 31), some (.int (Int32.ofInt x1)), some (.int (Int32.ofInt x2)), some (.int (Int32.ofInt x3))], [.int (Int32.ofInt 1), .int (Int32.ofInt (zU (s 17 x2) x3))], zw X s)) rfl ?_
    refine gi_and hM hZ rfl ?_
    refine gx_r hM hZ 1 (B := (22, [some (.ref 31), some (.int (Int32.ofInt x1)), some (.int (Int32.ofInt x2)), some (.int (Int32.ofInt x3))], [.int (Int32.ofInt 1), .int (Int32.ofInt (zA (zU (s 17 x2) x3) 1))], zw X s)) rfl ?_
    refine gi_if2 hM hZ (fun x y => decide (¬ x = y)) (p := ¬ (zA (zU (s 17 x2) x3) 1) = 1) rfl rfl (zc_ne h.1 (by decide)) ?_ ?_
    · intro hp
      replace h := h.2.1 hp
      exact gx_fg [true, true, true, true] (h hZ d hd)
    · intro hp
      replace h := h.2.2 hp
      refine gx_r hM hZ 6 (B := (37, [some (.ref 31), some (.int (Int32.ofInt x1)), some (.int (Int32.ofInt x2)), some (.int (Int32.ofInt x3))], [.int (Int32.ofInt x1), .ref 40, .ref 32], zw X s)) rfl ?_
      refine gi_bip hM hZ rfl rfl ?_
      refine gi_mul hM hZ rfl ?_
      refine gx_r hM hZ 1 (B := (41, [some (.ref 31), some (.int (Int32.ofInt x1)), some (.int (Int32.ofInt x2)), some (.int (Int32.ofInt x3))], [.int (Int32.ofInt x3), .int (Int32.ofInt (x1 * 8)), .ref 40, .ref 32], zw X s)) rfl ?_
      refine gi_add hM hZ rfl ?_
      refine gi_iald hM hZ (s := s) (len := 192) rfl rfl (Nat.le_of_ble_eq_true rfl) h.1 ?_
      replace h := h.2
      refine gi_call hM (s := s) (hj := 0) hZ rfl rfl (by omega) h ?_
      intro _ s1 h
      exact gx_fg [true, true, true, true] (h hZ d hd)
theorem w_75_46_i {X : zX} {x1 x2 x3 : Int} {s : zS} {Q : Int → zS → Prop} (h : w_75_2 X x1 x2 (x3 + 1) s Q) : w_75_46 X x1 x2 x3 s Q := by
  intro hZ d hd
  have hM : xi_ml[75]? = some xm_75 := rfl
  refine gi_inc hM hZ (x := x3) (m := 1) rfl rfl ?_
  refine gx_r hM hZ 0 (B := (49, [some (.ref 31), some (.int (Int32.ofInt x1)), some (.int (Int32.ofInt x2)), some (.int (Int32.ofInt (x3 + 1)))], [], zw X s)) rfl ?_
  refine gx_r hM hZ 1 (B := (2, [some (.ref 31), some (.int (Int32.ofInt x1)), some (.int (Int32.ofInt x2)), some (.int (Int32.ofInt (x3 + 1)))], [], zw X s)) rfl ?_
  exact gx_fg [true, true, true, true] (h hZ d hd)
theorem w_75_54_i {X : zX} {x1 x2 x3 : Int} {s : zS} {Q : Int → zS → Prop} (h : (0 ≤ x1 ∧ x1 < 24) ∧ (((-2147483648 ≤ x3 ∧ x3 ≤ 2147483647) ∧ (-2147483648 ≤ (s 42 x1) ∧ (s 42 x1) ≤ 2147483647)) ∧ ((s 42 x1) ≤ x3 → Q 0 s) ∧ (¬ (s 42 x1) ≤ x3 → (0 ≤ x2 ∧ x2 < 400) ∧ ((-2147483648 ≤ (zA (zU (s 18 x2) x3) 1) ∧ (zA (zU (s 18 x2) x3) 1) ≤ 2147483647) ∧ (¬ (zA (zU (s 18 x2) x3) 1) = 1 → w_75_105 X x1 x2 x3 s Q) ∧ (¬ ¬ (zA (zU (s 18 x2) x3) 1) = 1 → (0 ≤ ((x1 * 16) + x3) ∧ ((x1 * 16) + x3) < 384) ∧ (w_88 X (s 41 ((x1 * 16) + x3)) s (fun _ s1 => w_75_105 X x1 x2 x3 s1 Q))))))) : w_75_54 X x1 x2 x3 s Q := by
  intro hZ d hd
  have hM : xi_ml[75]? = some xm_75 := rfl
  refine gx_r hM hZ 5 (B := (63, [some (.ref 31), some (.int (Int32.ofInt x1)), some (.int (Int32.ofInt x2)), some (.int (Int32.ofInt x3))], [.int (Int32.ofInt x1), .ref 42, .int (Int32.ofInt x3)], zw X s)) rfl ?_
  refine gi_iald hM hZ (s := s) (len := 24) rfl rfl (Nat.le_of_ble_eq_true rfl) h.1 ?_
  replace h := h.2
  refine gi_if2 hM hZ (fun x y => decide (y ≤ x)) (p := (s 42 x1) ≤ x3) rfl rfl (zc_ge h.1.1 h.1.2) ?_ ?_
  · intro hp
    replace h := h.2.1 hp
    exact ⟨_, xi_To.rf _ _ _ _, 0, s, rfl, h⟩
  · intro hp
    replace h := h.2.2 hp
    refine gx_r hM hZ 4 (B := (75, [some (.ref 31), some (.int (Int32.ofInt x1)), some (.int (Int32.ofInt x2)), some (.int (Int32.ofInt x3))], [.int (Int32.ofInt x2), .ref 18], zw X s)) rfl ?_
    refine gi_iald hM hZ (s := s) (len := 400) rfl rfl (Nat.le_of_ble_eq_true rfl) h.1 ?_
    replace h := h.2
    refine gx_r hM hZ 1 (B := (77, [some (.ref 31), some (.int (Int32.ofInt x1)), some (.int (Int32.ofInt x2)), some (.int (Int32.ofInt x3))], [.int (Int32.ofInt x3), .int (Int32.ofInt (s 18 x2))], zw X s)) rfl ?_
    refine gi_ushr hM hZ rfl ?_
    refine gx_r hM hZ 1 (B := (79, [some (.ref 31), some (.int (Int32.ofInt x1)), some (.int (Int32.ofInt x2)), some (.int (Int32.ofInt x3))], [.int (Int32.ofInt 1), .int (Int32.ofInt (zU (s 18 x2) x3))], zw X s)) rfl ?_
    refine gi_and hM hZ rfl ?_
    refine gx_r hM hZ 1 (B := (81, [some (.ref 31), some (.int (Int32.ofInt x1)), some (.int (Int32.ofInt x2)), some (.int (Int32.ofInt x3))], [.int (Int32.ofInt 1), .int (Int32.ofInt (zA (zU (s 18 x2) x3) 1))], zw X s)) rfl ?_
    refine gi_if2 hM hZ (fun x y => decide (¬ x = y)) (p := ¬ (zA (zU (s 18 x2) x3) 1) = 1) rfl rfl (zc_ne h.1 (by decide)) ?_ ?_
    · intro hp
      replace h := h.2.1 hp
      exact gx_fg [true, true, true, true] (h hZ d hd)
    · intro hp
      replace h := h.2.2 hp
      refine gx_r hM hZ 6 (B := (96, [some (.ref 31), some (.int (Int32.ofInt x1)), some (.int (Int32.ofInt x2)), some (.int (Int32.ofInt x3))], [.int (Int32.ofInt x1), .ref 41, .ref 32], zw X s)) rfl ?_
      refine gi_bip hM hZ rfl rfl ?_
      refine gi_mul hM hZ rfl ?_
      refine gx_r hM hZ 1 (B := (100, [some (.ref 31), some (.int (Int32.ofInt x1)), some (.int (Int32.ofInt x2)), some (.int (Int32.ofInt x3))], [.int (Int32.ofInt x3), .int (Int32.ofInt (x1 * 16)), .ref 41, .ref 32], zw X s)) rfl ?_
      refine gi_add hM hZ rfl ?_
      refine gi_iald hM hZ (s := s) (len := 384) rfl rfl (Nat.le_of_ble_eq_true rfl) h.1 ?_
      replace h := h.2
      refine gi_call hM (s := s) (hj := 0) hZ rfl rfl (by omega) h ?_
      intro _ s1 h
      exact gx_fg [true, true, true, true] (h hZ d hd)
theorem w_75_105_i {X : zX} {x1 x2 x3 : Int} {s : zS} {Q : Int → zS → Prop} (h : w_75_54 X x1 x2 (x3 + 1) s Q) : w_75_105 X x1 x2 x3 s Q := by
  intro hZ d hd
  have hM : xi_ml[75]? = some xm_75 := rfl
  refine gi_inc hM hZ (x := x3) (m := 1) rfl rfl ?_
  refine gx_r hM hZ 0 (B := (108, [some (.ref 31), some (.int (Int32.ofInt x1)), some (.int (Int32.ofInt x2)), some (.int (Int32.ofInt (x3 + 1)))], [], zw X s)) rfl ?_
  refine gx_r hM hZ 1 (B := (54, [some (.ref 31), some (.int (Int32.ofInt x1)), some (.int (Int32.ofInt x2)), some (.int (Int32.ofInt (x3 + 1)))], [], zw X s)) rfl ?_
  exact gx_fg [true, true, true, true] (h hZ d hd)
-- RootLoom$Machine.doGet
def w_76_33 (X : zX) (s : zS) (Q : Int → zS → Prop) : Prop := wW X 76 xm_76 1 (0, [some (.ref 31), some (.ref 33), none], [], zw X s) Q
theorem w_76_33_i {X : zX} {s : zS} {Q : Int → zS → Prop} (h : (w_95 X s (fun v1 s1 => ((-2147483648 ≤ v1 ∧ v1 ≤ 2147483647) ∧ (¬ v1 = 0 → (0 ≤ v1 ∧ v1 < 201) ∧ (w_93 X (s1 33 v1) s1 (fun _ s2 => Q 0 s2))) ∧ (¬ ¬ v1 = 0 → (∀ s3 : zS, s3 = zu s1 31 8 2 → Q 0 s3)))))) : w_76_33 X s Q := by
  intro hZ d hd
  have hM : xi_ml[76]? = some xm_76 := rfl
  refine gx_r hM hZ 2 (B := (4, [some (.ref 31), some (.ref 33), none], [.ref 39], zw X s)) rfl ?_
  refine gi_call hM (s := s) (hj := 0) hZ rfl rfl (by omega) h ?_
  intro v1 s1 h
  refine gx_r hM hZ 2 (B := (9, [some (.ref 31), some (.ref 33), some (.int (Int32.ofInt v1))], [.int (Int32.ofInt v1)], zw X s1)) rfl ?_
  refine gi_if1 hM hZ (fun x => decide (¬ x = 0)) (p := ¬ v1 = 0) rfl rfl (zd_ne h.1) ?_ ?_
  · intro hp
    replace h := h.2.1 hp
    refine gx_r hM hZ 4 (B := (24, [some (.ref 31), some (.ref 33), some (.int (Int32.ofInt v1))], [.int (Int32.ofInt v1), .ref 33, .ref 39], zw X s1)) rfl ?_
    refine gi_iald hM hZ (s := s1) (len := 201) rfl rfl (Nat.le_of_ble_eq_true rfl) h.1 ?_
    replace h := h.2
    refine gi_call hM (s := s1) (hj := 0) hZ rfl rfl (by omega) h ?_
    intro _ s2 h
    exact ⟨_, xi_To.rf _ _ _ _, 0, s2, rfl, h⟩
  · intro hp
    replace h := h.2.2 hp
    refine gx_r hM hZ 2 (B := (14, [some (.ref 31), some (.ref 33), some (.int (Int32.ofInt v1))], [.int (Int32.ofInt 2), .ref 31], zw X s1)) rfl ?_
    obtain ⟨s3, e3⟩ : ∃ q : zS, q = zu s1 31 8 2 := ⟨_, rfl⟩
    refine gj_put hM hZ rfl rfl rfl (Nat.le_of_ble_eq_true rfl) rfl rfl zq_31_8 e3 ?_
    replace h := h _ e3
    exact ⟨_, xi_To.rf _ _ _ _, 0, s3, rfl, h⟩
-- RootLoom$Machine.doGet
def w_76_34 (X : zX) (s : zS) (Q : Int → zS → Prop) : Prop := wW X 76 xm_76 1 (0, [some (.ref 31), some (.ref 34), none], [], zw X s) Q
theorem w_76_34_i {X : zX} {s : zS} {Q : Int → zS → Prop} (h : (w_95 X s (fun v1 s1 => ((-2147483648 ≤ v1 ∧ v1 ≤ 2147483647) ∧ (¬ v1 = 0 → (0 ≤ v1 ∧ v1 < 201) ∧ (w_93 X (s1 34 v1) s1 (fun _ s2 => Q 0 s2))) ∧ (¬ ¬ v1 = 0 → (∀ s3 : zS, s3 = zu s1 31 8 2 → Q 0 s3)))))) : w_76_34 X s Q := by
  intro hZ d hd
  have hM : xi_ml[76]? = some xm_76 := rfl
  refine gx_r hM hZ 2 (B := (4, [some (.ref 31), some (.ref 34), none], [.ref 39], zw X s)) rfl ?_
  refine gi_call hM (s := s) (hj := 0) hZ rfl rfl (by omega) h ?_
  intro v1 s1 h
  refine gx_r hM hZ 2 (B := (9, [some (.ref 31), some (.ref 34), some (.int (Int32.ofInt v1))], [.int (Int32.ofInt v1)], zw X s1)) rfl ?_
  refine gi_if1 hM hZ (fun x => decide (¬ x = 0)) (p := ¬ v1 = 0) rfl rfl (zd_ne h.1) ?_ ?_
  · intro hp
    replace h := h.2.1 hp
    refine gx_r hM hZ 4 (B := (24, [some (.ref 31), some (.ref 34), some (.int (Int32.ofInt v1))], [.int (Int32.ofInt v1), .ref 34, .ref 39], zw X s1)) rfl ?_
    refine gi_iald hM hZ (s := s1) (len := 201) rfl rfl (Nat.le_of_ble_eq_true rfl) h.1 ?_
    replace h := h.2
    refine gi_call hM (s := s1) (hj := 0) hZ rfl rfl (by omega) h ?_
    intro _ s2 h
    exact ⟨_, xi_To.rf _ _ _ _, 0, s2, rfl, h⟩
  · intro hp
    replace h := h.2.2 hp
    refine gx_r hM hZ 2 (B := (14, [some (.ref 31), some (.ref 34), some (.int (Int32.ofInt v1))], [.int (Int32.ofInt 2), .ref 31], zw X s1)) rfl ?_
    obtain ⟨s3, e3⟩ : ∃ q : zS, q = zu s1 31 8 2 := ⟨_, rfl⟩
    refine gj_put hM hZ rfl rfl rfl (Nat.le_of_ble_eq_true rfl) rfl rfl zq_31_8 e3 ?_
    replace h := h _ e3
    exact ⟨_, xi_To.rf _ _ _ _, 0, s3, rfl, h⟩
-- RootLoom$Machine.doSet
def w_77_33 (X : zX) (s : zS) (Q : Int → zS → Prop) : Prop := wW X 77 xm_77 1 (0, [some (.ref 31), some (.ref 33), none, none], [], zw X s) Q
theorem w_77_33_i {X : zX} {s : zS} {Q : Int → zS → Prop} (h : (w_95 X s (fun v1 s1 => (w_95 X s1 (fun v2 s2 => ((-2147483648 ≤ v2 ∧ v2 ≤ 2147483647) ∧ (¬ v2 = 0 → (0 ≤ v2 ∧ v2 < 201) ∧ (∀ s3 : zS, s3 = zu s2 33 v2 v1 → (w_93 X v1 s3 (fun _ s4 => Q 0 s4)))) ∧ (¬ ¬ v2 = 0 → (∀ s5 : zS, s5 = zu s2 31 8 2 → Q 0 s5)))))))) : w_77_33 X s Q := by
  intro hZ d hd
  have hM : xi_ml[77]? = some xm_77 := rfl
  refine gx_r hM hZ 2 (B := (4, [some (.ref 31), some (.ref 33), none, none], [.ref 39], zw X s)) rfl ?_
  refine gi_call hM (s := s) (hj := 0) hZ rfl rfl (by omega) h ?_
  intro v1 s1 h
  refine gx_r hM hZ 3 (B := (12, [some (.ref 31), some (.ref 33), some (.int (Int32.ofInt v1)), none], [.ref 39], zw X s1)) rfl ?_
  refine gi_call hM (s := s1) (hj := 0) hZ rfl rfl (by omega) h ?_
  intro v2 s2 h
  refine gx_r hM hZ 2 (B := (17, [some (.ref 31), some (.ref 33), some (.int (Int32.ofInt v1)), some (.int (Int32.ofInt v2))], [.int (Int32.ofInt v2)], zw X s2)) rfl ?_
  refine gi_if1 hM hZ (fun x => decide (¬ x = 0)) (p := ¬ v2 = 0) rfl rfl (zd_ne h.1) ?_ ?_
  · intro hp
    replace h := h.2.1 hp
    refine gx_r hM hZ 3 (B := (29, [some (.ref 31), some (.ref 33), some (.int (Int32.ofInt v1)), some (.int (Int32.ofInt v2))], [.int (Int32.ofInt v1), .int (Int32.ofInt v2), .ref 33], zw X s2)) rfl ?_
    obtain ⟨s3, e3⟩ : ∃ q : zS, q = zu s2 33 v2 v1 := ⟨_, rfl⟩
    refine gj_iast hM hZ (len := 201) rfl rfl (Nat.le_of_ble_eq_true rfl) zp_33 h.1 e3 ?_
    replace h := h.2 _ e3
    refine gx_r hM hZ 3 (B := (35, [some (.ref 31), some (.ref 33), some (.int (Int32.ofInt v1)), some (.int (Int32.ofInt v2))], [.int (Int32.ofInt v1), .ref 39], zw X s3)) rfl ?_
    refine gi_call hM (s := s3) (hj := 0) hZ rfl rfl (by omega) h ?_
    intro _ s4 h
    exact ⟨_, xi_To.rf _ _ _ _, 0, s4, rfl, h⟩
  · intro hp
    replace h := h.2.2 hp
    refine gx_r hM hZ 2 (B := (22, [some (.ref 31), some (.ref 33), some (.int (Int32.ofInt v1)), some (.int (Int32.ofInt v2))], [.int (Int32.ofInt 2), .ref 31], zw X s2)) rfl ?_
    obtain ⟨s5, e5⟩ : ∃ q : zS, q = zu s2 31 8 2 := ⟨_, rfl⟩
    refine gj_put hM hZ rfl rfl rfl (Nat.le_of_ble_eq_true rfl) rfl rfl zq_31_8 e5 ?_
    replace h := h _ e5
    exact ⟨_, xi_To.rf _ _ _ _, 0, s5, rfl, h⟩
-- RootLoom$Machine.doSet
def w_77_34 (X : zX) (s : zS) (Q : Int → zS → Prop) : Prop := wW X 77 xm_77 1 (0, [some (.ref 31), some (.ref 34), none, none], [], zw X s) Q
theorem w_77_34_i {X : zX} {s : zS} {Q : Int → zS → Prop} (h : (w_95 X s (fun v1 s1 => (w_95 X s1 (fun v2 s2 => ((-2147483648 ≤ v2 ∧ v2 ≤ 2147483647) ∧ (¬ v2 = 0 → (0 ≤ v2 ∧ v2 < 201) ∧ (∀ s3 : zS, s3 = zu s2 34 v2 v1 → (w_93 X v1 s3 (fun _ s4 => Q 0 s4)))) ∧ (¬ ¬ v2 = 0 → (∀ s5 : zS, s5 = zu s2 31 8 2 → Q 0 s5)))))))) : w_77_34 X s Q := by
  intro hZ d hd
  have hM : xi_ml[77]? = some xm_77 := rfl
  refine gx_r hM hZ 2 (B := (4, [some (.ref 31), some (.ref 34), none, none], [.ref 39], zw X s)) rfl ?_
  refine gi_call hM (s := s) (hj := 0) hZ rfl rfl (by omega) h ?_
  intro v1 s1 h
  refine gx_r hM hZ 3 (B := (12, [some (.ref 31), some (.ref 34), some (.int (Int32.ofInt v1)), none], [.ref 39], zw X s1)) rfl ?_
  refine gi_call hM (s := s1) (hj := 0) hZ rfl rfl (by omega) h ?_
  intro v2 s2 h
  refine gx_r hM hZ 2 (B := (17, [some (.ref 31), some (.ref 34), some (.int (Int32.ofInt v1)), some (.int (Int32.ofInt v2))], [.int (Int32.ofInt v2)], zw X s2)) rfl ?_
  refine gi_if1 hM hZ (fun x => decide (¬ x = 0)) (p := ¬ v2 = 0) rfl rfl (zd_ne h.1) ?_ ?_
  · intro hp
    replace h := h.2.1 hp
    refine gx_r hM hZ 3 (B := (29, [some (.ref 31), some (.ref 34), some (.int (Int32.ofInt v1)), some (.int (Int32.ofInt v2))], [.int (Int32.ofInt v1), .int (Int32.ofInt v2), .ref 34], zw X s2)) rfl ?_
    obtain ⟨s3, e3⟩ : ∃ q : zS, q = zu s2 34 v2 v1 := ⟨_, rfl⟩
    refine gj_iast hM hZ (len := 201) rfl rfl (Nat.le_of_ble_eq_true rfl) zp_34 h.1 e3 ?_
    replace h := h.2 _ e3
    refine gx_r hM hZ 3 (B := (35, [some (.ref 31), some (.ref 34), some (.int (Int32.ofInt v1)), some (.int (Int32.ofInt v2))], [.int (Int32.ofInt v1), .ref 39], zw X s3)) rfl ?_
    refine gi_call hM (s := s3) (hj := 0) hZ rfl rfl (by omega) h ?_
    intro _ s4 h
    exact ⟨_, xi_To.rf _ _ _ _, 0, s4, rfl, h⟩
  · intro hp
    replace h := h.2.2 hp
    refine gx_r hM hZ 2 (B := (22, [some (.ref 31), some (.ref 34), some (.int (Int32.ofInt v1)), some (.int (Int32.ofInt v2))], [.int (Int32.ofInt 2), .ref 31], zw X s2)) rfl ?_
    obtain ⟨s5, e5⟩ : ∃ q : zS, q = zu s2 31 8 2 := ⟨_, rfl⟩
    refine gj_put hM hZ rfl rfl rfl (Nat.le_of_ble_eq_true rfl) rfl rfl zq_31_8 e5 ?_
    replace h := h _ e5
    exact ⟨_, xi_To.rf _ _ _ _, 0, s5, rfl, h⟩
-- RootLoom$Machine.doReturn
def w_79 (X : zX) (s : zS) (Q : Int → zS → Prop) : Prop := wW X 79 xm_79 1 (0, [some (.ref 31), none], [], zw X s) Q
theorem w_79_i {X : zX} {s : zS} {Q : Int → zS → Prop} (h : (w_95 X s (fun v1 s1 => ((-2147483648 ≤ (s1 39 4) ∧ (s1 39 4) ≤ 2147483647) ∧ (¬ (s1 39 4) = 0 → (∀ s2 : zS, s2 = zu s1 39 4 ((s1 39 4) - 1) → (w_93 X v1 s2 (fun _ s3 => (0 ≤ (s3 39 4) ∧ (s3 39 4) < 24) ∧ (∀ s4 : zS, s4 = zu s3 31 6 ((s3 43 (s3 39 4)) + 1) → Q 0 s4))))) ∧ (¬ ¬ (s1 39 4) = 0 → (∀ s5 : zS, s5 = zu s1 31 15 v1 → (∀ s6 : zS, s6 = zu s5 31 8 1 → Q 0 s6))))))) : w_79 X s Q := by
  intro hZ d hd
  have hM : xi_ml[79]? = some xm_79 := rfl
  refine gx_r hM hZ 2 (B := (4, [some (.ref 31), none], [.ref 39], zw X s)) rfl ?_
  refine gi_call hM (s := s) (hj := 0) hZ rfl rfl (by omega) h ?_
  intro v1 s1 h
  refine gx_r hM hZ 4 (B := (15, [some (.ref 31), some (.int (Int32.ofInt v1))], [.int (Int32.ofInt (s1 39 4))], zw X s1)) rfl ?_
  refine gi_if1 hM hZ (fun x => decide (¬ x = 0)) (p := ¬ (s1 39 4) = 0) rfl rfl (zd_ne h.1) ?_ ?_
  · intro hp
    replace h := h.2.1 hp
    refine gx_r hM hZ 5 (B := (38, [some (.ref 31), some (.int (Int32.ofInt v1))], [.int (Int32.ofInt 1), .int (Int32.ofInt (s1 39 4)), .ref 39], zw X s1)) rfl ?_
    refine gi_sub hM hZ rfl ?_
    obtain ⟨s2, e2⟩ : ∃ q : zS, q = zu s1 39 4 ((s1 39 4) - 1) := ⟨_, rfl⟩
    refine gj_put hM hZ rfl rfl rfl (Nat.le_of_ble_eq_true rfl) rfl rfl zq_39_4 e2 ?_
    replace h := h _ e2
    refine gx_r hM hZ 3 (B := (47, [some (.ref 31), some (.int (Int32.ofInt v1))], [.int (Int32.ofInt v1), .ref 39], zw X s2)) rfl ?_
    refine gi_call hM (s := s2) (hj := 0) hZ rfl rfl (by omega) h ?_
    intro _ s3 h
    refine gx_r hM hZ 7 (B := (65, [some (.ref 31), some (.int (Int32.ofInt v1))], [.int (Int32.ofInt (s3 39 4)), .ref 43, .ref 31], zw X s3)) rfl ?_
    refine gi_iald hM hZ (s := s3) (len := 24) rfl rfl (Nat.le_of_ble_eq_true rfl) h.1 ?_
    replace h := h.2
    refine gx_r hM hZ 1 (B := (67, [some (.ref 31), some (.int (Int32.ofInt v1))], [.int (Int32.ofInt 1), .int (Int32.ofInt (s3 43 (s3 39 4))), .ref 31], zw X s3)) rfl ?_
    refine gi_add hM hZ rfl ?_
    obtain ⟨s4, e4⟩ : ∃ q : zS, q = zu s3 31 6 ((s3 43 (s3 39 4)) + 1) := ⟨_, rfl⟩
    refine gj_put hM hZ rfl rfl rfl (Nat.le_of_ble_eq_true rfl) rfl rfl zq_31_6 e4 ?_
    replace h := h _ e4
    exact ⟨_, xi_To.rf _ _ _ _, 0, s4, rfl, h⟩
  · intro hp
    replace h := h.2.2 hp
    refine gx_r hM hZ 2 (B := (20, [some (.ref 31), some (.int (Int32.ofInt v1))], [.int (Int32.ofInt v1), .ref 31], zw X s1)) rfl ?_
    obtain ⟨s5, e5⟩ : ∃ q : zS, q = zu s1 31 15 v1 := ⟨_, rfl⟩
    refine gj_put hM hZ rfl rfl rfl (Nat.le_of_ble_eq_true rfl) rfl rfl zq_31_15 e5 ?_
    replace h := h _ e5
    refine gx_r hM hZ 2 (B := (25, [some (.ref 31), some (.int (Int32.ofInt v1))], [.int (Int32.ofInt 1), .ref 31], zw X s5)) rfl ?_
    obtain ⟨s6, e6⟩ : ∃ q : zS, q = zu s5 31 8 1 := ⟨_, rfl⟩
    refine gj_put hM hZ rfl rfl rfl (Nat.le_of_ble_eq_true rfl) rfl rfl zq_31_8 e6 ?_
    replace h := h _ e6
    exact ⟨_, xi_To.rf _ _ _ _, 0, s6, rfl, h⟩
-- RootLoom$Machine.doPrint
def w_80 (X : zX) (s : zS) (Q : Int → zS → Prop) : Prop := wW X 80 xm_80 1 (0, [some (.ref 31), none], [], zw X s) Q
def w_80_37 (X : zX) (x1 : Int) (s : zS) (Q : Int → zS → Prop) : Prop := wW X 80 xm_80 1 (37, [some (.ref 31), some (.int (Int32.ofInt x1))], [], zw X s) Q
theorem w_80_i {X : zX} {s : zS} {Q : Int → zS → Prop} (h : (w_95 X s (fun v1 s1 => ((-2147483648 ≤ (s1 31 14) ∧ (s1 31 14) ≤ 2147483647) ∧ (64 ≤ (s1 31 14) → w_80_37 X v1 s1 Q) ∧ (¬ 64 ≤ (s1 31 14) → (0 ≤ (s1 31 14) ∧ (s1 31 14) < 64) ∧ (∀ s2 : zS, s2 = zu s1 44 (s1 31 14) v1 → (∀ s3 : zS, s3 = zu s2 31 14 ((s2 31 14) + 1) → w_80_37 X v1 s3 Q))))))) : w_80 X s Q := by
  intro hZ d hd
  have hM : xi_ml[80]? = some xm_80 := rfl
  refine gx_r hM hZ 2 (B := (4, [some (.ref 31), none], [.ref 39], zw X s)) rfl ?_
  refine gi_call hM (s := s) (hj := 0) hZ rfl rfl (by omega) h ?_
  intro v1 s1 h
  refine gx_r hM hZ 3 (B := (12, [some (.ref 31), some (.int (Int32.ofInt v1))], [.int (Int32.ofInt (s1 31 14))], zw X s1)) rfl ?_
  refine gi_bip hM hZ rfl rfl ?_
  refine gi_if2 hM hZ (fun x y => decide (y ≤ x)) (p := 64 ≤ (s1 31 14)) rfl rfl (zc_ge h.1 (by decide)) ?_ ?_
  · intro hp
    replace h := h.2.1 hp
    exact gx_fg [true, true] (h hZ d hd)
  · intro hp
    replace h := h.2.2 hp
    refine gx_r hM hZ 5 (B := (26, [some (.ref 31), some (.int (Int32.ofInt v1))], [.int (Int32.ofInt v1), .int (Int32.ofInt (s1 31 14)), .ref 44], zw X s1)) rfl ?_
    obtain ⟨s2, e2⟩ : ∃ q : zS, q = zu s1 44 (s1 31 14) v1 := ⟨_, rfl⟩
    refine gj_iast hM hZ (len := 64) rfl rfl (Nat.le_of_ble_eq_true rfl) zp_44 h.1 e2 ?_
    replace h := h.2 _ e2
    refine gx_r hM hZ 4 (B := (33, [some (.ref 31), some (.int (Int32.ofInt v1))], [.int (Int32.ofInt 1), .int (Int32.ofInt (s2 31 14)), .ref 31], zw X s2)) rfl ?_
    refine gi_add hM hZ rfl ?_
    obtain ⟨s3, e3⟩ : ∃ q : zS, q = zu s2 31 14 ((s2 31 14) + 1) := ⟨_, rfl⟩
    refine gj_put hM hZ rfl rfl rfl (Nat.le_of_ble_eq_true rfl) rfl rfl zq_31_14 e3 ?_
    replace h := h _ e3
    exact gx_fg [true, true] (h hZ d hd)
theorem w_80_37_i {X : zX} {x1 : Int} {s : zS} {Q : Int → zS → Prop} (h : (w_93 X x1 s (fun _ s1 => Q 0 s1))) : w_80_37 X x1 s Q := by
  intro hZ d hd
  have hM : xi_ml[80]? = some xm_80 := rfl
  refine gx_r hM hZ 3 (B := (42, [some (.ref 31), some (.int (Int32.ofInt x1))], [.int (Int32.ofInt x1), .ref 39], zw X s)) rfl ?_
  refine gi_call hM (s := s) (hj := 0) hZ rfl rfl (by omega) h ?_
  intro _ s1 h
  exact ⟨_, xi_To.rf _ _ _ _, 0, s1, rfl, h⟩
-- RootLoom$Machine.report
def w_81 (X : zX) (x1 : Int) (s : zS) (Q : Int → zS → Prop) : Prop := wW X 81 xm_81 1 (0, [some (.ref 31), some (.int (Int32.ofInt x1))], [], zw X s) Q
theorem w_81_i {X : zX} {x1 : Int} {s : zS} {Q : Int → zS → Prop} (h : ((-2147483648 ≤ (s 31 8) ∧ (s 31 8) ≤ 2147483647) ∧ (¬ (s 31 8) = (-1) → ((-2147483648 ≤ x1 ∧ x1 ≤ 2147483647) ∧ ((x1 < 0 ∨ 6 < x1) → Q (-1) s) ∧ ((x1 = 0) → Q (s 31 8) s) ∧ ((x1 = 1) → Q (s 31 9) s) ∧ ((x1 = 2) → Q (s 31 10) s) ∧ ((x1 = 3) → (w_86 X s (fun v1 s1 => Q v1 s1))) ∧ ((x1 = 4) → Q (s 31 11) s) ∧ ((x1 = 5) → Q (s 31 12) s) ∧ ((x1 = 6) → Q (s 31 14) s))) ∧ (¬ ¬ (s 31 8) = (-1) → Q (-1) s))) : w_81 X x1 s Q := by
  intro hZ d hd
  have hM : xi_ml[81]? = some xm_81 := rfl
  refine gx_r hM hZ 3 (B := (5, [some (.ref 31), some (.int (Int32.ofInt x1))], [.int (Int32.ofInt (-1)), .int (Int32.ofInt (s 31 8))], zw X s)) rfl ?_
  refine gi_if2 hM hZ (fun x y => decide (¬ x = y)) (p := ¬ (s 31 8) = (-1)) rfl rfl (zc_ne h.1 (by decide)) ?_ ?_
  · intro hp
    replace h := h.2.1 hp
    refine gx_r hM hZ 1 (B := (11, [some (.ref 31), some (.int (Int32.ofInt x1))], [.int (Int32.ofInt x1)], zw X s)) rfl ?_
    by_cases hq0 : (x1 = 0)
    · refine gi_tab hM hZ (x := x1) (o := 41) rfl h.1 ?_ (by decide) ?_
      · rw [hq0]; rfl
      · replace h := h.2.2.1 hq0
        refine gx_r hM hZ 2 (B := (56, [some (.ref 31), some (.int (Int32.ofInt x1))], [.int (Int32.ofInt (s 31 8))], zw X s)) rfl ?_
        exact ⟨_, xi_To.rf _ _ _ _, (s 31 8), s, rfl, h⟩
    · by_cases hq1 : (x1 = 1)
      · refine gi_tab hM hZ (x := x1) (o := 46) rfl h.1 ?_ (by decide) ?_
        · rw [hq1]; rfl
        · replace h := h.2.2.2.1 hq1
          refine gx_r hM hZ 2 (B := (61, [some (.ref 31), some (.int (Int32.ofInt x1))], [.int (Int32.ofInt (s 31 9))], zw X s)) rfl ?_
          exact ⟨_, xi_To.rf _ _ _ _, (s 31 9), s, rfl, h⟩
      · by_cases hq2 : (x1 = 2)
        · refine gi_tab hM hZ (x := x1) (o := 51) rfl h.1 ?_ (by decide) ?_
          · rw [hq2]; rfl
          · replace h := h.2.2.2.2.1 hq2
            refine gx_r hM hZ 2 (B := (66, [some (.ref 31), some (.int (Int32.ofInt x1))], [.int (Int32.ofInt (s 31 10))], zw X s)) rfl ?_
            exact ⟨_, xi_To.rf _ _ _ _, (s 31 10), s, rfl, h⟩
        · by_cases hq3 : (x1 = 3)
          · refine gi_tab hM hZ (x := x1) (o := 56) rfl h.1 ?_ (by decide) ?_
            · rw [hq3]; rfl
            · replace h := h.2.2.2.2.2.1 hq3
              refine gx_r hM hZ 2 (B := (71, [some (.ref 31), some (.int (Int32.ofInt x1))], [.ref 32], zw X s)) rfl ?_
              refine gi_call hM (s := s) (hj := 0) hZ rfl rfl (by omega) h ?_
              intro v1 s1 h
              exact ⟨_, xi_To.rf _ _ _ _, v1, s1, rfl, h⟩
          · by_cases hq4 : (x1 = 4)
            · refine gi_tab hM hZ (x := x1) (o := 64) rfl h.1 ?_ (by decide) ?_
              · rw [hq4]; rfl
              · replace h := h.2.2.2.2.2.2.1 hq4
                refine gx_r hM hZ 2 (B := (79, [some (.ref 31), some (.int (Int32.ofInt x1))], [.int (Int32.ofInt (s 31 11))], zw X s)) rfl ?_
                exact ⟨_, xi_To.rf _ _ _ _, (s 31 11), s, rfl, h⟩
            · by_cases hq5 : (x1 = 5)
              · refine gi_tab hM hZ (x := x1) (o := 69) rfl h.1 ?_ (by decide) ?_
                · rw [hq5]; rfl
                · replace h := h.2.2.2.2.2.2.2.1 hq5
                  refine gx_r hM hZ 2 (B := (84, [some (.ref 31), some (.int (Int32.ofInt x1))], [.int (Int32.ofInt (s 31 12))], zw X s)) rfl ?_
                  exact ⟨_, xi_To.rf _ _ _ _, (s 31 12), s, rfl, h⟩
              · by_cases hq6 : (x1 = 6)
                · refine gi_tab hM hZ (x := x1) (o := 74) rfl h.1 ?_ (by decide) ?_
                  · rw [hq6]; rfl
                  · replace h := h.2.2.2.2.2.2.2.2 hq6
                    refine gx_r hM hZ 2 (B := (89, [some (.ref 31), some (.int (Int32.ofInt x1))], [.int (Int32.ofInt (s 31 14))], zw X s)) rfl ?_
                    exact ⟨_, xi_To.rf _ _ _ _, (s 31 14), s, rfl, h⟩
                · refine gi_tab hM hZ (x := x1) (o := 79) rfl h.1 ?_ (by decide) ?_
                  · exact if_pos (by omega)
                  · replace h := h.2.1 (by omega)
                    refine gx_r hM hZ 1 (B := (91, [some (.ref 31), some (.int (Int32.ofInt x1))], [.int (Int32.ofInt (-1))], zw X s)) rfl ?_
                    exact ⟨_, xi_To.rf _ _ _ _, (-1), s, rfl, h⟩
  · intro hp
    replace h := h.2.2 hp
    refine gx_r hM hZ 1 (B := (9, [some (.ref 31), some (.int (Int32.ofInt x1))], [.int (Int32.ofInt (-1))], zw X s)) rfl ?_
    exact ⟨_, xi_To.rf _ _ _ _, (-1), s, rfl, h⟩
-- RootLoom$Pairs.endCollection
def w_89_20_21 (X : zX) (s : zS) (Q : Int → zS → Prop) : Prop := wW X 89 xm_89 1 (0, [some (.ref 32), some (.ref 20), some (.ref 21), none, none, none], [], zw X s) Q
def w_89_20_21_2 (X : zX) (x3 : Int) (s : zS) (Q : Int → zS → Prop) : Prop := wW X 89 xm_89 1 (2, [some (.ref 32), some (.ref 20), some (.ref 21), some (.int (Int32.ofInt x3)), none, none], [], zw X s) Q
def w_89_20_21_48 (X : zX) (x3 x4 : Int) (s : zS) (Q : Int → zS → Prop) : Prop := wW X 89 xm_89 1 (48, [some (.ref 32), some (.ref 20), some (.ref 21), some (.int (Int32.ofInt x3)), some (.int (Int32.ofInt x4)), none], [], zw X s) Q
def w_89_20_21_71 (X : zX) (x3 : Int) (s : zS) (Q : Int → zS → Prop) : Prop := wW X 89 xm_89 1 (71, [some (.ref 32), some (.ref 20), some (.ref 21), some (.int (Int32.ofInt x3)), none, none], [], zw X s) Q
def w_89_20_21_77 (X : zX) (s : zS) (Q : Int → zS → Prop) : Prop := wW X 89 xm_89 1 (77, [some (.ref 32), none, none, none, none, none], [], zw X s) Q
def w_89_20_21_82 (X : zX) (x3 x4 : Int) (s : zS) (Q : Int → zS → Prop) : Prop := wW X 89 xm_89 1 (82, [some (.ref 32), none, none, some (.int (Int32.ofInt x3)), some (.int (Int32.ofInt x4)), none], [], zw X s) Q
def w_89_20_21_138 (X : zX) (x3 x4 : Int) (s : zS) (Q : Int → zS → Prop) : Prop := wW X 89 xm_89 1 (138, [some (.ref 32), none, none, some (.int (Int32.ofInt x3)), some (.int (Int32.ofInt x4)), none], [], zw X s) Q
theorem w_89_20_21_i {X : zX} {s : zS} {Q : Int → zS → Prop} (h : w_89_20_21_2 X 0 s Q) : w_89_20_21 X s Q := by
  intro hZ d hd
  have hM : xi_ml[89]? = some xm_89 := rfl
  refine gx_r hM hZ 2 (B := (2, [some (.ref 32), some (.ref 20), some (.ref 21), some (.int (Int32.ofInt 0)), none, none], [], zw X s)) rfl ?_
  exact gx_fg [true, true, true, true, false, false] (h hZ d hd)
theorem w_89_20_21_2_i {X : zX} {x3 : Int} {s : zS} {Q : Int → zS → Prop} (h : (((-2147483648 ≤ x3 ∧ x3 ≤ 2147483647) ∧ (-2147483648 ≤ (s 32 8) ∧ (s 32 8) ≤ 2147483647)) ∧ ((s 32 8) ≤ x3 → w_89_20_21_77 X s Q) ∧ (¬ (s 32 8) ≤ x3 → ((-2147483648 ≤ x3 ∧ x3 ≤ 2147483647) ∧ (200 ≤ x3 → w_89_20_21_77 X s Q) ∧ (¬ 200 ≤ x3 → (0 ≤ x3 ∧ x3 < 200) ∧ (0 ≤ (s 38 x3) ∧ (s 38 x3) < 201) ∧ (0 ≤ (s 35 (s 38 x3)) ∧ (s 35 (s 38 x3)) < 8) ∧ ((-2147483648 ≤ (s 20 (s 35 (s 38 x3))) ∧ (s 20 (s 35 (s 38 x3))) ≤ 2147483647) ∧ ((s 20 (s 35 (s 38 x3))) = 0 → w_89_20_21_48 X x3 (s 38 x3) s Q) ∧ (¬ (s 20 (s 35 (s 38 x3))) = 0 → (0 ≤ (s 38 x3) ∧ (s 38 x3) < 201) ∧ (w_88 X (s 33 (s 38 x3)) s (fun _ s1 => w_89_20_21_48 X x3 (s 38 x3) s1 Q))))))))) : w_89_20_21_2 X x3 s Q := by
  intro hZ d hd
  have hM : xi_ml[89]? = some xm_89 := rfl
  refine gx_r hM hZ 3 (B := (7, [some (.ref 32), some (.ref 20), some (.ref 21), some (.int (Int32.ofInt x3)), none, none], [.int (Int32.ofInt (s 32 8)), .int (Int32.ofInt x3)], zw X s)) rfl ?_
  refine gi_if2 hM hZ (fun x y => decide (y ≤ x)) (p := (s 32 8) ≤ x3) rfl rfl (zc_ge h.1.1 h.1.2) ?_ ?_
  · intro hp
    replace h := h.2.1 hp
    exact gx_fg [true, false, false, false, false, false] (h hZ d hd)
  · intro hp
    replace h := h.2.2 hp
    refine gx_r hM hZ 1 (B := (11, [some (.ref 32), some (.ref 20), some (.ref 21), some (.int (Int32.ofInt x3)), none, none], [.int (Int32.ofInt x3)], zw X s)) rfl ?_
    refine gi_sip hM hZ rfl rfl ?_
    refine gi_if2 hM hZ (fun x y => decide (y ≤ x)) (p := 200 ≤ x3) rfl rfl (zc_ge h.1 (by decide)) ?_ ?_
    · intro hp
      replace h := h.2.1 hp
      exact gx_fg [true, false, false, false, false, false] (h hZ d hd)
    · intro hp
      replace h := h.2.2 hp
      refine gx_r hM hZ 3 (B := (22, [some (.ref 32), some (.ref 20), some (.ref 21), some (.int (Int32.ofInt x3)), none, none], [.int (Int32.ofInt x3), .ref 38], zw X s)) rfl ?_
      refine gi_iald hM hZ (s := s) (len := 200) rfl rfl (Nat.le_of_ble_eq_true rfl) h.1 ?_
      replace h := h.2
      refine gx_r hM hZ 5 (B := (32, [some (.ref 32), some (.ref 20), some (.ref 21), some (.int (Int32.ofInt x3)), some (.int (Int32.ofInt (s 38 x3))), none], [.int (Int32.ofInt (s 38 x3)), .ref 35, .ref 20], zw X s)) rfl ?_
      refine gi_iald hM hZ (s := s) (len := 201) rfl rfl (Nat.le_of_ble_eq_true rfl) h.1 ?_
      replace h := h.2
      refine gi_iald hM hZ (s := s) (len := 8) rfl rfl (Nat.le_of_ble_eq_true rfl) h.1 ?_
      replace h := h.2
      refine gi_if1 hM hZ (fun x => decide (x = 0)) (p := (s 20 (s 35 (s 38 x3))) = 0) rfl rfl (zd_eq h.1) ?_ ?_
      · intro hp
        replace h := h.2.1 hp
        exact gx_fg [true, true, true, true, true, false] (h hZ d hd)
      · intro hp
        replace h := h.2.2 hp
        refine gx_r hM hZ 4 (B := (44, [some (.ref 32), some (.ref 20), some (.ref 21), some (.int (Int32.ofInt x3)), some (.int (Int32.ofInt (s 38 x3))), none], [.int (Int32.ofInt (s 38 x3)), .ref 33, .ref 32], zw X s)) rfl ?_
        refine gi_iald hM hZ (s := s) (len := 201) rfl rfl (Nat.le_of_ble_eq_true rfl) h.1 ?_
        replace h := h.2
        refine gi_call hM (s := s) (hj := 0) hZ rfl rfl (by omega) h ?_
        intro _ s1 h
        exact gx_fg [true, true, true, true, true, false] (h hZ d hd)
theorem w_89_20_21_48_i {X : zX} {x3 x4 : Int} {s : zS} {Q : Int → zS → Prop} (h : (0 ≤ x4 ∧ x4 < 201) ∧ (0 ≤ (s 35 x4) ∧ (s 35 x4) < 8) ∧ ((-2147483648 ≤ (s 21 (s 35 x4)) ∧ (s 21 (s 35 x4)) ≤ 2147483647) ∧ ((s 21 (s 35 x4)) = 0 → w_89_20_21_71 X x3 s Q) ∧ (¬ (s 21 (s 35 x4)) = 0 → (0 ≤ x4 ∧ x4 < 201) ∧ (w_88 X (s 34 x4) s (fun _ s1 => w_89_20_21_71 X x3 s1 Q))))) : w_89_20_21_48 X x3 x4 s Q := by
  intro hZ d hd
  have hM : xi_ml[89]? = some xm_89 := rfl
  refine gx_r hM hZ 4 (B := (55, [some (.ref 32), some (.ref 20), some (.ref 21), some (.int (Int32.ofInt x3)), some (.int (Int32.ofInt x4)), none], [.int (Int32.ofInt x4), .ref 35, .ref 21], zw X s)) rfl ?_
  refine gi_iald hM hZ (s := s) (len := 201) rfl rfl (Nat.le_of_ble_eq_true rfl) h.1 ?_
  replace h := h.2
  refine gi_iald hM hZ (s := s) (len := 8) rfl rfl (Nat.le_of_ble_eq_true rfl) h.1 ?_
  replace h := h.2
  refine gi_if1 hM hZ (fun x => decide (x = 0)) (p := (s 21 (s 35 x4)) = 0) rfl rfl (zd_eq h.1) ?_ ?_
  · intro hp
    replace h := h.2.1 hp
    exact gx_fg [true, true, true, true, false, false] (h hZ d hd)
  · intro hp
    replace h := h.2.2 hp
    refine gx_r hM hZ 4 (B := (67, [some (.ref 32), some (.ref 20), some (.ref 21), some (.int (Int32.ofInt x3)), some (.int (Int32.ofInt x4)), none], [.int (Int32.ofInt x4), .ref 34, .ref 32], zw X s)) rfl ?_
    refine gi_iald hM hZ (s := s) (len := 201) rfl rfl (Nat.le_of_ble_eq_true rfl) h.1 ?_
    replace h := h.2
    refine gi_call hM (s := s) (hj := 0) hZ rfl rfl (by omega) h ?_
    intro _ s1 h
    exact gx_fg [true, true, true, true, false, false] (h hZ d hd)
theorem w_89_20_21_71_i {X : zX} {x3 : Int} {s : zS} {Q : Int → zS → Prop} (h : w_89_20_21_2 X (x3 + 1) s Q) : w_89_20_21_71 X x3 s Q := by
  intro hZ d hd
  have hM : xi_ml[89]? = some xm_89 := rfl
  refine gi_inc hM hZ (x := x3) (m := 1) rfl rfl ?_
  refine gx_r hM hZ 0 (B := (74, [some (.ref 32), some (.ref 20), some (.ref 21), some (.int (Int32.ofInt (x3 + 1))), none, none], [], zw X s)) rfl ?_
  refine gx_r hM hZ 1 (B := (2, [some (.ref 32), some (.ref 20), some (.ref 21), some (.int (Int32.ofInt (x3 + 1))), none, none], [], zw X s)) rfl ?_
  exact gx_fg [true, true, true, true, false, false] (h hZ d hd)
theorem w_89_20_21_77_i {X : zX} {s : zS} {Q : Int → zS → Prop} (h : w_89_20_21_82 X 0 0 s Q) : w_89_20_21_77 X s Q := by
  intro hZ d hd
  have hM : xi_ml[89]? = some xm_89 := rfl
  refine gx_r hM hZ 4 (B := (82, [some (.ref 32), none, none, some (.int (Int32.ofInt 0)), some (.int (Int32.ofInt 0)), none], [], zw X s)) rfl ?_
  exact gx_fg [true, false, false, true, true, false] (h hZ d hd)
theorem w_89_20_21_82_i {X : zX} {x3 x4 : Int} {s : zS} {Q : Int → zS → Prop} (h : (((-2147483648 ≤ x4 ∧ x4 ≤ 2147483647) ∧ (-2147483648 ≤ (s 32 4) ∧ (s 32 4) ≤ 2147483647)) ∧ ((s 32 4) ≤ x4 → (∀ s1 : zS, s1 = zu s 32 4 x3 → Q 0 s1)) ∧ (¬ (s 32 4) ≤ x4 → (0 ≤ x4 ∧ x4 < 200) ∧ (0 ≤ (s 36 x4) ∧ (s 36 x4) < 201) ∧ (((-2147483648 ≤ (s 37 (s 36 x4)) ∧ (s 37 (s 36 x4)) ≤ 2147483647) ∧ (-2147483648 ≤ (s 32 6) ∧ (s 32 6) ≤ 2147483647)) ∧ (¬ (s 37 (s 36 x4)) = (s 32 6) → w_89_20_21_138 X x3 x4 s Q) ∧ (¬ ¬ (s 37 (s 36 x4)) = (s 32 6) → (0 ≤ x3 ∧ x3 < 200) ∧ (0 ≤ x4 ∧ x4 < 200) ∧ (∀ s2 : zS, s2 = zu s 36 x4 (s 36 x3) → (0 ≤ x3 ∧ x3 < 200) ∧ (∀ s3 : zS, s3 = zu s2 36 x3 (s 36 x4) → w_89_20_21_138 X (x3 + 1) x4 s3 Q))))))) : w_89_20_21_82 X x3 x4 s Q := by
  intro hZ d hd
  have hM : xi_ml[89]? = some xm_89 := rfl
  refine gx_r hM hZ 3 (B := (88, [some (.ref 32), none, none, some (.int (Int32.ofInt x3)), some (.int (Int32.ofInt x4)), none], [.int (Int32.ofInt (s 32 4)), .int (Int32.ofInt x4)], zw X s)) rfl ?_
  refine gi_if2 hM hZ (fun x y => decide (y ≤ x)) (p := (s 32 4) ≤ x4) rfl rfl (zc_ge h.1.1 h.1.2) ?_ ?_
  · intro hp
    replace h := h.2.1 hp
    refine gx_r hM hZ 2 (B := (146, [some (.ref 32), none, none, some (.int (Int32.ofInt x3)), some (.int (Int32.ofInt x4)), none], [.int (Int32.ofInt x3), .ref 32], zw X s)) rfl ?_
    obtain ⟨s1, e1⟩ : ∃ q : zS, q = zu s 32 4 x3 := ⟨_, rfl⟩
    refine gj_put hM hZ rfl rfl rfl (Nat.le_of_ble_eq_true rfl) rfl rfl zq_32_4 e1 ?_
    replace h := h _ e1
    exact ⟨_, xi_To.rf _ _ _ _, 0, s1, rfl, h⟩
  · intro hp
    replace h := h.2.2 hp
    refine gx_r hM hZ 3 (B := (97, [some (.ref 32), none, none, some (.int (Int32.ofInt x3)), some (.int (Int32.ofInt x4)), none], [.int (Int32.ofInt x4), .ref 36], zw X s)) rfl ?_
    refine gi_iald hM hZ (s := s) (len := 200) rfl rfl (Nat.le_of_ble_eq_true rfl) h.1 ?_
    replace h := h.2
    refine gx_r hM hZ 4 (B := (106, [some (.ref 32), none, none, some (.int (Int32.ofInt x3)), some (.int (Int32.ofInt x4)), some (.int (Int32.ofInt (s 36 x4)))], [.int (Int32.ofInt (s 36 x4)), .ref 37], zw X s)) rfl ?_
    refine gi_iald hM hZ (s := s) (len := 201) rfl rfl (Nat.le_of_ble_eq_true rfl) h.1 ?_
    replace h := h.2
    refine gx_r hM hZ 2 (B := (111, [some (.ref 32), none, none, some (.int (Int32.ofInt x3)), some (.int (Int32.ofInt x4)), some (.int (Int32.ofInt (s 36 x4)))], [.int (Int32.ofInt (s 32 6)), .int (Int32.ofInt (s 37 (s 36 x4)))], zw X s)) rfl ?_
    refine gi_if2 hM hZ (fun x y => decide (¬ x = y)) (p := ¬ (s 37 (s 36 x4)) = (s 32 6)) rfl rfl (zc_ne h.1.1 h.1.2) ?_ ?_
    · intro hp
      replace h := h.2.1 hp
      exact gx_fg [true, false, false, true, true, false] (h hZ d hd)
    · intro hp
      replace h := h.2.2 hp
      refine gx_r hM hZ 6 (B := (125, [some (.ref 32), none, none, some (.int (Int32.ofInt x3)), some (.int (Int32.ofInt x4)), some (.int (Int32.ofInt (s 36 x4)))], [.int (Int32.ofInt x3), .ref 36, .int (Int32.ofInt x4), .ref 36], zw X s)) rfl ?_
      refine gi_iald hM hZ (s := s) (len := 200) rfl rfl (Nat.le_of_ble_eq_true rfl) h.1 ?_
      replace h := h.2
      obtain ⟨s2, e2⟩ : ∃ q : zS, q = zu s 36 x4 (s 36 x3) := ⟨_, rfl⟩
      refine gj_iast hM hZ (len := 200) rfl rfl (Nat.le_of_ble_eq_true rfl) zp_36 h.1 e2 ?_
      replace h := h.2 _ e2
      refine gx_r hM hZ 4 (B := (134, [some (.ref 32), none, none, some (.int (Int32.ofInt x3)), some (.int (Int32.ofInt x4)), some (.int (Int32.ofInt (s 36 x4)))], [.int (Int32.ofInt (s 36 x4)), .int (Int32.ofInt x3), .ref 36], zw X s2)) rfl ?_
      obtain ⟨s3, e3⟩ : ∃ q : zS, q = zu s2 36 x3 (s 36 x4) := ⟨_, rfl⟩
      refine gj_iast hM hZ (len := 200) rfl rfl (Nat.le_of_ble_eq_true rfl) zp_36 h.1 e3 ?_
      replace h := h.2 _ e3
      refine gi_inc hM hZ (x := x3) (m := 1) rfl rfl ?_
      refine gx_r hM hZ 0 (B := (138, [some (.ref 32), none, none, some (.int (Int32.ofInt (x3 + 1))), some (.int (Int32.ofInt x4)), some (.int (Int32.ofInt (s 36 x4)))], [], zw X s3)) rfl ?_
      exact gx_fg [true, false, false, true, true, false] (h hZ d hd)
theorem w_89_20_21_138_i {X : zX} {x3 x4 : Int} {s : zS} {Q : Int → zS → Prop} (h : w_89_20_21_82 X x3 (x4 + 1) s Q) : w_89_20_21_138 X x3 x4 s Q := by
  intro hZ d hd
  have hM : xi_ml[89]? = some xm_89 := rfl
  refine gi_inc hM hZ (x := x4) (m := 1) rfl rfl ?_
  refine gx_r hM hZ 0 (B := (141, [some (.ref 32), none, none, some (.int (Int32.ofInt x3)), some (.int (Int32.ofInt (x4 + 1))), none], [], zw X s)) rfl ?_
  refine gx_r hM hZ 1 (B := (82, [some (.ref 32), none, none, some (.int (Int32.ofInt x3)), some (.int (Int32.ofInt (x4 + 1))), none], [], zw X s)) rfl ?_
  exact gx_fg [true, false, false, true, true, false] (h hZ d hd)
-- RootLoomModel.type
def w_100 (X : zX) (x1 x2 x3 : Int) (s : zS) (Q : Int → zS → Prop) : Prop := wW X 100 xm_100 1 (0, [some (.ref 45), some (.int (Int32.ofInt x1)), some (.int (Int32.ofInt x2)), some (.int (Int32.ofInt x3))], [], zw X s) Q
def w_100_35 (X : zX) (s : zS) (Q : Int → zS → Prop) : Prop := wW X 100 xm_100 1 (35, [none, none, none, none], [], zw X s) Q
theorem w_100_i {X : zX} {x1 x2 x3 : Int} {s : zS} {Q : Int → zS → Prop} (h : (∀ s1 : zS, s1 = zu s 45 0 0 → (w_101 X x1 1 7 s1 (fun v2 s2 => ((-2147483648 ≤ v2 ∧ v2 ≤ 2147483647) ∧ (v2 = 0 → w_100_35 X s2 Q) ∧ (¬ v2 = 0 → (w_101 X x2 0 7 s2 (fun v3 s3 => ((-2147483648 ≤ v3 ∧ v3 ≤ 2147483647) ∧ (v3 = 0 → w_100_35 X s3 Q) ∧ (¬ v3 = 0 → (w_101 X x3 0 7 s3 (fun v4 s4 => ((-2147483648 ≤ v4 ∧ v4 ≤ 2147483647) ∧ (¬ v4 = 0 → (0 ≤ x1 ∧ x1 < 8) ∧ (∀ s5 : zS, s5 = zu s4 46 x1 x2 → (0 ≤ x1 ∧ x1 < 8) ∧ (∀ s6 : zS, s6 = zu s5 47 x1 x3 → Q 1 s6))) ∧ (¬ ¬ v4 = 0 → w_100_35 X s4 Q)))))))))))))) : w_100 X x1 x2 x3 s Q := by
  intro hZ d hd
  have hM : xi_ml[100]? = some xm_100 := rfl
  refine gx_r hM hZ 2 (B := (2, [some (.ref 45), some (.int (Int32.ofInt x1)), some (.int (Int32.ofInt x2)), some (.int (Int32.ofInt x3))], [.int (Int32.ofInt 0), .ref 45], zw X s)) rfl ?_
  obtain ⟨s1, e1⟩ : ∃ q : zS, q = zu s 45 0 0 := ⟨_, rfl⟩
  refine gj_put hM hZ rfl rfl rfl (Nat.le_of_ble_eq_true rfl) rfl rfl zq_45_0 e1 ?_
  replace h := h _ e1
  refine gx_r hM hZ 2 (B := (7, [some (.ref 45), some (.int (Int32.ofInt x1)), some (.int (Int32.ofInt x2)), some (.int (Int32.ofInt x3))], [.int (Int32.ofInt 1), .int (Int32.ofInt x1)], zw X s1)) rfl ?_
  refine gi_bip hM hZ rfl rfl ?_
  refine gi_call hM (s := s1) (hj := 0) hZ rfl rfl (by omega) h ?_
  intro v2 s2 h
  refine gi_if1 hM hZ (fun x => decide (x = 0)) (p := v2 = 0) rfl rfl (zd_eq h.1) ?_ ?_
  · intro hp
    replace h := h.2.1 hp
    exact gx_fg [false, false, false, false] (h hZ d hd)
  · intro hp
    replace h := h.2.2 hp
    refine gx_r hM hZ 2 (B := (17, [some (.ref 45), some (.int (Int32.ofInt x1)), some (.int (Int32.ofInt x2)), some (.int (Int32.ofInt x3))], [.int (Int32.ofInt 0), .int (Int32.ofInt x2)], zw X s2)) rfl ?_
    refine gi_bip hM hZ rfl rfl ?_
    refine gi_call hM (s := s2) (hj := 0) hZ rfl rfl (by omega) h ?_
    intro v3 s3 h
    refine gi_if1 hM hZ (fun x => decide (x = 0)) (p := v3 = 0) rfl rfl (zd_eq h.1) ?_ ?_
    · intro hp
      replace h := h.2.1 hp
      exact gx_fg [false, false, false, false] (h hZ d hd)
    · intro hp
      replace h := h.2.2 hp
      refine gx_r hM hZ 2 (B := (27, [some (.ref 45), some (.int (Int32.ofInt x1)), some (.int (Int32.ofInt x2)), some (.int (Int32.ofInt x3))], [.int (Int32.ofInt 0), .int (Int32.ofInt x3)], zw X s3)) rfl ?_
      refine gi_bip hM hZ rfl rfl ?_
      refine gi_call hM (s := s3) (hj := 0) hZ rfl rfl (by omega) h ?_
      intro v4 s4 h
      refine gi_if1 hM hZ (fun x => decide (¬ x = 0)) (p := ¬ v4 = 0) rfl rfl (zd_ne h.1) ?_ ?_
      · intro hp
        replace h := h.2.1 hp
        refine gx_r hM hZ 4 (B := (43, [some (.ref 45), some (.int (Int32.ofInt x1)), some (.int (Int32.ofInt x2)), some (.int (Int32.ofInt x3))], [.int (Int32.ofInt x2), .int (Int32.ofInt x1), .ref 46], zw X s4)) rfl ?_
        obtain ⟨s5, e5⟩ : ∃ q : zS, q = zu s4 46 x1 x2 := ⟨_, rfl⟩
        refine gj_iast hM hZ (len := 8) rfl rfl (Nat.le_of_ble_eq_true rfl) zp_46 h.1 e5 ?_
        replace h := h.2 _ e5
        refine gx_r hM hZ 4 (B := (50, [some (.ref 45), some (.int (Int32.ofInt x1)), some (.int (Int32.ofInt x2)), some (.int (Int32.ofInt x3))], [.int (Int32.ofInt x3), .int (Int32.ofInt x1), .ref 47], zw X s5)) rfl ?_
        obtain ⟨s6, e6⟩ : ∃ q : zS, q = zu s5 47 x1 x3 := ⟨_, rfl⟩
        refine gj_iast hM hZ (len := 8) rfl rfl (Nat.le_of_ble_eq_true rfl) zp_47 h.1 e6 ?_
        replace h := h.2 _ e6
        refine gx_r hM hZ 1 (B := (52, [some (.ref 45), some (.int (Int32.ofInt x1)), some (.int (Int32.ofInt x2)), some (.int (Int32.ofInt x3))], [.int (Int32.ofInt 1)], zw X s6)) rfl ?_
        exact ⟨_, xi_To.rf _ _ _ _, 1, s6, rfl, h⟩
      · intro hp
        replace h := h.2.2 hp
        exact gx_fg [false, false, false, false] (h hZ d hd)
theorem w_100_35_i {X : zX} {s : zS} {Q : Int → zS → Prop} (h : Q 0 s) : w_100_35 X s Q := by
  intro hZ d hd
  have hM : xi_ml[100]? = some xm_100 := rfl
  refine gx_r hM hZ 1 (B := (36, [none, none, none, none], [.int (Int32.ofInt 0)], zw X s)) rfl ?_
  exact ⟨_, xi_To.rf _ _ _ _, 0, s, rfl, h⟩
-- RootLoomModel.function
def w_102 (X : zX) (x1 x2 x3 x4 x5 : Int) (s : zS) (Q : Int → zS → Prop) : Prop := wW X 102 xm_102 1 (0, [some (.ref 45), some (.int (Int32.ofInt x1)), some (.int (Int32.ofInt x2)), some (.int (Int32.ofInt x3)), some (.int (Int32.ofInt x4)), some (.int (Int32.ofInt x5)), none], [], zw X s) Q
def w_102_48 (X : zX) (x1 x2 x3 x4 x5 : Int) (s : zS) (Q : Int → zS → Prop) : Prop := wW X 102 xm_102 1 (48, [some (.ref 45), some (.int (Int32.ofInt x1)), some (.int (Int32.ofInt x2)), some (.int (Int32.ofInt x3)), some (.int (Int32.ofInt x4)), some (.int (Int32.ofInt x5)), none], [], zw X s) Q
def w_102_64 (X : zX) (x1 x2 x3 x4 x5 : Int) (s : zS) (Q : Int → zS → Prop) : Prop := wW X 102 xm_102 1 (64, [some (.ref 45), some (.int (Int32.ofInt x1)), some (.int (Int32.ofInt x2)), some (.int (Int32.ofInt x3)), some (.int (Int32.ofInt x4)), some (.int (Int32.ofInt x5)), none], [], zw X s) Q
def w_102_80 (X : zX) (x1 x2 x3 x4 x5 : Int) (s : zS) (Q : Int → zS → Prop) : Prop := wW X 102 xm_102 1 (80, [some (.ref 45), some (.int (Int32.ofInt x1)), some (.int (Int32.ofInt x2)), some (.int (Int32.ofInt x3)), some (.int (Int32.ofInt x4)), some (.int (Int32.ofInt x5)), none], [], zw X s) Q
def w_102_84 (X : zX) (x1 x2 x3 x4 x5 : Int) (s : zS) (Q : Int → zS → Prop) : Prop := wW X 102 xm_102 1 (84, [some (.ref 45), some (.int (Int32.ofInt x1)), some (.int (Int32.ofInt x2)), some (.int (Int32.ofInt x3)), some (.int (Int32.ofInt x4)), some (.int (Int32.ofInt x5)), none], [], zw X s) Q
def w_102_85 (X : zX) (x1 x2 x3 x4 x5 t0 : Int) (s : zS) (Q : Int → zS → Prop) : Prop := wW X 102 xm_102 1 (85, [some (.ref 45), some (.int (Int32.ofInt x1)), some (.int (Int32.ofInt x2)), some (.int (Int32.ofInt x3)), some (.int (Int32.ofInt x4)), some (.int (Int32.ofInt x5)), none], [.int (Int32.ofInt t0)], zw X s) Q
theorem w_102_i {X : zX} {x1 x2 x3 x4 x5 : Int} {s : zS} {Q : Int → zS → Prop} (h : (∀ s1 : zS, s1 = zu s 45 0 0 → ((-2147483648 ≤ (s1 45 3) ∧ (s1 45 3) ≤ 2147483647) ∧ (6 ≤ (s1 45 3) → w_102_84 X x1 x2 x3 x4 x5 s1 Q) ∧ (¬ 6 ≤ (s1 45 3) → (w_101 X x1 0 7 s1 (fun v2 s2 => ((-2147483648 ≤ v2 ∧ v2 ≤ 2147483647) ∧ (v2 = 0 → w_102_84 X x1 x2 x3 x4 x5 s2 Q) ∧ (¬ v2 = 0 → (w_101 X x2 0 3 s2 (fun v3 s3 => ((-2147483648 ≤ v3 ∧ v3 ≤ 2147483647) ∧ (v3 = 0 → w_102_84 X x1 x2 x3 x4 x5 s3 Q) ∧ (¬ v3 = 0 → ((-2147483648 ≤ x2 ∧ x2 ≤ 2147483647) ∧ (x2 < 1 → w_102_48 X x1 x2 x3 x4 x5 s3 Q) ∧ (¬ x2 < 1 → (w_101 X x3 0 7 s3 (fun v4 s4 => ((-2147483648 ≤ v4 ∧ v4 ≤ 2147483647) ∧ (v4 = 0 → w_102_84 X x1 x2 x3 x4 x5 s4 Q) ∧ (¬ v4 = 0 → w_102_48 X x1 x2 x3 x4 x5 s4 Q)))))))))))))))))) : w_102 X x1 x2 x3 x4 x5 s Q := by
  intro hZ d hd
  have hM : xi_ml[102]? = some xm_102 := rfl
  refine gx_r hM hZ 2 (B := (2, [some (.ref 45), some (.int (Int32.ofInt x1)), some (.int (Int32.ofInt x2)), some (.int (Int32.ofInt x3)), some (.int (Int32.ofInt x4)), some (.int (Int32.ofInt x5)), none], [.int (Int32.ofInt 0), .ref 45], zw X s)) rfl ?_
  obtain ⟨s1, e1⟩ : ∃ q : zS, q = zu s 45 0 0 := ⟨_, rfl⟩
  refine gj_put hM hZ rfl rfl rfl (Nat.le_of_ble_eq_true rfl) rfl rfl zq_45_0 e1 ?_
  replace h := h _ e1
  refine gx_r hM hZ 2 (B := (9, [some (.ref 45), some (.int (Int32.ofInt x1)), some (.int (Int32.ofInt x2)), some (.int (Int32.ofInt x3)), some (.int (Int32.ofInt x4)), some (.int (Int32.ofInt x5)), none], [.int (Int32.ofInt (s1 45 3))], zw X s1)) rfl ?_
  refine gi_bip hM hZ rfl rfl ?_
  refine gi_if2 hM hZ (fun x y => decide (y ≤ x)) (p := 6 ≤ (s1 45 3)) rfl rfl (zc_ge h.1 (by decide)) ?_ ?_
  · intro hp
    replace h := h.2.1 hp
    exact gx_fg [true, true, true, true, true, true, false] (h hZ d hd)
  · intro hp
    replace h := h.2.2 hp
    refine gx_r hM hZ 2 (B := (16, [some (.ref 45), some (.int (Int32.ofInt x1)), some (.int (Int32.ofInt x2)), some (.int (Int32.ofInt x3)), some (.int (Int32.ofInt x4)), some (.int (Int32.ofInt x5)), none], [.int (Int32.ofInt 0), .int (Int32.ofInt x1)], zw X s1)) rfl ?_
    refine gi_bip hM hZ rfl rfl ?_
    refine gi_call hM (s := s1) (hj := 0) hZ rfl rfl (by omega) h ?_
    intro v2 s2 h
    refine gi_if1 hM hZ (fun x => decide (x = 0)) (p := v2 = 0) rfl rfl (zd_eq h.1) ?_ ?_
    · intro hp
      replace h := h.2.1 hp
      exact gx_fg [true, true, true, true, true, true, false] (h hZ d hd)
    · intro hp
      replace h := h.2.2 hp
      refine gx_r hM hZ 3 (B := (27, [some (.ref 45), some (.int (Int32.ofInt x1)), some (.int (Int32.ofInt x2)), some (.int (Int32.ofInt x3)), some (.int (Int32.ofInt x4)), some (.int (Int32.ofInt x5)), none], [.int (Int32.ofInt 3), .int (Int32.ofInt 0), .int (Int32.ofInt x2)], zw X s2)) rfl ?_
      refine gi_call hM (s := s2) (hj := 0) hZ rfl rfl (by omega) h ?_
      intro v3 s3 h
      refine gi_if1 hM hZ (fun x => decide (x = 0)) (p := v3 = 0) rfl rfl (zd_eq h.1) ?_ ?_
      · intro hp
        replace h := h.2.1 hp
        exact gx_fg [true, true, true, true, true, true, false] (h hZ d hd)
      · intro hp
        replace h := h.2.2 hp
        refine gx_r hM hZ 2 (B := (35, [some (.ref 45), some (.int (Int32.ofInt x1)), some (.int (Int32.ofInt x2)), some (.int (Int32.ofInt x3)), some (.int (Int32.ofInt x4)), some (.int (Int32.ofInt x5)), none], [.int (Int32.ofInt 1), .int (Int32.ofInt x2)], zw X s3)) rfl ?_
        refine gi_if2 hM hZ (fun x y => decide (x < y)) (p := x2 < 1) rfl rfl (zc_lt h.1 (by decide)) ?_ ?_
        · intro hp
          replace h := h.2.1 hp
          exact gx_fg [true, true, true, true, true, true, false] (h hZ d hd)
        · intro hp
          replace h := h.2.2 hp
          refine gx_r hM hZ 2 (B := (40, [some (.ref 45), some (.int (Int32.ofInt x1)), some (.int (Int32.ofInt x2)), some (.int (Int32.ofInt x3)), some (.int (Int32.ofInt x4)), some (.int (Int32.ofInt x5)), none], [.int (Int32.ofInt 0), .int (Int32.ofInt x3)], zw X s3)) rfl ?_
          refine gi_bip hM hZ rfl rfl ?_
          refine gi_call hM (s := s3) (hj := 0) hZ rfl rfl (by omega) h ?_
          intro v4 s4 h
          refine gi_if1 hM hZ (fun x => decide (x = 0)) (p := v4 = 0) rfl rfl (zd_eq h.1) ?_ ?_
          · intro hp
            replace h := h.2.1 hp
            exact gx_fg [true, true, true, true, true, true, false] (h hZ d hd)
          · intro hp
            replace h := h.2.2 hp
            exact gx_fg [true, true, true, true, true, true, false] (h hZ d hd)
theorem w_102_48_i {X : zX} {x1 x2 x3 x4 x5 : Int} {s : zS} {Q : Int → zS → Prop} (h : ((-2147483648 ≤ x2 ∧ x2 ≤ 2147483647) ∧ (x2 < 2 → w_102_64 X x1 x2 x3 x4 x5 s Q) ∧ (¬ x2 < 2 → (w_101 X x4 0 7 s (fun v1 s1 => ((-2147483648 ≤ v1 ∧ v1 ≤ 2147483647) ∧ (v1 = 0 → w_102_84 X x1 x2 x3 x4 x5 s1 Q) ∧ (¬ v1 = 0 → w_102_64 X x1 x2 x3 x4 x5 s1 Q))))))) : w_102_48 X x1 x2 x3 x4 x5 s Q := by
  intro hZ d hd
  have hM : xi_ml[102]? = some xm_102 := rfl
  refine gx_r hM hZ 2 (B := (50, [some (.ref 45), some (.int (Int32.ofInt x1)), some (.int (Int32.ofInt x2)), some (.int (Int32.ofInt x3)), some (.int (Int32.ofInt x4)), some (.int (Int32.ofInt x5)), none], [.int (Int32.ofInt 2), .int (Int32.ofInt x2)], zw X s)) rfl ?_
  refine gi_if2 hM hZ (fun x y => decide (x < y)) (p := x2 < 2) rfl rfl (zc_lt h.1 (by decide)) ?_ ?_
  · intro hp
    replace h := h.2.1 hp
    exact gx_fg [true, true, true, true, true, true, false] (h hZ d hd)
  · intro hp
    replace h := h.2.2 hp
    refine gx_r hM hZ 2 (B := (56, [some (.ref 45), some (.int (Int32.ofInt x1)), some (.int (Int32.ofInt x2)), some (.int (Int32.ofInt x3)), some (.int (Int32.ofInt x4)), some (.int (Int32.ofInt x5)), none], [.int (Int32.ofInt 0), .int (Int32.ofInt x4)], zw X s)) rfl ?_
    refine gi_bip hM hZ rfl rfl ?_
    refine gi_call hM (s := s) (hj := 0) hZ rfl rfl (by omega) h ?_
    intro v1 s1 h
    refine gi_if1 hM hZ (fun x => decide (x = 0)) (p := v1 = 0) rfl rfl (zd_eq h.1) ?_ ?_
    · intro hp
      replace h := h.2.1 hp
      exact gx_fg [true, true, true, true, true, true, false] (h hZ d hd)
    · intro hp
      replace h := h.2.2 hp
      exact gx_fg [true, true, true, true, true, true, false] (h hZ d hd)
theorem w_102_64_i {X : zX} {x1 x2 x3 x4 x5 : Int} {s : zS} {Q : Int → zS → Prop} (h : ((-2147483648 ≤ x2 ∧ x2 ≤ 2147483647) ∧ (x2 < 3 → w_102_80 X x1 x2 x3 x4 x5 s Q) ∧ (¬ x2 < 3 → (w_101 X x5 0 7 s (fun v1 s1 => ((-2147483648 ≤ v1 ∧ v1 ≤ 2147483647) ∧ (v1 = 0 → w_102_84 X x1 x2 x3 x4 x5 s1 Q) ∧ (¬ v1 = 0 → w_102_80 X x1 x2 x3 x4 x5 s1 Q))))))) : w_102_64 X x1 x2 x3 x4 x5 s Q := by
  intro hZ d hd
  have hM : xi_ml[102]? = some xm_102 := rfl
  refine gx_r hM hZ 2 (B := (66, [some (.ref 45), some (.int (Int32.ofInt x1)), some (.int (Int32.ofInt x2)), some (.int (Int32.ofInt x3)), some (.int (Int32.ofInt x4)), some (.int (Int32.ofInt x5)), none], [.int (Int32.ofInt 3), .int (Int32.ofInt x2)], zw X s)) rfl ?_
  refine gi_if2 hM hZ (fun x y => decide (x < y)) (p := x2 < 3) rfl rfl (zc_lt h.1 (by decide)) ?_ ?_
  · intro hp
    replace h := h.2.1 hp
    exact gx_fg [true, true, true, true, true, true, false] (h hZ d hd)
  · intro hp
    replace h := h.2.2 hp
    refine gx_r hM hZ 2 (B := (72, [some (.ref 45), some (.int (Int32.ofInt x1)), some (.int (Int32.ofInt x2)), some (.int (Int32.ofInt x3)), some (.int (Int32.ofInt x4)), some (.int (Int32.ofInt x5)), none], [.int (Int32.ofInt 0), .int (Int32.ofInt x5)], zw X s)) rfl ?_
    refine gi_bip hM hZ rfl rfl ?_
    refine gi_call hM (s := s) (hj := 0) hZ rfl rfl (by omega) h ?_
    intro v1 s1 h
    refine gi_if1 hM hZ (fun x => decide (x = 0)) (p := v1 = 0) rfl rfl (zd_eq h.1) ?_ ?_
    · intro hp
      replace h := h.2.1 hp
      exact gx_fg [true, true, true, true, true, true, false] (h hZ d hd)
    · intro hp
      replace h := h.2.2 hp
      exact gx_fg [true, true, true, true, true, true, false] (h hZ d hd)
theorem w_102_80_i {X : zX} {x1 x2 x3 x4 x5 : Int} {s : zS} {Q : Int → zS → Prop} (h : w_102_85 X x1 x2 x3 x4 x5 1 s Q) : w_102_80 X x1 x2 x3 x4 x5 s Q := by
  intro hZ d hd
  have hM : xi_ml[102]? = some xm_102 := rfl
  refine gx_r hM hZ 2 (B := (85, [some (.ref 45), some (.int (Int32.ofInt x1)), some (.int (Int32.ofInt x2)), some (.int (Int32.ofInt x3)), some (.int (Int32.ofInt x4)), some (.int (Int32.ofInt x5)), none], [.int (Int32.ofInt 1)], zw X s)) rfl ?_
  exact gx_fg [true, true, true, true, true, true, false] (h hZ d hd)
theorem w_102_84_i {X : zX} {x1 x2 x3 x4 x5 : Int} {s : zS} {Q : Int → zS → Prop} (h : w_102_85 X x1 x2 x3 x4 x5 0 s Q) : w_102_84 X x1 x2 x3 x4 x5 s Q := by
  intro hZ d hd
  have hM : xi_ml[102]? = some xm_102 := rfl
  refine gx_r hM hZ 1 (B := (85, [some (.ref 45), some (.int (Int32.ofInt x1)), some (.int (Int32.ofInt x2)), some (.int (Int32.ofInt x3)), some (.int (Int32.ofInt x4)), some (.int (Int32.ofInt x5)), none], [.int (Int32.ofInt 0)], zw X s)) rfl ?_
  exact gx_fg [true, true, true, true, true, true, false] (h hZ d hd)
theorem w_102_85_i {X : zX} {x1 x2 x3 x4 x5 t0 : Int} {s : zS} {Q : Int → zS → Prop} (h : ((-2147483648 ≤ t0 ∧ t0 ≤ 2147483647) ∧ (¬ t0 = 0 → (0 ≤ (s 45 3) ∧ (s 45 3) < 6) ∧ (∀ s1 : zS, s1 = zu s 48 (s 45 3) x1 → (0 ≤ (s1 45 3) ∧ (s1 45 3) < 6) ∧ (∀ s2 : zS, s2 = zu s1 49 (s1 45 3) x2 → (0 ≤ (3 * (s2 45 3)) ∧ (3 * (s2 45 3)) < 18) ∧ (∀ s3 : zS, s3 = zu s2 50 (3 * (s2 45 3)) x3 → (0 ≤ ((3 * (s3 45 3)) + 1) ∧ ((3 * (s3 45 3)) + 1) < 18) ∧ (∀ s4 : zS, s4 = zu s3 50 ((3 * (s3 45 3)) + 1) x4 → (0 ≤ ((3 * (s4 45 3)) + 2) ∧ ((3 * (s4 45 3)) + 2) < 18) ∧ (∀ s5 : zS, s5 = zu s4 50 ((3 * (s4 45 3)) + 2) x5 → (0 ≤ (s5 45 3) ∧ (s5 45 3) < 6) ∧ (∀ s6 : zS, s6 = zu s5 51 (s5 45 3) (-1) → (∀ s7 : zS, s7 = zu s6 45 3 ((s6 45 3) + 1) → Q ((s7 45 3) - 1) s7)))))))) ∧ (¬ ¬ t0 = 0 → Q (-1) s))) : w_102_85 X x1 x2 x3 x4 x5 t0 s Q := by
  intro hZ d hd
  have hM : xi_ml[102]? = some xm_102 := rfl
  refine gx_r hM hZ 2 (B := (89, [some (.ref 45), some (.int (Int32.ofInt x1)), some (.int (Int32.ofInt x2)), some (.int (Int32.ofInt x3)), some (.int (Int32.ofInt x4)), some (.int (Int32.ofInt x5)), some (.int (Int32.ofInt t0))], [.int (Int32.ofInt t0)], zw X s)) rfl ?_
  refine gi_if1 hM hZ (fun x => decide (¬ x = 0)) (p := ¬ t0 = 0) rfl rfl (zd_ne h.1) ?_ ?_
  · intro hp
    replace h := h.2.1 hp
    refine gx_r hM hZ 5 (B := (103, [some (.ref 45), some (.int (Int32.ofInt x1)), some (.int (Int32.ofInt x2)), some (.int (Int32.ofInt x3)), some (.int (Int32.ofInt x4)), some (.int (Int32.ofInt x5)), some (.int (Int32.ofInt t0))], [.int (Int32.ofInt x1), .int (Int32.ofInt (s 45 3)), .ref 48], zw X s)) rfl ?_
    obtain ⟨s1, e1⟩ : ∃ q : zS, q = zu s 48 (s 45 3) x1 := ⟨_, rfl⟩
    refine gj_iast hM hZ (len := 6) rfl rfl (Nat.le_of_ble_eq_true rfl) zp_48 h.1 e1 ?_
    replace h := h.2 _ e1
    refine gx_r hM hZ 5 (B := (113, [some (.ref 45), some (.int (Int32.ofInt x1)), some (.int (Int32.ofInt x2)), some (.int (Int32.ofInt x3)), some (.int (Int32.ofInt x4)), some (.int (Int32.ofInt x5)), some (.int (Int32.ofInt t0))], [.int (Int32.ofInt x2), .int (Int32.ofInt (s1 45 3)), .ref 49], zw X s1)) rfl ?_
    obtain ⟨s2, e2⟩ : ∃ q : zS, q = zu s1 49 (s1 45 3) x2 := ⟨_, rfl⟩
    refine gj_iast hM hZ (len := 6) rfl rfl (Nat.le_of_ble_eq_true rfl) zp_49 h.1 e2 ?_
    replace h := h.2 _ e2
    refine gx_r hM hZ 5 (B := (123, [some (.ref 45), some (.int (Int32.ofInt x1)), some (.int (Int32.ofInt x2)), some (.int (Int32.ofInt x3)), some (.int (Int32.ofInt x4)), some (.int (Int32.ofInt x5)), some (.int (Int32.ofInt t0))], [.int (Int32.ofInt (s2 45 3)), .int (Int32.ofInt 3), .ref 50], zw X s2)) rfl ?_
    refine gi_mul hM hZ rfl ?_
    refine gx_r hM hZ 1 (B := (125, [some (.ref 45), some (.int (Int32.ofInt x1)), some (.int (Int32.ofInt x2)), some (.int (Int32.ofInt x3)), some (.int (Int32.ofInt x4)), some (.int (Int32.ofInt x5)), some (.int (Int32.ofInt t0))], [.int (Int32.ofInt x3), .int (Int32.ofInt (3 * (s2 45 3))), .ref 50], zw X s2)) rfl ?_
    obtain ⟨s3, e3⟩ : ∃ q : zS, q = zu s2 50 (3 * (s2 45 3)) x3 := ⟨_, rfl⟩
    refine gj_iast hM hZ (len := 18) rfl rfl (Nat.le_of_ble_eq_true rfl) zp_50 h.1 e3 ?_
    replace h := h.2 _ e3
    refine gx_r hM hZ 5 (B := (135, [some (.ref 45), some (.int (Int32.ofInt x1)), some (.int (Int32.ofInt x2)), some (.int (Int32.ofInt x3)), some (.int (Int32.ofInt x4)), some (.int (Int32.ofInt x5)), some (.int (Int32.ofInt t0))], [.int (Int32.ofInt (s3 45 3)), .int (Int32.ofInt 3), .ref 50], zw X s3)) rfl ?_
    refine gi_mul hM hZ rfl ?_
    refine gx_r hM hZ 1 (B := (137, [some (.ref 45), some (.int (Int32.ofInt x1)), some (.int (Int32.ofInt x2)), some (.int (Int32.ofInt x3)), some (.int (Int32.ofInt x4)), some (.int (Int32.ofInt x5)), some (.int (Int32.ofInt t0))], [.int (Int32.ofInt 1), .int (Int32.ofInt (3 * (s3 45 3))), .ref 50], zw X s3)) rfl ?_
    refine gi_add hM hZ rfl ?_
    refine gx_r hM hZ 1 (B := (140, [some (.ref 45), some (.int (Int32.ofInt x1)), some (.int (Int32.ofInt x2)), some (.int (Int32.ofInt x3)), some (.int (Int32.ofInt x4)), some (.int (Int32.ofInt x5)), some (.int (Int32.ofInt t0))], [.int (Int32.ofInt x4), .int (Int32.ofInt ((3 * (s3 45 3)) + 1)), .ref 50], zw X s3)) rfl ?_
    obtain ⟨s4, e4⟩ : ∃ q : zS, q = zu s3 50 ((3 * (s3 45 3)) + 1) x4 := ⟨_, rfl⟩
    refine gj_iast hM hZ (len := 18) rfl rfl (Nat.le_of_ble_eq_true rfl) zp_50 h.1 e4 ?_
    replace h := h.2 _ e4
    refine gx_r hM hZ 5 (B := (150, [some (.ref 45), some (.int (Int32.ofInt x1)), some (.int (Int32.ofInt x2)), some (.int (Int32.ofInt x3)), some (.int (Int32.ofInt x4)), some (.int (Int32.ofInt x5)), some (.int (Int32.ofInt t0))], [.int (Int32.ofInt (s4 45 3)), .int (Int32.ofInt 3), .ref 50], zw X s4)) rfl ?_
    refine gi_mul hM hZ rfl ?_
    refine gx_r hM hZ 1 (B := (152, [some (.ref 45), some (.int (Int32.ofInt x1)), some (.int (Int32.ofInt x2)), some (.int (Int32.ofInt x3)), some (.int (Int32.ofInt x4)), some (.int (Int32.ofInt x5)), some (.int (Int32.ofInt t0))], [.int (Int32.ofInt 2), .int (Int32.ofInt (3 * (s4 45 3))), .ref 50], zw X s4)) rfl ?_
    refine gi_add hM hZ rfl ?_
    refine gx_r hM hZ 1 (B := (155, [some (.ref 45), some (.int (Int32.ofInt x1)), some (.int (Int32.ofInt x2)), some (.int (Int32.ofInt x3)), some (.int (Int32.ofInt x4)), some (.int (Int32.ofInt x5)), some (.int (Int32.ofInt t0))], [.int (Int32.ofInt x5), .int (Int32.ofInt ((3 * (s4 45 3)) + 2)), .ref 50], zw X s4)) rfl ?_
    obtain ⟨s5, e5⟩ : ∃ q : zS, q = zu s4 50 ((3 * (s4 45 3)) + 2) x5 := ⟨_, rfl⟩
    refine gj_iast hM hZ (len := 18) rfl rfl (Nat.le_of_ble_eq_true rfl) zp_50 h.1 e5 ?_
    replace h := h.2 _ e5
    refine gx_r hM hZ 5 (B := (165, [some (.ref 45), some (.int (Int32.ofInt x1)), some (.int (Int32.ofInt x2)), some (.int (Int32.ofInt x3)), some (.int (Int32.ofInt x4)), some (.int (Int32.ofInt x5)), some (.int (Int32.ofInt t0))], [.int (Int32.ofInt (-1)), .int (Int32.ofInt (s5 45 3)), .ref 51], zw X s5)) rfl ?_
    obtain ⟨s6, e6⟩ : ∃ q : zS, q = zu s5 51 (s5 45 3) (-1) := ⟨_, rfl⟩
    refine gj_iast hM hZ (len := 6) rfl rfl (Nat.le_of_ble_eq_true rfl) zp_51 h.1 e6 ?_
    replace h := h.2 _ e6
    refine gx_r hM hZ 4 (B := (172, [some (.ref 45), some (.int (Int32.ofInt x1)), some (.int (Int32.ofInt x2)), some (.int (Int32.ofInt x3)), some (.int (Int32.ofInt x4)), some (.int (Int32.ofInt x5)), some (.int (Int32.ofInt t0))], [.int (Int32.ofInt 1), .int (Int32.ofInt (s6 45 3)), .ref 45], zw X s6)) rfl ?_
    refine gi_add hM hZ rfl ?_
    obtain ⟨s7, e7⟩ : ∃ q : zS, q = zu s6 45 3 ((s6 45 3) + 1) := ⟨_, rfl⟩
    refine gj_put hM hZ rfl rfl rfl (Nat.le_of_ble_eq_true rfl) rfl rfl zq_45_3 e7 ?_
    replace h := h _ e7
    refine gx_r hM hZ 3 (B := (181, [some (.ref 45), some (.int (Int32.ofInt x1)), some (.int (Int32.ofInt x2)), some (.int (Int32.ofInt x3)), some (.int (Int32.ofInt x4)), some (.int (Int32.ofInt x5)), some (.int (Int32.ofInt t0))], [.int (Int32.ofInt 1), .int (Int32.ofInt (s7 45 3))], zw X s7)) rfl ?_
    refine gi_sub hM hZ rfl ?_
    exact ⟨_, xi_To.rf _ _ _ _, ((s7 45 3) - 1), s7, rfl, h⟩
  · intro hp
    replace h := h.2.2 hp
    refine gx_r hM hZ 1 (B := (93, [some (.ref 45), some (.int (Int32.ofInt x1)), some (.int (Int32.ofInt x2)), some (.int (Int32.ofInt x3)), some (.int (Int32.ofInt x4)), some (.int (Int32.ofInt x5)), some (.int (Int32.ofInt t0))], [.int (Int32.ofInt (-1))], zw X s)) rfl ?_
    exact ⟨_, xi_To.rf _ _ _ _, (-1), s, rfl, h⟩
-- RootLoomModel.isExpression
def w_105 (X : zX) (x1 : Int) (s : zS) (Q : Int → zS → Prop) : Prop := wW X 105 xm_105 1 (0, [some (.ref 45), some (.int (Int32.ofInt x1))], [], zw X s) Q
def w_105_29 (X : zX) (s : zS) (Q : Int → zS → Prop) : Prop := wW X 105 xm_105 1 (29, [none, none], [], zw X s) Q
theorem w_105_i {X : zX} {x1 : Int} {s : zS} {Q : Int → zS → Prop} (h : (w_101 X x1 0 ((s 45 8) - 1) s (fun v1 s1 => ((-2147483648 ≤ v1 ∧ v1 ≤ 2147483647) ∧ (v1 = 0 → w_105_29 X s1 Q) ∧ (¬ v1 = 0 → (0 ≤ x1 ∧ x1 < 150) ∧ ((-2147483648 ≤ (s1 52 x1) ∧ (s1 52 x1) ≤ 2147483647) ∧ ((s1 52 x1) = 13 → w_105_29 X s1 Q) ∧ (¬ (s1 52 x1) = 13 → Q 1 s1))))))) : w_105 X x1 s Q := by
  intro hZ d hd
  have hM : xi_ml[105]? = some xm_105 := rfl
  refine gx_r hM hZ 5 (B := (7, [some (.ref 45), some (.int (Int32.ofInt x1))], [.int (Int32.ofInt 1), .int (Int32.ofInt (s 45 8)), .int (Int32.ofInt 0), .int (Int32.ofInt x1)], zw X s)) rfl ?_
  refine gi_sub hM hZ rfl ?_
  refine gi_call hM (s := s) (hj := 0) hZ rfl rfl (by omega) h ?_
  intro v1 s1 h
  refine gi_if1 hM hZ (fun x => decide (x = 0)) (p := v1 = 0) rfl rfl (zd_eq h.1) ?_ ?_
  · intro hp
    replace h := h.2.1 hp
    exact gx_fg [false, false] (h hZ d hd)
  · intro hp
    replace h := h.2.2 hp
    refine gx_r hM hZ 3 (B := (19, [some (.ref 45), some (.int (Int32.ofInt x1))], [.int (Int32.ofInt x1), .ref 52], zw X s1)) rfl ?_
    refine gi_iald hM hZ (s := s1) (len := 150) rfl rfl (Nat.le_of_ble_eq_true rfl) h.1 ?_
    replace h := h.2
    refine gi_bip hM hZ rfl rfl ?_
    refine gi_if2 hM hZ (fun x y => decide (x = y)) (p := (s1 52 x1) = 13) rfl rfl (zc_eq h.1 (by decide)) ?_ ?_
    · intro hp
      replace h := h.2.1 hp
      exact gx_fg [false, false] (h hZ d hd)
    · intro hp
      replace h := h.2.2 hp
      refine gx_r hM hZ 2 (B := (30, [some (.ref 45), some (.int (Int32.ofInt x1))], [.int (Int32.ofInt 1)], zw X s1)) rfl ?_
      exact ⟨_, xi_To.rf _ _ _ _, 1, s1, rfl, h⟩
theorem w_105_29_i {X : zX} {s : zS} {Q : Int → zS → Prop} (h : Q 0 s) : w_105_29 X s Q := by
  intro hZ d hd
  have hM : xi_ml[105]? = some xm_105 := rfl
  refine gx_r hM hZ 1 (B := (30, [none, none], [.int (Int32.ofInt 0)], zw X s)) rfl ?_
  exact ⟨_, xi_To.rf _ _ _ _, 0, s, rfl, h⟩
-- RootLoomModel.isArgument
def w_106 (X : zX) (x1 : Int) (s : zS) (Q : Int → zS → Prop) : Prop := wW X 106 xm_106 1 (0, [some (.ref 45), some (.int (Int32.ofInt x1))], [], zw X s) Q
def w_106_30 (X : zX) (s : zS) (Q : Int → zS → Prop) : Prop := wW X 106 xm_106 1 (30, [none, none], [], zw X s) Q
def w_106_34 (X : zX) (s : zS) (Q : Int → zS → Prop) : Prop := wW X 106 xm_106 1 (34, [none, none], [], zw X s) Q
theorem w_106_i {X : zX} {x1 : Int} {s : zS} {Q : Int → zS → Prop} (h : ((-2147483648 ≤ x1 ∧ x1 ≤ 2147483647) ∧ (x1 = (-1) → w_106_30 X s Q) ∧ (¬ x1 = (-1) → (w_101 X x1 0 ((s 45 8) - 1) s (fun v1 s1 => ((-2147483648 ≤ v1 ∧ v1 ≤ 2147483647) ∧ (v1 = 0 → w_106_34 X s1 Q) ∧ (¬ v1 = 0 → (0 ≤ x1 ∧ x1 < 150) ∧ ((-2147483648 ≤ (s1 52 x1) ∧ (s1 52 x1) ≤ 2147483647) ∧ (¬ (s1 52 x1) = 13 → w_106_34 X s1 Q) ∧ (¬ ¬ (s1 52 x1) = 13 → w_106_30 X s1 Q))))))))) : w_106 X x1 s Q := by
  intro hZ d hd
  have hM : xi_ml[106]? = some xm_106 := rfl
  refine gx_r hM hZ 2 (B := (2, [some (.ref 45), some (.int (Int32.ofInt x1))], [.int (Int32.ofInt (-1)), .int (Int32.ofInt x1)], zw X s)) rfl ?_
  refine gi_if2 hM hZ (fun x y => decide (x = y)) (p := x1 = (-1)) rfl rfl (zc_eq h.1 (by decide)) ?_ ?_
  · intro hp
    replace h := h.2.1 hp
    exact gx_fg [false, false] (h hZ d hd)
  · intro hp
    replace h := h.2.2 hp
    refine gx_r hM hZ 5 (B := (12, [some (.ref 45), some (.int (Int32.ofInt x1))], [.int (Int32.ofInt 1), .int (Int32.ofInt (s 45 8)), .int (Int32.ofInt 0), .int (Int32.ofInt x1)], zw X s)) rfl ?_
    refine gi_sub hM hZ rfl ?_
    refine gi_call hM (s := s) (hj := 0) hZ rfl rfl (by omega) h ?_
    intro v1 s1 h
    refine gi_if1 hM hZ (fun x => decide (x = 0)) (p := v1 = 0) rfl rfl (zd_eq h.1) ?_ ?_
    · intro hp
      replace h := h.2.1 hp
      exact gx_fg [false, false] (h hZ d hd)
    · intro hp
      replace h := h.2.2 hp
      refine gx_r hM hZ 3 (B := (24, [some (.ref 45), some (.int (Int32.ofInt x1))], [.int (Int32.ofInt x1), .ref 52], zw X s1)) rfl ?_
      refine gi_iald hM hZ (s := s1) (len := 150) rfl rfl (Nat.le_of_ble_eq_true rfl) h.1 ?_
      replace h := h.2
      refine gi_bip hM hZ rfl rfl ?_
      refine gi_if2 hM hZ (fun x y => decide (¬ x = y)) (p := ¬ (s1 52 x1) = 13) rfl rfl (zc_ne h.1 (by decide)) ?_ ?_
      · intro hp
        replace h := h.2.1 hp
        exact gx_fg [false, false] (h hZ d hd)
      · intro hp
        replace h := h.2.2 hp
        exact gx_fg [false, false] (h hZ d hd)
theorem w_106_30_i {X : zX} {s : zS} {Q : Int → zS → Prop} (h : Q 1 s) : w_106_30 X s Q := by
  intro hZ d hd
  have hM : xi_ml[106]? = some xm_106 := rfl
  refine gx_r hM hZ 2 (B := (35, [none, none], [.int (Int32.ofInt 1)], zw X s)) rfl ?_
  exact ⟨_, xi_To.rf _ _ _ _, 1, s, rfl, h⟩
theorem w_106_34_i {X : zX} {s : zS} {Q : Int → zS → Prop} (h : Q 0 s) : w_106_34 X s Q := by
  intro hZ d hd
  have hM : xi_ml[106]? = some xm_106 := rfl
  refine gx_r hM hZ 1 (B := (35, [none, none], [.int (Int32.ofInt 0)], zw X s)) rfl ?_
  exact ⟨_, xi_To.rf _ _ _ _, 0, s, rfl, h⟩
-- RootLoomModel.measure
def w_110 (X : zX) (x1 : Int) (s : zS) (Q : Int → zS → Prop) : Prop := wW X 110 xm_110 1 (0, [some (.ref 45), some (.int (Int32.ofInt x1)), none, none, none], [], zw X s) Q
def w_110_341 (X : zX) (x1 x3 t1 t2 t3 : Int) (s : zS) (Q : Int → zS → Prop) : Prop := wW X 110 xm_110 1 (341, [some (.ref 45), some (.int (Int32.ofInt x1)), none, some (.int (Int32.ofInt x3)), none], [.int (Int32.ofInt t3), .int (Int32.ofInt t2), .int (Int32.ofInt t1), .ref 56], zw X s) Q
def w_110_363 (X : zX) (x1 t1 t2 t3 : Int) (s : zS) (Q : Int → zS → Prop) : Prop := wW X 110 xm_110 1 (363, [some (.ref 45), some (.int (Int32.ofInt x1)), none, none, none], [.int (Int32.ofInt t3), .int (Int32.ofInt t2), .int (Int32.ofInt t1), .ref 57], zw X s) Q
def w_110_395 (X : zX) (x1 x2 x3 t1 t2 t3 : Int) (s : zS) (Q : Int → zS → Prop) : Prop := wW X 110 xm_110 1 (395, [some (.ref 45), some (.int (Int32.ofInt x1)), some (.int (Int32.ofInt x2)), some (.int (Int32.ofInt x3)), none], [.int (Int32.ofInt t3), .int (Int32.ofInt t2), .int (Int32.ofInt t1), .ref 56], zw X s) Q
def w_110_424 (X : zX) (x1 t1 t2 t3 : Int) (s : zS) (Q : Int → zS → Prop) : Prop := wW X 110 xm_110 1 (424, [some (.ref 45), some (.int (Int32.ofInt x1)), none, none, none], [.int (Int32.ofInt t3), .int (Int32.ofInt t2), .int (Int32.ofInt t1), .ref 57], zw X s) Q
def w_110_520 (X : zX) (x1 : Int) (s : zS) (Q : Int → zS → Prop) : Prop := wW X 110 xm_110 1 (520, [some (.ref 45), some (.int (Int32.ofInt x1)), none, none, none], [], zw X s) Q
theorem w_110_i {X : zX} {x1 : Int} {s : zS} {Q : Int → zS → Prop} (h : (0 ≤ x1 ∧ x1 < 150) ∧ (0 ≤ x1 ∧ x1 < 150) ∧ (0 ≤ x1 ∧ x1 < 150) ∧ (0 ≤ x1 ∧ x1 < 150) ∧ ((-2147483648 ≤ (s 52 x1) ∧ (s 52 x1) ≤ 2147483647) ∧ ((¬ (s 52 x1) = 0 ∧ ¬ (s 52 x1) = 1 ∧ ¬ (s 52 x1) = 2 ∧ ¬ (s 52 x1) = 6 ∧ ¬ (s 52 x1) = 7 ∧ ¬ (s 52 x1) = 8 ∧ ¬ (s 52 x1) = 9 ∧ ¬ (s 52 x1) = 16 ∧ ¬ (s 52 x1) = 10 ∧ ¬ (s 52 x1) = 11 ∧ ¬ (s 52 x1) = 12 ∧ ¬ (s 52 x1) = 13 ∧ ¬ (s 52 x1) = 17) → (0 ≤ (s 53 x1) ∧ (s 53 x1) < 150) ∧ (0 ≤ (s 54 x1) ∧ (s 54 x1) < 150) ∧ (0 ≤ x1 ∧ x1 < 150) ∧ (∀ s1 : zS, s1 = zu s 56 x1 (((s 56 (s 53 x1)) + (s 56 (s 54 x1))) + 1) → (0 ≤ (s 53 x1) ∧ (s 53 x1) < 150) ∧ (0 ≤ (s 54 x1) ∧ (s 54 x1) < 150) ∧ (w_111 X (s1 57 (s 53 x1)) (1 + (s1 57 (s 54 x1))) s1 (fun v2 s2 => (0 ≤ x1 ∧ x1 < 150) ∧ (∀ s3 : zS, s3 = zu s2 57 x1 v2 → w_110_520 X x1 s3 Q))))) ∧ (((s 52 x1) = 0 ∨ (s 52 x1) = 1 ∨ (s 52 x1) = 2) → (0 ≤ x1 ∧ x1 < 150) ∧ (∀ s4 : zS, s4 = zu s 56 x1 1 → (0 ≤ x1 ∧ x1 < 150) ∧ (∀ s5 : zS, s5 = zu s4 57 x1 1 → w_110_520 X x1 s5 Q))) ∧ (((s 52 x1) = 6) → (0 ≤ (s 54 x1) ∧ (s 54 x1) < 150) ∧ (0 ≤ (s 55 x1) ∧ (s 55 x1) < 150) ∧ (0 ≤ x1 ∧ x1 < 150) ∧ (∀ s19 : zS, s19 = zu s 56 x1 (((s 56 (s 54 x1)) + (s 56 (s 55 x1))) + 1) → (0 ≤ (s 54 x1) ∧ (s 54 x1) < 150) ∧ (0 ≤ (s 55 x1) ∧ (s 55 x1) < 150) ∧ (w_111 X (s19 57 (s 54 x1)) (1 + (s19 57 (s 55 x1))) s19 (fun v20 s20 => (0 ≤ x1 ∧ x1 < 150) ∧ (∀ s21 : zS, s21 = zu s20 57 x1 v20 → w_110_520 X x1 s21 Q))))) ∧ (((s 52 x1) = 7 ∨ (s 52 x1) = 8 ∨ (s 52 x1) = 9 ∨ (s 52 x1) = 16) → (0 ≤ (s 53 x1) ∧ (s 53 x1) < 150) ∧ (0 ≤ x1 ∧ x1 < 150) ∧ (∀ s22 : zS, s22 = zu s 56 x1 ((s 56 (s 53 x1)) + 1) → (0 ≤ (s 53 x1) ∧ (s 53 x1) < 150) ∧ (0 ≤ x1 ∧ x1 < 150) ∧ (∀ s23 : zS, s23 = zu s22 57 x1 (s22 57 (s 53 x1)) → w_110_520 X x1 s23 Q))) ∧ (((s 52 x1) = 10) → (0 ≤ (s 53 x1) ∧ (s 53 x1) < 150) ∧ (0 ≤ (s 54 x1) ∧ (s 54 x1) < 150) ∧ (0 ≤ (s 55 x1) ∧ (s 55 x1) < 150) ∧ (0 ≤ x1 ∧ x1 < 150) ∧ (∀ s28 : zS, s28 = zu s 56 x1 ((((s 56 (s 53 x1)) + (s 56 (s 54 x1))) + (s 56 (s 55 x1))) + 2) → (0 ≤ (s 53 x1) ∧ (s 53 x1) < 150) ∧ (0 ≤ (s 54 x1) ∧ (s 54 x1) < 150) ∧ (0 ≤ (s 55 x1) ∧ (s 55 x1) < 150) ∧ (w_111 X (s28 57 (s 54 x1)) (s28 57 (s 55 x1)) s28 (fun v29 s29 => (w_111 X (s28 57 (s 53 x1)) v29 s29 (fun v30 s30 => (0 ≤ x1 ∧ x1 < 150) ∧ (∀ s31 : zS, s31 = zu s30 57 x1 v30 → w_110_520 X x1 s31 Q))))))) ∧ (((s 52 x1) = 11) → (0 ≤ (s 54 x1) ∧ (s 54 x1) < 150) ∧ (0 ≤ (s 55 x1) ∧ (s 55 x1) < 150) ∧ (0 ≤ x1 ∧ x1 < 150) ∧ (∀ s32 : zS, s32 = zu s 56 x1 (((s 56 (s 54 x1)) + (s 56 (s 55 x1))) + 1) → (0 ≤ (s 54 x1) ∧ (s 54 x1) < 150) ∧ (0 ≤ (s 55 x1) ∧ (s 55 x1) < 150) ∧ (w_111 X (s32 57 (s 54 x1)) (s32 57 (s 55 x1)) s32 (fun v33 s33 => (0 ≤ x1 ∧ x1 < 150) ∧ (∀ s34 : zS, s34 = zu s33 57 x1 v33 → w_110_520 X x1 s34 Q))))) ∧ (((s 52 x1) = 12) → ((-2147483648 ≤ (s 54 x1) ∧ (s 54 x1) ≤ 2147483647) ∧ (0 ≤ (s 54 x1) → (0 ≤ (s 54 x1) ∧ (s 54 x1) < 150) ∧ w_110_341 X x1 (s 54 x1) x1 1 (s 56 (s 54 x1)) s Q) ∧ (¬ 0 ≤ (s 54 x1) → w_110_341 X x1 (s 54 x1) x1 1 0 s Q))) ∧ (((s 52 x1) = 13) → (0 ≤ (s 53 x1) ∧ (s 53 x1) < 150) ∧ ((-2147483648 ≤ (s 54 x1) ∧ (s 54 x1) ≤ 2147483647) ∧ (0 ≤ (s 54 x1) → (0 ≤ (s 54 x1) ∧ (s 54 x1) < 150) ∧ w_110_395 X x1 (s 53 x1) (s 54 x1) x1 (s 56 (s 53 x1)) (s 56 (s 54 x1)) s Q) ∧ (¬ 0 ≤ (s 54 x1) → w_110_395 X x1 (s 53 x1) (s 54 x1) x1 (s 56 (s 53 x1)) 0 s Q))) ∧ (((s 52 x1) = 17) → (0 ≤ (s 53 x1) ∧ (s 53 x1) < 150) ∧ (0 ≤ (s 54 x1) ∧ (s 54 x1) < 150) ∧ (0 ≤ x1 ∧ x1 < 150) ∧ (∀ s43 : zS, s43 = zu s 56 x1 (((s 56 (s 53 x1)) + (s 56 (s 54 x1))) + 1) → (0 ≤ (s 53 x1) ∧ (s 53 x1) < 150) ∧ (0 ≤ (s 54 x1) ∧ (s 54 x1) < 150) ∧ (w_111 X (s43 57 (s 53 x1)) (s43 57 (s 54 x1)) s43 (fun v44 s44 => (0 ≤ x1 ∧ x1 < 150) ∧ (∀ s45 : zS, s45 = zu s44 57 x1 v44 → w_110_520 X x1 s45 Q))))))) : w_110 X x1 s Q := by
  intro hZ d hd
  have hM : xi_ml[110]? = some xm_110 := rfl
  refine gx_r hM hZ 3 (B := (5, [some (.ref 45), some (.int (Int32.ofInt x1)), none, none, none], [.int (Int32.ofInt x1), .ref 53], zw X s)) rfl ?_
  refine gi_iald hM hZ (s := s) (len := 150) rfl rfl (Nat.le_of_ble_eq_true rfl) h.1 ?_
  replace h := h.2
  refine gx_r hM hZ 4 (B := (12, [some (.ref 45), some (.int (Int32.ofInt x1)), some (.int (Int32.ofInt (s 53 x1))), none, none], [.int (Int32.ofInt x1), .ref 54], zw X s)) rfl ?_
  refine gi_iald hM hZ (s := s) (len := 150) rfl rfl (Nat.le_of_ble_eq_true rfl) h.1 ?_
  replace h := h.2
  refine gx_r hM hZ 4 (B := (19, [some (.ref 45), some (.int (Int32.ofInt x1)), some (.int (Int32.ofInt (s 53 x1))), some (.int (Int32.ofInt (s 54 x1))), none], [.int (Int32.ofInt x1), .ref 55], zw X s)) rfl ?_
  refine gi_iald hM hZ (s := s) (len := 150) rfl rfl (Nat.le_of_ble_eq_true rfl) h.1 ?_
  replace h := h.2
  refine gx_r hM hZ 4 (B := (27, [some (.ref 45), some (.int (Int32.ofInt x1)), some (.int (Int32.ofInt (s 53 x1))), some (.int (Int32.ofInt (s 54 x1))), some (.int (Int32.ofInt (s 55 x1)))], [.int (Int32.ofInt x1), .ref 52], zw X s)) rfl ?_
  refine gi_iald hM hZ (s := s) (len := 150) rfl rfl (Nat.le_of_ble_eq_true rfl) h.1 ?_
  replace h := h.2
  by_cases hq0 : ((s 52 x1) = 0 ∨ (s 52 x1) = 1 ∨ (s 52 x1) = 2)
  · refine gi_tab hM hZ (x := (s 52 x1)) (o := 88) rfl h.1 ?_ (by decide) ?_
    · rcases hq0 with e | e | e <;> (rw [e]; rfl)
    · replace h := h.2.2.1 hq0
      refine gx_r hM hZ 4 (B := (122, [some (.ref 45), some (.int (Int32.ofInt x1)), some (.int (Int32.ofInt (s 53 x1))), some (.int (Int32.ofInt (s 54 x1))), some (.int (Int32.ofInt (s 55 x1)))], [.int (Int32.ofInt 1), .int (Int32.ofInt x1), .ref 56], zw X s)) rfl ?_
      obtain ⟨s4, e4⟩ : ∃ q : zS, q = zu s 56 x1 1 := ⟨_, rfl⟩
      refine gj_iast hM hZ (len := 150) rfl rfl (Nat.le_of_ble_eq_true rfl) zp_56 h.1 e4 ?_
      replace h := h.2 _ e4
      refine gx_r hM hZ 4 (B := (129, [some (.ref 45), some (.int (Int32.ofInt x1)), some (.int (Int32.ofInt (s 53 x1))), some (.int (Int32.ofInt (s 54 x1))), some (.int (Int32.ofInt (s 55 x1)))], [.int (Int32.ofInt 1), .int (Int32.ofInt x1), .ref 57], zw X s4)) rfl ?_
      obtain ⟨s5, e5⟩ : ∃ q : zS, q = zu s4 57 x1 1 := ⟨_, rfl⟩
      refine gj_iast hM hZ (len := 150) rfl rfl (Nat.le_of_ble_eq_true rfl) zp_57 h.1 e5 ?_
      replace h := h.2 _ e5
      refine gx_r hM hZ 1 (B := (520, [some (.ref 45), some (.int (Int32.ofInt x1)), some (.int (Int32.ofInt (s 53 x1))), some (.int (Int32.ofInt (s 54 x1))), some (.int (Int32.ofInt (s 55 x1)))], [], zw X s5)) rfl ?_
      exact gx_fg [true, true, false, false, false] (h hZ d hd)
  · by_cases hq1 : ((s 52 x1) = 6)
    · refine gi_tab hM hZ (x := (s 52 x1)) (o := 105) rfl h.1 ?_ (by decide) ?_
      · rw [hq1]; rfl
      · replace h := h.2.2.2.1 hq1
        refine gx_r hM hZ 6 (B := (143, [some (.ref 45), some (.int (Int32.ofInt x1)), some (.int (Int32.ofInt (s 53 x1))), some (.int (Int32.ofInt (s 54 x1))), some (.int (Int32.ofInt (s 55 x1)))], [.int (Int32.ofInt (s 54 x1)), .ref 56, .int (Int32.ofInt x1), .ref 56], zw X s)) rfl ?_
        refine gi_iald hM hZ (s := s) (len := 150) rfl rfl (Nat.le_of_ble_eq_true rfl) h.1 ?_
        replace h := h.2
        refine gx_r hM hZ 3 (B := (150, [some (.ref 45), some (.int (Int32.ofInt x1)), some (.int (Int32.ofInt (s 53 x1))), some (.int (Int32.ofInt (s 54 x1))), some (.int (Int32.ofInt (s 55 x1)))], [.int (Int32.ofInt (s 55 x1)), .ref 56, .int (Int32.ofInt (s 56 (s 54 x1))), .int (Int32.ofInt x1), .ref 56], zw X s)) rfl ?_
        refine gi_iald hM hZ (s := s) (len := 150) rfl rfl (Nat.le_of_ble_eq_true rfl) h.1 ?_
        replace h := h.2
        refine gi_add hM hZ rfl ?_
        refine gx_r hM hZ 1 (B := (153, [some (.ref 45), some (.int (Int32.ofInt x1)), some (.int (Int32.ofInt (s 53 x1))), some (.int (Int32.ofInt (s 54 x1))), some (.int (Int32.ofInt (s 55 x1)))], [.int (Int32.ofInt 1), .int (Int32.ofInt ((s 56 (s 54 x1)) + (s 56 (s 55 x1)))), .int (Int32.ofInt x1), .ref 56], zw X s)) rfl ?_
        refine gi_add hM hZ rfl ?_
        obtain ⟨s19, e19⟩ : ∃ q : zS, q = zu s 56 x1 (((s 56 (s 54 x1)) + (s 56 (s 55 x1))) + 1) := ⟨_, rfl⟩
        refine gj_iast hM hZ (len := 150) rfl rfl (Nat.le_of_ble_eq_true rfl) zp_56 h.1 e19 ?_
        replace h := h.2 _ e19
        refine gx_r hM hZ 6 (B := (165, [some (.ref 45), some (.int (Int32.ofInt x1)), some (.int (Int32.ofInt (s 53 x1))), some (.int (Int32.ofInt (s 54 x1))), some (.int (Int32.ofInt (s 55 x1)))], [.int (Int32.ofInt (s 54 x1)), .ref 57, .int (Int32.ofInt x1), .ref 57], zw X s19)) rfl ?_
        refine gi_iald hM hZ (s := s19) (len := 150) rfl rfl (Nat.le_of_ble_eq_true rfl) h.1 ?_
        replace h := h.2
        refine gx_r hM hZ 4 (B := (173, [some (.ref 45), some (.int (Int32.ofInt x1)), some (.int (Int32.ofInt (s 53 x1))), some (.int (Int32.ofInt (s 54 x1))), some (.int (Int32.ofInt (s 55 x1)))], [.int (Int32.ofInt (s 55 x1)), .ref 57, .int (Int32.ofInt 1), .int (Int32.ofInt (s19 57 (s 54 x1))), .int (Int32.ofInt x1), .ref 57], zw X s19)) rfl ?_
        refine gi_iald hM hZ (s := s19) (len := 150) rfl rfl (Nat.le_of_ble_eq_true rfl) h.1 ?_
        replace h := h.2
        refine gi_add hM hZ rfl ?_
        refine gi_call hM (s := s19) (hj := 0) hZ rfl rfl (by omega) h ?_
        intro v20 s20 h
        obtain ⟨s21, e21⟩ : ∃ q : zS, q = zu s20 57 x1 v20 := ⟨_, rfl⟩
        refine gj_iast hM hZ (len := 150) rfl rfl (Nat.le_of_ble_eq_true rfl) zp_57 h.1 e21 ?_
        replace h := h.2 _ e21
        refine gx_r hM hZ 1 (B := (520, [some (.ref 45), some (.int (Int32.ofInt x1)), some (.int (Int32.ofInt (s 53 x1))), some (.int (Int32.ofInt (s 54 x1))), some (.int (Int32.ofInt (s 55 x1)))], [], zw X s21)) rfl ?_
        exact gx_fg [true, true, false, false, false] (h hZ d hd)
    · by_cases hq2 : ((s 52 x1) = 7 ∨ (s 52 x1) = 8 ∨ (s 52 x1) = 9 ∨ (s 52 x1) = 16)
      · refine gi_tab hM hZ (x := (s 52 x1)) (o := 154) rfl h.1 ?_ (by decide) ?_
        · rcases hq2 with e | e | e | e <;> (rw [e]; rfl)
        · replace h := h.2.2.2.2.1 hq2
          refine gx_r hM hZ 6 (B := (192, [some (.ref 45), some (.int (Int32.ofInt x1)), some (.int (Int32.ofInt (s 53 x1))), some (.int (Int32.ofInt (s 54 x1))), some (.int (Int32.ofInt (s 55 x1)))], [.int (Int32.ofInt (s 53 x1)), .ref 56, .int (Int32.ofInt x1), .ref 56], zw X s)) rfl ?_
          refine gi_iald hM hZ (s := s) (len := 150) rfl rfl (Nat.le_of_ble_eq_true rfl) h.1 ?_
          replace h := h.2
          refine gx_r hM hZ 1 (B := (194, [some (.ref 45), some (.int (Int32.ofInt x1)), some (.int (Int32.ofInt (s 53 x1))), some (.int (Int32.ofInt (s 54 x1))), some (.int (Int32.ofInt (s 55 x1)))], [.int (Int32.ofInt 1), .int (Int32.ofInt (s 56 (s 53 x1))), .int (Int32.ofInt x1), .ref 56], zw X s)) rfl ?_
          refine gi_add hM hZ rfl ?_
          obtain ⟨s22, e22⟩ : ∃ q : zS, q = zu s 56 x1 ((s 56 (s 53 x1)) + 1) := ⟨_, rfl⟩
          refine gj_iast hM hZ (len := 150) rfl rfl (Nat.le_of_ble_eq_true rfl) zp_56 h.1 e22 ?_
          replace h := h.2 _ e22
          refine gx_r hM hZ 6 (B := (206, [some (.ref 45), some (.int (Int32.ofInt x1)), some (.int (Int32.ofInt (s 53 x1))), some (.int (Int32.ofInt (s 54 x1))), some (.int (Int32.ofInt (s 55 x1)))], [.int (Int32.ofInt (s 53 x1)), .ref 57, .int (Int32.ofInt x1), .ref 57], zw X s22)) rfl ?_
          refine gi_iald hM hZ (s := s22) (len := 150) rfl rfl (Nat.le_of_ble_eq_true rfl) h.1 ?_
          replace h := h.2
          obtain ⟨s23, e23⟩ : ∃ q : zS, q = zu s22 57 x1 (s22 57 (s 53 x1)) := ⟨_, rfl⟩
          refine gj_iast hM hZ (len := 150) rfl rfl (Nat.le_of_ble_eq_true rfl) zp_57 h.1 e23 ?_
          replace h := h.2 _ e23
          refine gx_r hM hZ 1 (B := (520, [some (.ref 45), some (.int (Int32.ofInt x1)), some (.int (Int32.ofInt (s 53 x1))), some (.int (Int32.ofInt (s 54 x1))), some (.int (Int32.ofInt (s 55 x1)))], [], zw X s23)) rfl ?_
          exact gx_fg [true, true, false, false, false] (h hZ d hd)
      · by_cases hq3 : ((s 52 x1) = 10)
        · refine gi_tab hM hZ (x := (s 52 x1)) (o := 183) rfl h.1 ?_ (by decide) ?_
          · rw [hq3]; rfl
          · replace h := h.2.2.2.2.2.1 hq3
            refine gx_r hM hZ 6 (B := (221, [some (.ref 45), some (.int (Int32.ofInt x1)), some (.int (Int32.ofInt (s 53 x1))), some (.int (Int32.ofInt (s 54 x1))), some (.int (Int32.ofInt (s 55 x1)))], [.int (Int32.ofInt (s 53 x1)), .ref 56, .int (Int32.ofInt x1), .ref 56], zw X s)) rfl ?_
            refine gi_iald hM hZ (s := s) (len := 150) rfl rfl (Nat.le_of_ble_eq_true rfl) h.1 ?_
            replace h := h.2
            refine gx_r hM hZ 3 (B := (227, [some (.ref 45), some (.int (Int32.ofInt x1)), some (.int (Int32.ofInt (s 53 x1))), some (.int (Int32.ofInt (s 54 x1))), some (.int (Int32.ofInt (s 55 x1)))], [.int (Int32.ofInt (s 54 x1)), .ref 56, .int (Int32.ofInt (s 56 (s 53 x1))), .int (Int32.ofInt x1), .ref 56], zw X s)) rfl ?_
            refine gi_iald hM hZ (s := s) (len := 150) rfl rfl (Nat.le_of_ble_eq_true rfl) h.1 ?_
            replace h := h.2
            refine gi_add hM hZ rfl ?_
            refine gx_r hM hZ 3 (B := (235, [some (.ref 45), some (.int (Int32.ofInt x1)), some (.int (Int32.ofInt (s 53 x1))), some (.int (Int32.ofInt (s 54 x1))), some (.int (Int32.ofInt (s 55 x1)))], [.int (Int32.ofInt (s 55 x1)), .ref 56, .int (Int32.ofInt ((s 56 (s 53 x1)) + (s 56 (s 54 x1)))), .int (Int32.ofInt x1), .ref 56], zw X s)) rfl ?_
            refine gi_iald hM hZ (s := s) (len := 150) rfl rfl (Nat.le_of_ble_eq_true rfl) h.1 ?_
            replace h := h.2
            refine gi_add hM hZ rfl ?_
            refine gx_r hM hZ 1 (B := (238, [some (.ref 45), some (.int (Int32.ofInt x1)), some (.int (Int32.ofInt (s 53 x1))), some (.int (Int32.ofInt (s 54 x1))), some (.int (Int32.ofInt (s 55 x1)))], [.int (Int32.ofInt 2), .int (Int32.ofInt (((s 56 (s 53 x1)) + (s 56 (s 54 x1))) + (s 56 (s 55 x1)))), .int (Int32.ofInt x1), .ref 56], zw X s)) rfl ?_
            refine gi_add hM hZ rfl ?_
            obtain ⟨s28, e28⟩ : ∃ q : zS, q = zu s 56 x1 ((((s 56 (s 53 x1)) + (s 56 (s 54 x1))) + (s 56 (s 55 x1))) + 2) := ⟨_, rfl⟩
            refine gj_iast hM hZ (len := 150) rfl rfl (Nat.le_of_ble_eq_true rfl) zp_56 h.1 e28 ?_
            replace h := h.2 _ e28
            refine gx_r hM hZ 6 (B := (250, [some (.ref 45), some (.int (Int32.ofInt x1)), some (.int (Int32.ofInt (s 53 x1))), some (.int (Int32.ofInt (s 54 x1))), some (.int (Int32.ofInt (s 55 x1)))], [.int (Int32.ofInt (s 53 x1)), .ref 57, .int (Int32.ofInt x1), .ref 57], zw X s28)) rfl ?_
            refine gi_iald hM hZ (s := s28) (len := 150) rfl rfl (Nat.le_of_ble_eq_true rfl) h.1 ?_
            replace h := h.2
            refine gx_r hM hZ 3 (B := (256, [some (.ref 45), some (.int (Int32.ofInt x1)), some (.int (Int32.ofInt (s 53 x1))), some (.int (Int32.ofInt (s 54 x1))), some (.int (Int32.ofInt (s 55 x1)))], [.int (Int32.ofInt (s 54 x1)), .ref 57, .int (Int32.ofInt (s28 57 (s 53 x1))), .int (Int32.ofInt x1), .ref 57], zw X s28)) rfl ?_
            refine gi_iald hM hZ (s := s28) (len := 150) rfl rfl (Nat.le_of_ble_eq_true rfl) h.1 ?_
            replace h := h.2
            refine gx_r hM hZ 3 (B := (263, [some (.ref 45), some (.int (Int32.ofInt x1)), some (.int (Int32.ofInt (s 53 x1))), some (.int (Int32.ofInt (s 54 x1))), some (.int (Int32.ofInt (s 55 x1)))], [.int (Int32.ofInt (s 55 x1)), .ref 57, .int (Int32.ofInt (s28 57 (s 54 x1))), .int (Int32.ofInt (s28 57 (s 53 x1))), .int (Int32.ofInt x1), .ref 57], zw X s28)) rfl ?_
            refine gi_iald hM hZ (s := s28) (len := 150) rfl rfl (Nat.le_of_ble_eq_true rfl) h.1 ?_
            replace h := h.2
            refine gi_call hM (s := s28) (hj := 0) hZ rfl rfl (by omega) h ?_
            intro v29 s29 h
            refine gi_call hM (s := s29) (hj := 0) hZ rfl rfl (by omega) h ?_
            intro v30 s30 h
            obtain ⟨s31, e31⟩ : ∃ q : zS, q = zu s30 57 x1 v30 := ⟨_, rfl⟩
            refine gj_iast hM hZ (len := 150) rfl rfl (Nat.le_of_ble_eq_true rfl) zp_57 h.1 e31 ?_
            replace h := h.2 _ e31
            refine gx_r hM hZ 1 (B := (520, [some (.ref 45), some (.int (Int32.ofInt x1)), some (.int (Int32.ofInt (s 53 x1))), some (.int (Int32.ofInt (s 54 x1))), some (.int (Int32.ofInt (s 55 x1)))], [], zw X s31)) rfl ?_
            exact gx_fg [true, true, false, false, false] (h hZ d hd)
        · by_cases hq4 : ((s 52 x1) = 11)
          · refine gi_tab hM hZ (x := (s 52 x1)) (o := 246) rfl h.1 ?_ (by decide) ?_
            · rw [hq4]; rfl
            · replace h := h.2.2.2.2.2.2.1 hq4
              refine gx_r hM hZ 6 (B := (284, [some (.ref 45), some (.int (Int32.ofInt x1)), some (.int (Int32.ofInt (s 53 x1))), some (.int (Int32.ofInt (s 54 x1))), some (.int (Int32.ofInt (s 55 x1)))], [.int (Int32.ofInt (s 54 x1)), .ref 56, .int (Int32.ofInt x1), .ref 56], zw X s)) rfl ?_
              refine gi_iald hM hZ (s := s) (len := 150) rfl rfl (Nat.le_of_ble_eq_true rfl) h.1 ?_
              replace h := h.2
              refine gx_r hM hZ 3 (B := (291, [some (.ref 45), some (.int (Int32.ofInt x1)), some (.int (Int32.ofInt (s 53 x1))), some (.int (Int32.ofInt (s 54 x1))), some (.int (Int32.ofInt (s 55 x1)))], [.int (Int32.ofInt (s 55 x1)), .ref 56, .int (Int32.ofInt (s 56 (s 54 x1))), .int (Int32.ofInt x1), .ref 56], zw X s)) rfl ?_
              refine gi_iald hM hZ (s := s) (len := 150) rfl rfl (Nat.le_of_ble_eq_true rfl) h.1 ?_
              replace h := h.2
              refine gi_add hM hZ rfl ?_
              refine gx_r hM hZ 1 (B := (294, [some (.ref 45), some (.int (Int32.ofInt x1)), some (.int (Int32.ofInt (s 53 x1))), some (.int (Int32.ofInt (s 54 x1))), some (.int (Int32.ofInt (s 55 x1)))], [.int (Int32.ofInt 1), .int (Int32.ofInt ((s 56 (s 54 x1)) + (s 56 (s 55 x1)))), .int (Int32.ofInt x1), .ref 56], zw X s)) rfl ?_
              refine gi_add hM hZ rfl ?_
              obtain ⟨s32, e32⟩ : ∃ q : zS, q = zu s 56 x1 (((s 56 (s 54 x1)) + (s 56 (s 55 x1))) + 1) := ⟨_, rfl⟩
              refine gj_iast hM hZ (len := 150) rfl rfl (Nat.le_of_ble_eq_true rfl) zp_56 h.1 e32 ?_
              replace h := h.2 _ e32
              refine gx_r hM hZ 6 (B := (306, [some (.ref 45), some (.int (Int32.ofInt x1)), some (.int (Int32.ofInt (s 53 x1))), some (.int (Int32.ofInt (s 54 x1))), some (.int (Int32.ofInt (s 55 x1)))], [.int (Int32.ofInt (s 54 x1)), .ref 57, .int (Int32.ofInt x1), .ref 57], zw X s32)) rfl ?_
              refine gi_iald hM hZ (s := s32) (len := 150) rfl rfl (Nat.le_of_ble_eq_true rfl) h.1 ?_
              replace h := h.2
              refine gx_r hM hZ 3 (B := (313, [some (.ref 45), some (.int (Int32.ofInt x1)), some (.int (Int32.ofInt (s 53 x1))), some (.int (Int32.ofInt (s 54 x1))), some (.int (Int32.ofInt (s 55 x1)))], [.int (Int32.ofInt (s 55 x1)), .ref 57, .int (Int32.ofInt (s32 57 (s 54 x1))), .int (Int32.ofInt x1), .ref 57], zw X s32)) rfl ?_
              refine gi_iald hM hZ (s := s32) (len := 150) rfl rfl (Nat.le_of_ble_eq_true rfl) h.1 ?_
              replace h := h.2
              refine gi_call hM (s := s32) (hj := 0) hZ rfl rfl (by omega) h ?_
              intro v33 s33 h
              obtain ⟨s34, e34⟩ : ∃ q : zS, q = zu s33 57 x1 v33 := ⟨_, rfl⟩
              refine gj_iast hM hZ (len := 150) rfl rfl (Nat.le_of_ble_eq_true rfl) zp_57 h.1 e34 ?_
              replace h := h.2 _ e34
              refine gx_r hM hZ 1 (B := (520, [some (.ref 45), some (.int (Int32.ofInt x1)), some (.int (Int32.ofInt (s 53 x1))), some (.int (Int32.ofInt (s 54 x1))), some (.int (Int32.ofInt (s 55 x1)))], [], zw X s34)) rfl ?_
              exact gx_fg [true, true, false, false, false] (h hZ d hd)
          · by_cases hq5 : ((s 52 x1) = 12)
            · refine gi_tab hM hZ (x := (s 52 x1)) (o := 293) rfl h.1 ?_ (by decide) ?_
              · rw [hq5]; rfl
              · replace h := h.2.2.2.2.2.2.2.1 hq5
                refine gx_r hM hZ 5 (B := (328, [some (.ref 45), some (.int (Int32.ofInt x1)), some (.int (Int32.ofInt (s 53 x1))), some (.int (Int32.ofInt (s 54 x1))), some (.int (Int32.ofInt (s 55 x1)))], [.int (Int32.ofInt (s 54 x1)), .int (Int32.ofInt 1), .int (Int32.ofInt x1), .ref 56], zw X s)) rfl ?_
                refine gi_if1 hM hZ (fun x => decide (0 ≤ x)) (p := 0 ≤ (s 54 x1)) rfl rfl (zd_ge h.1) ?_ ?_
                · intro hp
                  replace h := h.2.1 hp
                  refine gx_r hM hZ 3 (B := (340, [some (.ref 45), some (.int (Int32.ofInt x1)), some (.int (Int32.ofInt (s 53 x1))), some (.int (Int32.ofInt (s 54 x1))), some (.int (Int32.ofInt (s 55 x1)))], [.int (Int32.ofInt (s 54 x1)), .ref 56, .int (Int32.ofInt 1), .int (Int32.ofInt x1), .ref 56], zw X s)) rfl ?_
                  refine gi_iald hM hZ (s := s) (len := 150) rfl rfl (Nat.le_of_ble_eq_true rfl) h.1 ?_
                  replace h := h.2
                  exact gx_fg [true, true, false, true, false] (h hZ d hd)
                · intro hp
                  replace h := h.2.2 hp
                  refine gx_r hM hZ 2 (B := (341, [some (.ref 45), some (.int (Int32.ofInt x1)), some (.int (Int32.ofInt (s 53 x1))), some (.int (Int32.ofInt (s 54 x1))), some (.int (Int32.ofInt (s 55 x1)))], [.int (Int32.ofInt 0), .int (Int32.ofInt 1), .int (Int32.ofInt x1), .ref 56], zw X s)) rfl ?_
                  exact gx_fg [true, true, false, true, false] (h hZ d hd)
            · by_cases hq6 : ((s 52 x1) = 13)
              · refine gi_tab hM hZ (x := (s 52 x1)) (o := 342) rfl h.1 ?_ (by decide) ?_
                · rw [hq6]; rfl
                · replace h := h.2.2.2.2.2.2.2.2.1 hq6
                  refine gx_r hM hZ 6 (B := (380, [some (.ref 45), some (.int (Int32.ofInt x1)), some (.int (Int32.ofInt (s 53 x1))), some (.int (Int32.ofInt (s 54 x1))), some (.int (Int32.ofInt (s 55 x1)))], [.int (Int32.ofInt (s 53 x1)), .ref 56, .int (Int32.ofInt x1), .ref 56], zw X s)) rfl ?_
                  refine gi_iald hM hZ (s := s) (len := 150) rfl rfl (Nat.le_of_ble_eq_true rfl) h.1 ?_
                  replace h := h.2
                  refine gx_r hM hZ 1 (B := (382, [some (.ref 45), some (.int (Int32.ofInt x1)), some (.int (Int32.ofInt (s 53 x1))), some (.int (Int32.ofInt (s 54 x1))), some (.int (Int32.ofInt (s 55 x1)))], [.int (Int32.ofInt (s 54 x1)), .int (Int32.ofInt (s 56 (s 53 x1))), .int (Int32.ofInt x1), .ref 56], zw X s)) rfl ?_
                  refine gi_if1 hM hZ (fun x => decide (0 ≤ x)) (p := 0 ≤ (s 54 x1)) rfl rfl (zd_ge h.1) ?_ ?_
                  · intro hp
                    replace h := h.2.1 hp
                    refine gx_r hM hZ 3 (B := (394, [some (.ref 45), some (.int (Int32.ofInt x1)), some (.int (Int32.ofInt (s 53 x1))), some (.int (Int32.ofInt (s 54 x1))), some (.int (Int32.ofInt (s 55 x1)))], [.int (Int32.ofInt (s 54 x1)), .ref 56, .int (Int32.ofInt (s 56 (s 53 x1))), .int (Int32.ofInt x1), .ref 56], zw X s)) rfl ?_
                    refine gi_iald hM hZ (s := s) (len := 150) rfl rfl (Nat.le_of_ble_eq_true rfl) h.1 ?_
                    replace h := h.2
                    exact gx_fg [true, true, true, true, false] (h hZ d hd)
                  · intro hp
                    replace h := h.2.2 hp
                    refine gx_r hM hZ 2 (B := (395, [some (.ref 45), some (.int (Int32.ofInt x1)), some (.int (Int32.ofInt (s 53 x1))), some (.int (Int32.ofInt (s 54 x1))), some (.int (Int32.ofInt (s 55 x1)))], [.int (Int32.ofInt 0), .int (Int32.ofInt (s 56 (s 53 x1))), .int (Int32.ofInt x1), .ref 56], zw X s)) rfl ?_
                    exact gx_fg [true, true, true, true, false] (h hZ d hd)
              · by_cases hq7 : ((s 52 x1) = 17)
                · refine gi_tab hM hZ (x := (s 52 x1)) (o := 403) rfl h.1 ?_ (by decide) ?_
                  · rw [hq7]; rfl
                  · replace h := h.2.2.2.2.2.2.2.2.2 hq7
                    refine gx_r hM hZ 6 (B := (441, [some (.ref 45), some (.int (Int32.ofInt x1)), some (.int (Int32.ofInt (s 53 x1))), some (.int (Int32.ofInt (s 54 x1))), some (.int (Int32.ofInt (s 55 x1)))], [.int (Int32.ofInt (s 53 x1)), .ref 56, .int (Int32.ofInt x1), .ref 56], zw X s)) rfl ?_
                    refine gi_iald hM hZ (s := s) (len := 150) rfl rfl (Nat.le_of_ble_eq_true rfl) h.1 ?_
                    replace h := h.2
                    refine gx_r hM hZ 3 (B := (447, [some (.ref 45), some (.int (Int32.ofInt x1)), some (.int (Int32.ofInt (s 53 x1))), some (.int (Int32.ofInt (s 54 x1))), some (.int (Int32.ofInt (s 55 x1)))], [.int (Int32.ofInt (s 54 x1)), .ref 56, .int (Int32.ofInt (s 56 (s 53 x1))), .int (Int32.ofInt x1), .ref 56], zw X s)) rfl ?_
                    refine gi_iald hM hZ (s := s) (len := 150) rfl rfl (Nat.le_of_ble_eq_true rfl) h.1 ?_
                    replace h := h.2
                    refine gi_add hM hZ rfl ?_
                    refine gx_r hM hZ 1 (B := (450, [some (.ref 45), some (.int (Int32.ofInt x1)), some (.int (Int32.ofInt (s 53 x1))), some (.int (Int32.ofInt (s 54 x1))), some (.int (Int32.ofInt (s 55 x1)))], [.int (Int32.ofInt 1), .int (Int32.ofInt ((s 56 (s 53 x1)) + (s 56 (s 54 x1)))), .int (Int32.ofInt x1), .ref 56], zw X s)) rfl ?_
                    refine gi_add hM hZ rfl ?_
                    obtain ⟨s43, e43⟩ : ∃ q : zS, q = zu s 56 x1 (((s 56 (s 53 x1)) + (s 56 (s 54 x1))) + 1) := ⟨_, rfl⟩
                    refine gj_iast hM hZ (len := 150) rfl rfl (Nat.le_of_ble_eq_true rfl) zp_56 h.1 e43 ?_
                    replace h := h.2 _ e43
                    refine gx_r hM hZ 6 (B := (462, [some (.ref 45), some (.int (Int32.ofInt x1)), some (.int (Int32.ofInt (s 53 x1))), some (.int (Int32.ofInt (s 54 x1))), some (.int (Int32.ofInt (s 55 x1)))], [.int (Int32.ofInt (s 53 x1)), .ref 57, .int (Int32.ofInt x1), .ref 57], zw X s43)) rfl ?_
                    refine gi_iald hM hZ (s := s43) (len := 150) rfl rfl (Nat.le_of_ble_eq_true rfl) h.1 ?_
                    replace h := h.2
                    refine gx_r hM hZ 3 (B := (468, [some (.ref 45), some (.int (Int32.ofInt x1)), some (.int (Int32.ofInt (s 53 x1))), some (.int (Int32.ofInt (s 54 x1))), some (.int (Int32.ofInt (s 55 x1)))], [.int (Int32.ofInt (s 54 x1)), .ref 57, .int (Int32.ofInt (s43 57 (s 53 x1))), .int (Int32.ofInt x1), .ref 57], zw X s43)) rfl ?_
                    refine gi_iald hM hZ (s := s43) (len := 150) rfl rfl (Nat.le_of_ble_eq_true rfl) h.1 ?_
                    replace h := h.2
                    refine gi_call hM (s := s43) (hj := 0) hZ rfl rfl (by omega) h ?_
                    intro v44 s44 h
                    obtain ⟨s45, e45⟩ : ∃ q : zS, q = zu s44 57 x1 v44 := ⟨_, rfl⟩
                    refine gj_iast hM hZ (len := 150) rfl rfl (Nat.le_of_ble_eq_true rfl) zp_57 h.1 e45 ?_
                    replace h := h.2 _ e45
                    refine gx_r hM hZ 1 (B := (520, [some (.ref 45), some (.int (Int32.ofInt x1)), some (.int (Int32.ofInt (s 53 x1))), some (.int (Int32.ofInt (s 54 x1))), some (.int (Int32.ofInt (s 55 x1)))], [], zw X s45)) rfl ?_
                    exact gx_fg [true, true, false, false, false] (h hZ d hd)
                · refine gi_tab hM hZ (x := (s 52 x1)) (o := 448) rfl h.1 ?_ (by decide) ?_
                  · by_cases hr : (s 52 x1) < 0 ∨ 17 < (s 52 x1)
                    · exact if_pos hr
                    · have e : (s 52 x1) = 3 ∨ (s 52 x1) = 4 ∨ (s 52 x1) = 5 ∨ (s 52 x1) = 14 ∨ (s 52 x1) = 15 := by omega
                      rcases e with e | e | e | e | e <;> (rw [e]; rfl)
                  · replace h := h.2.1 (by omega)
                    refine gx_r hM hZ 6 (B := (486, [some (.ref 45), some (.int (Int32.ofInt x1)), some (.int (Int32.ofInt (s 53 x1))), some (.int (Int32.ofInt (s 54 x1))), some (.int (Int32.ofInt (s 55 x1)))], [.int (Int32.ofInt (s 53 x1)), .ref 56, .int (Int32.ofInt x1), .ref 56], zw X s)) rfl ?_
                    refine gi_iald hM hZ (s := s) (len := 150) rfl rfl (Nat.le_of_ble_eq_true rfl) h.1 ?_
                    replace h := h.2
                    refine gx_r hM hZ 3 (B := (492, [some (.ref 45), some (.int (Int32.ofInt x1)), some (.int (Int32.ofInt (s 53 x1))), some (.int (Int32.ofInt (s 54 x1))), some (.int (Int32.ofInt (s 55 x1)))], [.int (Int32.ofInt (s 54 x1)), .ref 56, .int (Int32.ofInt (s 56 (s 53 x1))), .int (Int32.ofInt x1), .ref 56], zw X s)) rfl ?_
                    refine gi_iald hM hZ (s := s) (len := 150) rfl rfl (Nat.le_of_ble_eq_true rfl) h.1 ?_
                    replace h := h.2
                    refine gi_add hM hZ rfl ?_
                    refine gx_r hM hZ 1 (B := (495, [some (.ref 45), some (.int (Int32.ofInt x1)), some (.int (Int32.ofInt (s 53 x1))), some (.int (Int32.ofInt (s 54 x1))), some (.int (Int32.ofInt (s 55 x1)))], [.int (Int32.ofInt 1), .int (Int32.ofInt ((s 56 (s 53 x1)) + (s 56 (s 54 x1)))), .int (Int32.ofInt x1), .ref 56], zw X s)) rfl ?_
                    refine gi_add hM hZ rfl ?_
                    obtain ⟨s1, e1⟩ : ∃ q : zS, q = zu s 56 x1 (((s 56 (s 53 x1)) + (s 56 (s 54 x1))) + 1) := ⟨_, rfl⟩
                    refine gj_iast hM hZ (len := 150) rfl rfl (Nat.le_of_ble_eq_true rfl) zp_56 h.1 e1 ?_
                    replace h := h.2 _ e1
                    refine gx_r hM hZ 6 (B := (507, [some (.ref 45), some (.int (Int32.ofInt x1)), some (.int (Int32.ofInt (s 53 x1))), some (.int (Int32.ofInt (s 54 x1))), some (.int (Int32.ofInt (s 55 x1)))], [.int (Int32.ofInt (s 53 x1)), .ref 57, .int (Int32.ofInt x1), .ref 57], zw X s1)) rfl ?_
                    refine gi_iald hM hZ (s := s1) (len := 150) rfl rfl (Nat.le_of_ble_eq_true rfl) h.1 ?_
                    replace h := h.2
                    refine gx_r hM hZ 4 (B := (514, [some (.ref 45), some (.int (Int32.ofInt x1)), some (.int (Int32.ofInt (s 53 x1))), some (.int (Int32.ofInt (s 54 x1))), some (.int (Int32.ofInt (s 55 x1)))], [.int (Int32.ofInt (s 54 x1)), .ref 57, .int (Int32.ofInt 1), .int (Int32.ofInt (s1 57 (s 53 x1))), .int (Int32.ofInt x1), .ref 57], zw X s1)) rfl ?_
                    refine gi_iald hM hZ (s := s1) (len := 150) rfl rfl (Nat.le_of_ble_eq_true rfl) h.1 ?_
                    replace h := h.2
                    refine gi_add hM hZ rfl ?_
                    refine gi_call hM (s := s1) (hj := 0) hZ rfl rfl (by omega) h ?_
                    intro v2 s2 h
                    obtain ⟨s3, e3⟩ : ∃ q : zS, q = zu s2 57 x1 v2 := ⟨_, rfl⟩
                    refine gj_iast hM hZ (len := 150) rfl rfl (Nat.le_of_ble_eq_true rfl) zp_57 h.1 e3 ?_
                    replace h := h.2 _ e3
                    exact gx_fg [true, true, false, false, false] (h hZ d hd)
theorem w_110_341_i {X : zX} {x1 x3 t1 t2 t3 : Int} {s : zS} {Q : Int → zS → Prop} (h : (0 ≤ t1 ∧ t1 < 150) ∧ (∀ s1 : zS, s1 = zu s 56 t1 (t2 + t3) → ((-2147483648 ≤ x3 ∧ x3 ≤ 2147483647) ∧ (0 ≤ x3 → (0 ≤ x3 ∧ x3 < 150) ∧ w_110_363 X x1 x1 1 (s1 57 x3) s1 Q) ∧ (¬ 0 ≤ x3 → w_110_363 X x1 x1 1 0 s1 Q)))) : w_110_341 X x1 x3 t1 t2 t3 s Q := by
  intro hZ d hd
  have hM : xi_ml[110]? = some xm_110 := rfl
  refine gi_add hM hZ rfl ?_
  obtain ⟨s1, e1⟩ : ∃ q : zS, q = zu s 56 t1 (t2 + t3) := ⟨_, rfl⟩
  refine gj_iast hM hZ (len := 150) rfl rfl (Nat.le_of_ble_eq_true rfl) zp_56 h.1 e1 ?_
  replace h := h.2 _ e1
  refine gx_r hM hZ 5 (B := (350, [some (.ref 45), some (.int (Int32.ofInt x1)), none, some (.int (Int32.ofInt x3)), none], [.int (Int32.ofInt x3), .int (Int32.ofInt 1), .int (Int32.ofInt x1), .ref 57], zw X s1)) rfl ?_
  refine gi_if1 hM hZ (fun x => decide (0 ≤ x)) (p := 0 ≤ x3) rfl rfl (zd_ge h.1) ?_ ?_
  · intro hp
    replace h := h.2.1 hp
    refine gx_r hM hZ 3 (B := (362, [some (.ref 45), some (.int (Int32.ofInt x1)), none, some (.int (Int32.ofInt x3)), none], [.int (Int32.ofInt x3), .ref 57, .int (Int32.ofInt 1), .int (Int32.ofInt x1), .ref 57], zw X s1)) rfl ?_
    refine gi_iald hM hZ (s := s1) (len := 150) rfl rfl (Nat.le_of_ble_eq_true rfl) h.1 ?_
    replace h := h.2
    exact gx_fg [true, true, false, false, false] (h hZ d hd)
  · intro hp
    replace h := h.2.2 hp
    refine gx_r hM hZ 2 (B := (363, [some (.ref 45), some (.int (Int32.ofInt x1)), none, some (.int (Int32.ofInt x3)), none], [.int (Int32.ofInt 0), .int (Int32.ofInt 1), .int (Int32.ofInt x1), .ref 57], zw X s1)) rfl ?_
    exact gx_fg [true, true, false, false, false] (h hZ d hd)
theorem w_110_363_i {X : zX} {x1 t1 t2 t3 : Int} {s : zS} {Q : Int → zS → Prop} (h : (w_111 X t2 t3 s (fun v1 s1 => (0 ≤ t1 ∧ t1 < 150) ∧ (∀ s2 : zS, s2 = zu s1 57 t1 v1 → w_110_520 X x1 s2 Q)))) : w_110_363 X x1 t1 t2 t3 s Q := by
  intro hZ d hd
  have hM : xi_ml[110]? = some xm_110 := rfl
  refine gi_call hM (s := s) (hj := 0) hZ rfl rfl (by omega) h ?_
  intro v1 s1 h
  obtain ⟨s2, e2⟩ : ∃ q : zS, q = zu s1 57 t1 v1 := ⟨_, rfl⟩
  refine gj_iast hM hZ (len := 150) rfl rfl (Nat.le_of_ble_eq_true rfl) zp_57 h.1 e2 ?_
  replace h := h.2 _ e2
  refine gx_r hM hZ 1 (B := (520, [some (.ref 45), some (.int (Int32.ofInt x1)), none, none, none], [], zw X s2)) rfl ?_
  exact gx_fg [true, true, false, false, false] (h hZ d hd)
theorem w_110_395_i {X : zX} {x1 x2 x3 t1 t2 t3 : Int} {s : zS} {Q : Int → zS → Prop} (h : (0 ≤ t1 ∧ t1 < 150) ∧ (∀ s1 : zS, s1 = zu s 56 t1 (t2 + t3) → (0 ≤ x2 ∧ x2 < 150) ∧ ((-2147483648 ≤ x3 ∧ x3 ≤ 2147483647) ∧ (0 ≤ x3 → (0 ≤ x3 ∧ x3 < 150) ∧ w_110_424 X x1 x1 (s1 57 x2) (1 + (s1 57 x3)) s1 Q) ∧ (¬ 0 ≤ x3 → w_110_424 X x1 x1 (s1 57 x2) 1 s1 Q)))) : w_110_395 X x1 x2 x3 t1 t2 t3 s Q := by
  intro hZ d hd
  have hM : xi_ml[110]? = some xm_110 := rfl
  refine gi_add hM hZ rfl ?_
  obtain ⟨s1, e1⟩ : ∃ q : zS, q = zu s 56 t1 (t2 + t3) := ⟨_, rfl⟩
  refine gj_iast hM hZ (len := 150) rfl rfl (Nat.le_of_ble_eq_true rfl) zp_56 h.1 e1 ?_
  replace h := h.2 _ e1
  refine gx_r hM hZ 6 (B := (407, [some (.ref 45), some (.int (Int32.ofInt x1)), some (.int (Int32.ofInt x2)), some (.int (Int32.ofInt x3)), none], [.int (Int32.ofInt x2), .ref 57, .int (Int32.ofInt x1), .ref 57], zw X s1)) rfl ?_
  refine gi_iald hM hZ (s := s1) (len := 150) rfl rfl (Nat.le_of_ble_eq_true rfl) h.1 ?_
  replace h := h.2
  refine gx_r hM hZ 1 (B := (409, [some (.ref 45), some (.int (Int32.ofInt x1)), some (.int (Int32.ofInt x2)), some (.int (Int32.ofInt x3)), none], [.int (Int32.ofInt x3), .int (Int32.ofInt (s1 57 x2)), .int (Int32.ofInt x1), .ref 57], zw X s1)) rfl ?_
  refine gi_if1 hM hZ (fun x => decide (0 ≤ x)) (p := 0 ≤ x3) rfl rfl (zd_ge h.1) ?_ ?_
  · intro hp
    replace h := h.2.1 hp
    refine gx_r hM hZ 4 (B := (422, [some (.ref 45), some (.int (Int32.ofInt x1)), some (.int (Int32.ofInt x2)), some (.int (Int32.ofInt x3)), none], [.int (Int32.ofInt x3), .ref 57, .int (Int32.ofInt 1), .int (Int32.ofInt (s1 57 x2)), .int (Int32.ofInt x1), .ref 57], zw X s1)) rfl ?_
    refine gi_iald hM hZ (s := s1) (len := 150) rfl rfl (Nat.le_of_ble_eq_true rfl) h.1 ?_
    replace h := h.2
    refine gi_add hM hZ rfl ?_
    exact gx_fg [true, true, false, false, false] (h hZ d hd)
  · intro hp
    replace h := h.2.2 hp
    refine gx_r hM hZ 2 (B := (424, [some (.ref 45), some (.int (Int32.ofInt x1)), some (.int (Int32.ofInt x2)), some (.int (Int32.ofInt x3)), none], [.int (Int32.ofInt 1), .int (Int32.ofInt (s1 57 x2)), .int (Int32.ofInt x1), .ref 57], zw X s1)) rfl ?_
    exact gx_fg [true, true, false, false, false] (h hZ d hd)
theorem w_110_424_i {X : zX} {x1 t1 t2 t3 : Int} {s : zS} {Q : Int → zS → Prop} (h : (w_111 X t2 t3 s (fun v1 s1 => (0 ≤ t1 ∧ t1 < 150) ∧ (∀ s2 : zS, s2 = zu s1 57 t1 v1 → w_110_520 X x1 s2 Q)))) : w_110_424 X x1 t1 t2 t3 s Q := by
  intro hZ d hd
  have hM : xi_ml[110]? = some xm_110 := rfl
  refine gi_call hM (s := s) (hj := 0) hZ rfl rfl (by omega) h ?_
  intro v1 s1 h
  obtain ⟨s2, e2⟩ : ∃ q : zS, q = zu s1 57 t1 v1 := ⟨_, rfl⟩
  refine gj_iast hM hZ (len := 150) rfl rfl (Nat.le_of_ble_eq_true rfl) zp_57 h.1 e2 ?_
  replace h := h.2 _ e2
  refine gx_r hM hZ 1 (B := (520, [some (.ref 45), some (.int (Int32.ofInt x1)), none, none, none], [], zw X s2)) rfl ?_
  exact gx_fg [true, true, false, false, false] (h hZ d hd)
theorem w_110_520_i {X : zX} {x1 : Int} {s : zS} {Q : Int → zS → Prop} (h : (0 ≤ x1 ∧ x1 < 150) ∧ (w_112 X (s 56 x1) s (fun v1 s1 => (0 ≤ x1 ∧ x1 < 150) ∧ (∀ s2 : zS, s2 = zu s1 56 x1 v1 → (0 ≤ x1 ∧ x1 < 150) ∧ (w_112 X (s2 57 x1) s2 (fun v3 s3 => (0 ≤ x1 ∧ x1 < 150) ∧ (∀ s4 : zS, s4 = zu s3 57 x1 v3 → Q 0 s4))))))) : w_110_520 X x1 s Q := by
  intro hZ d hd
  have hM : xi_ml[110]? = some xm_110 := rfl
  refine gx_r hM hZ 6 (B := (530, [some (.ref 45), some (.int (Int32.ofInt x1)), none, none, none], [.int (Int32.ofInt x1), .ref 56, .int (Int32.ofInt x1), .ref 56], zw X s)) rfl ?_
  refine gi_iald hM hZ (s := s) (len := 150) rfl rfl (Nat.le_of_ble_eq_true rfl) h.1 ?_
  replace h := h.2
  refine gi_call hM (s := s) (hj := 0) hZ rfl rfl (by omega) h ?_
  intro v1 s1 h
  obtain ⟨s2, e2⟩ : ∃ q : zS, q = zu s1 56 x1 v1 := ⟨_, rfl⟩
  refine gj_iast hM hZ (len := 150) rfl rfl (Nat.le_of_ble_eq_true rfl) zp_56 h.1 e2 ?_
  replace h := h.2 _ e2
  refine gx_r hM hZ 6 (B := (545, [some (.ref 45), some (.int (Int32.ofInt x1)), none, none, none], [.int (Int32.ofInt x1), .ref 57, .int (Int32.ofInt x1), .ref 57], zw X s2)) rfl ?_
  refine gi_iald hM hZ (s := s2) (len := 150) rfl rfl (Nat.le_of_ble_eq_true rfl) h.1 ?_
  replace h := h.2
  refine gi_call hM (s := s2) (hj := 0) hZ rfl rfl (by omega) h ?_
  intro v3 s3 h
  obtain ⟨s4, e4⟩ : ∃ q : zS, q = zu s3 57 x1 v3 := ⟨_, rfl⟩
  refine gj_iast hM hZ (len := 150) rfl rfl (Nat.le_of_ble_eq_true rfl) zp_57 h.1 e4 ?_
  replace h := h.2 _ e4
  exact ⟨_, xi_To.rf _ _ _ _, 0, s4, rfl, h⟩
-- RootLoomModel.visit
def w_115 (X : zX) (x1 : Int) (s : zS) (Q : Int → zS → Prop) : Prop := wW X 115 xm_115 1 (0, [some (.ref 45), some (.int (Int32.ofInt x1)), none], [], zw X s) Q
def w_115_149 (X : zX) (x2 t1 : Int) (s : zS) (Q : Int → zS → Prop) : Prop := wW X 115 xm_115 1 (149, [some (.ref 45), none, some (.int (Int32.ofInt x2))], [.int (Int32.ofInt t1), .ref 45], zw X s) Q
def w_115_234 (X : zX) (x1 x2 : Int) (s : zS) (Q : Int → zS → Prop) : Prop := wW X 115 xm_115 1 (234, [some (.ref 45), some (.int (Int32.ofInt x1)), some (.int (Int32.ofInt x2))], [], zw X s) Q
def w_115_256 (X : zX) (x1 x2 : Int) (s : zS) (Q : Int → zS → Prop) : Prop := wW X 115 xm_115 1 (256, [some (.ref 45), some (.int (Int32.ofInt x1)), some (.int (Int32.ofInt x2))], [], zw X s) Q
def w_115_285 (X : zX) (t1 t2 : Int) (s : zS) (Q : Int → zS → Prop) : Prop := wW X 115 xm_115 1 (285, [none, none, none], [.int (Int32.ofInt t2), .int (Int32.ofInt t1), .ref 45], zw X s) Q
def w_115_385 (X : zX) (x1 x2 : Int) (s : zS) (Q : Int → zS → Prop) : Prop := wW X 115 xm_115 1 (385, [some (.ref 45), some (.int (Int32.ofInt x1)), some (.int (Int32.ofInt x2))], [], zw X s) Q
def w_115_396 (X : zX) (x2 : Int) (s : zS) (Q : Int → zS → Prop) : Prop := wW X 115 xm_115 1 (396, [some (.ref 45), none, some (.int (Int32.ofInt x2))], [], zw X s) Q
theorem w_115_i {X : zX} {x1 : Int} {s : zS} {Q : Int → zS → Prop} (h : (0 ≤ x1 ∧ x1 < 150) ∧ (0 ≤ x1 ∧ x1 < 150) ∧ ((-2147483648 ≤ (s 52 x1) ∧ (s 52 x1) ≤ 2147483647) ∧ ((¬ (s 52 x1) = 0 ∧ ¬ (s 52 x1) = 1 ∧ ¬ (s 52 x1) = 2 ∧ ¬ (s 52 x1) = 6 ∧ ¬ (s 52 x1) = 10 ∧ ¬ (s 52 x1) = 11 ∧ ¬ (s 52 x1) = 12 ∧ ¬ (s 52 x1) = 17) → (w_114 X 2 x1 s (fun _ s1 => (0 ≤ x1 ∧ x1 < 150) ∧ ((-2147483648 ≤ (s1 52 x1) ∧ (s1 52 x1) ≤ 2147483647) ∧ ((s1 52 x1) < 7 → w_115_385 X x1 (s 53 x1) s1 Q) ∧ (¬ (s1 52 x1) < 7 → (0 ≤ x1 ∧ x1 < 150) ∧ ((-2147483648 ≤ (s1 52 x1) ∧ (s1 52 x1) ≤ 2147483647) ∧ ((s1 52 x1) = 14 → w_115_385 X x1 (s 53 x1) s1 Q) ∧ (¬ (s1 52 x1) = 14 → (0 ≤ x1 ∧ x1 < 150) ∧ ((-2147483648 ≤ (s1 52 x1) ∧ (s1 52 x1) ≤ 2147483647) ∧ (¬ (s1 52 x1) = 15 → w_115_396 X (s 53 x1) s1 Q) ∧ (¬ ¬ (s1 52 x1) = 15 → w_115_385 X x1 (s 53 x1) s1 Q))))))))) ∧ (((s 52 x1) = 0) → (w_116 X 0 (s 53 x1) s (fun _ s2 => (w_117 X 0 s2 (fun _ s3 => Q 0 s3))))) ∧ (((s 52 x1) = 1) → (w_116 X 1 0 s (fun _ s4 => (w_117 X (s 53 x1) s4 (fun _ s5 => Q 0 s5))))) ∧ (((s 52 x1) = 2) → (w_116 X 2 (s 53 x1) s (fun _ s6 => (0 ≤ (s 53 x1) ∧ (s 53 x1) < 8) ∧ ((-2147483648 ≤ (s6 70 (s 53 x1)) ∧ (s6 70 (s 53 x1)) ≤ 2147483647) ∧ ((s6 70 (s 53 x1)) < 0 → w_115_149 X (s 53 x1) 0 s6 Q) ∧ (¬ (s6 70 (s 53 x1)) < 0 → w_115_149 X (s 53 x1) 1 s6 Q))))) ∧ (((s 52 x1) = 6) → (w_114 X 2 x1 s (fun _ s10 => (0 ≤ x1 ∧ x1 < 150) ∧ (w_114 X 0 (s10 55 x1) s10 (fun _ s11 => (0 ≤ x1 ∧ x1 < 150) ∧ (w_114 X 0 (s11 54 x1) s11 (fun _ s12 => Q 0 s12))))))) ∧ (((s 52 x1) = 10 ∨ (s 52 x1) = 11) → (w_114 X 4 x1 s (fun _ s16 => (0 ≤ x1 ∧ x1 < 150) ∧ (w_114 X 0 (s16 55 x1) s16 (fun _ s17 => (0 ≤ x1 ∧ x1 < 150) ∧ ((-2147483648 ≤ (s17 52 x1) ∧ (s17 52 x1) ≤ 2147483647) ∧ (¬ (s17 52 x1) = 10 → w_115_234 X x1 (s 53 x1) s17 Q) ∧ (¬ ¬ (s17 52 x1) = 10 → (w_114 X 3 x1 s17 (fun _ s18 => w_115_234 X x1 (s 53 x1) s18 Q))))))))) ∧ (((s 52 x1) = 12) → (w_114 X 2 x1 s (fun _ s22 => (0 ≤ x1 ∧ x1 < 150) ∧ ((-2147483648 ≤ (s22 54 x1) ∧ (s22 54 x1) ≤ 2147483647) ∧ ((s22 54 x1) < 0 → Q 0 s22) ∧ (¬ (s22 54 x1) < 0 → (0 ≤ x1 ∧ x1 < 150) ∧ (w_114 X 1 (s22 54 x1) s22 (fun _ s23 => Q 0 s23))))))) ∧ (((s 52 x1) = 17) → (0 ≤ x1 ∧ x1 < 150) ∧ (w_114 X 0 (s 54 x1) s (fun _ s28 => (w_114 X 2 x1 s28 (fun _ s29 => (w_114 X 0 (s 53 x1) s29 (fun _ s30 => Q 0 s30))))))))) : w_115 X x1 s Q := by
  intro hZ d hd
  have hM : xi_ml[115]? = some xm_115 := rfl
  refine gx_r hM hZ 3 (B := (5, [some (.ref 45), some (.int (Int32.ofInt x1)), none], [.int (Int32.ofInt x1), .ref 53], zw X s)) rfl ?_
  refine gi_iald hM hZ (s := s) (len := 150) rfl rfl (Nat.le_of_ble_eq_true rfl) h.1 ?_
  replace h := h.2
  refine gx_r hM hZ 4 (B := (12, [some (.ref 45), some (.int (Int32.ofInt x1)), some (.int (Int32.ofInt (s 53 x1)))], [.int (Int32.ofInt x1), .ref 52], zw X s)) rfl ?_
  refine gi_iald hM hZ (s := s) (len := 150) rfl rfl (Nat.le_of_ble_eq_true rfl) h.1 ?_
  replace h := h.2
  by_cases hq0 : ((s 52 x1) = 0)
  · refine gi_tab hM hZ (x := (s 52 x1)) (o := 87) rfl h.1 ?_ (by decide) ?_
    · rw [hq0]; rfl
    · replace h := h.2.2.1 hq0
      refine gx_r hM hZ 3 (B := (103, [some (.ref 45), some (.int (Int32.ofInt x1)), some (.int (Int32.ofInt (s 53 x1)))], [.int (Int32.ofInt (s 53 x1)), .int (Int32.ofInt 0), .ref 45], zw X s)) rfl ?_
      refine gi_call hM (s := s) (hj := 0) hZ rfl rfl (by omega) h ?_
      intro _ s2 h
      refine gx_r hM hZ 2 (B := (108, [some (.ref 45), some (.int (Int32.ofInt x1)), some (.int (Int32.ofInt (s 53 x1)))], [.int (Int32.ofInt 0), .ref 45], zw X s2)) rfl ?_
      refine gi_call hM (s := s2) (hj := 0) hZ rfl rfl (by omega) h ?_
      intro _ s3 h
      refine gx_r hM hZ 1 (B := (402, [some (.ref 45), some (.int (Int32.ofInt x1)), some (.int (Int32.ofInt (s 53 x1)))], [], zw X s3)) rfl ?_
      exact ⟨_, xi_To.rf _ _ _ _, 0, s3, rfl, h⟩
  · by_cases hq1 : ((s 52 x1) = 1)
    · refine gi_tab hM hZ (x := (s 52 x1)) (o := 101) rfl h.1 ?_ (by decide) ?_
      · rw [hq1]; rfl
      · replace h := h.2.2.2.1 hq1
        refine gx_r hM hZ 3 (B := (117, [some (.ref 45), some (.int (Int32.ofInt x1)), some (.int (Int32.ofInt (s 53 x1)))], [.int (Int32.ofInt 0), .int (Int32.ofInt 1), .ref 45], zw X s)) rfl ?_
        refine gi_call hM (s := s) (hj := 0) hZ rfl rfl (by omega) h ?_
        intro _ s4 h
        refine gx_r hM hZ 2 (B := (122, [some (.ref 45), some (.int (Int32.ofInt x1)), some (.int (Int32.ofInt (s 53 x1)))], [.int (Int32.ofInt (s 53 x1)), .ref 45], zw X s4)) rfl ?_
        refine gi_call hM (s := s4) (hj := 0) hZ rfl rfl (by omega) h ?_
        intro _ s5 h
        refine gx_r hM hZ 1 (B := (402, [some (.ref 45), some (.int (Int32.ofInt x1)), some (.int (Int32.ofInt (s 53 x1)))], [], zw X s5)) rfl ?_
        exact ⟨_, xi_To.rf _ _ _ _, 0, s5, rfl, h⟩
    · by_cases hq2 : ((s 52 x1) = 2)
      · refine gi_tab hM hZ (x := (s 52 x1)) (o := 115) rfl h.1 ?_ (by decide) ?_
        · rw [hq2]; rfl
        · replace h := h.2.2.2.2.1 hq2
          refine gx_r hM hZ 3 (B := (131, [some (.ref 45), some (.int (Int32.ofInt x1)), some (.int (Int32.ofInt (s 53 x1)))], [.int (Int32.ofInt (s 53 x1)), .int (Int32.ofInt 2), .ref 45], zw X s)) rfl ?_
          refine gi_call hM (s := s) (hj := 0) hZ rfl rfl (by omega) h ?_
          intro _ s6 h
          refine gx_r hM hZ 4 (B := (140, [some (.ref 45), some (.int (Int32.ofInt x1)), some (.int (Int32.ofInt (s 53 x1)))], [.int (Int32.ofInt (s 53 x1)), .ref 70, .ref 45], zw X s6)) rfl ?_
          refine gi_iald hM hZ (s := s6) (len := 8) rfl rfl (Nat.le_of_ble_eq_true rfl) h.1 ?_
          replace h := h.2
          refine gi_if1 hM hZ (fun x => decide (x < 0)) (p := (s6 70 (s 53 x1)) < 0) rfl rfl (zd_lt h.1) ?_ ?_
          · intro hp
            replace h := h.2.1 hp
            refine gx_r hM hZ 1 (B := (149, [some (.ref 45), some (.int (Int32.ofInt x1)), some (.int (Int32.ofInt (s 53 x1)))], [.int (Int32.ofInt 0), .ref 45], zw X s6)) rfl ?_
            exact gx_fg [true, false, true] (h hZ d hd)
          · intro hp
            replace h := h.2.2 hp
            refine gx_r hM hZ 2 (B := (149, [some (.ref 45), some (.int (Int32.ofInt x1)), some (.int (Int32.ofInt (s 53 x1)))], [.int (Int32.ofInt 1), .ref 45], zw X s6)) rfl ?_
            exact gx_fg [true, false, true] (h hZ d hd)
      · by_cases hq3 : ((s 52 x1) = 6)
        · refine gi_tab hM hZ (x := (s 52 x1)) (o := 156) rfl h.1 ?_ (by decide) ?_
          · rw [hq3]; rfl
          · replace h := h.2.2.2.2.2.1 hq3
            refine gx_r hM hZ 3 (B := (172, [some (.ref 45), some (.int (Int32.ofInt x1)), some (.int (Int32.ofInt (s 53 x1)))], [.int (Int32.ofInt x1), .int (Int32.ofInt 2), .ref 45], zw X s)) rfl ?_
            refine gi_call hM (s := s) (hj := 0) hZ rfl rfl (by omega) h ?_
            intro _ s10 h
            refine gx_r hM hZ 5 (B := (182, [some (.ref 45), some (.int (Int32.ofInt x1)), some (.int (Int32.ofInt (s 53 x1)))], [.int (Int32.ofInt x1), .ref 55, .int (Int32.ofInt 0), .ref 45], zw X s10)) rfl ?_
            refine gi_iald hM hZ (s := s10) (len := 150) rfl rfl (Nat.le_of_ble_eq_true rfl) h.1 ?_
            replace h := h.2
            refine gi_call hM (s := s10) (hj := 0) hZ rfl rfl (by omega) h ?_
            intro _ s11 h
            refine gx_r hM hZ 5 (B := (193, [some (.ref 45), some (.int (Int32.ofInt x1)), some (.int (Int32.ofInt (s 53 x1)))], [.int (Int32.ofInt x1), .ref 54, .int (Int32.ofInt 0), .ref 45], zw X s11)) rfl ?_
            refine gi_iald hM hZ (s := s11) (len := 150) rfl rfl (Nat.le_of_ble_eq_true rfl) h.1 ?_
            replace h := h.2
            refine gi_call hM (s := s11) (hj := 0) hZ rfl rfl (by omega) h ?_
            intro _ s12 h
            refine gx_r hM hZ 1 (B := (402, [some (.ref 45), some (.int (Int32.ofInt x1)), some (.int (Int32.ofInt (s 53 x1)))], [], zw X s12)) rfl ?_
            exact ⟨_, xi_To.rf _ _ _ _, 0, s12, rfl, h⟩
        · by_cases hq4 : ((s 52 x1) = 10 ∨ (s 52 x1) = 11)
          · refine gi_tab hM hZ (x := (s 52 x1)) (o := 187) rfl h.1 ?_ (by decide) ?_
            · rcases hq4 with e | e <;> (rw [e]; rfl)
            · replace h := h.2.2.2.2.2.2.1 hq4
              refine gx_r hM hZ 3 (B := (203, [some (.ref 45), some (.int (Int32.ofInt x1)), some (.int (Int32.ofInt (s 53 x1)))], [.int (Int32.ofInt x1), .int (Int32.ofInt 4), .ref 45], zw X s)) rfl ?_
              refine gi_call hM (s := s) (hj := 0) hZ rfl rfl (by omega) h ?_
              intro _ s16 h
              refine gx_r hM hZ 5 (B := (213, [some (.ref 45), some (.int (Int32.ofInt x1)), some (.int (Int32.ofInt (s 53 x1)))], [.int (Int32.ofInt x1), .ref 55, .int (Int32.ofInt 0), .ref 45], zw X s16)) rfl ?_
              refine gi_iald hM hZ (s := s16) (len := 150) rfl rfl (Nat.le_of_ble_eq_true rfl) h.1 ?_
              replace h := h.2
              refine gi_call hM (s := s16) (hj := 0) hZ rfl rfl (by omega) h ?_
              intro _ s17 h
              refine gx_r hM hZ 3 (B := (222, [some (.ref 45), some (.int (Int32.ofInt x1)), some (.int (Int32.ofInt (s 53 x1)))], [.int (Int32.ofInt x1), .ref 52], zw X s17)) rfl ?_
              refine gi_iald hM hZ (s := s17) (len := 150) rfl rfl (Nat.le_of_ble_eq_true rfl) h.1 ?_
              replace h := h.2
              refine gi_bip hM hZ rfl rfl ?_
              refine gi_if2 hM hZ (fun x y => decide (¬ x = y)) (p := ¬ (s17 52 x1) = 10) rfl rfl (zc_ne h.1 (by decide)) ?_ ?_
              · intro hp
                replace h := h.2.1 hp
                exact gx_fg [true, true, true] (h hZ d hd)
              · intro hp
                replace h := h.2.2 hp
                refine gx_r hM hZ 3 (B := (231, [some (.ref 45), some (.int (Int32.ofInt x1)), some (.int (Int32.ofInt (s 53 x1)))], [.int (Int32.ofInt x1), .int (Int32.ofInt 3), .ref 45], zw X s17)) rfl ?_
                refine gi_call hM (s := s17) (hj := 0) hZ rfl rfl (by omega) h ?_
                intro _ s18 h
                exact gx_fg [true, true, true] (h hZ d hd)
          · by_cases hq5 : ((s 52 x1) = 12)
            · refine gi_tab hM hZ (x := (s 52 x1)) (o := 278) rfl h.1 ?_ (by decide) ?_
              · rw [hq5]; rfl
              · replace h := h.2.2.2.2.2.2.2.1 hq5
                refine gx_r hM hZ 3 (B := (294, [some (.ref 45), some (.int (Int32.ofInt x1)), some (.int (Int32.ofInt (s 53 x1)))], [.int (Int32.ofInt x1), .int (Int32.ofInt 2), .ref 45], zw X s)) rfl ?_
                refine gi_call hM (s := s) (hj := 0) hZ rfl rfl (by omega) h ?_
                intro _ s22 h
                refine gx_r hM hZ 3 (B := (302, [some (.ref 45), some (.int (Int32.ofInt x1)), some (.int (Int32.ofInt (s 53 x1)))], [.int (Int32.ofInt x1), .ref 54], zw X s22)) rfl ?_
                refine gi_iald hM hZ (s := s22) (len := 150) rfl rfl (Nat.le_of_ble_eq_true rfl) h.1 ?_
                replace h := h.2
                refine gi_if1 hM hZ (fun x => decide (x < 0)) (p := (s22 54 x1) < 0) rfl rfl (zd_lt h.1) ?_ ?_
                · intro hp
                  replace h := h.2.1 hp
                  exact ⟨_, xi_To.rf _ _ _ _, 0, s22, rfl, h⟩
                · intro hp
                  replace h := h.2.2 hp
                  refine gx_r hM hZ 5 (B := (313, [some (.ref 45), some (.int (Int32.ofInt x1)), some (.int (Int32.ofInt (s 53 x1)))], [.int (Int32.ofInt x1), .ref 54, .int (Int32.ofInt 1), .ref 45], zw X s22)) rfl ?_
                  refine gi_iald hM hZ (s := s22) (len := 150) rfl rfl (Nat.le_of_ble_eq_true rfl) h.1 ?_
                  replace h := h.2
                  refine gi_call hM (s := s22) (hj := 0) hZ rfl rfl (by omega) h ?_
                  intro _ s23 h
                  refine gx_r hM hZ 1 (B := (402, [some (.ref 45), some (.int (Int32.ofInt x1)), some (.int (Int32.ofInt (s 53 x1)))], [], zw X s23)) rfl ?_
                  exact ⟨_, xi_To.rf _ _ _ _, 0, s23, rfl, h⟩
            · by_cases hq6 : ((s 52 x1) = 17)
              · refine gi_tab hM hZ (x := (s 52 x1)) (o := 307) rfl h.1 ?_ (by decide) ?_
                · rw [hq6]; rfl
                · replace h := h.2.2.2.2.2.2.2.2 hq6
                  refine gx_r hM hZ 5 (B := (327, [some (.ref 45), some (.int (Int32.ofInt x1)), some (.int (Int32.ofInt (s 53 x1)))], [.int (Int32.ofInt x1), .ref 54, .int (Int32.ofInt 0), .ref 45], zw X s)) rfl ?_
                  refine gi_iald hM hZ (s := s) (len := 150) rfl rfl (Nat.le_of_ble_eq_true rfl) h.1 ?_
                  replace h := h.2
                  refine gi_call hM (s := s) (hj := 0) hZ rfl rfl (by omega) h ?_
                  intro _ s28 h
                  refine gx_r hM hZ 3 (B := (334, [some (.ref 45), some (.int (Int32.ofInt x1)), some (.int (Int32.ofInt (s 53 x1)))], [.int (Int32.ofInt x1), .int (Int32.ofInt 2), .ref 45], zw X s28)) rfl ?_
                  refine gi_call hM (s := s28) (hj := 0) hZ rfl rfl (by omega) h ?_
                  intro _ s29 h
                  refine gx_r hM hZ 3 (B := (340, [some (.ref 45), some (.int (Int32.ofInt x1)), some (.int (Int32.ofInt (s 53 x1)))], [.int (Int32.ofInt (s 53 x1)), .int (Int32.ofInt 0), .ref 45], zw X s29)) rfl ?_
                  refine gi_call hM (s := s29) (hj := 0) hZ rfl rfl (by omega) h ?_
                  intro _ s30 h
                  refine gx_r hM hZ 1 (B := (402, [some (.ref 45), some (.int (Int32.ofInt x1)), some (.int (Int32.ofInt (s 53 x1)))], [], zw X s30)) rfl ?_
                  exact ⟨_, xi_To.rf _ _ _ _, 0, s30, rfl, h⟩
              · refine gi_tab hM hZ (x := (s 52 x1)) (o := 333) rfl h.1 ?_ (by decide) ?_
                · by_cases hr : (s 52 x1) < 0 ∨ 17 < (s 52 x1)
                  · exact if_pos hr
                  · have e : (s 52 x1) = 3 ∨ (s 52 x1) = 4 ∨ (s 52 x1) = 5 ∨ (s 52 x1) = 7 ∨ (s 52 x1) = 8 ∨ (s 52 x1) = 9 ∨ (s 52 x1) = 13 ∨ (s 52 x1) = 14 ∨ (s 52 x1) = 15 ∨ (s 52 x1) = 16 := by omega
                    rcases e with e | e | e | e | e | e | e | e | e | e <;> (rw [e]; rfl)
                · replace h := h.2.1 (by omega)
                  refine gx_r hM hZ 3 (B := (349, [some (.ref 45), some (.int (Int32.ofInt x1)), some (.int (Int32.ofInt (s 53 x1)))], [.int (Int32.ofInt x1), .int (Int32.ofInt 2), .ref 45], zw X s)) rfl ?_
                  refine gi_call hM (s := s) (hj := 0) hZ rfl rfl (by omega) h ?_
                  intro _ s1 h
                  refine gx_r hM hZ 3 (B := (357, [some (.ref 45), some (.int (Int32.ofInt x1)), some (.int (Int32.ofInt (s 53 x1)))], [.int (Int32.ofInt x1), .ref 52], zw X s1)) rfl ?_
                  refine gi_iald hM hZ (s := s1) (len := 150) rfl rfl (Nat.le_of_ble_eq_true rfl) h.1 ?_
                  replace h := h.2
                  refine gi_bip hM hZ rfl rfl ?_
                  refine gi_if2 hM hZ (fun x y => decide (x < y)) (p := (s1 52 x1) < 7) rfl rfl (zc_lt h.1 (by decide)) ?_ ?_
                  · intro hp
                    replace h := h.2.1 hp
                    exact gx_fg [true, true, true] (h hZ d hd)
                  · intro hp
                    replace h := h.2.2 hp
                    refine gx_r hM hZ 3 (B := (368, [some (.ref 45), some (.int (Int32.ofInt x1)), some (.int (Int32.ofInt (s 53 x1)))], [.int (Int32.ofInt x1), .ref 52], zw X s1)) rfl ?_
                    refine gi_iald hM hZ (s := s1) (len := 150) rfl rfl (Nat.le_of_ble_eq_true rfl) h.1 ?_
                    replace h := h.2
                    refine gi_bip hM hZ rfl rfl ?_
                    refine gi_if2 hM hZ (fun x y => decide (x = y)) (p := (s1 52 x1) = 14) rfl rfl (zc_eq h.1 (by decide)) ?_ ?_
                    · intro hp
                      replace h := h.2.1 hp
                      exact gx_fg [true, true, true] (h hZ d hd)
                    · intro hp
                      replace h := h.2.2 hp
                      refine gx_r hM hZ 3 (B := (379, [some (.ref 45), some (.int (Int32.ofInt x1)), some (.int (Int32.ofInt (s 53 x1)))], [.int (Int32.ofInt x1), .ref 52], zw X s1)) rfl ?_
                      refine gi_iald hM hZ (s := s1) (len := 150) rfl rfl (Nat.le_of_ble_eq_true rfl) h.1 ?_
                      replace h := h.2
                      refine gi_bip hM hZ rfl rfl ?_
                      refine gi_if2 hM hZ (fun x y => decide (¬ x = y)) (p := ¬ (s1 52 x1) = 15) rfl rfl (zc_ne h.1 (by decide)) ?_ ?_
                      · intro hp
                        replace h := h.2.1 hp
                        exact gx_fg [true, false, true] (h hZ d hd)
                      · intro hp
                        replace h := h.2.2 hp
                        exact gx_fg [true, true, true] (h hZ d hd)
theorem w_115_149_i {X : zX} {x2 t1 : Int} {s : zS} {Q : Int → zS → Prop} (h : (w_118 X t1 s (fun _ s1 => (0 ≤ x2 ∧ x2 < 8) ∧ (w_111 X (s1 70 x2) 0 s1 (fun v2 s2 => (w_117 X v2 s2 (fun _ s3 => Q 0 s3))))))) : w_115_149 X x2 t1 s Q := by
  intro hZ d hd
  have hM : xi_ml[115]? = some xm_115 := rfl
  refine gi_call hM (s := s) (hj := 0) hZ rfl rfl (by omega) h ?_
  intro _ s1 h
  refine gx_r hM hZ 4 (B := (158, [some (.ref 45), none, some (.int (Int32.ofInt x2))], [.int (Int32.ofInt x2), .ref 70, .ref 45], zw X s1)) rfl ?_
  refine gi_iald hM hZ (s := s1) (len := 8) rfl rfl (Nat.le_of_ble_eq_true rfl) h.1 ?_
  replace h := h.2
  refine gx_r hM hZ 1 (B := (160, [some (.ref 45), none, some (.int (Int32.ofInt x2))], [.int (Int32.ofInt 0), .int (Int32.ofInt (s1 70 x2)), .ref 45], zw X s1)) rfl ?_
  refine gi_call hM (s := s1) (hj := 0) hZ rfl rfl (by omega) h ?_
  intro v2 s2 h
  refine gi_call hM (s := s2) (hj := 0) hZ rfl rfl (by omega) h ?_
  intro _ s3 h
  refine gx_r hM hZ 1 (B := (402, [some (.ref 45), none, some (.int (Int32.ofInt x2))], [], zw X s3)) rfl ?_
  exact ⟨_, xi_To.rf _ _ _ _, 0, s3, rfl, h⟩
theorem w_115_234_i {X : zX} {x1 x2 : Int} {s : zS} {Q : Int → zS → Prop} (h : (0 ≤ x1 ∧ x1 < 150) ∧ ((-2147483648 ≤ (s 52 x1) ∧ (s 52 x1) ≤ 2147483647) ∧ (¬ (s 52 x1) = 10 → w_115_256 X x1 x2 s Q) ∧ (¬ ¬ (s 52 x1) = 10 → (0 ≤ x1 ∧ x1 < 150) ∧ (w_114 X 0 (s 54 x1) s (fun _ s1 => w_115_256 X x1 x2 s1 Q))))) : w_115_234 X x1 x2 s Q := by
  intro hZ d hd
  have hM : xi_ml[115]? = some xm_115 := rfl
  refine gx_r hM hZ 3 (B := (239, [some (.ref 45), some (.int (Int32.ofInt x1)), some (.int (Int32.ofInt x2))], [.int (Int32.ofInt x1), .ref 52], zw X s)) rfl ?_
  refine gi_iald hM hZ (s := s) (len := 150) rfl rfl (Nat.le_of_ble_eq_true rfl) h.1 ?_
  replace h := h.2
  refine gi_bip hM hZ rfl rfl ?_
  refine gi_if2 hM hZ (fun x y => decide (¬ x = y)) (p := ¬ (s 52 x1) = 10) rfl rfl (zc_ne h.1 (by decide)) ?_ ?_
  · intro hp
    replace h := h.2.1 hp
    exact gx_fg [true, true, true] (h hZ d hd)
  · intro hp
    replace h := h.2.2 hp
    refine gx_r hM hZ 5 (B := (252, [some (.ref 45), some (.int (Int32.ofInt x1)), some (.int (Int32.ofInt x2))], [.int (Int32.ofInt x1), .ref 54, .int (Int32.ofInt 0), .ref 45], zw X s)) rfl ?_
    refine gi_iald hM hZ (s := s) (len := 150) rfl rfl (Nat.le_of_ble_eq_true rfl) h.1 ?_
    replace h := h.2
    refine gi_call hM (s := s) (hj := 0) hZ rfl rfl (by omega) h ?_
    intro _ s1 h
    exact gx_fg [true, true, true] (h hZ d hd)
theorem w_115_256_i {X : zX} {x1 x2 : Int} {s : zS} {Q : Int → zS → Prop} (h : (w_114 X 2 x1 s (fun _ s1 => (0 ≤ x1 ∧ x1 < 150) ∧ ((-2147483648 ≤ (s1 52 x1) ∧ (s1 52 x1) ≤ 2147483647) ∧ (¬ (s1 52 x1) = 10 → (0 ≤ x1 ∧ x1 < 150) ∧ w_115_285 X 0 (s1 54 x1) s1 Q) ∧ (¬ ¬ (s1 52 x1) = 10 → w_115_285 X 0 x2 s1 Q))))) : w_115_256 X x1 x2 s Q := by
  intro hZ d hd
  have hM : xi_ml[115]? = some xm_115 := rfl
  refine gx_r hM hZ 3 (B := (259, [some (.ref 45), some (.int (Int32.ofInt x1)), some (.int (Int32.ofInt x2))], [.int (Int32.ofInt x1), .int (Int32.ofInt 2), .ref 45], zw X s)) rfl ?_
  refine gi_call hM (s := s) (hj := 0) hZ rfl rfl (by omega) h ?_
  intro _ s1 h
  refine gx_r hM hZ 5 (B := (269, [some (.ref 45), some (.int (Int32.ofInt x1)), some (.int (Int32.ofInt x2))], [.int (Int32.ofInt x1), .ref 52, .int (Int32.ofInt 0), .ref 45], zw X s1)) rfl ?_
  refine gi_iald hM hZ (s := s1) (len := 150) rfl rfl (Nat.le_of_ble_eq_true rfl) h.1 ?_
  replace h := h.2
  refine gi_bip hM hZ rfl rfl ?_
  refine gi_if2 hM hZ (fun x y => decide (¬ x = y)) (p := ¬ (s1 52 x1) = 10) rfl rfl (zc_ne h.1 (by decide)) ?_ ?_
  · intro hp
    replace h := h.2.1 hp
    refine gx_r hM hZ 3 (B := (284, [some (.ref 45), some (.int (Int32.ofInt x1)), some (.int (Int32.ofInt x2))], [.int (Int32.ofInt x1), .ref 54, .int (Int32.ofInt 0), .ref 45], zw X s1)) rfl ?_
    refine gi_iald hM hZ (s := s1) (len := 150) rfl rfl (Nat.le_of_ble_eq_true rfl) h.1 ?_
    replace h := h.2
    exact gx_fg [false, false, false] (h hZ d hd)
  · intro hp
    replace h := h.2.2 hp
    refine gx_r hM hZ 2 (B := (285, [some (.ref 45), some (.int (Int32.ofInt x1)), some (.int (Int32.ofInt x2))], [.int (Int32.ofInt x2), .int (Int32.ofInt 0), .ref 45], zw X s1)) rfl ?_
    exact gx_fg [false, false, false] (h hZ d hd)
theorem w_115_285_i {X : zX} {t1 t2 : Int} {s : zS} {Q : Int → zS → Prop} (h : (w_114 X t1 t2 s (fun _ s1 => Q 0 s1))) : w_115_285 X t1 t2 s Q := by
  intro hZ d hd
  have hM : xi_ml[115]? = some xm_115 := rfl
  refine gi_call hM (s := s) (hj := 0) hZ rfl rfl (by omega) h ?_
  intro _ s1 h
  refine gx_r hM hZ 1 (B := (402, [none, none, none], [], zw X s1)) rfl ?_
  exact ⟨_, xi_To.rf _ _ _ _, 0, s1, rfl, h⟩
theorem w_115_385_i {X : zX} {x1 x2 : Int} {s : zS} {Q : Int → zS → Prop} (h : (0 ≤ x1 ∧ x1 < 150) ∧ (w_114 X 0 (s 54 x1) s (fun _ s1 => w_115_396 X x2 s1 Q))) : w_115_385 X x1 x2 s Q := by
  intro hZ d hd
  have hM : xi_ml[115]? = some xm_115 := rfl
  refine gx_r hM hZ 5 (B := (392, [some (.ref 45), some (.int (Int32.ofInt x1)), some (.int (Int32.ofInt x2))], [.int (Int32.ofInt x1), .ref 54, .int (Int32.ofInt 0), .ref 45], zw X s)) rfl ?_
  refine gi_iald hM hZ (s := s) (len := 150) rfl rfl (Nat.le_of_ble_eq_true rfl) h.1 ?_
  replace h := h.2
  refine gi_call hM (s := s) (hj := 0) hZ rfl rfl (by omega) h ?_
  intro _ s1 h
  exact gx_fg [true, false, true] (h hZ d hd)
theorem w_115_396_i {X : zX} {x2 : Int} {s : zS} {Q : Int → zS → Prop} (h : (w_114 X 0 x2 s (fun _ s1 => Q 0 s1))) : w_115_396 X x2 s Q := by
  intro hZ d hd
  have hM : xi_ml[115]? = some xm_115 := rfl
  refine gx_r hM hZ 3 (B := (399, [some (.ref 45), none, some (.int (Int32.ofInt x2))], [.int (Int32.ofInt x2), .int (Int32.ofInt 0), .ref 45], zw X s)) rfl ?_
  refine gi_call hM (s := s) (hj := 0) hZ rfl rfl (by omega) h ?_
  intro _ s1 h
  exact ⟨_, xi_To.rf _ _ _ _, 0, s1, rfl, h⟩
-- RootLoomModel.sayMapped
def w_121 (X : zX) (x1 x2 x3 : Int) (s : zS) (Q : Int → zS → Prop) : Prop := wW X 121 xm_121 1 (0, [some (.ref 45), some (.int (Int32.ofInt x1)), some (.int (Int32.ofInt x2)), some (.int (Int32.ofInt x3)), none], [], zw X s) Q
def w_121_21 (X : zX) (x4 : Int) (s : zS) (Q : Int → zS → Prop) : Prop := wW X 121 xm_121 1 (21, [some (.ref 45), none, none, none, some (.int (Int32.ofInt x4))], [], zw X s) Q
def w_121_58 (X : zX) (x4 t1 t2 t3 : Int) (s : zS) (Q : Int → zS → Prop) : Prop := wW X 121 xm_121 1 (58, [some (.ref 45), none, none, none, some (.int (Int32.ofInt x4))], [.int (Int32.ofInt t3), .int (Int32.ofInt t2), .int (Int32.ofInt t1), .ref 61], zw X s) Q
def w_121_69 (X : zX) (x4 : Int) (s : zS) (Q : Int → zS → Prop) : Prop := wW X 121 xm_121 1 (69, [some (.ref 45), none, none, none, some (.int (Int32.ofInt x4))], [], zw X s) Q
def w_121_108 (X : zX) (x4 t1 t2 t3 : Int) (s : zS) (Q : Int → zS → Prop) : Prop := wW X 121 xm_121 1 (108, [some (.ref 45), none, none, none, some (.int (Int32.ofInt x4))], [.int (Int32.ofInt t3), .int (Int32.ofInt t2), .int (Int32.ofInt t1), .ref 62], zw X s) Q
theorem w_121_i {X : zX} {x1 x2 x3 : Int} {s : zS} {Q : Int → zS → Prop} (h : (w_116 X x1 x2 s (fun _ s1 => (0 ≤ ((s1 45 16) - 1) ∧ ((s1 45 16) - 1) < 400) ∧ (∀ s2 : zS, s2 = zu s1 60 ((s1 45 16) - 1) x3 → w_121_21 X 0 s2 Q)))) : w_121 X x1 x2 x3 s Q := by
  intro hZ d hd
  have hM : xi_ml[121]? = some xm_121 := rfl
  refine gx_r hM hZ 3 (B := (3, [some (.ref 45), some (.int (Int32.ofInt x1)), some (.int (Int32.ofInt x2)), some (.int (Int32.ofInt x3)), none], [.int (Int32.ofInt x2), .int (Int32.ofInt x1), .ref 45], zw X s)) rfl ?_
  refine gi_call hM (s := s) (hj := 0) hZ rfl rfl (by omega) h ?_
  intro _ s1 h
  refine gx_r hM hZ 5 (B := (15, [some (.ref 45), some (.int (Int32.ofInt x1)), some (.int (Int32.ofInt x2)), some (.int (Int32.ofInt x3)), none], [.int (Int32.ofInt 1), .int (Int32.ofInt (s1 45 16)), .ref 60], zw X s1)) rfl ?_
  refine gi_sub hM hZ rfl ?_
  refine gx_r hM hZ 1 (B := (17, [some (.ref 45), some (.int (Int32.ofInt x1)), some (.int (Int32.ofInt x2)), some (.int (Int32.ofInt x3)), none], [.int (Int32.ofInt x3), .int (Int32.ofInt ((s1 45 16) - 1)), .ref 60], zw X s1)) rfl ?_
  obtain ⟨s2, e2⟩ : ∃ q : zS, q = zu s1 60 ((s1 45 16) - 1) x3 := ⟨_, rfl⟩
  refine gj_iast hM hZ (len := 400) rfl rfl (Nat.le_of_ble_eq_true rfl) zp_60 h.1 e2 ?_
  replace h := h.2 _ e2
  refine gx_r hM hZ 2 (B := (21, [some (.ref 45), some (.int (Int32.ofInt x1)), some (.int (Int32.ofInt x2)), some (.int (Int32.ofInt x3)), some (.int (Int32.ofInt 0))], [], zw X s2)) rfl ?_
  exact gx_fg [true, false, false, false, true] (h hZ d hd)
theorem w_121_21_i {X : zX} {x4 : Int} {s : zS} {Q : Int → zS → Prop} (h : ((-2147483648 ≤ x4 ∧ x4 ≤ 2147483647) ∧ (8 ≤ x4 → w_121_69 X 0 s Q) ∧ (¬ 8 ≤ x4 → (0 ≤ ((s 45 16) - 1) ∧ ((s 45 16) - 1) < 400) ∧ (0 ≤ x4 ∧ x4 < 8) ∧ ((-2147483648 ≤ (s 70 x4) ∧ (s 70 x4) ≤ 2147483647) ∧ ((s 70 x4) ≤ 0 → w_121_58 X x4 ((s 45 16) - 1) (s 61 ((s 45 16) - 1)) 0 s Q) ∧ (¬ (s 70 x4) ≤ 0 → w_121_58 X x4 ((s 45 16) - 1) (s 61 ((s 45 16) - 1)) (zL 1 x4) s Q))))) : w_121_21 X x4 s Q := by
  intro hZ d hd
  have hM : xi_ml[121]? = some xm_121 := rfl
  refine gx_r hM hZ 1 (B := (23, [some (.ref 45), none, none, none, some (.int (Int32.ofInt x4))], [.int (Int32.ofInt x4)], zw X s)) rfl ?_
  refine gi_bip hM hZ rfl rfl ?_
  refine gi_if2 hM hZ (fun x y => decide (y ≤ x)) (p := 8 ≤ x4) rfl rfl (zc_ge h.1 (by decide)) ?_ ?_
  · intro hp
    replace h := h.2.1 hp
    refine gx_r hM hZ 2 (B := (69, [some (.ref 45), none, none, none, some (.int (Int32.ofInt 0))], [], zw X s)) rfl ?_
    exact gx_fg [true, false, false, false, true] (h hZ d hd)
  · intro hp
    replace h := h.2.2 hp
    refine gx_r hM hZ 5 (B := (37, [some (.ref 45), none, none, none, some (.int (Int32.ofInt x4))], [.int (Int32.ofInt 1), .int (Int32.ofInt (s 45 16)), .ref 61], zw X s)) rfl ?_
    refine gi_sub hM hZ rfl ?_
    refine gx_r hM hZ 1 (B := (39, [some (.ref 45), none, none, none, some (.int (Int32.ofInt x4))], [.int (Int32.ofInt ((s 45 16) - 1)), .ref 61, .int (Int32.ofInt ((s 45 16) - 1)), .ref 61], zw X s)) rfl ?_
    refine gi_iald hM hZ (s := s) (len := 400) rfl rfl (Nat.le_of_ble_eq_true rfl) h.1 ?_
    replace h := h.2
    refine gx_r hM hZ 3 (B := (46, [some (.ref 45), none, none, none, some (.int (Int32.ofInt x4))], [.int (Int32.ofInt x4), .ref 70, .int (Int32.ofInt (s 61 ((s 45 16) - 1))), .int (Int32.ofInt ((s 45 16) - 1)), .ref 61], zw X s)) rfl ?_
    refine gi_iald hM hZ (s := s) (len := 8) rfl rfl (Nat.le_of_ble_eq_true rfl) h.1 ?_
    replace h := h.2
    refine gi_if1 hM hZ (fun x => decide (x ≤ 0)) (p := (s 70 x4) ≤ 0) rfl rfl (zd_le h.1) ?_ ?_
    · intro hp
      replace h := h.2.1 hp
      refine gx_r hM hZ 1 (B := (58, [some (.ref 45), none, none, none, some (.int (Int32.ofInt x4))], [.int (Int32.ofInt 0), .int (Int32.ofInt (s 61 ((s 45 16) - 1))), .int (Int32.ofInt ((s 45 16) - 1)), .ref 61], zw X s)) rfl ?_
      exact gx_fg [true, false, false, false, true] (h hZ d hd)
    · intro hp
      replace h := h.2.2 hp
      refine gx_r hM hZ 2 (B := (53, [some (.ref 45), none, none, none, some (.int (Int32.ofInt x4))], [.int (Int32.ofInt x4), .int (Int32.ofInt 1), .int (Int32.ofInt (s 61 ((s 45 16) - 1))), .int (Int32.ofInt ((s 45 16) - 1)), .ref 61], zw X s)) rfl ?_
      refine gi_shl hM hZ rfl ?_
      refine gx_r hM hZ 1 (B := (58, [some (.ref 45), none, none, none, some (.int (Int32.ofInt x4))], [.int (Int32.ofInt (zL 1 x4)), .int (Int32.ofInt (s 61 ((s 45 16) - 1))), .int (Int32.ofInt ((s 45 16) - 1)), .ref 61], zw X s)) rfl ?_
      exact gx_fg [true, false, false, false, true] (h hZ d hd)
theorem w_121_58_i {X : zX} {x4 t1 t2 t3 : Int} {s : zS} {Q : Int → zS → Prop} (h : (0 ≤ t1 ∧ t1 < 400) ∧ (∀ s1 : zS, s1 = zu s 61 t1 (zO t2 t3) → w_121_21 X (x4 + 1) s1 Q)) : w_121_58 X x4 t1 t2 t3 s Q := by
  intro hZ d hd
  have hM : xi_ml[121]? = some xm_121 := rfl
  refine gi_or hM hZ rfl ?_
  obtain ⟨s1, e1⟩ : ∃ q : zS, q = zu s 61 t1 (zO t2 t3) := ⟨_, rfl⟩
  refine gj_iast hM hZ (len := 400) rfl rfl (Nat.le_of_ble_eq_true rfl) zp_61 h.1 e1 ?_
  replace h := h.2 _ e1
  refine gi_inc hM hZ (x := x4) (m := 1) rfl rfl ?_
  refine gx_r hM hZ 0 (B := (63, [some (.ref 45), none, none, none, some (.int (Int32.ofInt (x4 + 1)))], [], zw X s1)) rfl ?_
  refine gx_r hM hZ 1 (B := (21, [some (.ref 45), none, none, none, some (.int (Int32.ofInt (x4 + 1)))], [], zw X s1)) rfl ?_
  exact gx_fg [true, false, false, false, true] (h hZ d hd)
theorem w_121_69_i {X : zX} {x4 : Int} {s : zS} {Q : Int → zS → Prop} (h : (((-2147483648 ≤ x4 ∧ x4 ≤ 2147483647) ∧ (-2147483648 ≤ (s 45 30) ∧ (s 45 30) ≤ 2147483647)) ∧ ((s 45 30) ≤ x4 → Q 0 s) ∧ (¬ (s 45 30) ≤ x4 → (0 ≤ ((s 45 16) - 1) ∧ ((s 45 16) - 1) < 400) ∧ (0 ≤ x4 ∧ x4 < 40) ∧ ((-2147483648 ≤ (s 69 x4) ∧ (s 69 x4) ≤ 2147483647) ∧ ((s 69 x4) ≤ 0 → w_121_108 X x4 ((s 45 16) - 1) (s 62 ((s 45 16) - 1)) 0 s Q) ∧ (¬ (s 69 x4) ≤ 0 → w_121_108 X x4 ((s 45 16) - 1) (s 62 ((s 45 16) - 1)) (zL 1 x4) s Q))))) : w_121_69 X x4 s Q := by
  intro hZ d hd
  have hM : xi_ml[121]? = some xm_121 := rfl
  refine gx_r hM hZ 3 (B := (75, [some (.ref 45), none, none, none, some (.int (Int32.ofInt x4))], [.int (Int32.ofInt (s 45 30)), .int (Int32.ofInt x4)], zw X s)) rfl ?_
  refine gi_if2 hM hZ (fun x y => decide (y ≤ x)) (p := (s 45 30) ≤ x4) rfl rfl (zc_ge h.1.1 h.1.2) ?_ ?_
  · intro hp
    replace h := h.2.1 hp
    exact ⟨_, xi_To.rf _ _ _ _, 0, s, rfl, h⟩
  · intro hp
    replace h := h.2.2 hp
    refine gx_r hM hZ 5 (B := (87, [some (.ref 45), none, none, none, some (.int (Int32.ofInt x4))], [.int (Int32.ofInt 1), .int (Int32.ofInt (s 45 16)), .ref 62], zw X s)) rfl ?_
    refine gi_sub hM hZ rfl ?_
    refine gx_r hM hZ 1 (B := (89, [some (.ref 45), none, none, none, some (.int (Int32.ofInt x4))], [.int (Int32.ofInt ((s 45 16) - 1)), .ref 62, .int (Int32.ofInt ((s 45 16) - 1)), .ref 62], zw X s)) rfl ?_
    refine gi_iald hM hZ (s := s) (len := 400) rfl rfl (Nat.le_of_ble_eq_true rfl) h.1 ?_
    replace h := h.2
    refine gx_r hM hZ 3 (B := (96, [some (.ref 45), none, none, none, some (.int (Int32.ofInt x4))], [.int (Int32.ofInt x4), .ref 69, .int (Int32.ofInt (s 62 ((s 45 16) - 1))), .int (Int32.ofInt ((s 45 16) - 1)), .ref 62], zw X s)) rfl ?_
    refine gi_iald hM hZ (s := s) (len := 40) rfl rfl (Nat.le_of_ble_eq_true rfl) h.1 ?_
    replace h := h.2
    refine gi_if1 hM hZ (fun x => decide (x ≤ 0)) (p := (s 69 x4) ≤ 0) rfl rfl (zd_le h.1) ?_ ?_
    · intro hp
      replace h := h.2.1 hp
      refine gx_r hM hZ 1 (B := (108, [some (.ref 45), none, none, none, some (.int (Int32.ofInt x4))], [.int (Int32.ofInt 0), .int (Int32.ofInt (s 62 ((s 45 16) - 1))), .int (Int32.ofInt ((s 45 16) - 1)), .ref 62], zw X s)) rfl ?_
      exact gx_fg [true, false, false, false, true] (h hZ d hd)
    · intro hp
      replace h := h.2.2 hp
      refine gx_r hM hZ 2 (B := (103, [some (.ref 45), none, none, none, some (.int (Int32.ofInt x4))], [.int (Int32.ofInt x4), .int (Int32.ofInt 1), .int (Int32.ofInt (s 62 ((s 45 16) - 1))), .int (Int32.ofInt ((s 45 16) - 1)), .ref 62], zw X s)) rfl ?_
      refine gi_shl hM hZ rfl ?_
      refine gx_r hM hZ 1 (B := (108, [some (.ref 45), none, none, none, some (.int (Int32.ofInt x4))], [.int (Int32.ofInt (zL 1 x4)), .int (Int32.ofInt (s 62 ((s 45 16) - 1))), .int (Int32.ofInt ((s 45 16) - 1)), .ref 62], zw X s)) rfl ?_
      exact gx_fg [true, false, false, false, true] (h hZ d hd)
theorem w_121_108_i {X : zX} {x4 t1 t2 t3 : Int} {s : zS} {Q : Int → zS → Prop} (h : (0 ≤ t1 ∧ t1 < 400) ∧ (∀ s1 : zS, s1 = zu s 62 t1 (zO t2 t3) → w_121_69 X (x4 + 1) s1 Q)) : w_121_108 X x4 t1 t2 t3 s Q := by
  intro hZ d hd
  have hM : xi_ml[121]? = some xm_121 := rfl
  refine gi_or hM hZ rfl ?_
  obtain ⟨s1, e1⟩ : ∃ q : zS, q = zu s 62 t1 (zO t2 t3) := ⟨_, rfl⟩
  refine gj_iast hM hZ (len := 400) rfl rfl (Nat.le_of_ble_eq_true rfl) zp_62 h.1 e1 ?_
  replace h := h.2 _ e1
  refine gi_inc hM hZ (x := x4) (m := 1) rfl rfl ?_
  refine gx_r hM hZ 0 (B := (113, [some (.ref 45), none, none, none, some (.int (Int32.ofInt (x4 + 1)))], [], zw X s1)) rfl ?_
  refine gx_r hM hZ 1 (B := (69, [some (.ref 45), none, none, none, some (.int (Int32.ofInt (x4 + 1)))], [], zw X s1)) rfl ?_
  exact gx_fg [true, false, false, false, true] (h hZ d hd)
-- RootLoomModel.oneBehind
def w_124 (X : zX) (x1 : Int) (s : zS) (Q : Int → zS → Prop) : Prop := wW X 124 xm_124 1 (0, [some (.ref 45), some (.int (Int32.ofInt x1)), none, none], [], zw X s) Q
def w_124_35 (X : zX) (t1 : Int) (s : zS) (Q : Int → zS → Prop) : Prop := wW X 124 xm_124 1 (35, [some (.ref 45), none, none, none], [.int (Int32.ofInt t1), .ref 45], zw X s) Q
def w_124_78 (X : zX) (x2 x3 t1 : Int) (s : zS) (Q : Int → zS → Prop) : Prop := wW X 124 xm_124 1 (78, [some (.ref 45), none, some (.int (Int32.ofInt x2)), some (.int (Int32.ofInt x3))], [.int (Int32.ofInt t1), .ref 45], zw X s) Q
def w_124_113 (X : zX) (t1 : Int) (s : zS) (Q : Int → zS → Prop) : Prop := wW X 124 xm_124 1 (113, [none, none, none, none], [.int (Int32.ofInt t1), .ref 45], zw X s) Q
theorem w_124_i {X : zX} {x1 : Int} {s : zS} {Q : Int → zS → Prop} (h : (0 ≤ x1 ∧ x1 < 150) ∧ (w_122 X s (fun v1 s1 => ((-2147483648 ≤ (s 52 x1) ∧ (s 52 x1) ≤ 2147483647) ∧ (¬ (s 52 x1) = 16 → ((-2147483648 ≤ (s 52 x1) ∧ (s 52 x1) ≤ 2147483647) ∧ (¬ (s 52 x1) = 17 → (w_116 X (s 52 x1) 0 s1 (fun _ s2 => ((-2147483648 ≤ v1 ∧ v1 ≤ 2147483647) ∧ (v1 ≤ 0 → w_124_78 X (s 52 x1) v1 0 s2 Q) ∧ (¬ v1 ≤ 0 → w_124_78 X (s 52 x1) v1 1 s2 Q))))) ∧ (¬ ¬ (s 52 x1) = 17 → (w_116 X 18 0 s1 (fun _ s3 => Q 0 s3))))) ∧ (¬ ¬ (s 52 x1) = 16 → (w_116 X 17 0 s1 (fun _ s4 => ((-2147483648 ≤ v1 ∧ v1 ≤ 2147483647) ∧ (¬ v1 = 0 → w_124_35 X 0 s4 Q) ∧ (¬ ¬ v1 = 0 → w_124_35 X 1 s4 Q))))))))) : w_124 X x1 s Q := by
  intro hZ d hd
  have hM : xi_ml[124]? = some xm_124 := rfl
  refine gx_r hM hZ 3 (B := (5, [some (.ref 45), some (.int (Int32.ofInt x1)), none, none], [.int (Int32.ofInt x1), .ref 52], zw X s)) rfl ?_
  refine gi_iald hM hZ (s := s) (len := 150) rfl rfl (Nat.le_of_ble_eq_true rfl) h.1 ?_
  replace h := h.2
  refine gx_r hM hZ 2 (B := (8, [some (.ref 45), some (.int (Int32.ofInt x1)), some (.int (Int32.ofInt (s 52 x1))), none], [.ref 45], zw X s)) rfl ?_
  refine gi_call hM (s := s) (hj := 0) hZ rfl rfl (by omega) h ?_
  intro v1 s1 h
  refine gx_r hM hZ 2 (B := (13, [some (.ref 45), some (.int (Int32.ofInt x1)), some (.int (Int32.ofInt (s 52 x1))), some (.int (Int32.ofInt v1))], [.int (Int32.ofInt (s 52 x1))], zw X s1)) rfl ?_
  refine gi_bip hM hZ rfl rfl ?_
  refine gi_if2 hM hZ (fun x y => decide (¬ x = y)) (p := ¬ (s 52 x1) = 16) rfl rfl (zc_ne h.1 (by decide)) ?_ ?_
  · intro hp
    replace h := h.2.1 hp
    refine gx_r hM hZ 1 (B := (47, [some (.ref 45), some (.int (Int32.ofInt x1)), some (.int (Int32.ofInt (s 52 x1))), some (.int (Int32.ofInt v1))], [.int (Int32.ofInt (s 52 x1))], zw X s1)) rfl ?_
    refine gi_bip hM hZ rfl rfl ?_
    refine gi_if2 hM hZ (fun x y => decide (¬ x = y)) (p := ¬ (s 52 x1) = 17) rfl rfl (zc_ne h.1 (by decide)) ?_ ?_
    · intro hp
      replace h := h.2.1 hp
      refine gx_r hM hZ 3 (B := (65, [some (.ref 45), some (.int (Int32.ofInt x1)), some (.int (Int32.ofInt (s 52 x1))), some (.int (Int32.ofInt v1))], [.int (Int32.ofInt 0), .int (Int32.ofInt (s 52 x1)), .ref 45], zw X s1)) rfl ?_
      refine gi_call hM (s := s1) (hj := 0) hZ rfl rfl (by omega) h ?_
      intro _ s2 h
      refine gx_r hM hZ 2 (B := (70, [some (.ref 45), some (.int (Int32.ofInt x1)), some (.int (Int32.ofInt (s 52 x1))), some (.int (Int32.ofInt v1))], [.int (Int32.ofInt v1), .ref 45], zw X s2)) rfl ?_
      refine gi_if1 hM hZ (fun x => decide (x ≤ 0)) (p := v1 ≤ 0) rfl rfl (zd_le h.1) ?_ ?_
      · intro hp
        replace h := h.2.1 hp
        refine gx_r hM hZ 1 (B := (78, [some (.ref 45), some (.int (Int32.ofInt x1)), some (.int (Int32.ofInt (s 52 x1))), some (.int (Int32.ofInt v1))], [.int (Int32.ofInt 0), .ref 45], zw X s2)) rfl ?_
        exact gx_fg [true, false, true, true] (h hZ d hd)
      · intro hp
        replace h := h.2.2 hp
        refine gx_r hM hZ 2 (B := (78, [some (.ref 45), some (.int (Int32.ofInt x1)), some (.int (Int32.ofInt (s 52 x1))), some (.int (Int32.ofInt v1))], [.int (Int32.ofInt 1), .ref 45], zw X s2)) rfl ?_
        exact gx_fg [true, false, true, true] (h hZ d hd)
    · intro hp
      replace h := h.2.2 hp
      refine gx_r hM hZ 1 (B := (53, [some (.ref 45), some (.int (Int32.ofInt x1)), some (.int (Int32.ofInt (s 52 x1))), some (.int (Int32.ofInt v1))], [.ref 45], zw X s1)) rfl ?_
      refine gi_bip hM hZ rfl rfl ?_
      refine gx_r hM hZ 1 (B := (56, [some (.ref 45), some (.int (Int32.ofInt x1)), some (.int (Int32.ofInt (s 52 x1))), some (.int (Int32.ofInt v1))], [.int (Int32.ofInt 0), .int (Int32.ofInt 18), .ref 45], zw X s1)) rfl ?_
      refine gi_call hM (s := s1) (hj := 0) hZ rfl rfl (by omega) h ?_
      intro _ s3 h
      refine gx_r hM hZ 1 (B := (116, [some (.ref 45), some (.int (Int32.ofInt x1)), some (.int (Int32.ofInt (s 52 x1))), some (.int (Int32.ofInt v1))], [], zw X s3)) rfl ?_
      exact ⟨_, xi_To.rf _ _ _ _, 0, s3, rfl, h⟩
  · intro hp
    replace h := h.2.2 hp
    refine gx_r hM hZ 1 (B := (19, [some (.ref 45), some (.int (Int32.ofInt x1)), some (.int (Int32.ofInt (s 52 x1))), some (.int (Int32.ofInt v1))], [.ref 45], zw X s1)) rfl ?_
    refine gi_bip hM hZ rfl rfl ?_
    refine gx_r hM hZ 1 (B := (22, [some (.ref 45), some (.int (Int32.ofInt x1)), some (.int (Int32.ofInt (s 52 x1))), some (.int (Int32.ofInt v1))], [.int (Int32.ofInt 0), .int (Int32.ofInt 17), .ref 45], zw X s1)) rfl ?_
    refine gi_call hM (s := s1) (hj := 0) hZ rfl rfl (by omega) h ?_
    intro _ s4 h
    refine gx_r hM hZ 2 (B := (27, [some (.ref 45), some (.int (Int32.ofInt x1)), some (.int (Int32.ofInt (s 52 x1))), some (.int (Int32.ofInt v1))], [.int (Int32.ofInt v1), .ref 45], zw X s4)) rfl ?_
    refine gi_if1 hM hZ (fun x => decide (¬ x = 0)) (p := ¬ v1 = 0) rfl rfl (zd_ne h.1) ?_ ?_
    · intro hp
      replace h := h.2.1 hp
      refine gx_r hM hZ 1 (B := (35, [some (.ref 45), some (.int (Int32.ofInt x1)), some (.int (Int32.ofInt (s 52 x1))), some (.int (Int32.ofInt v1))], [.int (Int32.ofInt 0), .ref 45], zw X s4)) rfl ?_
      exact gx_fg [true, false, false, false] (h hZ d hd)
    · intro hp
      replace h := h.2.2 hp
      refine gx_r hM hZ 2 (B := (35, [some (.ref 45), some (.int (Int32.ofInt x1)), some (.int (Int32.ofInt (s 52 x1))), some (.int (Int32.ofInt v1))], [.int (Int32.ofInt 1), .ref 45], zw X s4)) rfl ?_
      exact gx_fg [true, false, false, false] (h hZ d hd)
theorem w_124_35_i {X : zX} {t1 : Int} {s : zS} {Q : Int → zS → Prop} (h : (w_118 X t1 s (fun _ s1 => (w_117 X 0 s1 (fun _ s2 => Q 0 s2))))) : w_124_35 X t1 s Q := by
  intro hZ d hd
  have hM : xi_ml[124]? = some xm_124 := rfl
  refine gi_call hM (s := s) (hj := 0) hZ rfl rfl (by omega) h ?_
  intro _ s1 h
  refine gx_r hM hZ 2 (B := (40, [some (.ref 45), none, none, none], [.int (Int32.ofInt 0), .ref 45], zw X s1)) rfl ?_
  refine gi_call hM (s := s1) (hj := 0) hZ rfl rfl (by omega) h ?_
  intro _ s2 h
  refine gx_r hM hZ 1 (B := (116, [some (.ref 45), none, none, none], [], zw X s2)) rfl ?_
  exact ⟨_, xi_To.rf _ _ _ _, 0, s2, rfl, h⟩
theorem w_124_78_i {X : zX} {x2 x3 t1 : Int} {s : zS} {Q : Int → zS → Prop} (h : (w_118 X t1 s (fun _ s1 => ((-2147483648 ≤ x2 ∧ x2 ≤ 2147483647) ∧ (¬ x2 = 9 → ((-2147483648 ≤ x2 ∧ x2 ≤ 2147483647) ∧ (¬ x2 = 7 → (0 ≤ x3 ∧ x3 < 8) ∧ w_124_113 X (s1 47 x3) s1 Q) ∧ (¬ ¬ x2 = 7 → (0 ≤ x3 ∧ x3 < 8) ∧ w_124_113 X (s1 46 x3) s1 Q))) ∧ (¬ ¬ x2 = 9 → w_124_113 X 0 s1 Q))))) : w_124_78 X x2 x3 t1 s Q := by
  intro hZ d hd
  have hM : xi_ml[124]? = some xm_124 := rfl
  refine gi_call hM (s := s) (hj := 0) hZ rfl rfl (by omega) h ?_
  intro _ s1 h
  refine gx_r hM hZ 2 (B := (83, [some (.ref 45), none, some (.int (Int32.ofInt x2)), some (.int (Int32.ofInt x3))], [.int (Int32.ofInt x2), .ref 45], zw X s1)) rfl ?_
  refine gi_bip hM hZ rfl rfl ?_
  refine gi_if2 hM hZ (fun x y => decide (¬ x = y)) (p := ¬ x2 = 9) rfl rfl (zc_ne h.1 (by decide)) ?_ ?_
  · intro hp
    replace h := h.2.1 hp
    refine gx_r hM hZ 1 (B := (93, [some (.ref 45), none, some (.int (Int32.ofInt x2)), some (.int (Int32.ofInt x3))], [.int (Int32.ofInt x2), .ref 45], zw X s1)) rfl ?_
    refine gi_bip hM hZ rfl rfl ?_
    refine gi_if2 hM hZ (fun x y => decide (¬ x = y)) (p := ¬ x2 = 7) rfl rfl (zc_ne h.1 (by decide)) ?_ ?_
    · intro hp
      replace h := h.2.1 hp
      refine gx_r hM hZ 3 (B := (112, [some (.ref 45), none, some (.int (Int32.ofInt x2)), some (.int (Int32.ofInt x3))], [.int (Int32.ofInt x3), .ref 47, .ref 45], zw X s1)) rfl ?_
      refine gi_iald hM hZ (s := s1) (len := 8) rfl rfl (Nat.le_of_ble_eq_true rfl) h.1 ?_
      replace h := h.2
      exact gx_fg [false, false, false, false] (h hZ d hd)
    · intro hp
      replace h := h.2.2 hp
      refine gx_r hM hZ 3 (B := (103, [some (.ref 45), none, some (.int (Int32.ofInt x2)), some (.int (Int32.ofInt x3))], [.int (Int32.ofInt x3), .ref 46, .ref 45], zw X s1)) rfl ?_
      refine gi_iald hM hZ (s := s1) (len := 8) rfl rfl (Nat.le_of_ble_eq_true rfl) h.1 ?_
      replace h := h.2
      refine gx_r hM hZ 1 (B := (113, [some (.ref 45), none, some (.int (Int32.ofInt x2)), some (.int (Int32.ofInt x3))], [.int (Int32.ofInt (s1 46 x3)), .ref 45], zw X s1)) rfl ?_
      exact gx_fg [false, false, false, false] (h hZ d hd)
  · intro hp
    replace h := h.2.2 hp
    refine gx_r hM hZ 2 (B := (113, [some (.ref 45), none, some (.int (Int32.ofInt x2)), some (.int (Int32.ofInt x3))], [.int (Int32.ofInt 0), .ref 45], zw X s1)) rfl ?_
    exact gx_fg [false, false, false, false] (h hZ d hd)
theorem w_124_113_i {X : zX} {t1 : Int} {s : zS} {Q : Int → zS → Prop} (h : (w_117 X t1 s (fun _ s1 => Q 0 s1))) : w_124_113 X t1 s Q := by
  intro hZ d hd
  have hM : xi_ml[124]? = some xm_124 := rfl
  refine gi_call hM (s := s) (hj := 0) hZ rfl rfl (by omega) h ?_
  intro _ s1 h
  exact ⟨_, xi_To.rf _ _ _ _, 0, s1, rfl, h⟩
-- RootLoomModel.second
def w_125 (X : zX) (x1 : Int) (s : zS) (Q : Int → zS → Prop) : Prop := wW X 125 xm_125 1 (0, [some (.ref 45), some (.int (Int32.ofInt x1)), none], [], zw X s) Q
theorem w_125_i {X : zX} {x1 : Int} {s : zS} {Q : Int → zS → Prop} (h : (w_116 X 11 0 s (fun _ s1 => (0 ≤ ((s1 45 33) - 1) ∧ ((s1 45 33) - 1) < 160) ∧ (0 ≤ (s1 71 ((s1 45 33) - 1)) ∧ (s1 71 ((s1 45 33) - 1)) < 400) ∧ (∀ s2 : zS, s2 = zu s1 59 (s1 71 ((s1 45 33) - 1)) (s1 45 16) → (0 ≤ ((s2 45 33) - 1) ∧ ((s2 45 33) - 1) < 160) ∧ (∀ s3 : zS, s3 = zu s2 71 ((s2 45 33) - 1) (s 45 16) → (w_122 X s3 (fun v4 s4 => (0 ≤ ((s3 45 33) - 1) ∧ ((s3 45 33) - 1) < 160) ∧ (∀ s5 : zS, s5 = zu s4 72 ((s3 45 33) - 1) v4 → Q 0 s5)))))))) : w_125 X x1 s Q := by
  intro hZ d hd
  have hM : xi_ml[125]? = some xm_125 := rfl
  refine gx_r hM hZ 4 (B := (6, [some (.ref 45), some (.int (Int32.ofInt x1)), some (.int (Int32.ofInt (s 45 16)))], [.ref 45], zw X s)) rfl ?_
  refine gi_bip hM hZ rfl rfl ?_
  refine gx_r hM hZ 1 (B := (9, [some (.ref 45), some (.int (Int32.ofInt x1)), some (.int (Int32.ofInt (s 45 16)))], [.int (Int32.ofInt 0), .int (Int32.ofInt 11), .ref 45], zw X s)) rfl ?_
  refine gi_call hM (s := s) (hj := 0) hZ rfl rfl (by omega) h ?_
  intro _ s1 h
  refine gx_r hM hZ 7 (B := (25, [some (.ref 45), some (.int (Int32.ofInt x1)), some (.int (Int32.ofInt (s 45 16)))], [.int (Int32.ofInt 1), .int (Int32.ofInt (s1 45 33)), .ref 71, .ref 59], zw X s1)) rfl ?_
  refine gi_sub hM hZ rfl ?_
  refine gi_iald hM hZ (s := s1) (len := 160) rfl rfl (Nat.le_of_ble_eq_true rfl) h.1 ?_
  replace h := h.2
  refine gx_r hM hZ 2 (B := (31, [some (.ref 45), some (.int (Int32.ofInt x1)), some (.int (Int32.ofInt (s 45 16)))], [.int (Int32.ofInt (s1 45 16)), .int (Int32.ofInt (s1 71 ((s1 45 33) - 1))), .ref 59], zw X s1)) rfl ?_
  obtain ⟨s2, e2⟩ : ∃ q : zS, q = zu s1 59 (s1 71 ((s1 45 33) - 1)) (s1 45 16) := ⟨_, rfl⟩
  refine gj_iast hM hZ (len := 400) rfl rfl (Nat.le_of_ble_eq_true rfl) zp_59 h.1 e2 ?_
  replace h := h.2 _ e2
  refine gx_r hM hZ 5 (B := (41, [some (.ref 45), some (.int (Int32.ofInt x1)), some (.int (Int32.ofInt (s 45 16)))], [.int (Int32.ofInt 1), .int (Int32.ofInt (s2 45 33)), .ref 71], zw X s2)) rfl ?_
  refine gi_sub hM hZ rfl ?_
  refine gx_r hM hZ 1 (B := (43, [some (.ref 45), some (.int (Int32.ofInt x1)), some (.int (Int32.ofInt (s 45 16)))], [.int (Int32.ofInt (s 45 16)), .int (Int32.ofInt ((s2 45 33) - 1)), .ref 71], zw X s2)) rfl ?_
  obtain ⟨s3, e3⟩ : ∃ q : zS, q = zu s2 71 ((s2 45 33) - 1) (s 45 16) := ⟨_, rfl⟩
  refine gj_iast hM hZ (len := 160) rfl rfl (Nat.le_of_ble_eq_true rfl) zp_71 h.1 e3 ?_
  replace h := h.2 _ e3
  refine gx_r hM hZ 5 (B := (53, [some (.ref 45), some (.int (Int32.ofInt x1)), some (.int (Int32.ofInt (s 45 16)))], [.int (Int32.ofInt 1), .int (Int32.ofInt (s3 45 33)), .ref 72], zw X s3)) rfl ?_
  refine gi_sub hM hZ rfl ?_
  refine gx_r hM hZ 1 (B := (55, [some (.ref 45), some (.int (Int32.ofInt x1)), some (.int (Int32.ofInt (s 45 16)))], [.ref 45, .int (Int32.ofInt ((s3 45 33) - 1)), .ref 72], zw X s3)) rfl ?_
  refine gi_call hM (s := s3) (hj := 0) hZ rfl rfl (by omega) h ?_
  intro v4 s4 h
  obtain ⟨s5, e5⟩ : ∃ q : zS, q = zu s4 72 ((s3 45 33) - 1) v4 := ⟨_, rfl⟩
  refine gj_iast hM hZ (len := 160) rfl rfl (Nat.le_of_ble_eq_true rfl) zp_72 h.1 e5 ?_
  replace h := h.2 _ e5
  exact ⟨_, xi_To.rf _ _ _ _, 0, s5, rfl, h⟩
-- RootLoomModel.last
def w_126 (X : zX) (x1 : Int) (s : zS) (Q : Int → zS → Prop) : Prop := wW X 126 xm_126 1 (0, [some (.ref 45), some (.int (Int32.ofInt x1))], [], zw X s) Q
def w_126_81 (X : zX) (t1 : Int) (s : zS) (Q : Int → zS → Prop) : Prop := wW X 126 xm_126 1 (81, [none, none], [.int (Int32.ofInt t1), .ref 45], zw X s) Q
theorem w_126_i {X : zX} {x1 : Int} {s : zS} {Q : Int → zS → Prop} (h : (0 ≤ x1 ∧ x1 < 150) ∧ ((-2147483648 ≤ (s 52 x1) ∧ (s 52 x1) ≤ 2147483647) ∧ (¬ (s 52 x1) = 11 → (∀ s1 : zS, s1 = zu s 45 33 ((s 45 33) - 1) → (0 ≤ (s1 45 33) ∧ (s1 45 33) < 160) ∧ (0 ≤ (s1 71 (s1 45 33)) ∧ (s1 71 (s1 45 33)) < 400) ∧ (∀ s2 : zS, s2 = zu s1 59 (s1 71 (s1 45 33)) (s1 45 16) → (0 ≤ ((s2 45 30) - 1) ∧ ((s2 45 30) - 1) < 40) ∧ (0 ≤ (s2 45 33) ∧ (s2 45 33) < 160) ∧ (((-2147483648 ≤ (s2 69 ((s2 45 30) - 1)) ∧ (s2 69 ((s2 45 30) - 1)) ≤ 2147483647) ∧ (-2147483648 ≤ (s2 72 (s2 45 33)) ∧ (s2 72 (s2 45 33)) ≤ 2147483647)) ∧ (¬ (s2 69 ((s2 45 30) - 1)) = (s2 72 (s2 45 33)) → w_126_81 X 0 s2 Q) ∧ (¬ ¬ (s2 69 ((s2 45 30) - 1)) = (s2 72 (s2 45 33)) → w_126_81 X 1 s2 Q))))) ∧ (¬ ¬ (s 52 x1) = 11 → (0 ≤ x1 ∧ x1 < 150) ∧ (0 ≤ (s 53 x1) ∧ (s 53 x1) < 8) ∧ (∀ s3 : zS, s3 = zu s 70 (s 53 x1) (-1) → Q 0 s3)))) : w_126 X x1 s Q := by
  intro hZ d hd
  have hM : xi_ml[126]? = some xm_126 := rfl
  refine gx_r hM hZ 3 (B := (5, [some (.ref 45), some (.int (Int32.ofInt x1))], [.int (Int32.ofInt x1), .ref 52], zw X s)) rfl ?_
  refine gi_iald hM hZ (s := s) (len := 150) rfl rfl (Nat.le_of_ble_eq_true rfl) h.1 ?_
  replace h := h.2
  refine gi_bip hM hZ rfl rfl ?_
  refine gi_if2 hM hZ (fun x y => decide (¬ x = y)) (p := ¬ (s 52 x1) = 11) rfl rfl (zc_ne h.1 (by decide)) ?_ ?_
  · intro hp
    replace h := h.2.1 hp
    refine gx_r hM hZ 4 (B := (30, [some (.ref 45), some (.int (Int32.ofInt x1))], [.int (Int32.ofInt 1), .int (Int32.ofInt (s 45 33)), .ref 45], zw X s)) rfl ?_
    refine gi_sub hM hZ rfl ?_
    obtain ⟨s1, e1⟩ : ∃ q : zS, q = zu s 45 33 ((s 45 33) - 1) := ⟨_, rfl⟩
    refine gj_put hM hZ rfl rfl rfl (Nat.le_of_ble_eq_true rfl) rfl rfl zq_45_33 e1 ?_
    replace h := h _ e1
    refine gx_r hM hZ 6 (B := (46, [some (.ref 45), some (.int (Int32.ofInt x1))], [.int (Int32.ofInt (s1 45 33)), .ref 71, .ref 59], zw X s1)) rfl ?_
    refine gi_iald hM hZ (s := s1) (len := 160) rfl rfl (Nat.le_of_ble_eq_true rfl) h.1 ?_
    replace h := h.2
    refine gx_r hM hZ 2 (B := (51, [some (.ref 45), some (.int (Int32.ofInt x1))], [.int (Int32.ofInt (s1 45 16)), .int (Int32.ofInt (s1 71 (s1 45 33))), .ref 59], zw X s1)) rfl ?_
    obtain ⟨s2, e2⟩ : ∃ q : zS, q = zu s1 59 (s1 71 (s1 45 33)) (s1 45 16) := ⟨_, rfl⟩
    refine gj_iast hM hZ (len := 400) rfl rfl (Nat.le_of_ble_eq_true rfl) zp_59 h.1 e2 ?_
    replace h := h.2 _ e2
    refine gx_r hM hZ 6 (B := (62, [some (.ref 45), some (.int (Int32.ofInt x1))], [.int (Int32.ofInt 1), .int (Int32.ofInt (s2 45 30)), .ref 69, .ref 45], zw X s2)) rfl ?_
    refine gi_sub hM hZ rfl ?_
    refine gi_iald hM hZ (s := s2) (len := 40) rfl rfl (Nat.le_of_ble_eq_true rfl) h.1 ?_
    replace h := h.2
    refine gx_r hM hZ 4 (B := (72, [some (.ref 45), some (.int (Int32.ofInt x1))], [.int (Int32.ofInt (s2 45 33)), .ref 72, .int (Int32.ofInt (s2 69 ((s2 45 30) - 1))), .ref 45], zw X s2)) rfl ?_
    refine gi_iald hM hZ (s := s2) (len := 160) rfl rfl (Nat.le_of_ble_eq_true rfl) h.1 ?_
    replace h := h.2
    refine gi_if2 hM hZ (fun x y => decide (¬ x = y)) (p := ¬ (s2 69 ((s2 45 30) - 1)) = (s2 72 (s2 45 33))) rfl rfl (zc_ne h.1.1 h.1.2) ?_ ?_
    · intro hp
      replace h := h.2.1 hp
      refine gx_r hM hZ 1 (B := (81, [some (.ref 45), some (.int (Int32.ofInt x1))], [.int (Int32.ofInt 0), .ref 45], zw X s2)) rfl ?_
      exact gx_fg [false, false] (h hZ d hd)
    · intro hp
      replace h := h.2.2 hp
      refine gx_r hM hZ 2 (B := (81, [some (.ref 45), some (.int (Int32.ofInt x1))], [.int (Int32.ofInt 1), .ref 45], zw X s2)) rfl ?_
      exact gx_fg [false, false] (h hZ d hd)
  · intro hp
    replace h := h.2.2 hp
    refine gx_r hM hZ 5 (B := (20, [some (.ref 45), some (.int (Int32.ofInt x1))], [.int (Int32.ofInt x1), .ref 53, .ref 70], zw X s)) rfl ?_
    refine gi_iald hM hZ (s := s) (len := 150) rfl rfl (Nat.le_of_ble_eq_true rfl) h.1 ?_
    replace h := h.2
    refine gx_r hM hZ 1 (B := (22, [some (.ref 45), some (.int (Int32.ofInt x1))], [.int (Int32.ofInt (-1)), .int (Int32.ofInt (s 53 x1)), .ref 70], zw X s)) rfl ?_
    obtain ⟨s3, e3⟩ : ∃ q : zS, q = zu s 70 (s 53 x1) (-1) := ⟨_, rfl⟩
    refine gj_iast hM hZ (len := 8) rfl rfl (Nat.le_of_ble_eq_true rfl) zp_70 h.1 e3 ?_
    replace h := h.2 _ e3
    exact ⟨_, xi_To.rf _ _ _ _, 0, s3, rfl, h⟩
theorem w_126_81_i {X : zX} {t1 : Int} {s : zS} {Q : Int → zS → Prop} (h : (w_118 X t1 s (fun _ s1 => Q 0 s1))) : w_126_81 X t1 s Q := by
  intro hZ d hd
  have hM : xi_ml[126]? = some xm_126 := rfl
  refine gi_call hM (s := s) (hj := 0) hZ rfl rfl (by omega) h ?_
  intro _ s1 h
  exact ⟨_, xi_To.rf _ _ _ _, 0, s1, rfl, h⟩
-- RootLoomModel.laid
def w_128 (X : zX) (x1 : Int) (s : zS) (Q : Int → zS → Prop) : Prop := wW X 128 xm_128 1 (0, [some (.ref 45), some (.int (Int32.ofInt x1)), none, none], [], zw X s) Q
def w_128_21 (X : zX) (s : zS) (Q : Int → zS → Prop) : Prop := wW X 128 xm_128 1 (21, [none, none, none, none], [], zw X s) Q
def w_128_27 (X : zX) (x1 x2 x3 : Int) (s : zS) (Q : Int → zS → Prop) : Prop := wW X 128 xm_128 1 (27, [some (.ref 45), some (.int (Int32.ofInt x1)), some (.int (Int32.ofInt x2)), some (.int (Int32.ofInt x3))], [], zw X s) Q
def w_128_49 (X : zX) (x1 x3 t0 t1 : Int) (s : zS) (Q : Int → zS → Prop) : Prop := wW X 128 xm_128 1 (49, [some (.ref 45), some (.int (Int32.ofInt x1)), none, some (.int (Int32.ofInt x3))], [.int (Int32.ofInt t1), .int (Int32.ofInt t0)], zw X s) Q
theorem w_128_i {X : zX} {x1 : Int} {s : zS} {Q : Int → zS → Prop} (h : (∀ s1 : zS, s1 = zu s 45 0 0 → ((-2147483648 ≤ (s1 45 15) ∧ (s1 45 15) ≤ 2147483647) ∧ ((s1 45 15) = 0 → w_128_21 X s1 Q) ∧ (¬ (s1 45 15) = 0 → (w_101 X x1 0 2 s1 (fun v2 s2 => ((-2147483648 ≤ v2 ∧ v2 ≤ 2147483647) ∧ (¬ v2 = 0 → w_128_27 X x1 0 0 s2 Q) ∧ (¬ ¬ v2 = 0 → w_128_21 X s2 Q)))))))) : w_128 X x1 s Q := by
  intro hZ d hd
  have hM : xi_ml[128]? = some xm_128 := rfl
  refine gx_r hM hZ 2 (B := (2, [some (.ref 45), some (.int (Int32.ofInt x1)), none, none], [.int (Int32.ofInt 0), .ref 45], zw X s)) rfl ?_
  obtain ⟨s1, e1⟩ : ∃ q : zS, q = zu s 45 0 0 := ⟨_, rfl⟩
  refine gj_put hM hZ rfl rfl rfl (Nat.le_of_ble_eq_true rfl) rfl rfl zq_45_0 e1 ?_
  replace h := h _ e1
  refine gx_r hM hZ 2 (B := (9, [some (.ref 45), some (.int (Int32.ofInt x1)), none, none], [.int (Int32.ofInt (s1 45 15))], zw X s1)) rfl ?_
  refine gi_if1 hM hZ (fun x => decide (x = 0)) (p := (s1 45 15) = 0) rfl rfl (zd_eq h.1) ?_ ?_
  · intro hp
    replace h := h.2.1 hp
    exact gx_fg [false, false, false, false] (h hZ d hd)
  · intro hp
    replace h := h.2.2 hp
    refine gx_r hM hZ 3 (B := (15, [some (.ref 45), some (.int (Int32.ofInt x1)), none, none], [.int (Int32.ofInt 2), .int (Int32.ofInt 0), .int (Int32.ofInt x1)], zw X s1)) rfl ?_
    refine gi_call hM (s := s1) (hj := 0) hZ rfl rfl (by omega) h ?_
    intro v2 s2 h
    refine gi_if1 hM hZ (fun x => decide (¬ x = 0)) (p := ¬ v2 = 0) rfl rfl (zd_ne h.1) ?_ ?_
    · intro hp
      replace h := h.2.1 hp
      refine gx_r hM hZ 4 (B := (27, [some (.ref 45), some (.int (Int32.ofInt x1)), some (.int (Int32.ofInt 0)), some (.int (Int32.ofInt 0))], [], zw X s2)) rfl ?_
      exact gx_fg [true, true, true, true] (h hZ d hd)
    · intro hp
      replace h := h.2.2 hp
      exact gx_fg [false, false, false, false] (h hZ d hd)
theorem w_128_21_i {X : zX} {s : zS} {Q : Int → zS → Prop} (h : Q (-1) s) : w_128_21 X s Q := by
  intro hZ d hd
  have hM : xi_ml[128]? = some xm_128 := rfl
  refine gx_r hM hZ 1 (B := (22, [none, none, none, none], [.int (Int32.ofInt (-1))], zw X s)) rfl ?_
  exact ⟨_, xi_To.rf _ _ _ _, (-1), s, rfl, h⟩
theorem w_128_27_i {X : zX} {x1 x2 x3 : Int} {s : zS} {Q : Int → zS → Prop} (h : (((-2147483648 ≤ x3 ∧ x3 ≤ 2147483647) ∧ (-2147483648 ≤ (s 45 16) ∧ (s 45 16) ≤ 2147483647)) ∧ ((s 45 16) ≤ x3 → ((-2147483648 ≤ x1 ∧ x1 ≤ 2147483647) ∧ (¬ x1 = 0 → ((-2147483648 ≤ x1 ∧ x1 ≤ 2147483647) ∧ (¬ x1 = 1 → Q (s 45 26) s) ∧ (¬ ¬ x1 = 1 → Q x2 s))) ∧ (¬ ¬ x1 = 0 → Q (s 45 16) s))) ∧ (¬ (s 45 16) ≤ x3 → (w_129 X x3 s (fun v1 s1 => ((-2147483648 ≤ v1 ∧ v1 ≤ 2147483647) ∧ (v1 = 0 → w_128_49 X x1 x3 x2 0 s1 Q) ∧ (¬ v1 = 0 → w_128_49 X x1 x3 x2 1 s1 Q))))))) : w_128_27 X x1 x2 x3 s Q := by
  intro hZ d hd
  have hM : xi_ml[128]? = some xm_128 := rfl
  refine gx_r hM hZ 3 (B := (32, [some (.ref 45), some (.int (Int32.ofInt x1)), some (.int (Int32.ofInt x2)), some (.int (Int32.ofInt x3))], [.int (Int32.ofInt (s 45 16)), .int (Int32.ofInt x3)], zw X s)) rfl ?_
  refine gi_if2 hM hZ (fun x y => decide (y ≤ x)) (p := (s 45 16) ≤ x3) rfl rfl (zc_ge h.1.1 h.1.2) ?_ ?_
  · intro hp
    replace h := h.2.1 hp
    refine gx_r hM hZ 1 (B := (58, [some (.ref 45), some (.int (Int32.ofInt x1)), some (.int (Int32.ofInt x2)), some (.int (Int32.ofInt x3))], [.int (Int32.ofInt x1)], zw X s)) rfl ?_
    refine gi_if1 hM hZ (fun x => decide (¬ x = 0)) (p := ¬ x1 = 0) rfl rfl (zd_ne h.1) ?_ ?_
    · intro hp
      replace h := h.2.1 hp
      refine gx_r hM hZ 2 (B := (70, [some (.ref 45), some (.int (Int32.ofInt x1)), some (.int (Int32.ofInt x2)), some (.int (Int32.ofInt x3))], [.int (Int32.ofInt 1), .int (Int32.ofInt x1)], zw X s)) rfl ?_
      refine gi_if2 hM hZ (fun x y => decide (¬ x = y)) (p := ¬ x1 = 1) rfl rfl (zc_ne h.1 (by decide)) ?_ ?_
      · intro hp
        replace h := h.2.1 hp
        refine gx_r hM hZ 2 (B := (81, [some (.ref 45), some (.int (Int32.ofInt x1)), some (.int (Int32.ofInt x2)), some (.int (Int32.ofInt x3))], [.int (Int32.ofInt (s 45 26))], zw X s)) rfl ?_
        exact ⟨_, xi_To.rf _ _ _ _, (s 45 26), s, rfl, h⟩
      · intro hp
        replace h := h.2.2 hp
        refine gx_r hM hZ 2 (B := (81, [some (.ref 45), some (.int (Int32.ofInt x1)), some (.int (Int32.ofInt x2)), some (.int (Int32.ofInt x3))], [.int (Int32.ofInt x2)], zw X s)) rfl ?_
        exact ⟨_, xi_To.rf _ _ _ _, x2, s, rfl, h⟩
    · intro hp
      replace h := h.2.2 hp
      refine gx_r hM hZ 3 (B := (81, [some (.ref 45), some (.int (Int32.ofInt x1)), some (.int (Int32.ofInt x2)), some (.int (Int32.ofInt x3))], [.int (Int32.ofInt (s 45 16))], zw X s)) rfl ?_
      exact ⟨_, xi_To.rf _ _ _ _, (s 45 16), s, rfl, h⟩
  · intro hp
    replace h := h.2.2 hp
    refine gx_r hM hZ 3 (B := (38, [some (.ref 45), some (.int (Int32.ofInt x1)), some (.int (Int32.ofInt x2)), some (.int (Int32.ofInt x3))], [.int (Int32.ofInt x3), .ref 45, .int (Int32.ofInt x2)], zw X s)) rfl ?_
    refine gi_call hM (s := s) (hj := 0) hZ rfl rfl (by omega) h ?_
    intro v1 s1 h
    refine gi_if1 hM hZ (fun x => decide (x = 0)) (p := v1 = 0) rfl rfl (zd_eq h.1) ?_ ?_
    · intro hp
      replace h := h.2.1 hp
      refine gx_r hM hZ 1 (B := (49, [some (.ref 45), some (.int (Int32.ofInt x1)), some (.int (Int32.ofInt x2)), some (.int (Int32.ofInt x3))], [.int (Int32.ofInt 0), .int (Int32.ofInt x2)], zw X s1)) rfl ?_
      exact gx_fg [true, true, false, true] (h hZ d hd)
    · intro hp
      replace h := h.2.2 hp
      refine gx_r hM hZ 2 (B := (49, [some (.ref 45), some (.int (Int32.ofInt x1)), some (.int (Int32.ofInt x2)), some (.int (Int32.ofInt x3))], [.int (Int32.ofInt 1), .int (Int32.ofInt x2)], zw X s1)) rfl ?_
      exact gx_fg [true, true, false, true] (h hZ d hd)
theorem w_128_49_i {X : zX} {x1 x3 t0 t1 : Int} {s : zS} {Q : Int → zS → Prop} (h : w_128_27 X x1 (t0 + t1) (x3 + 1) s Q) : w_128_49 X x1 x3 t0 t1 s Q := by
  intro hZ d hd
  have hM : xi_ml[128]? = some xm_128 := rfl
  refine gi_add hM hZ rfl ?_
  refine gx_r hM hZ 1 (B := (51, [some (.ref 45), some (.int (Int32.ofInt x1)), some (.int (Int32.ofInt (t0 + t1))), some (.int (Int32.ofInt x3))], [], zw X s)) rfl ?_
  refine gi_inc hM hZ (x := x3) (m := 1) rfl rfl ?_
  refine gx_r hM hZ 0 (B := (54, [some (.ref 45), some (.int (Int32.ofInt x1)), some (.int (Int32.ofInt (t0 + t1))), some (.int (Int32.ofInt (x3 + 1)))], [], zw X s)) rfl ?_
  refine gx_r hM hZ 1 (B := (27, [some (.ref 45), some (.int (Int32.ofInt x1)), some (.int (Int32.ofInt (t0 + t1))), some (.int (Int32.ofInt (x3 + 1)))], [], zw X s)) rfl ?_
  exact gx_fg [true, true, true, true] (h hZ d hd)
-- RootLoomModel.isThere
def w_131 (X : zX) (x1 : Int) (s : zS) (Q : Int → zS → Prop) : Prop := wW X 131 xm_131 1 (0, [some (.ref 45), some (.int (Int32.ofInt x1))], [], zw X s) Q
def w_131_25 (X : zX) (s : zS) (Q : Int → zS → Prop) : Prop := wW X 131 xm_131 1 (25, [none, none], [], zw X s) Q
theorem w_131_i {X : zX} {x1 : Int} {s : zS} {Q : Int → zS → Prop} (h : ((-2147483648 ≤ (s 45 15) ∧ (s 45 15) ≤ 2147483647) ∧ ((s 45 15) = 0 → w_131_25 X s Q) ∧ (¬ (s 45 15) = 0 → (w_101 X x1 0 ((s 45 16) - 1) s (fun v1 s1 => ((-2147483648 ≤ v1 ∧ v1 ≤ 2147483647) ∧ (v1 = 0 → w_131_25 X s1 Q) ∧ (¬ v1 = 0 → Q 1 s1))))))) : w_131 X x1 s Q := by
  intro hZ d hd
  have hM : xi_ml[131]? = some xm_131 := rfl
  refine gx_r hM hZ 2 (B := (4, [some (.ref 45), some (.int (Int32.ofInt x1))], [.int (Int32.ofInt (s 45 15))], zw X s)) rfl ?_
  refine gi_if1 hM hZ (fun x => decide (x = 0)) (p := (s 45 15) = 0) rfl rfl (zd_eq h.1) ?_ ?_
  · intro hp
    replace h := h.2.1 hp
    exact gx_fg [false, false] (h hZ d hd)
  · intro hp
    replace h := h.2.2 hp
    refine gx_r hM hZ 5 (B := (14, [some (.ref 45), some (.int (Int32.ofInt x1))], [.int (Int32.ofInt 1), .int (Int32.ofInt (s 45 16)), .int (Int32.ofInt 0), .int (Int32.ofInt x1)], zw X s)) rfl ?_
    refine gi_sub hM hZ rfl ?_
    refine gi_call hM (s := s) (hj := 0) hZ rfl rfl (by omega) h ?_
    intro v1 s1 h
    refine gi_if1 hM hZ (fun x => decide (x = 0)) (p := v1 = 0) rfl rfl (zd_eq h.1) ?_ ?_
    · intro hp
      replace h := h.2.1 hp
      exact gx_fg [false, false] (h hZ d hd)
    · intro hp
      replace h := h.2.2 hp
      refine gx_r hM hZ 2 (B := (26, [some (.ref 45), some (.int (Int32.ofInt x1))], [.int (Int32.ofInt 1)], zw X s1)) rfl ?_
      exact ⟨_, xi_To.rf _ _ _ _, 1, s1, rfl, h⟩
theorem w_131_25_i {X : zX} {s : zS} {Q : Int → zS → Prop} (h : Q 0 s) : w_131_25 X s Q := by
  intro hZ d hd
  have hM : xi_ml[131]? = some xm_131 := rfl
  refine gx_r hM hZ 1 (B := (26, [none, none], [.int (Int32.ofInt 0)], zw X s)) rfl ?_
  exact ⟨_, xi_To.rf _ _ _ _, 0, s, rfl, h⟩
-- RootLoomModel.entry
def w_132 (X : zX) (x1 : Int) (s : zS) (Q : Int → zS → Prop) : Prop := wW X 132 xm_132 1 (0, [some (.ref 45), some (.int (Int32.ofInt x1))], [], zw X s) Q
def w_132_30 (X : zX) (s : zS) (Q : Int → zS → Prop) : Prop := wW X 132 xm_132 1 (30, [none, none], [], zw X s) Q
theorem w_132_i {X : zX} {x1 : Int} {s : zS} {Q : Int → zS → Prop} (h : (∀ s1 : zS, s1 = zu s 45 0 0 → ((-2147483648 ≤ (s1 45 15) ∧ (s1 45 15) ≤ 2147483647) ∧ ((s1 45 15) = 0 → w_132_30 X s1 Q) ∧ (¬ (s1 45 15) = 0 → (w_101 X x1 0 5 s1 (fun v2 s2 => ((-2147483648 ≤ v2 ∧ v2 ≤ 2147483647) ∧ (v2 = 0 → w_132_30 X s2 Q) ∧ (¬ v2 = 0 → (0 ≤ x1 ∧ x1 < 6) ∧ Q (s2 64 x1) s2)))))))) : w_132 X x1 s Q := by
  intro hZ d hd
  have hM : xi_ml[132]? = some xm_132 := rfl
  refine gx_r hM hZ 2 (B := (2, [some (.ref 45), some (.int (Int32.ofInt x1))], [.int (Int32.ofInt 0), .ref 45], zw X s)) rfl ?_
  obtain ⟨s1, e1⟩ : ∃ q : zS, q = zu s 45 0 0 := ⟨_, rfl⟩
  refine gj_put hM hZ rfl rfl rfl (Nat.le_of_ble_eq_true rfl) rfl rfl zq_45_0 e1 ?_
  replace h := h _ e1
  refine gx_r hM hZ 2 (B := (9, [some (.ref 45), some (.int (Int32.ofInt x1))], [.int (Int32.ofInt (s1 45 15))], zw X s1)) rfl ?_
  refine gi_if1 hM hZ (fun x => decide (x = 0)) (p := (s1 45 15) = 0) rfl rfl (zd_eq h.1) ?_ ?_
  · intro hp
    replace h := h.2.1 hp
    exact gx_fg [false, false] (h hZ d hd)
  · intro hp
    replace h := h.2.2 hp
    refine gx_r hM hZ 3 (B := (15, [some (.ref 45), some (.int (Int32.ofInt x1))], [.int (Int32.ofInt 5), .int (Int32.ofInt 0), .int (Int32.ofInt x1)], zw X s1)) rfl ?_
    refine gi_call hM (s := s1) (hj := 0) hZ rfl rfl (by omega) h ?_
    intro v2 s2 h
    refine gi_if1 hM hZ (fun x => decide (x = 0)) (p := v2 = 0) rfl rfl (zd_eq h.1) ?_ ?_
    · intro hp
      replace h := h.2.1 hp
      exact gx_fg [false, false] (h hZ d hd)
    · intro hp
      replace h := h.2.2 hp
      refine gx_r hM hZ 3 (B := (26, [some (.ref 45), some (.int (Int32.ofInt x1))], [.int (Int32.ofInt x1), .ref 64], zw X s2)) rfl ?_
      refine gi_iald hM hZ (s := s2) (len := 6) rfl rfl (Nat.le_of_ble_eq_true rfl) h.1 ?_
      replace h := h.2
      refine gx_r hM hZ 1 (B := (31, [some (.ref 45), some (.int (Int32.ofInt x1))], [.int (Int32.ofInt (s2 64 x1))], zw X s2)) rfl ?_
      exact ⟨_, xi_To.rf _ _ _ _, (s2 64 x1), s2, rfl, h⟩
theorem w_132_30_i {X : zX} {s : zS} {Q : Int → zS → Prop} (h : Q (-1) s) : w_132_30 X s Q := by
  intro hZ d hd
  have hM : xi_ml[132]? = some xm_132 := rfl
  refine gx_r hM hZ 1 (B := (31, [none, none], [.int (Int32.ofInt (-1))], zw X s)) rfl ?_
  exact ⟨_, xi_To.rf _ _ _ _, (-1), s, rfl, h⟩
-- RootLoomModel.heap
def w_134 (X : zX) (x1 : Int) (s : zS) (Q : Int → zS → Prop) : Prop := wW X 134 xm_134 1 (0, [some (.ref 45), some (.int (Int32.ofInt x1))], [], zw X s) Q
theorem w_134_i {X : zX} {x1 : Int} {s : zS} {Q : Int → zS → Prop} (h : (∀ s1 : zS, s1 = zu s 45 0 0 → (w_101 X x1 3 600 s1 (fun v2 s2 => ((-2147483648 ≤ v2 ∧ v2 ≤ 2147483647) ∧ (¬ v2 = 0 → (∀ s3 : zS, s3 = zu s2 45 37 x1 → Q 1 s3)) ∧ (¬ ¬ v2 = 0 → Q 0 s2)))))) : w_134 X x1 s Q := by
  intro hZ d hd
  have hM : xi_ml[134]? = some xm_134 := rfl
  refine gx_r hM hZ 2 (B := (2, [some (.ref 45), some (.int (Int32.ofInt x1))], [.int (Int32.ofInt 0), .ref 45], zw X s)) rfl ?_
  obtain ⟨s1, e1⟩ : ∃ q : zS, q = zu s 45 0 0 := ⟨_, rfl⟩
  refine gj_put hM hZ rfl rfl rfl (Nat.le_of_ble_eq_true rfl) rfl rfl zq_45_0 e1 ?_
  replace h := h _ e1
  refine gx_r hM hZ 2 (B := (7, [some (.ref 45), some (.int (Int32.ofInt x1))], [.int (Int32.ofInt 3), .int (Int32.ofInt x1)], zw X s1)) rfl ?_
  refine gi_sip hM hZ rfl rfl ?_
  refine gi_call hM (s := s1) (hj := 0) hZ rfl rfl (by omega) h ?_
  intro v2 s2 h
  refine gi_if1 hM hZ (fun x => decide (¬ x = 0)) (p := ¬ v2 = 0) rfl rfl (zd_ne h.1) ?_ ?_
  · intro hp
    replace h := h.2.1 hp
    refine gx_r hM hZ 2 (B := (20, [some (.ref 45), some (.int (Int32.ofInt x1))], [.int (Int32.ofInt x1), .ref 45], zw X s2)) rfl ?_
    obtain ⟨s3, e3⟩ : ∃ q : zS, q = zu s2 45 37 x1 := ⟨_, rfl⟩
    refine gj_put hM hZ rfl rfl rfl (Nat.le_of_ble_eq_true rfl) rfl rfl zq_45_37 e3 ?_
    replace h := h _ e3
    refine gx_r hM hZ 1 (B := (24, [some (.ref 45), some (.int (Int32.ofInt x1))], [.int (Int32.ofInt 1)], zw X s3)) rfl ?_
    exact ⟨_, xi_To.rf _ _ _ _, 1, s3, rfl, h⟩
  · intro hp
    replace h := h.2.2 hp
    refine gx_r hM hZ 1 (B := (17, [some (.ref 45), some (.int (Int32.ofInt x1))], [.int (Int32.ofInt 0)], zw X s2)) rfl ?_
    exact ⟨_, xi_To.rf _ _ _ _, 0, s2, rfl, h⟩
-- RootLoomModel.stayOf
def w_141 (X : zX) (x1 x2 x3 : Int) (s : zS) (Q : Int → zS → Prop) : Prop := wW X 141 xm_141 1 (0, [some (.ref 45), some (.int (Int32.ofInt x1)), some (.int (Int32.ofInt x2)), some (.int (Int32.ofInt x3)), none], [], zw X s) Q
def w_141_3 (X : zX) (x1 x2 x3 x4 : Int) (s : zS) (Q : Int → zS → Prop) : Prop := wW X 141 xm_141 1 (3, [some (.ref 45), some (.int (Int32.ofInt x1)), some (.int (Int32.ofInt x2)), some (.int (Int32.ofInt x3)), some (.int (Int32.ofInt x4))], [], zw X s) Q
def w_141_36 (X : zX) (x1 x2 x3 x4 : Int) (s : zS) (Q : Int → zS → Prop) : Prop := wW X 141 xm_141 1 (36, [some (.ref 45), some (.int (Int32.ofInt x1)), some (.int (Int32.ofInt x2)), some (.int (Int32.ofInt x3)), some (.int (Int32.ofInt x4))], [], zw X s) Q
def w_141_45 (X : zX) (x1 x3 x4 : Int) (s : zS) (Q : Int → zS → Prop) : Prop := wW X 141 xm_141 1 (45, [some (.ref 45), some (.int (Int32.ofInt x1)), none, some (.int (Int32.ofInt x3)), some (.int (Int32.ofInt x4))], [], zw X s) Q
def w_141_82 (X : zX) (x1 x3 x4 : Int) (s : zS) (Q : Int → zS → Prop) : Prop := wW X 141 xm_141 1 (82, [some (.ref 45), some (.int (Int32.ofInt x1)), none, some (.int (Int32.ofInt x3)), some (.int (Int32.ofInt x4))], [], zw X s) Q
theorem w_141_i {X : zX} {x1 x2 x3 : Int} {s : zS} {Q : Int → zS → Prop} (h : w_141_3 X x1 x2 x3 0 s Q) : w_141 X x1 x2 x3 s Q := by
  intro hZ d hd
  have hM : xi_ml[141]? = some xm_141 := rfl
  refine gx_r hM hZ 2 (B := (3, [some (.ref 45), some (.int (Int32.ofInt x1)), some (.int (Int32.ofInt x2)), some (.int (Int32.ofInt x3)), some (.int (Int32.ofInt 0))], [], zw X s)) rfl ?_
  exact gx_fg [true, true, true, true, true] (h hZ d hd)
theorem w_141_3_i {X : zX} {x1 x2 x3 x4 : Int} {s : zS} {Q : Int → zS → Prop} (h : ((-2147483648 ≤ x4 ∧ x4 ≤ 2147483647) ∧ (8 ≤ x4 → w_141_45 X x1 x3 0 s Q) ∧ (¬ 8 ≤ x4 → ((-2147483648 ≤ (zA (zR x2 x4) 1) ∧ (zA (zR x2 x4) 1) ≤ 2147483647) ∧ (¬ (zA (zR x2 x4) 1) = 1 → w_141_36 X x1 x2 x3 x4 s Q) ∧ (¬ ¬ (zA (zR x2 x4) 1) = 1 → (0 ≤ ((8 * x1) + x4) ∧ ((8 * x1) + x4) < 192) ∧ (w_142 X (s 82 ((8 * x1) + x4)) s (fun _ s1 => w_141_36 X x1 x2 x3 x4 s1 Q))))))) : w_141_3 X x1 x2 x3 x4 s Q := by
  intro hZ d hd
  have hM : xi_ml[141]? = some xm_141 := rfl
  refine gx_r hM hZ 1 (B := (5, [some (.ref 45), some (.int (Int32.ofInt x1)), some (.int (Int32.ofInt x2)), some (.int (Int32.ofInt x3)), some (.int (Int32.ofInt x4))], [.int (Int32.ofInt x4)], zw X s)) rfl ?_
  refine gi_bip hM hZ rfl rfl ?_
  refine gi_if2 hM hZ (fun x y => decide (y ≤ x)) (p := 8 ≤ x4) rfl rfl (zc_ge h.1 (by decide)) ?_ ?_
  · intro hp
    replace h := h.2.1 hp
    refine gx_r hM hZ 2 (B := (45, [some (.ref 45), some (.int (Int32.ofInt x1)), some (.int (Int32.ofInt x2)), some (.int (Int32.ofInt x3)), some (.int (Int32.ofInt 0))], [], zw X s)) rfl ?_
    exact gx_fg [true, true, false, true, true] (h hZ d hd)
  · intro hp
    replace h := h.2.2 hp
    refine gx_r hM hZ 2 (B := (13, [some (.ref 45), some (.int (Int32.ofInt x1)), some (.int (Int32.ofInt x2)), some (.int (Int32.ofInt x3)), some (.int (Int32.ofInt x4))], [.int (Int32.ofInt x4), .int (Int32.ofInt x2)], zw X s)) rfl ?_
    refine gi_shr hM hZ rfl ?_
    refine gx_r hM hZ 1 (B := (15, [some (.ref 45), some (.int (Int32.ofInt x1)), some (.int (Int32.ofInt x2)), some (.int (Int32.ofInt x3)), some (.int (Int32.ofInt x4))], [.int (Int32.ofInt 1), .int (Int32.ofInt (zR x2 x4))], zw X s)) rfl ?_
    refine gi_and hM hZ rfl ?_
    refine gx_r hM hZ 1 (B := (17, [some (.ref 45), some (.int (Int32.ofInt x1)), some (.int (Int32.ofInt x2)), some (.int (Int32.ofInt x3)), some (.int (Int32.ofInt x4))], [.int (Int32.ofInt 1), .int (Int32.ofInt (zA (zR x2 x4) 1))], zw X s)) rfl ?_
    refine gi_if2 hM hZ (fun x y => decide (¬ x = y)) (p := ¬ (zA (zR x2 x4) 1) = 1) rfl rfl (zc_ne h.1 (by decide)) ?_ ?_
    · intro hp
      replace h := h.2.1 hp
      exact gx_fg [true, true, true, true, true] (h hZ d hd)
    · intro hp
      replace h := h.2.2 hp
      refine gx_r hM hZ 3 (B := (25, [some (.ref 45), some (.int (Int32.ofInt x1)), some (.int (Int32.ofInt x2)), some (.int (Int32.ofInt x3)), some (.int (Int32.ofInt x4))], [.ref 82, .ref 45], zw X s)) rfl ?_
      refine gi_bip hM hZ rfl rfl ?_
      refine gx_r hM hZ 1 (B := (28, [some (.ref 45), some (.int (Int32.ofInt x1)), some (.int (Int32.ofInt x2)), some (.int (Int32.ofInt x3)), some (.int (Int32.ofInt x4))], [.int (Int32.ofInt x1), .int (Int32.ofInt 8), .ref 82, .ref 45], zw X s)) rfl ?_
      refine gi_mul hM hZ rfl ?_
      refine gx_r hM hZ 1 (B := (31, [some (.ref 45), some (.int (Int32.ofInt x1)), some (.int (Int32.ofInt x2)), some (.int (Int32.ofInt x3)), some (.int (Int32.ofInt x4))], [.int (Int32.ofInt x4), .int (Int32.ofInt (8 * x1)), .ref 82, .ref 45], zw X s)) rfl ?_
      refine gi_add hM hZ rfl ?_
      refine gi_iald hM hZ (s := s) (len := 192) rfl rfl (Nat.le_of_ble_eq_true rfl) h.1 ?_
      replace h := h.2
      refine gi_call hM (s := s) (hj := 0) hZ rfl rfl (by omega) h ?_
      intro _ s1 h
      exact gx_fg [true, true, true, true, true] (h hZ d hd)
theorem w_141_36_i {X : zX} {x1 x2 x3 x4 : Int} {s : zS} {Q : Int → zS → Prop} (h : w_141_3 X x1 x2 x3 (x4 + 1) s Q) : w_141_36 X x1 x2 x3 x4 s Q := by
  intro hZ d hd
  have hM : xi_ml[141]? = some xm_141 := rfl
  refine gi_inc hM hZ (x := x4) (m := 1) rfl rfl ?_
  refine gx_r hM hZ 0 (B := (39, [some (.ref 45), some (.int (Int32.ofInt x1)), some (.int (Int32.ofInt x2)), some (.int (Int32.ofInt x3)), some (.int (Int32.ofInt (x4 + 1)))], [], zw X s)) rfl ?_
  refine gx_r hM hZ 1 (B := (3, [some (.ref 45), some (.int (Int32.ofInt x1)), some (.int (Int32.ofInt x2)), some (.int (Int32.ofInt x3)), some (.int (Int32.ofInt (x4 + 1)))], [], zw X s)) rfl ?_
  exact gx_fg [true, true, true, true, true] (h hZ d hd)
theorem w_141_45_i {X : zX} {x1 x3 x4 : Int} {s : zS} {Q : Int → zS → Prop} (h : (0 ≤ x1 ∧ x1 < 24) ∧ (((-2147483648 ≤ x4 ∧ x4 ≤ 2147483647) ∧ (-2147483648 ≤ (s 81 x1) ∧ (s 81 x1) ≤ 2147483647)) ∧ ((s 81 x1) ≤ x4 → Q 0 s) ∧ (¬ (s 81 x1) ≤ x4 → ((-2147483648 ≤ (zA (zR x3 x4) 1) ∧ (zA (zR x3 x4) 1) ≤ 2147483647) ∧ (¬ (zA (zR x3 x4) 1) = 1 → w_141_82 X x1 x3 x4 s Q) ∧ (¬ ¬ (zA (zR x3 x4) 1) = 1 → (0 ≤ ((16 * x1) + x4) ∧ ((16 * x1) + x4) < 384) ∧ (w_142 X (s 83 ((16 * x1) + x4)) s (fun _ s1 => w_141_82 X x1 x3 x4 s1 Q))))))) : w_141_45 X x1 x3 x4 s Q := by
  intro hZ d hd
  have hM : xi_ml[141]? = some xm_141 := rfl
  refine gx_r hM hZ 4 (B := (52, [some (.ref 45), some (.int (Int32.ofInt x1)), none, some (.int (Int32.ofInt x3)), some (.int (Int32.ofInt x4))], [.int (Int32.ofInt x1), .ref 81, .int (Int32.ofInt x4)], zw X s)) rfl ?_
  refine gi_iald hM hZ (s := s) (len := 24) rfl rfl (Nat.le_of_ble_eq_true rfl) h.1 ?_
  replace h := h.2
  refine gi_if2 hM hZ (fun x y => decide (y ≤ x)) (p := (s 81 x1) ≤ x4) rfl rfl (zc_ge h.1.1 h.1.2) ?_ ?_
  · intro hp
    replace h := h.2.1 hp
    exact ⟨_, xi_To.rf _ _ _ _, 0, s, rfl, h⟩
  · intro hp
    replace h := h.2.2 hp
    refine gx_r hM hZ 2 (B := (59, [some (.ref 45), some (.int (Int32.ofInt x1)), none, some (.int (Int32.ofInt x3)), some (.int (Int32.ofInt x4))], [.int (Int32.ofInt x4), .int (Int32.ofInt x3)], zw X s)) rfl ?_
    refine gi_shr hM hZ rfl ?_
    refine gx_r hM hZ 1 (B := (61, [some (.ref 45), some (.int (Int32.ofInt x1)), none, some (.int (Int32.ofInt x3)), some (.int (Int32.ofInt x4))], [.int (Int32.ofInt 1), .int (Int32.ofInt (zR x3 x4))], zw X s)) rfl ?_
    refine gi_and hM hZ rfl ?_
    refine gx_r hM hZ 1 (B := (63, [some (.ref 45), some (.int (Int32.ofInt x1)), none, some (.int (Int32.ofInt x3)), some (.int (Int32.ofInt x4))], [.int (Int32.ofInt 1), .int (Int32.ofInt (zA (zR x3 x4) 1))], zw X s)) rfl ?_
    refine gi_if2 hM hZ (fun x y => decide (¬ x = y)) (p := ¬ (zA (zR x3 x4) 1) = 1) rfl rfl (zc_ne h.1 (by decide)) ?_ ?_
    · intro hp
      replace h := h.2.1 hp
      exact gx_fg [true, true, false, true, true] (h hZ d hd)
    · intro hp
      replace h := h.2.2 hp
      refine gx_r hM hZ 3 (B := (71, [some (.ref 45), some (.int (Int32.ofInt x1)), none, some (.int (Int32.ofInt x3)), some (.int (Int32.ofInt x4))], [.ref 83, .ref 45], zw X s)) rfl ?_
      refine gi_bip hM hZ rfl rfl ?_
      refine gx_r hM hZ 1 (B := (74, [some (.ref 45), some (.int (Int32.ofInt x1)), none, some (.int (Int32.ofInt x3)), some (.int (Int32.ofInt x4))], [.int (Int32.ofInt x1), .int (Int32.ofInt 16), .ref 83, .ref 45], zw X s)) rfl ?_
      refine gi_mul hM hZ rfl ?_
      refine gx_r hM hZ 1 (B := (77, [some (.ref 45), some (.int (Int32.ofInt x1)), none, some (.int (Int32.ofInt x3)), some (.int (Int32.ofInt x4))], [.int (Int32.ofInt x4), .int (Int32.ofInt (16 * x1)), .ref 83, .ref 45], zw X s)) rfl ?_
      refine gi_add hM hZ rfl ?_
      refine gi_iald hM hZ (s := s) (len := 384) rfl rfl (Nat.le_of_ble_eq_true rfl) h.1 ?_
      replace h := h.2
      refine gi_call hM (s := s) (hj := 0) hZ rfl rfl (by omega) h ?_
      intro _ s1 h
      exact gx_fg [true, true, false, true, true] (h hZ d hd)
theorem w_141_82_i {X : zX} {x1 x3 x4 : Int} {s : zS} {Q : Int → zS → Prop} (h : w_141_45 X x1 x3 (x4 + 1) s Q) : w_141_82 X x1 x3 x4 s Q := by
  intro hZ d hd
  have hM : xi_ml[141]? = some xm_141 := rfl
  refine gi_inc hM hZ (x := x4) (m := 1) rfl rfl ?_
  refine gx_r hM hZ 0 (B := (85, [some (.ref 45), some (.int (Int32.ofInt x1)), none, some (.int (Int32.ofInt x3)), some (.int (Int32.ofInt (x4 + 1)))], [], zw X s)) rfl ?_
  refine gx_r hM hZ 1 (B := (45, [some (.ref 45), some (.int (Int32.ofInt x1)), none, some (.int (Int32.ofInt x3)), some (.int (Int32.ofInt (x4 + 1)))], [], zw X s)) rfl ?_
  exact gx_fg [true, true, false, true, true] (h hZ d hd)
-- RootLoomModel.giveBack
def w_143 (X : zX) (s : zS) (Q : Int → zS → Prop) : Prop := wW X 143 xm_143 1 (0, [some (.ref 45), none], [], zw X s) Q
theorem w_143_i {X : zX} {s : zS} {Q : Int → zS → Prop} (h : (w_144 X s (fun v1 s1 => ((-2147483648 ≤ (s1 45 56) ∧ (s1 45 56) ≤ 2147483647) ∧ (¬ (s1 45 56) = 0 → (0 ≤ (s1 45 56) ∧ (s1 45 56) < 24) ∧ (∀ s2 : zS, s2 = zu s1 45 57 (s1 80 (s1 45 56)) → (∀ s3 : zS, s3 = zu s2 45 56 ((s2 45 56) - 1) → (w_145 X v1 s3 (fun _ s4 => Q 0 s4))))) ∧ (¬ ¬ (s1 45 56) = 0 → (∀ s5 : zS, s5 = zu s1 45 46 v1 → (∀ s6 : zS, s6 = zu s5 45 39 1 → Q 0 s6))))))) : w_143 X s Q := by
  intro hZ d hd
  have hM : xi_ml[143]? = some xm_143 := rfl
  refine gx_r hM hZ 1 (B := (1, [some (.ref 45), none], [.ref 45], zw X s)) rfl ?_
  refine gi_call hM (s := s) (hj := 0) hZ rfl rfl (by omega) h ?_
  intro v1 s1 h
  refine gx_r hM hZ 3 (B := (9, [some (.ref 45), some (.int (Int32.ofInt v1))], [.int (Int32.ofInt (s1 45 56))], zw X s1)) rfl ?_
  refine gi_if1 hM hZ (fun x => decide (¬ x = 0)) (p := ¬ (s1 45 56) = 0) rfl rfl (zd_ne h.1) ?_ ?_
  · intro hp
    replace h := h.2.1 hp
    refine gx_r hM hZ 5 (B := (32, [some (.ref 45), some (.int (Int32.ofInt v1))], [.int (Int32.ofInt (s1 45 56)), .ref 80, .ref 45], zw X s1)) rfl ?_
    refine gi_iald hM hZ (s := s1) (len := 24) rfl rfl (Nat.le_of_ble_eq_true rfl) h.1 ?_
    replace h := h.2
    obtain ⟨s2, e2⟩ : ∃ q : zS, q = zu s1 45 57 (s1 80 (s1 45 56)) := ⟨_, rfl⟩
    refine gj_put hM hZ rfl rfl rfl (Nat.le_of_ble_eq_true rfl) rfl rfl zq_45_57 e2 ?_
    replace h := h _ e2
    refine gx_r hM hZ 4 (B := (42, [some (.ref 45), some (.int (Int32.ofInt v1))], [.int (Int32.ofInt 1), .int (Int32.ofInt (s2 45 56)), .ref 45], zw X s2)) rfl ?_
    refine gi_sub hM hZ rfl ?_
    obtain ⟨s3, e3⟩ : ∃ q : zS, q = zu s2 45 56 ((s2 45 56) - 1) := ⟨_, rfl⟩
    refine gj_put hM hZ rfl rfl rfl (Nat.le_of_ble_eq_true rfl) rfl rfl zq_45_56 e3 ?_
    replace h := h _ e3
    refine gx_r hM hZ 2 (B := (48, [some (.ref 45), some (.int (Int32.ofInt v1))], [.int (Int32.ofInt v1), .ref 45], zw X s3)) rfl ?_
    refine gi_call hM (s := s3) (hj := 0) hZ rfl rfl (by omega) h ?_
    intro _ s4 h
    exact ⟨_, xi_To.rf _ _ _ _, 0, s4, rfl, h⟩
  · intro hp
    replace h := h.2.2 hp
    refine gx_r hM hZ 2 (B := (14, [some (.ref 45), some (.int (Int32.ofInt v1))], [.int (Int32.ofInt v1), .ref 45], zw X s1)) rfl ?_
    obtain ⟨s5, e5⟩ : ∃ q : zS, q = zu s1 45 46 v1 := ⟨_, rfl⟩
    refine gj_put hM hZ rfl rfl rfl (Nat.le_of_ble_eq_true rfl) rfl rfl zq_45_46 e5 ?_
    replace h := h _ e5
    refine gx_r hM hZ 2 (B := (19, [some (.ref 45), some (.int (Int32.ofInt v1))], [.int (Int32.ofInt 1), .ref 45], zw X s5)) rfl ?_
    obtain ⟨s6, e6⟩ : ∃ q : zS, q = zu s5 45 39 1 := ⟨_, rfl⟩
    refine gj_put hM hZ rfl rfl rfl (Nat.le_of_ble_eq_true rfl) rfl rfl zq_45_39 e6 ?_
    replace h := h _ e6
    exact ⟨_, xi_To.rf _ _ _ _, 0, s6, rfl, h⟩
-- RootLoomModel.count
def w_147 (X : zX) (x1 : Int) (s : zS) (Q : Int → zS → Prop) : Prop := wW X 147 xm_147 1 (0, [some (.ref 45), some (.int (Int32.ofInt x1)), none, none], [], zw X s) Q
def w_147_43 (X : zX) (t1 : Int) (s : zS) (Q : Int → zS → Prop) : Prop := wW X 147 xm_147 1 (43, [none, none, none, none], [.int (Int32.ofInt t1), .ref 45], zw X s) Q
theorem w_147_i {X : zX} {x1 : Int} {s : zS} {Q : Int → zS → Prop} (h : (w_144 X s (fun v1 s1 => (w_144 X s1 (fun v2 s2 => ((-2147483648 ≤ x1 ∧ x1 ≤ 2147483647) ∧ (¬ x1 = 3 → ((-2147483648 ≤ x1 ∧ x1 ≤ 2147483647) ∧ (¬ x1 = 4 → (((-2147483648 ≤ v2 ∧ v2 ≤ 2147483647) ∧ (-2147483648 ≤ v1 ∧ v1 ≤ 2147483647)) ∧ (v1 ≤ v2 → w_147_43 X 0 s2 Q) ∧ (¬ v1 ≤ v2 → w_147_43 X 1 s2 Q))) ∧ (¬ ¬ x1 = 4 → w_147_43 X (zN (v2 - v1)) s2 Q))) ∧ (¬ ¬ x1 = 3 → w_147_43 X (zN (v2 + v1)) s2 Q))))))) : w_147 X x1 s Q := by
  intro hZ d hd
  have hM : xi_ml[147]? = some xm_147 := rfl
  refine gx_r hM hZ 1 (B := (1, [some (.ref 45), some (.int (Int32.ofInt x1)), none, none], [.ref 45], zw X s)) rfl ?_
  refine gi_call hM (s := s) (hj := 0) hZ rfl rfl (by omega) h ?_
  intro v1 s1 h
  refine gx_r hM hZ 2 (B := (6, [some (.ref 45), some (.int (Int32.ofInt x1)), some (.int (Int32.ofInt v1)), none], [.ref 45], zw X s1)) rfl ?_
  refine gi_call hM (s := s1) (hj := 0) hZ rfl rfl (by omega) h ?_
  intro v2 s2 h
  refine gx_r hM hZ 4 (B := (13, [some (.ref 45), some (.int (Int32.ofInt x1)), some (.int (Int32.ofInt v1)), some (.int (Int32.ofInt v2))], [.int (Int32.ofInt 3), .int (Int32.ofInt x1), .ref 45], zw X s2)) rfl ?_
  refine gi_if2 hM hZ (fun x y => decide (¬ x = y)) (p := ¬ x1 = 3) rfl rfl (zc_ne h.1 (by decide)) ?_ ?_
  · intro hp
    replace h := h.2.1 hp
    refine gx_r hM hZ 2 (B := (24, [some (.ref 45), some (.int (Int32.ofInt x1)), some (.int (Int32.ofInt v1)), some (.int (Int32.ofInt v2))], [.int (Int32.ofInt 4), .int (Int32.ofInt x1), .ref 45], zw X s2)) rfl ?_
    refine gi_if2 hM hZ (fun x y => decide (¬ x = y)) (p := ¬ x1 = 4) rfl rfl (zc_ne h.1 (by decide)) ?_ ?_
    · intro hp
      replace h := h.2.1 hp
      refine gx_r hM hZ 2 (B := (35, [some (.ref 45), some (.int (Int32.ofInt x1)), some (.int (Int32.ofInt v1)), some (.int (Int32.ofInt v2))], [.int (Int32.ofInt v1), .int (Int32.ofInt v2), .ref 45], zw X s2)) rfl ?_
      refine gi_if2 hM hZ (fun x y => decide (y ≤ x)) (p := v1 ≤ v2) rfl rfl (zc_ge h.1.1 h.1.2) ?_ ?_
      · intro hp
        replace h := h.2.1 hp
        refine gx_r hM hZ 1 (B := (43, [some (.ref 45), some (.int (Int32.ofInt x1)), some (.int (Int32.ofInt v1)), some (.int (Int32.ofInt v2))], [.int (Int32.ofInt 0), .ref 45], zw X s2)) rfl ?_
        exact gx_fg [false, false, false, false] (h hZ d hd)
      · intro hp
        replace h := h.2.2 hp
        refine gx_r hM hZ 2 (B := (43, [some (.ref 45), some (.int (Int32.ofInt x1)), some (.int (Int32.ofInt v1)), some (.int (Int32.ofInt v2))], [.int (Int32.ofInt 1), .ref 45], zw X s2)) rfl ?_
        exact gx_fg [false, false, false, false] (h hZ d hd)
    · intro hp
      replace h := h.2.2 hp
      refine gx_r hM hZ 2 (B := (29, [some (.ref 45), some (.int (Int32.ofInt x1)), some (.int (Int32.ofInt v1)), some (.int (Int32.ofInt v2))], [.int (Int32.ofInt v1), .int (Int32.ofInt v2), .ref 45], zw X s2)) rfl ?_
      refine gi_subN hM hZ rfl ?_
      refine gx_r hM hZ 1 (B := (43, [some (.ref 45), some (.int (Int32.ofInt x1)), some (.int (Int32.ofInt v1)), some (.int (Int32.ofInt v2))], [.int (Int32.ofInt (zN (v2 - v1))), .ref 45], zw X s2)) rfl ?_
      exact gx_fg [false, false, false, false] (h hZ d hd)
  · intro hp
    replace h := h.2.2 hp
    refine gx_r hM hZ 2 (B := (18, [some (.ref 45), some (.int (Int32.ofInt x1)), some (.int (Int32.ofInt v1)), some (.int (Int32.ofInt v2))], [.int (Int32.ofInt v1), .int (Int32.ofInt v2), .ref 45], zw X s2)) rfl ?_
    refine gi_addN hM hZ rfl ?_
    refine gx_r hM hZ 1 (B := (43, [some (.ref 45), some (.int (Int32.ofInt x1)), some (.int (Int32.ofInt v1)), some (.int (Int32.ofInt v2))], [.int (Int32.ofInt (zN (v2 + v1))), .ref 45], zw X s2)) rfl ?_
    exact gx_fg [false, false, false, false] (h hZ d hd)
theorem w_147_43_i {X : zX} {t1 : Int} {s : zS} {Q : Int → zS → Prop} (h : (w_145 X t1 s (fun _ s1 => Q 0 s1))) : w_147_43 X t1 s Q := by
  intro hZ d hd
  have hM : xi_ml[147]? = some xm_147 := rfl
  refine gi_call hM (s := s) (hj := 0) hZ rfl rfl (by omega) h ?_
  intro _ s1 h
  exact ⟨_, xi_To.rf _ _ _ _, 0, s1, rfl, h⟩
-- RootLoomModel.putOut
def w_150 (X : zX) (s : zS) (Q : Int → zS → Prop) : Prop := wW X 150 xm_150 1 (0, [some (.ref 45), none], [], zw X s) Q
def w_150_34 (X : zX) (x1 : Int) (s : zS) (Q : Int → zS → Prop) : Prop := wW X 150 xm_150 1 (34, [some (.ref 45), some (.int (Int32.ofInt x1))], [], zw X s) Q
theorem w_150_i {X : zX} {s : zS} {Q : Int → zS → Prop} (h : (w_144 X s (fun v1 s1 => ((-2147483648 ≤ (s1 45 44) ∧ (s1 45 44) ≤ 2147483647) ∧ (64 ≤ (s1 45 44) → w_150_34 X v1 s1 Q) ∧ (¬ 64 ≤ (s1 45 44) → (0 ≤ (s1 45 44) ∧ (s1 45 44) < 64) ∧ (∀ s2 : zS, s2 = zu s1 73 (s1 45 44) v1 → (∀ s3 : zS, s3 = zu s2 45 44 ((s2 45 44) + 1) → w_150_34 X v1 s3 Q))))))) : w_150 X s Q := by
  intro hZ d hd
  have hM : xi_ml[150]? = some xm_150 := rfl
  refine gx_r hM hZ 1 (B := (1, [some (.ref 45), none], [.ref 45], zw X s)) rfl ?_
  refine gi_call hM (s := s) (hj := 0) hZ rfl rfl (by omega) h ?_
  intro v1 s1 h
  refine gx_r hM hZ 3 (B := (9, [some (.ref 45), some (.int (Int32.ofInt v1))], [.int (Int32.ofInt (s1 45 44))], zw X s1)) rfl ?_
  refine gi_bip hM hZ rfl rfl ?_
  refine gi_if2 hM hZ (fun x y => decide (y ≤ x)) (p := 64 ≤ (s1 45 44)) rfl rfl (zc_ge h.1 (by decide)) ?_ ?_
  · intro hp
    replace h := h.2.1 hp
    exact gx_fg [true, true] (h hZ d hd)
  · intro hp
    replace h := h.2.2 hp
    refine gx_r hM hZ 5 (B := (23, [some (.ref 45), some (.int (Int32.ofInt v1))], [.int (Int32.ofInt v1), .int (Int32.ofInt (s1 45 44)), .ref 73], zw X s1)) rfl ?_
    obtain ⟨s2, e2⟩ : ∃ q : zS, q = zu s1 73 (s1 45 44) v1 := ⟨_, rfl⟩
    refine gj_iast hM hZ (len := 64) rfl rfl (Nat.le_of_ble_eq_true rfl) zp_73 h.1 e2 ?_
    replace h := h.2 _ e2
    refine gx_r hM hZ 4 (B := (30, [some (.ref 45), some (.int (Int32.ofInt v1))], [.int (Int32.ofInt 1), .int (Int32.ofInt (s2 45 44)), .ref 45], zw X s2)) rfl ?_
    refine gi_add hM hZ rfl ?_
    obtain ⟨s3, e3⟩ : ∃ q : zS, q = zu s2 45 44 ((s2 45 44) + 1) := ⟨_, rfl⟩
    refine gj_put hM hZ rfl rfl rfl (Nat.le_of_ble_eq_true rfl) rfl rfl zq_45_44 e3 ?_
    replace h := h _ e3
    exact gx_fg [true, true] (h hZ d hd)
theorem w_150_34_i {X : zX} {x1 : Int} {s : zS} {Q : Int → zS → Prop} (h : (w_145 X x1 s (fun _ s1 => Q 0 s1))) : w_150_34 X x1 s Q := by
  intro hZ d hd
  have hM : xi_ml[150]? = some xm_150 := rfl
  refine gx_r hM hZ 2 (B := (36, [some (.ref 45), some (.int (Int32.ofInt x1))], [.int (Int32.ofInt x1), .ref 45], zw X s)) rfl ?_
  refine gi_call hM (s := s) (hj := 0) hZ rfl rfl (by omega) h ?_
  intro _ s1 h
  exact ⟨_, xi_To.rf _ _ _ _, 0, s1, rfl, h⟩
-- RootLoomModel.reach
def w_151 (X : zX) (x1 : Int) (s : zS) (Q : Int → zS → Prop) : Prop := wW X 151 xm_151 1 (0, [some (.ref 45), some (.int (Int32.ofInt x1)), none, none, none], [], zw X s) Q
def w_151_12 (X : zX) (x1 : Int) (s : zS) (Q : Int → zS → Prop) : Prop := wW X 151 xm_151 1 (12, [some (.ref 45), some (.int (Int32.ofInt x1)), none, none, none], [], zw X s) Q
def w_151_17 (X : zX) (x1 t0 : Int) (s : zS) (Q : Int → zS → Prop) : Prop := wW X 151 xm_151 1 (17, [some (.ref 45), some (.int (Int32.ofInt x1)), none, none, none], [.int (Int32.ofInt t0)], zw X s) Q
def w_151_30 (X : zX) (x1 x2 t0 : Int) (s : zS) (Q : Int → zS → Prop) : Prop := wW X 151 xm_151 1 (30, [some (.ref 45), some (.int (Int32.ofInt x1)), some (.int (Int32.ofInt x2)), none, none], [.int (Int32.ofInt t0)], zw X s) Q
def w_151_62 (X : zX) (x1 x2 x3 x4 : Int) (s : zS) (Q : Int → zS → Prop) : Prop := wW X 151 xm_151 1 (62, [some (.ref 45), some (.int (Int32.ofInt x1)), some (.int (Int32.ofInt x2)), some (.int (Int32.ofInt x3)), some (.int (Int32.ofInt x4))], [], zw X s) Q
def w_151_76 (X : zX) (x1 x2 x3 x4 : Int) (s : zS) (Q : Int → zS → Prop) : Prop := wW X 151 xm_151 1 (76, [some (.ref 45), some (.int (Int32.ofInt x1)), some (.int (Int32.ofInt x2)), some (.int (Int32.ofInt x3)), some (.int (Int32.ofInt x4))], [], zw X s) Q
def w_151_108 (X : zX) (t1 : Int) (s : zS) (Q : Int → zS → Prop) : Prop := wW X 151 xm_151 1 (108, [none, none, none, none, none], [.int (Int32.ofInt t1), .ref 45], zw X s) Q
theorem w_151_i {X : zX} {x1 : Int} {s : zS} {Q : Int → zS → Prop} (h : ((-2147483648 ≤ x1 ∧ x1 ≤ 2147483647) ∧ (x1 = 15 → w_151_12 X x1 s Q) ∧ (¬ x1 = 15 → ((-2147483648 ≤ x1 ∧ x1 ≤ 2147483647) ∧ (¬ x1 = 16 → w_151_17 X x1 0 s Q) ∧ (¬ ¬ x1 = 16 → w_151_12 X x1 s Q))))) : w_151 X x1 s Q := by
  intro hZ d hd
  have hM : xi_ml[151]? = some xm_151 := rfl
  refine gx_r hM hZ 1 (B := (1, [some (.ref 45), some (.int (Int32.ofInt x1)), none, none, none], [.int (Int32.ofInt x1)], zw X s)) rfl ?_
  refine gi_bip hM hZ rfl rfl ?_
  refine gi_if2 hM hZ (fun x y => decide (x = y)) (p := x1 = 15) rfl rfl (zc_eq h.1 (by decide)) ?_ ?_
  · intro hp
    replace h := h.2.1 hp
    exact gx_fg [true, true, false, false, false] (h hZ d hd)
  · intro hp
    replace h := h.2.2 hp
    refine gx_r hM hZ 1 (B := (7, [some (.ref 45), some (.int (Int32.ofInt x1)), none, none, none], [.int (Int32.ofInt x1)], zw X s)) rfl ?_
    refine gi_bip hM hZ rfl rfl ?_
    refine gi_if2 hM hZ (fun x y => decide (¬ x = y)) (p := ¬ x1 = 16) rfl rfl (zc_ne h.1 (by decide)) ?_ ?_
    · intro hp
      replace h := h.2.1 hp
      refine gx_r hM hZ 1 (B := (17, [some (.ref 45), some (.int (Int32.ofInt x1)), none, none, none], [.int (Int32.ofInt 0)], zw X s)) rfl ?_
      exact gx_fg [true, true, false, false, false] (h hZ d hd)
    · intro hp
      replace h := h.2.2 hp
      exact gx_fg [true, true, false, false, false] (h hZ d hd)
theorem w_151_12_i {X : zX} {x1 : Int} {s : zS} {Q : Int → zS → Prop} (h : w_151_17 X x1 1 s Q) : w_151_12 X x1 s Q := by
  intro hZ d hd
  have hM : xi_ml[151]? = some xm_151 := rfl
  refine gx_r hM hZ 2 (B := (17, [some (.ref 45), some (.int (Int32.ofInt x1)), none, none, none], [.int (Int32.ofInt 1)], zw X s)) rfl ?_
  exact gx_fg [true, true, false, false, false] (h hZ d hd)
theorem w_151_17_i {X : zX} {x1 t0 : Int} {s : zS} {Q : Int → zS → Prop} (h : ((-2147483648 ≤ t0 ∧ t0 ≤ 2147483647) ∧ (t0 = 0 → w_151_30 X x1 t0 0 s Q) ∧ (¬ t0 = 0 → (w_144 X s (fun v1 s1 => w_151_30 X x1 t0 v1 s1 Q))))) : w_151_17 X x1 t0 s Q := by
  intro hZ d hd
  have hM : xi_ml[151]? = some xm_151 := rfl
  refine gx_r hM hZ 2 (B := (19, [some (.ref 45), some (.int (Int32.ofInt x1)), some (.int (Int32.ofInt t0)), none, none], [.int (Int32.ofInt t0)], zw X s)) rfl ?_
  refine gi_if1 hM hZ (fun x => decide (x = 0)) (p := t0 = 0) rfl rfl (zd_eq h.1) ?_ ?_
  · intro hp
    replace h := h.2.1 hp
    refine gx_r hM hZ 1 (B := (30, [some (.ref 45), some (.int (Int32.ofInt x1)), some (.int (Int32.ofInt t0)), none, none], [.int (Int32.ofInt 0)], zw X s)) rfl ?_
    exact gx_fg [true, true, true, false, false] (h hZ d hd)
  · intro hp
    replace h := h.2.2 hp
    refine gx_r hM hZ 1 (B := (23, [some (.ref 45), some (.int (Int32.ofInt x1)), some (.int (Int32.ofInt t0)), none, none], [.ref 45], zw X s)) rfl ?_
    refine gi_call hM (s := s) (hj := 0) hZ rfl rfl (by omega) h ?_
    intro v1 s1 h
    refine gx_r hM hZ 1 (B := (30, [some (.ref 45), some (.int (Int32.ofInt x1)), some (.int (Int32.ofInt t0)), none, none], [.int (Int32.ofInt v1)], zw X s1)) rfl ?_
    exact gx_fg [true, true, true, false, false] (h hZ d hd)
theorem w_151_30_i {X : zX} {x1 x2 t0 : Int} {s : zS} {Q : Int → zS → Prop} (h : (w_144 X s (fun v1 s1 => ((-2147483648 ≤ v1 ∧ v1 ≤ 2147483647) ∧ (0 ≤ v1 → ((-2147483648 ≤ x1 ∧ x1 ≤ 2147483647) ∧ (¬ x1 = 15 → w_151_62 X x1 x2 t0 v1 s1 Q) ∧ (¬ ¬ x1 = 15 → (0 ≤ v1 ∧ v1 < 200) ∧ (∀ s2 : zS, s2 = zu s1 76 v1 t0 → w_151_62 X x1 x2 t0 v1 s2 Q)))) ∧ (¬ 0 ≤ v1 → (∀ s3 : zS, s3 = zu s1 45 39 2 → Q 0 s3)))))) : w_151_30 X x1 x2 t0 s Q := by
  intro hZ d hd
  have hM : xi_ml[151]? = some xm_151 := rfl
  refine gx_r hM hZ 2 (B := (32, [some (.ref 45), some (.int (Int32.ofInt x1)), some (.int (Int32.ofInt x2)), some (.int (Int32.ofInt t0)), none], [.ref 45], zw X s)) rfl ?_
  refine gi_call hM (s := s) (hj := 0) hZ rfl rfl (by omega) h ?_
  intro v1 s1 h
  refine gx_r hM hZ 2 (B := (39, [some (.ref 45), some (.int (Int32.ofInt x1)), some (.int (Int32.ofInt x2)), some (.int (Int32.ofInt t0)), some (.int (Int32.ofInt v1))], [.int (Int32.ofInt v1)], zw X s1)) rfl ?_
  refine gi_if1 hM hZ (fun x => decide (0 ≤ x)) (p := 0 ≤ v1) rfl rfl (zd_ge h.1) ?_ ?_
  · intro hp
    replace h := h.2.1 hp
    refine gx_r hM hZ 1 (B := (49, [some (.ref 45), some (.int (Int32.ofInt x1)), some (.int (Int32.ofInt x2)), some (.int (Int32.ofInt t0)), some (.int (Int32.ofInt v1))], [.int (Int32.ofInt x1)], zw X s1)) rfl ?_
    refine gi_bip hM hZ rfl rfl ?_
    refine gi_if2 hM hZ (fun x y => decide (¬ x = y)) (p := ¬ x1 = 15) rfl rfl (zc_ne h.1 (by decide)) ?_ ?_
    · intro hp
      replace h := h.2.1 hp
      exact gx_fg [true, true, true, true, true] (h hZ d hd)
    · intro hp
      replace h := h.2.2 hp
      refine gx_r hM hZ 4 (B := (61, [some (.ref 45), some (.int (Int32.ofInt x1)), some (.int (Int32.ofInt x2)), some (.int (Int32.ofInt t0)), some (.int (Int32.ofInt v1))], [.int (Int32.ofInt t0), .int (Int32.ofInt v1), .ref 76], zw X s1)) rfl ?_
      obtain ⟨s2, e2⟩ : ∃ q : zS, q = zu s1 76 v1 t0 := ⟨_, rfl⟩
      refine gj_iast hM hZ (len := 200) rfl rfl (Nat.le_of_ble_eq_true rfl) zp_76 h.1 e2 ?_
      replace h := h.2 _ e2
      exact gx_fg [true, true, true, true, true] (h hZ d hd)
  · intro hp
    replace h := h.2.2 hp
    refine gx_r hM hZ 2 (B := (44, [some (.ref 45), some (.int (Int32.ofInt x1)), some (.int (Int32.ofInt x2)), some (.int (Int32.ofInt t0)), some (.int (Int32.ofInt v1))], [.int (Int32.ofInt 2), .ref 45], zw X s1)) rfl ?_
    obtain ⟨s3, e3⟩ : ∃ q : zS, q = zu s1 45 39 2 := ⟨_, rfl⟩
    refine gj_put hM hZ rfl rfl rfl (Nat.le_of_ble_eq_true rfl) rfl rfl zq_45_39 e3 ?_
    replace h := h _ e3
    exact ⟨_, xi_To.rf _ _ _ _, 0, s3, rfl, h⟩
theorem w_151_62_i {X : zX} {x1 x2 x3 x4 : Int} {s : zS} {Q : Int → zS → Prop} (h : ((-2147483648 ≤ x1 ∧ x1 ≤ 2147483647) ∧ (¬ x1 = 16 → w_151_76 X x1 x2 x3 x4 s Q) ∧ (¬ ¬ x1 = 16 → (0 ≤ x4 ∧ x4 < 200) ∧ (∀ s1 : zS, s1 = zu s 77 x4 x3 → w_151_76 X x1 x2 x3 x4 s1 Q)))) : w_151_62 X x1 x2 x3 x4 s Q := by
  intro hZ d hd
  have hM : xi_ml[151]? = some xm_151 := rfl
  refine gx_r hM hZ 1 (B := (63, [some (.ref 45), some (.int (Int32.ofInt x1)), some (.int (Int32.ofInt x2)), some (.int (Int32.ofInt x3)), some (.int (Int32.ofInt x4))], [.int (Int32.ofInt x1)], zw X s)) rfl ?_
  refine gi_bip hM hZ rfl rfl ?_
  refine gi_if2 hM hZ (fun x y => decide (¬ x = y)) (p := ¬ x1 = 16) rfl rfl (zc_ne h.1 (by decide)) ?_ ?_
  · intro hp
    replace h := h.2.1 hp
    exact gx_fg [true, true, true, true, true] (h hZ d hd)
  · intro hp
    replace h := h.2.2 hp
    refine gx_r hM hZ 4 (B := (75, [some (.ref 45), some (.int (Int32.ofInt x1)), some (.int (Int32.ofInt x2)), some (.int (Int32.ofInt x3)), some (.int (Int32.ofInt x4))], [.int (Int32.ofInt x3), .int (Int32.ofInt x4), .ref 77], zw X s)) rfl ?_
    obtain ⟨s1, e1⟩ : ∃ q : zS, q = zu s 77 x4 x3 := ⟨_, rfl⟩
    refine gj_iast hM hZ (len := 200) rfl rfl (Nat.le_of_ble_eq_true rfl) zp_77 h.1 e1 ?_
    replace h := h.2 _ e1
    exact gx_fg [true, true, true, true, true] (h hZ d hd)
theorem w_151_76_i {X : zX} {x1 x2 x3 x4 : Int} {s : zS} {Q : Int → zS → Prop} (h : ((-2147483648 ≤ x2 ∧ x2 ≤ 2147483647) ∧ (x2 = 0 → ((-2147483648 ≤ x1 ∧ x1 ≤ 2147483647) ∧ (¬ x1 = 7 → (0 ≤ x4 ∧ x4 < 200) ∧ w_151_108 X (s 77 x4) s Q) ∧ (¬ ¬ x1 = 7 → (0 ≤ x4 ∧ x4 < 200) ∧ w_151_108 X (s 76 x4) s Q))) ∧ (¬ x2 = 0 → w_151_108 X x3 s Q))) : w_151_76 X x1 x2 x3 x4 s Q := by
  intro hZ d hd
  have hM : xi_ml[151]? = some xm_151 := rfl
  refine gx_r hM hZ 2 (B := (78, [some (.ref 45), some (.int (Int32.ofInt x1)), some (.int (Int32.ofInt x2)), some (.int (Int32.ofInt x3)), some (.int (Int32.ofInt x4))], [.int (Int32.ofInt x2), .ref 45], zw X s)) rfl ?_
  refine gi_if1 hM hZ (fun x => decide (x = 0)) (p := x2 = 0) rfl rfl (zd_eq h.1) ?_ ?_
  · intro hp
    replace h := h.2.1 hp
    refine gx_r hM hZ 1 (B := (86, [some (.ref 45), some (.int (Int32.ofInt x1)), some (.int (Int32.ofInt x2)), some (.int (Int32.ofInt x3)), some (.int (Int32.ofInt x4))], [.int (Int32.ofInt x1), .ref 45], zw X s)) rfl ?_
    refine gi_bip hM hZ rfl rfl ?_
    refine gi_if2 hM hZ (fun x y => decide (¬ x = y)) (p := ¬ x1 = 7) rfl rfl (zc_ne h.1 (by decide)) ?_ ?_
    · intro hp
      replace h := h.2.1 hp
      refine gx_r hM hZ 3 (B := (107, [some (.ref 45), some (.int (Int32.ofInt x1)), some (.int (Int32.ofInt x2)), some (.int (Int32.ofInt x3)), some (.int (Int32.ofInt x4))], [.int (Int32.ofInt x4), .ref 77, .ref 45], zw X s)) rfl ?_
      refine gi_iald hM hZ (s := s) (len := 200) rfl rfl (Nat.le_of_ble_eq_true rfl) h.1 ?_
      replace h := h.2
      exact gx_fg [false, false, false, false, false] (h hZ d hd)
    · intro hp
      replace h := h.2.2 hp
      refine gx_r hM hZ 3 (B := (97, [some (.ref 45), some (.int (Int32.ofInt x1)), some (.int (Int32.ofInt x2)), some (.int (Int32.ofInt x3)), some (.int (Int32.ofInt x4))], [.int (Int32.ofInt x4), .ref 76, .ref 45], zw X s)) rfl ?_
      refine gi_iald hM hZ (s := s) (len := 200) rfl rfl (Nat.le_of_ble_eq_true rfl) h.1 ?_
      replace h := h.2
      refine gx_r hM hZ 1 (B := (108, [some (.ref 45), some (.int (Int32.ofInt x1)), some (.int (Int32.ofInt x2)), some (.int (Int32.ofInt x3)), some (.int (Int32.ofInt x4))], [.int (Int32.ofInt (s 76 x4)), .ref 45], zw X s)) rfl ?_
      exact gx_fg [false, false, false, false, false] (h hZ d hd)
  · intro hp
    replace h := h.2.2 hp
    refine gx_r hM hZ 2 (B := (108, [some (.ref 45), some (.int (Int32.ofInt x1)), some (.int (Int32.ofInt x2)), some (.int (Int32.ofInt x3)), some (.int (Int32.ofInt x4))], [.int (Int32.ofInt x3), .ref 45], zw X s)) rfl ?_
    exact gx_fg [false, false, false, false, false] (h hZ d hd)
theorem w_151_108_i {X : zX} {t1 : Int} {s : zS} {Q : Int → zS → Prop} (h : (w_145 X t1 s (fun _ s1 => Q 0 s1))) : w_151_108 X t1 s Q := by
  intro hZ d hd
  have hM : xi_ml[151]? = some xm_151 := rfl
  refine gi_call hM (s := s) (hj := 0) hZ rfl rfl (by omega) h ?_
  intro _ s1 h
  exact ⟨_, xi_To.rf _ _ _ _, 0, s1, rfl, h⟩
-- RootLoomModel.out
def w_153 (X : zX) (x1 : Int) (s : zS) (Q : Int → zS → Prop) : Prop := wW X 153 xm_153 1 (0, [some (.ref 45), some (.int (Int32.ofInt x1))], [], zw X s) Q
def w_153_35 (X : zX) (s : zS) (Q : Int → zS → Prop) : Prop := wW X 153 xm_153 1 (35, [none, none], [], zw X s) Q
theorem w_153_i {X : zX} {x1 : Int} {s : zS} {Q : Int → zS → Prop} (h : (∀ s1 : zS, s1 = zu s 45 0 0 → ((-2147483648 ≤ (s1 45 39) ∧ (s1 45 39) ≤ 2147483647) ∧ ((s1 45 39) ≤ 0 → w_153_35 X s1 Q) ∧ (¬ (s1 45 39) ≤ 0 → (w_101 X x1 0 ((s1 45 44) - 1) s1 (fun v2 s2 => ((-2147483648 ≤ v2 ∧ v2 ≤ 2147483647) ∧ (v2 = 0 → w_153_35 X s2 Q) ∧ (¬ v2 = 0 → (0 ≤ x1 ∧ x1 < 64) ∧ Q (s2 73 x1) s2)))))))) : w_153 X x1 s Q := by
  intro hZ d hd
  have hM : xi_ml[153]? = some xm_153 := rfl
  refine gx_r hM hZ 2 (B := (2, [some (.ref 45), some (.int (Int32.ofInt x1))], [.int (Int32.ofInt 0), .ref 45], zw X s)) rfl ?_
  obtain ⟨s1, e1⟩ : ∃ q : zS, q = zu s 45 0 0 := ⟨_, rfl⟩
  refine gj_put hM hZ rfl rfl rfl (Nat.le_of_ble_eq_true rfl) rfl rfl zq_45_0 e1 ?_
  replace h := h _ e1
  refine gx_r hM hZ 2 (B := (9, [some (.ref 45), some (.int (Int32.ofInt x1))], [.int (Int32.ofInt (s1 45 39))], zw X s1)) rfl ?_
  refine gi_if1 hM hZ (fun x => decide (x ≤ 0)) (p := (s1 45 39) ≤ 0) rfl rfl (zd_le h.1) ?_ ?_
  · intro hp
    replace h := h.2.1 hp
    exact gx_fg [false, false] (h hZ d hd)
  · intro hp
    replace h := h.2.2 hp
    refine gx_r hM hZ 5 (B := (19, [some (.ref 45), some (.int (Int32.ofInt x1))], [.int (Int32.ofInt 1), .int (Int32.ofInt (s1 45 44)), .int (Int32.ofInt 0), .int (Int32.ofInt x1)], zw X s1)) rfl ?_
    refine gi_sub hM hZ rfl ?_
    refine gi_call hM (s := s1) (hj := 0) hZ rfl rfl (by omega) h ?_
    intro v2 s2 h
    refine gi_if1 hM hZ (fun x => decide (x = 0)) (p := v2 = 0) rfl rfl (zd_eq h.1) ?_ ?_
    · intro hp
      replace h := h.2.1 hp
      exact gx_fg [false, false] (h hZ d hd)
    · intro hp
      replace h := h.2.2 hp
      refine gx_r hM hZ 3 (B := (31, [some (.ref 45), some (.int (Int32.ofInt x1))], [.int (Int32.ofInt x1), .ref 73], zw X s2)) rfl ?_
      refine gi_iald hM hZ (s := s2) (len := 64) rfl rfl (Nat.le_of_ble_eq_true rfl) h.1 ?_
      replace h := h.2
      refine gx_r hM hZ 1 (B := (36, [some (.ref 45), some (.int (Int32.ofInt x1))], [.int (Int32.ofInt (s2 73 x1))], zw X s2)) rfl ?_
      exact ⟨_, xi_To.rf _ _ _ _, (s2 73 x1), s2, rfl, h⟩
theorem w_153_35_i {X : zX} {s : zS} {Q : Int → zS → Prop} (h : Q 0 s) : w_153_35 X s Q := by
  intro hZ d hd
  have hM : xi_ml[153]? = some xm_153 := rfl
  refine gx_r hM hZ 1 (B := (36, [none, none], [.int (Int32.ofInt 0)], zw X s)) rfl ?_
  exact ⟨_, xi_To.rf _ _ _ _, 0, s, rfl, h⟩
-- RootLoomModel.follow
def w_155 (X : zX) (x1 x2 : Int) (s : zS) (Q : Int → zS → Prop) : Prop := wW X 155 xm_155 1 (0, [some (.ref 45), some (.int (Int32.ofInt x1)), some (.int (Int32.ofInt x2)), none, none, none], [], zw X s) Q
def w_155_18 (X : zX) (s : zS) (Q : Int → zS → Prop) : Prop := wW X 155 xm_155 1 (18, [none, none, none, none, none, none], [], zw X s) Q
def w_155_38 (X : zX) (x1 x2 x3 : Int) (s : zS) (Q : Int → zS → Prop) : Prop := wW X 155 xm_155 1 (38, [some (.ref 45), some (.int (Int32.ofInt x1)), some (.int (Int32.ofInt x2)), some (.int (Int32.ofInt x3)), none, none], [], zw X s) Q
def w_155_57 (X : zX) (s : zS) (Q : Int → zS → Prop) : Prop := wW X 155 xm_155 1 (57, [none, none, none, none, none, none], [], zw X s) Q
def w_155_79 (X : zX) (x1 x2 x3 x4 t0 : Int) (s : zS) (Q : Int → zS → Prop) : Prop := wW X 155 xm_155 1 (79, [some (.ref 45), some (.int (Int32.ofInt x1)), some (.int (Int32.ofInt x2)), some (.int (Int32.ofInt x3)), some (.int (Int32.ofInt x4)), none], [.int (Int32.ofInt t0)], zw X s) Q
def w_155_104 (X : zX) (x1 x2 x3 x5 t1 : Int) (s : zS) (Q : Int → zS → Prop) : Prop := wW X 155 xm_155 1 (104, [some (.ref 45), some (.int (Int32.ofInt x1)), some (.int (Int32.ofInt x2)), some (.int (Int32.ofInt x3)), none, some (.int (Int32.ofInt x5))], [.int (Int32.ofInt t1), .ref 45], zw X s) Q
def w_155_134 (X : zX) (x1 x2 x3 t1 : Int) (s : zS) (Q : Int → zS → Prop) : Prop := wW X 155 xm_155 1 (134, [some (.ref 45), some (.int (Int32.ofInt x1)), some (.int (Int32.ofInt x2)), some (.int (Int32.ofInt x3)), none, none], [.int (Int32.ofInt t1), .ref 45], zw X s) Q
theorem w_155_i {X : zX} {x1 x2 : Int} {s : zS} {Q : Int → zS → Prop} (h : ((-2147483648 ≤ (s 45 39) ∧ (s 45 39) ≤ 2147483647) ∧ (¬ (s 45 39) = 1 → w_155_18 X s Q) ∧ (¬ ¬ (s 45 39) = 1 → (w_101 X x2 0 20 s (fun v1 s1 => ((-2147483648 ≤ v1 ∧ v1 ≤ 2147483647) ∧ (¬ v1 = 0 → (∀ s2 : zS, s2 = zu s1 45 63 (s1 45 47) → (∀ s3 : zS, s3 = zu s2 45 64 (s2 45 46) → w_155_38 X x1 x2 0 s3 Q))) ∧ (¬ ¬ v1 = 0 → w_155_18 X s1 Q))))))) : w_155 X x1 x2 s Q := by
  intro hZ d hd
  have hM : xi_ml[155]? = some xm_155 := rfl
  refine gx_r hM hZ 3 (B := (5, [some (.ref 45), some (.int (Int32.ofInt x1)), some (.int (Int32.ofInt x2)), none, none, none], [.int (Int32.ofInt 1), .int (Int32.ofInt (s 45 39))], zw X s)) rfl ?_
  refine gi_if2 hM hZ (fun x y => decide (¬ x = y)) (p := ¬ (s 45 39) = 1) rfl rfl (zc_ne h.1 (by decide)) ?_ ?_
  · intro hp
    replace h := h.2.1 hp
    exact gx_fg [false, false, false, false, false, false] (h hZ d hd)
  · intro hp
    replace h := h.2.2 hp
    refine gx_r hM hZ 2 (B := (10, [some (.ref 45), some (.int (Int32.ofInt x1)), some (.int (Int32.ofInt x2)), none, none, none], [.int (Int32.ofInt 0), .int (Int32.ofInt x2)], zw X s)) rfl ?_
    refine gi_bip hM hZ rfl rfl ?_
    refine gi_call hM (s := s) (hj := 0) hZ rfl rfl (by omega) h ?_
    intro v1 s1 h
    refine gi_if1 hM hZ (fun x => decide (¬ x = 0)) (p := ¬ v1 = 0) rfl rfl (zd_ne h.1) ?_ ?_
    · intro hp
      replace h := h.2.1 hp
      refine gx_r hM hZ 3 (B := (25, [some (.ref 45), some (.int (Int32.ofInt x1)), some (.int (Int32.ofInt x2)), none, none, none], [.int (Int32.ofInt (s1 45 47)), .ref 45], zw X s1)) rfl ?_
      obtain ⟨s2, e2⟩ : ∃ q : zS, q = zu s1 45 63 (s1 45 47) := ⟨_, rfl⟩
      refine gj_put hM hZ rfl rfl rfl (Nat.le_of_ble_eq_true rfl) rfl rfl zq_45_63 e2 ?_
      replace h := h _ e2
      refine gx_r hM hZ 3 (B := (33, [some (.ref 45), some (.int (Int32.ofInt x1)), some (.int (Int32.ofInt x2)), none, none, none], [.int (Int32.ofInt (s2 45 46)), .ref 45], zw X s2)) rfl ?_
      obtain ⟨s3, e3⟩ : ∃ q : zS, q = zu s2 45 64 (s2 45 46) := ⟨_, rfl⟩
      refine gj_put hM hZ rfl rfl rfl (Nat.le_of_ble_eq_true rfl) rfl rfl zq_45_64 e3 ?_
      replace h := h _ e3
      refine gx_r hM hZ 2 (B := (38, [some (.ref 45), some (.int (Int32.ofInt x1)), some (.int (Int32.ofInt x2)), some (.int (Int32.ofInt 0)), none, none], [], zw X s3)) rfl ?_
      exact gx_fg [true, true, true, true, false, false] (h hZ d hd)
    · intro hp
      replace h := h.2.2 hp
      exact gx_fg [false, false, false, false, false, false] (h hZ d hd)
theorem w_155_18_i {X : zX} {s : zS} {Q : Int → zS → Prop} (h : Q (-1) s) : w_155_18 X s Q := by
  intro hZ d hd
  have hM : xi_ml[155]? = some xm_155 := rfl
  refine gx_r hM hZ 1 (B := (19, [none, none, none, none, none, none], [.int (Int32.ofInt (-1))], zw X s)) rfl ?_
  exact ⟨_, xi_To.rf _ _ _ _, (-1), s, rfl, h⟩
theorem w_155_38_i {X : zX} {x1 x2 x3 : Int} {s : zS} {Q : Int → zS → Prop} (h : (((-2147483648 ≤ x3 ∧ x3 ≤ 2147483647) ∧ (-2147483648 ≤ x2 ∧ x2 ≤ 2147483647)) ∧ (x2 ≤ x3 → ((-2147483648 ≤ (s 45 63) ∧ (s 45 63) ≤ 2147483647) ∧ (¬ (s 45 63) = 0 → ((-2147483648 ≤ (s 45 64) ∧ (s 45 64) ≤ 2147483647) ∧ (0 ≤ (s 45 64) → Q 2 s) ∧ (¬ 0 ≤ (s 45 64) → Q 1 s))) ∧ (¬ ¬ (s 45 63) = 0 → Q 0 s))) ∧ (¬ x2 ≤ x3 → ((-2147483648 ≤ (s 45 63) ∧ (s 45 63) ≤ 2147483647) ∧ ((s 45 63) = 0 → w_155_57 X s Q) ∧ (¬ (s 45 63) = 0 → ((-2147483648 ≤ (s 45 64) ∧ (s 45 64) ≤ 2147483647) ∧ (0 ≤ (s 45 64) → ((-2147483648 ≤ (zA (zR x1 x3) 1) ∧ (zA (zR x1 x3) 1) ≤ 2147483647) ∧ (¬ (zA (zR x1 x3) 1) = 1 → w_155_79 X x1 x2 x3 (s 45 64) 0 s Q) ∧ (¬ ¬ (zA (zR x1 x3) 1) = 1 → w_155_79 X x1 x2 x3 (s 45 64) 1 s Q))) ∧ (¬ 0 ≤ (s 45 64) → w_155_57 X s Q))))))) : w_155_38 X x1 x2 x3 s Q := by
  intro hZ d hd
  have hM : xi_ml[155]? = some xm_155 := rfl
  refine gx_r hM hZ 2 (B := (40, [some (.ref 45), some (.int (Int32.ofInt x1)), some (.int (Int32.ofInt x2)), some (.int (Int32.ofInt x3)), none, none], [.int (Int32.ofInt x2), .int (Int32.ofInt x3)], zw X s)) rfl ?_
  refine gi_if2 hM hZ (fun x y => decide (y ≤ x)) (p := x2 ≤ x3) rfl rfl (zc_ge h.1.1 h.1.2) ?_ ?_
  · intro hp
    replace h := h.2.1 hp
    refine gx_r hM hZ 2 (B := (147, [some (.ref 45), some (.int (Int32.ofInt x1)), some (.int (Int32.ofInt x2)), some (.int (Int32.ofInt x3)), none, none], [.int (Int32.ofInt (s 45 63))], zw X s)) rfl ?_
    refine gi_if1 hM hZ (fun x => decide (¬ x = 0)) (p := ¬ (s 45 63) = 0) rfl rfl (zd_ne h.1) ?_ ?_
    · intro hp
      replace h := h.2.1 hp
      refine gx_r hM hZ 2 (B := (158, [some (.ref 45), some (.int (Int32.ofInt x1)), some (.int (Int32.ofInt x2)), some (.int (Int32.ofInt x3)), none, none], [.int (Int32.ofInt (s 45 64))], zw X s)) rfl ?_
      refine gi_if1 hM hZ (fun x => decide (0 ≤ x)) (p := 0 ≤ (s 45 64)) rfl rfl (zd_ge h.1) ?_ ?_
      · intro hp
        replace h := h.2.1 hp
        refine gx_r hM hZ 1 (B := (166, [some (.ref 45), some (.int (Int32.ofInt x1)), some (.int (Int32.ofInt x2)), some (.int (Int32.ofInt x3)), none, none], [.int (Int32.ofInt 2)], zw X s)) rfl ?_
        exact ⟨_, xi_To.rf _ _ _ _, 2, s, rfl, h⟩
      · intro hp
        replace h := h.2.2 hp
        refine gx_r hM hZ 2 (B := (166, [some (.ref 45), some (.int (Int32.ofInt x1)), some (.int (Int32.ofInt x2)), some (.int (Int32.ofInt x3)), none, none], [.int (Int32.ofInt 1)], zw X s)) rfl ?_
        exact ⟨_, xi_To.rf _ _ _ _, 1, s, rfl, h⟩
    · intro hp
      replace h := h.2.2 hp
      refine gx_r hM hZ 2 (B := (166, [some (.ref 45), some (.int (Int32.ofInt x1)), some (.int (Int32.ofInt x2)), some (.int (Int32.ofInt x3)), none, none], [.int (Int32.ofInt 0)], zw X s)) rfl ?_
      exact ⟨_, xi_To.rf _ _ _ _, 0, s, rfl, h⟩
  · intro hp
    replace h := h.2.2 hp
    refine gx_r hM hZ 2 (B := (47, [some (.ref 45), some (.int (Int32.ofInt x1)), some (.int (Int32.ofInt x2)), some (.int (Int32.ofInt x3)), none, none], [.int (Int32.ofInt (s 45 63))], zw X s)) rfl ?_
    refine gi_if1 hM hZ (fun x => decide (x = 0)) (p := (s 45 63) = 0) rfl rfl (zd_eq h.1) ?_ ?_
    · intro hp
      replace h := h.2.1 hp
      exact gx_fg [false, false, false, false, false, false] (h hZ d hd)
    · intro hp
      replace h := h.2.2 hp
      refine gx_r hM hZ 2 (B := (54, [some (.ref 45), some (.int (Int32.ofInt x1)), some (.int (Int32.ofInt x2)), some (.int (Int32.ofInt x3)), none, none], [.int (Int32.ofInt (s 45 64))], zw X s)) rfl ?_
      refine gi_if1 hM hZ (fun x => decide (0 ≤ x)) (p := 0 ≤ (s 45 64)) rfl rfl (zd_ge h.1) ?_ ?_
      · intro hp
        replace h := h.2.1 hp
        refine gx_r hM hZ 5 (B := (67, [some (.ref 45), some (.int (Int32.ofInt x1)), some (.int (Int32.ofInt x2)), some (.int (Int32.ofInt x3)), some (.int (Int32.ofInt (s 45 64))), none], [.int (Int32.ofInt x3), .int (Int32.ofInt x1)], zw X s)) rfl ?_
        refine gi_shr hM hZ rfl ?_
        refine gx_r hM hZ 1 (B := (69, [some (.ref 45), some (.int (Int32.ofInt x1)), some (.int (Int32.ofInt x2)), some (.int (Int32.ofInt x3)), some (.int (Int32.ofInt (s 45 64))), none], [.int (Int32.ofInt 1), .int (Int32.ofInt (zR x1 x3))], zw X s)) rfl ?_
        refine gi_and hM hZ rfl ?_
        refine gx_r hM hZ 1 (B := (71, [some (.ref 45), some (.int (Int32.ofInt x1)), some (.int (Int32.ofInt x2)), some (.int (Int32.ofInt x3)), some (.int (Int32.ofInt (s 45 64))), none], [.int (Int32.ofInt 1), .int (Int32.ofInt (zA (zR x1 x3) 1))], zw X s)) rfl ?_
        refine gi_if2 hM hZ (fun x y => decide (¬ x = y)) (p := ¬ (zA (zR x1 x3) 1) = 1) rfl rfl (zc_ne h.1 (by decide)) ?_ ?_
        · intro hp
          replace h := h.2.1 hp
          refine gx_r hM hZ 1 (B := (79, [some (.ref 45), some (.int (Int32.ofInt x1)), some (.int (Int32.ofInt x2)), some (.int (Int32.ofInt x3)), some (.int (Int32.ofInt (s 45 64))), none], [.int (Int32.ofInt 0)], zw X s)) rfl ?_
          exact gx_fg [true, true, true, true, true, false] (h hZ d hd)
        · intro hp
          replace h := h.2.2 hp
          refine gx_r hM hZ 2 (B := (79, [some (.ref 45), some (.int (Int32.ofInt x1)), some (.int (Int32.ofInt x2)), some (.int (Int32.ofInt x3)), some (.int (Int32.ofInt (s 45 64))), none], [.int (Int32.ofInt 1)], zw X s)) rfl ?_
          exact gx_fg [true, true, true, true, true, false] (h hZ d hd)
      · intro hp
        replace h := h.2.2 hp
        exact gx_fg [false, false, false, false, false, false] (h hZ d hd)
theorem w_155_57_i {X : zX} {s : zS} {Q : Int → zS → Prop} (h : Q (-1) s) : w_155_57 X s Q := by
  intro hZ d hd
  have hM : xi_ml[155]? = some xm_155 := rfl
  refine gx_r hM hZ 1 (B := (58, [none, none, none, none, none, none], [.int (Int32.ofInt (-1))], zw X s)) rfl ?_
  exact ⟨_, xi_To.rf _ _ _ _, (-1), s, rfl, h⟩
theorem w_155_79_i {X : zX} {x1 x2 x3 x4 t0 : Int} {s : zS} {Q : Int → zS → Prop} (h : ((-2147483648 ≤ t0 ∧ t0 ≤ 2147483647) ∧ (t0 = 0 → (0 ≤ x4 ∧ x4 < 200) ∧ w_155_104 X x1 x2 x3 t0 (s 76 x4) s Q) ∧ (¬ t0 = 0 → (0 ≤ x4 ∧ x4 < 200) ∧ w_155_104 X x1 x2 x3 t0 (s 77 x4) s Q))) : w_155_79 X x1 x2 x3 x4 t0 s Q := by
  intro hZ d hd
  have hM : xi_ml[155]? = some xm_155 := rfl
  refine gx_r hM hZ 3 (B := (84, [some (.ref 45), some (.int (Int32.ofInt x1)), some (.int (Int32.ofInt x2)), some (.int (Int32.ofInt x3)), some (.int (Int32.ofInt x4)), some (.int (Int32.ofInt t0))], [.int (Int32.ofInt t0), .ref 45], zw X s)) rfl ?_
  refine gi_if1 hM hZ (fun x => decide (x = 0)) (p := t0 = 0) rfl rfl (zd_eq h.1) ?_ ?_
  · intro hp
    replace h := h.2.1 hp
    refine gx_r hM hZ 3 (B := (103, [some (.ref 45), some (.int (Int32.ofInt x1)), some (.int (Int32.ofInt x2)), some (.int (Int32.ofInt x3)), some (.int (Int32.ofInt x4)), some (.int (Int32.ofInt t0))], [.int (Int32.ofInt x4), .ref 76, .ref 45], zw X s)) rfl ?_
    refine gi_iald hM hZ (s := s) (len := 200) rfl rfl (Nat.le_of_ble_eq_true rfl) h.1 ?_
    replace h := h.2
    exact gx_fg [true, true, true, true, false, true] (h hZ d hd)
  · intro hp
    replace h := h.2.2 hp
    refine gx_r hM hZ 3 (B := (93, [some (.ref 45), some (.int (Int32.ofInt x1)), some (.int (Int32.ofInt x2)), some (.int (Int32.ofInt x3)), some (.int (Int32.ofInt x4)), some (.int (Int32.ofInt t0))], [.int (Int32.ofInt x4), .ref 77, .ref 45], zw X s)) rfl ?_
    refine gi_iald hM hZ (s := s) (len := 200) rfl rfl (Nat.le_of_ble_eq_true rfl) h.1 ?_
    replace h := h.2
    refine gx_r hM hZ 1 (B := (104, [some (.ref 45), some (.int (Int32.ofInt x1)), some (.int (Int32.ofInt x2)), some (.int (Int32.ofInt x3)), some (.int (Int32.ofInt x4)), some (.int (Int32.ofInt t0))], [.int (Int32.ofInt (s 77 x4)), .ref 45], zw X s)) rfl ?_
    exact gx_fg [true, true, true, true, false, true] (h hZ d hd)
theorem w_155_104_i {X : zX} {x1 x2 x3 x5 t1 : Int} {s : zS} {Q : Int → zS → Prop} (h : (∀ s1 : zS, s1 = zu s 45 64 t1 → ((-2147483648 ≤ x5 ∧ x5 ≤ 2147483647) ∧ (x5 = 0 → (0 ≤ (s1 45 63) ∧ (s1 45 63) < 8) ∧ w_155_134 X x1 x2 x3 (s1 65 (s1 45 63)) s1 Q) ∧ (¬ x5 = 0 → (0 ≤ (s1 45 63) ∧ (s1 45 63) < 8) ∧ w_155_134 X x1 x2 x3 (s1 66 (s1 45 63)) s1 Q)))) : w_155_104 X x1 x2 x3 x5 t1 s Q := by
  intro hZ d hd
  have hM : xi_ml[155]? = some xm_155 := rfl
  obtain ⟨s1, e1⟩ : ∃ q : zS, q = zu s 45 64 t1 := ⟨_, rfl⟩
  refine gj_put hM hZ rfl rfl rfl (Nat.le_of_ble_eq_true rfl) rfl rfl zq_45_64 e1 ?_
  replace h := h _ e1
  refine gx_r hM hZ 2 (B := (110, [some (.ref 45), some (.int (Int32.ofInt x1)), some (.int (Int32.ofInt x2)), some (.int (Int32.ofInt x3)), none, some (.int (Int32.ofInt x5))], [.int (Int32.ofInt x5), .ref 45], zw X s1)) rfl ?_
  refine gi_if1 hM hZ (fun x => decide (x = 0)) (p := x5 = 0) rfl rfl (zd_eq h.1) ?_ ?_
  · intro hp
    replace h := h.2.1 hp
    refine gx_r hM hZ 4 (B := (133, [some (.ref 45), some (.int (Int32.ofInt x1)), some (.int (Int32.ofInt x2)), some (.int (Int32.ofInt x3)), none, some (.int (Int32.ofInt x5))], [.int (Int32.ofInt (s1 45 63)), .ref 65, .ref 45], zw X s1)) rfl ?_
    refine gi_iald hM hZ (s := s1) (len := 8) rfl rfl (Nat.le_of_ble_eq_true rfl) h.1 ?_
    replace h := h.2
    exact gx_fg [true, true, true, true, false, false] (h hZ d hd)
  · intro hp
    replace h := h.2.2 hp
    refine gx_r hM hZ 4 (B := (121, [some (.ref 45), some (.int (Int32.ofInt x1)), some (.int (Int32.ofInt x2)), some (.int (Int32.ofInt x3)), none, some (.int (Int32.ofInt x5))], [.int (Int32.ofInt (s1 45 63)), .ref 66, .ref 45], zw X s1)) rfl ?_
    refine gi_iald hM hZ (s := s1) (len := 8) rfl rfl (Nat.le_of_ble_eq_true rfl) h.1 ?_
    replace h := h.2
    refine gx_r hM hZ 1 (B := (134, [some (.ref 45), some (.int (Int32.ofInt x1)), some (.int (Int32.ofInt x2)), some (.int (Int32.ofInt x3)), none, some (.int (Int32.ofInt x5))], [.int (Int32.ofInt (s1 66 (s1 45 63))), .ref 45], zw X s1)) rfl ?_
    exact gx_fg [true, true, true, true, false, false] (h hZ d hd)
theorem w_155_134_i {X : zX} {x1 x2 x3 t1 : Int} {s : zS} {Q : Int → zS → Prop} (h : (∀ s1 : zS, s1 = zu s 45 63 t1 → w_155_38 X x1 x2 (x3 + 1) s1 Q)) : w_155_134 X x1 x2 x3 t1 s Q := by
  intro hZ d hd
  have hM : xi_ml[155]? = some xm_155 := rfl
  obtain ⟨s1, e1⟩ : ∃ q : zS, q = zu s 45 63 t1 := ⟨_, rfl⟩
  refine gj_put hM hZ rfl rfl rfl (Nat.le_of_ble_eq_true rfl) rfl rfl zq_45_63 e1 ?_
  replace h := h _ e1
  refine gi_inc hM hZ (x := x3) (m := 1) rfl rfl ?_
  refine gx_r hM hZ 0 (B := (140, [some (.ref 45), some (.int (Int32.ofInt x1)), some (.int (Int32.ofInt x2)), some (.int (Int32.ofInt (x3 + 1))), none, none], [], zw X s1)) rfl ?_
  refine gx_r hM hZ 1 (B := (38, [some (.ref 45), some (.int (Int32.ofInt x1)), some (.int (Int32.ofInt x2)), some (.int (Int32.ofInt (x3 + 1))), none, none], [], zw X s1)) rfl ?_
  exact gx_fg [true, true, true, true, false, false] (h hZ d hd)
-- RootLoom.type
def w_2 (X : zX) (x1 x2 x3 : Int) (s : zS) (Q : Int → zS → Prop) : Prop := wW X 2 xm_2 2 (0, [some (.ref 2), some (.int (Int32.ofInt x1)), some (.int (Int32.ofInt x2)), some (.int (Int32.ofInt x3))], [], zw X s) Q
theorem w_2_i {X : zX} {x1 x2 x3 : Int} {s : zS} {Q : Int → zS → Prop} (h : (w_19 X x1 x2 x3 s (fun v1 s1 => ((v1 = 0 ∨ v1 = 1) ∧ Q v1 s1)))) : w_2 X x1 x2 x3 s Q := by
  intro hZ d hd
  have hM : xi_ml[2]? = some xm_2 := rfl
  refine gx_r hM hZ 5 (B := (7, [some (.ref 2), some (.int (Int32.ofInt x1)), some (.int (Int32.ofInt x2)), some (.int (Int32.ofInt x3))], [.int (Int32.ofInt x3), .int (Int32.ofInt x2), .int (Int32.ofInt x1), .ref 3], zw X s)) rfl ?_
  refine gi_call hM (s := s) (hj := 1) hZ rfl rfl (by omega) h ?_
  intro v1 s1 h
  exact ⟨_, xi_To.rf _ _ _ _, v1, s1, zb_end rfl rfl h.1, h.2⟩
-- RootLoom.function
def w_3 (X : zX) (x1 x2 x3 x4 x5 : Int) (s : zS) (Q : Int → zS → Prop) : Prop := wW X 3 xm_3 2 (0, [some (.ref 2), some (.int (Int32.ofInt x1)), some (.int (Int32.ofInt x2)), some (.int (Int32.ofInt x3)), some (.int (Int32.ofInt x4)), some (.int (Int32.ofInt x5))], [], zw X s) Q
theorem w_3_i {X : zX} {x1 x2 x3 x4 x5 : Int} {s : zS} {Q : Int → zS → Prop} (h : (w_22 X x1 x2 x3 x4 x5 s (fun v1 s1 => Q v1 s1))) : w_3 X x1 x2 x3 x4 x5 s Q := by
  intro hZ d hd
  have hM : xi_ml[3]? = some xm_3 := rfl
  refine gx_r hM hZ 7 (B := (11, [some (.ref 2), some (.int (Int32.ofInt x1)), some (.int (Int32.ofInt x2)), some (.int (Int32.ofInt x3)), some (.int (Int32.ofInt x4)), some (.int (Int32.ofInt x5))], [.int (Int32.ofInt x5), .int (Int32.ofInt x4), .int (Int32.ofInt x3), .int (Int32.ofInt x2), .int (Int32.ofInt x1), .ref 3], zw X s)) rfl ?_
  refine gi_call hM (s := s) (hj := 1) hZ rfl rfl (by omega) h ?_
  intro v1 s1 h
  exact ⟨_, xi_To.rf _ _ _ _, v1, s1, rfl, h⟩
-- RootLoom.latest
def w_13 (X : zX) (x1 : Int) (s : zS) (Q : Int → zS → Prop) : Prop := wW X 13 xm_13 2 (0, [some (.ref 2), some (.int (Int32.ofInt x1))], [], zw X s) Q
theorem w_13_i {X : zX} {x1 : Int} {s : zS} {Q : Int → zS → Prop} (h : (w_81 X x1 s (fun v1 s1 => Q v1 s1))) : w_13 X x1 s Q := by
  intro hZ d hd
  have hM : xi_ml[13]? = some xm_13 := rfl
  refine gx_r hM hZ 3 (B := (5, [some (.ref 2), some (.int (Int32.ofInt x1))], [.int (Int32.ofInt x1), .ref 31], zw X s)) rfl ?_
  refine gi_call hM (s := s) (hj := 1) hZ rfl rfl (by omega) h ?_
  intro v1 s1 h
  exact ⟨_, xi_To.rf _ _ _ _, v1, s1, rfl, h⟩
-- RootLoom$Source.fits
def w_24 (X : zX) (x1 x2 : Int) (s : zS) (Q : Int → zS → Prop) : Prop := wW X 24 xm_24 2 (0, [some (.ref 3), some (.int (Int32.ofInt x1)), some (.int (Int32.ofInt x2))], [], zw X s) Q
def w_24_55 (X : zX) (s : zS) (Q : Int → zS → Prop) : Prop := wW X 24 xm_24 2 (55, [none, none, none], [], zw X s) Q
def w_24_93 (X : zX) (s : zS) (Q : Int → zS → Prop) : Prop := wW X 24 xm_24 2 (93, [none, none, none], [], zw X s) Q
def w_24_97 (X : zX) (s : zS) (Q : Int → zS → Prop) : Prop := wW X 24 xm_24 2 (97, [none, none, none], [], zw X s) Q
theorem w_24_i {X : zX} {x1 x2 : Int} {s : zS} {Q : Int → zS → Prop} (h : ((-2147483648 ≤ x1 ∧ x1 ≤ 2147483647) ∧ ((x1 < 1 ∨ 5 < x1) → Q 1 s) ∧ ((x1 = 1) → (w_20 X x2 s (fun v1 s1 => ((v1 = 0 ∨ v1 = 1) ∧ Q v1 s1)))) ∧ ((x1 = 2) → ((-2147483648 ≤ x2 ∧ x2 ≤ 2147483647) ∧ (x2 < 0 → w_24_55 X s Q) ∧ (¬ x2 < 0 → ((-2147483648 ≤ x2 ∧ x2 ≤ 2147483647) ∧ (8 ≤ x2 → w_24_55 X s Q) ∧ (¬ 8 ≤ x2 → Q 1 s))))) ∧ ((x1 = 3) → (w_25 X x2 s (fun v2 s2 => ((v2 = 0 ∨ v2 = 1) ∧ Q v2 s2)))) ∧ ((x1 = 4) → (w_26 X x2 s (fun v3 s3 => ((v3 = 0 ∨ v3 = 1) ∧ Q v3 s3)))) ∧ ((x1 = 5) → ((-2147483648 ≤ x2 ∧ x2 ≤ 2147483647) ∧ (x2 = (-1) → w_24_93 X s Q) ∧ (¬ x2 = (-1) → (w_27 X x2 s (fun v4 s4 => ((-2147483648 ≤ v4 ∧ v4 ≤ 2147483647) ∧ (v4 = 0 → w_24_97 X s4 Q) ∧ (¬ v4 = 0 → (0 ≤ x2 ∧ x2 < 150) ∧ ((-2147483648 ≤ (s4 10 x2) ∧ (s4 10 x2) ≤ 2147483647) ∧ (¬ (s4 10 x2) = 13 → w_24_97 X s4 Q) ∧ (¬ ¬ (s4 10 x2) = 13 → w_24_93 X s4 Q))))))))))) : w_24 X x1 x2 s Q := by
  intro hZ d hd
  have hM : xi_ml[24]? = some xm_24 := rfl
  refine gx_r hM hZ 1 (B := (1, [some (.ref 3), some (.int (Int32.ofInt x1)), some (.int (Int32.ofInt x2))], [.int (Int32.ofInt x1)], zw X s)) rfl ?_
  by_cases hq0 : (x1 = 1)
  · refine gi_tab hM hZ (x := x1) (o := 35) rfl h.1 ?_ (by decide) ?_
    · rw [hq0]; rfl
    · replace h := h.2.2.1 hq0
      refine gx_r hM hZ 1 (B := (37, [some (.ref 3), some (.int (Int32.ofInt x1)), some (.int (Int32.ofInt x2))], [.int (Int32.ofInt x2)], zw X s)) rfl ?_
      refine gi_call hM (s := s) (hj := 0) hZ rfl rfl (by omega) h ?_
      intro v1 s1 h
      exact ⟨_, xi_To.rf _ _ _ _, v1, s1, zb_end rfl rfl h.1, h.2⟩
  · by_cases hq1 : (x1 = 2)
    · refine gi_tab hM hZ (x := x1) (o := 40) rfl h.1 ?_ (by decide) ?_
      · rw [hq1]; rfl
      · replace h := h.2.2.2.1 hq1
        refine gx_r hM hZ 1 (B := (42, [some (.ref 3), some (.int (Int32.ofInt x1)), some (.int (Int32.ofInt x2))], [.int (Int32.ofInt x2)], zw X s)) rfl ?_
        refine gi_if1 hM hZ (fun x => decide (x < 0)) (p := x2 < 0) rfl rfl (zd_lt h.1) ?_ ?_
        · intro hp
          replace h := h.2.1 hp
          exact gx_fg [false, false, false] (h hZ d hd)
        · intro hp
          replace h := h.2.2 hp
          refine gx_r hM hZ 1 (B := (46, [some (.ref 3), some (.int (Int32.ofInt x1)), some (.int (Int32.ofInt x2))], [.int (Int32.ofInt x2)], zw X s)) rfl ?_
          refine gi_bip hM hZ rfl rfl ?_
          refine gi_if2 hM hZ (fun x y => decide (y ≤ x)) (p := 8 ≤ x2) rfl rfl (zc_ge h.1 (by decide)) ?_ ?_
          · intro hp
            replace h := h.2.1 hp
            exact gx_fg [false, false, false] (h hZ d hd)
          · intro hp
            replace h := h.2.2 hp
            refine gx_r hM hZ 2 (B := (56, [some (.ref 3), some (.int (Int32.ofInt x1)), some (.int (Int32.ofInt x2))], [.int (Int32.ofInt 1)], zw X s)) rfl ?_
            exact ⟨_, xi_To.rf _ _ _ _, 1, s, rfl, h⟩
    · by_cases hq2 : (x1 = 3)
      · refine gi_tab hM hZ (x := x1) (o := 56) rfl h.1 ?_ (by decide) ?_
        · rw [hq2]; rfl
        · replace h := h.2.2.2.2.1 hq2
          refine gx_r hM hZ 2 (B := (59, [some (.ref 3), some (.int (Int32.ofInt x1)), some (.int (Int32.ofInt x2))], [.int (Int32.ofInt x2), .ref 3], zw X s)) rfl ?_
          refine gi_call hM (s := s) (hj := 0) hZ rfl rfl (by omega) h ?_
          intro v2 s2 h
          exact ⟨_, xi_To.rf _ _ _ _, v2, s2, zb_end rfl rfl h.1, h.2⟩
      · by_cases hq3 : (x1 = 4)
        · refine gi_tab hM hZ (x := x1) (o := 62) rfl h.1 ?_ (by decide) ?_
          · rw [hq3]; rfl
          · replace h := h.2.2.2.2.2.1 hq3
            refine gx_r hM hZ 2 (B := (65, [some (.ref 3), some (.int (Int32.ofInt x1)), some (.int (Int32.ofInt x2))], [.int (Int32.ofInt x2), .ref 3], zw X s)) rfl ?_
            refine gi_call hM (s := s) (hj := 1) hZ rfl rfl (by omega) h ?_
            intro v3 s3 h
            exact ⟨_, xi_To.rf _ _ _ _, v3, s3, zb_end rfl rfl h.1, h.2⟩
        · by_cases hq4 : (x1 = 5)
          · refine gi_tab hM hZ (x := x1) (o := 68) rfl h.1 ?_ (by decide) ?_
            · rw [hq4]; rfl
            · replace h := h.2.2.2.2.2.2 hq4
              refine gx_r hM hZ 2 (B := (71, [some (.ref 3), some (.int (Int32.ofInt x1)), some (.int (Int32.ofInt x2))], [.int (Int32.ofInt (-1)), .int (Int32.ofInt x2)], zw X s)) rfl ?_
              refine gi_if2 hM hZ (fun x y => decide (x = y)) (p := x2 = (-1)) rfl rfl (zc_eq h.1 (by decide)) ?_ ?_
              · intro hp
                replace h := h.2.1 hp
                exact gx_fg [false, false, false] (h hZ d hd)
              · intro hp
                replace h := h.2.2 hp
                refine gx_r hM hZ 2 (B := (76, [some (.ref 3), some (.int (Int32.ofInt x1)), some (.int (Int32.ofInt x2))], [.int (Int32.ofInt x2), .ref 3], zw X s)) rfl ?_
                refine gi_call hM (s := s) (hj := 0) hZ rfl rfl (by omega) h ?_
                intro v4 s4 h
                refine gi_if1 hM hZ (fun x => decide (x = 0)) (p := v4 = 0) rfl rfl (zd_eq h.1) ?_ ?_
                · intro hp
                  replace h := h.2.1 hp
                  exact gx_fg [false, false, false] (h hZ d hd)
                · intro hp
                  replace h := h.2.2 hp
                  refine gx_r hM hZ 3 (B := (87, [some (.ref 3), some (.int (Int32.ofInt x1)), some (.int (Int32.ofInt x2))], [.int (Int32.ofInt x2), .ref 10], zw X s4)) rfl ?_
                  refine gi_iald hM hZ (s := s4) (len := 150) rfl rfl (Nat.le_of_ble_eq_true rfl) h.1 ?_
                  replace h := h.2
                  refine gi_bip hM hZ rfl rfl ?_
                  refine gi_if2 hM hZ (fun x y => decide (¬ x = y)) (p := ¬ (s4 10 x2) = 13) rfl rfl (zc_ne h.1 (by decide)) ?_ ?_
                  · intro hp
                    replace h := h.2.1 hp
                    exact gx_fg [false, false, false] (h hZ d hd)
                  · intro hp
                    replace h := h.2.2 hp
                    exact gx_fg [false, false, false] (h hZ d hd)
          · refine gi_tab hM hZ (x := x1) (o := 98) rfl h.1 ?_ (by decide) ?_
            · exact if_pos (by omega)
            · replace h := h.2.1 (by omega)
              refine gx_r hM hZ 1 (B := (100, [some (.ref 3), some (.int (Int32.ofInt x1)), some (.int (Int32.ofInt x2))], [.int (Int32.ofInt 1)], zw X s)) rfl ?_
              exact ⟨_, xi_To.rf _ _ _ _, 1, s, rfl, h⟩
theorem w_24_55_i {X : zX} {s : zS} {Q : Int → zS → Prop} (h : Q 0 s) : w_24_55 X s Q := by
  intro hZ d hd
  have hM : xi_ml[24]? = some xm_24 := rfl
  refine gx_r hM hZ 1 (B := (56, [none, none, none], [.int (Int32.ofInt 0)], zw X s)) rfl ?_
  exact ⟨_, xi_To.rf _ _ _ _, 0, s, rfl, h⟩
theorem w_24_93_i {X : zX} {s : zS} {Q : Int → zS → Prop} (h : Q 1 s) : w_24_93 X s Q := by
  intro hZ d hd
  have hM : xi_ml[24]? = some xm_24 := rfl
  refine gx_r hM hZ 2 (B := (98, [none, none, none], [.int (Int32.ofInt 1)], zw X s)) rfl ?_
  exact ⟨_, xi_To.rf _ _ _ _, 1, s, rfl, h⟩
theorem w_24_97_i {X : zX} {s : zS} {Q : Int → zS → Prop} (h : Q 0 s) : w_24_97 X s Q := by
  intro hZ d hd
  have hM : xi_ml[24]? = some xm_24 := rfl
  refine gx_r hM hZ 1 (B := (98, [none, none, none], [.int (Int32.ofInt 0)], zw X s)) rfl ?_
  exact ⟨_, xi_To.rf _ _ _ _, 0, s, rfl, h⟩
-- RootLoom$Source.measure
def w_28 (X : zX) (x1 : Int) (s : zS) (Q : Int → zS → Prop) : Prop := wW X 28 xm_28 2 (0, [some (.ref 3), some (.int (Int32.ofInt x1)), none, none, none, none], [], zw X s) Q
def w_28_15 (X : zX) (x1 x2 x3 x4 : Int) (s : zS) (Q : Int → zS → Prop) : Prop := wW X 28 xm_28 2 (15, [some (.ref 3), some (.int (Int32.ofInt x1)), some (.int (Int32.ofInt x2)), some (.int (Int32.ofInt x3)), some (.int (Int32.ofInt x4)), none], [], zw X s) Q
def w_28_70 (X : zX) (x1 x2 x3 x4 : Int) (s : zS) (Q : Int → zS → Prop) : Prop := wW X 28 xm_28 2 (70, [some (.ref 3), some (.int (Int32.ofInt x1)), some (.int (Int32.ofInt x2)), some (.int (Int32.ofInt x3)), some (.int (Int32.ofInt x4)), none], [], zw X s) Q
theorem w_28_i {X : zX} {x1 : Int} {s : zS} {Q : Int → zS → Prop} (h : (0 ≤ x1 ∧ x1 < 150) ∧ (w_29 X (s 10 x1) s (fun v1 s1 => w_28_15 X x1 v1 1 0 s1 Q))) : w_28 X x1 s Q := by
  intro hZ d hd
  have hM : xi_ml[28]? = some xm_28 := rfl
  refine gx_r hM hZ 3 (B := (5, [some (.ref 3), some (.int (Int32.ofInt x1)), none, none, none, none], [.int (Int32.ofInt x1), .ref 10], zw X s)) rfl ?_
  refine gi_iald hM hZ (s := s) (len := 150) rfl rfl (Nat.le_of_ble_eq_true rfl) h.1 ?_
  replace h := h.2
  refine gi_call hM (s := s) (hj := 0) hZ rfl rfl (by omega) h ?_
  intro v1 s1 h
  refine gx_r hM hZ 5 (B := (15, [some (.ref 3), some (.int (Int32.ofInt x1)), some (.int (Int32.ofInt v1)), some (.int (Int32.ofInt 1)), some (.int (Int32.ofInt 0)), none], [], zw X s1)) rfl ?_
  exact gx_fg [true, true, true, true, true, false] (h hZ d hd)
theorem w_28_15_i {X : zX} {x1 x2 x3 x4 : Int} {s : zS} {Q : Int → zS → Prop} (h : ((-2147483648 ≤ x4 ∧ x4 ≤ 2147483647) ∧ (3 ≤ x4 → (w_158 X x2 401 s (fun v1 s1 => (0 ≤ x1 ∧ x1 < 150) ∧ (∀ s2 : zS, s2 = zu s1 12 x1 v1 → (0 ≤ x1 ∧ x1 < 150) ∧ (∀ s3 : zS, s3 = zu s2 13 x1 x3 → Q 0 s3))))) ∧ (¬ 3 ≤ x4 → (w_30 X x1 x4 s (fun v4 s4 => ((-2147483648 ≤ v4 ∧ v4 ≤ 2147483647) ∧ (v4 = (-1) → w_28_70 X x1 x2 x3 x4 s4 Q) ∧ (¬ v4 = (-1) → (0 ≤ v4 ∧ v4 < 150) ∧ (0 ≤ x1 ∧ x1 < 150) ∧ (w_32 X (s4 10 x1) x4 s4 (fun v5 s5 => (0 ≤ v4 ∧ v4 < 150) ∧ (w_157 X x3 (v5 + (s5 13 v4)) s5 (fun v6 s6 => w_28_70 X x1 (x2 + (s4 12 v4)) v6 x4 s6 Q))))))))))) : w_28_15 X x1 x2 x3 x4 s Q := by
  intro hZ d hd
  have hM : xi_ml[28]? = some xm_28 := rfl
  refine gx_r hM hZ 2 (B := (18, [some (.ref 3), some (.int (Int32.ofInt x1)), some (.int (Int32.ofInt x2)), some (.int (Int32.ofInt x3)), some (.int (Int32.ofInt x4)), none], [.int (Int32.ofInt 3), .int (Int32.ofInt x4)], zw X s)) rfl ?_
  refine gi_if2 hM hZ (fun x y => decide (y ≤ x)) (p := 3 ≤ x4) rfl rfl (zc_ge h.1 (by decide)) ?_ ?_
  · intro hp
    replace h := h.2.1 hp
    refine gx_r hM hZ 4 (B := (82, [some (.ref 3), some (.int (Int32.ofInt x1)), some (.int (Int32.ofInt x2)), some (.int (Int32.ofInt x3)), some (.int (Int32.ofInt x4)), none], [.int (Int32.ofInt x2), .int (Int32.ofInt x1), .ref 12], zw X s)) rfl ?_
    refine gi_sip hM hZ rfl rfl ?_
    refine gi_call hM (s := s) (hj := 0) hZ rfl rfl (by omega) h ?_
    intro v1 s1 h
    obtain ⟨s2, e2⟩ : ∃ q : zS, q = zu s1 12 x1 v1 := ⟨_, rfl⟩
    refine gj_iast hM hZ (len := 150) rfl rfl (Nat.le_of_ble_eq_true rfl) zp_12 h.1 e2 ?_
    replace h := h.2 _ e2
    refine gx_r hM hZ 4 (B := (95, [some (.ref 3), some (.int (Int32.ofInt x1)), some (.int (Int32.ofInt x2)), some (.int (Int32.ofInt x3)), some (.int (Int32.ofInt x4)), none], [.int (Int32.ofInt x3), .int (Int32.ofInt x1), .ref 13], zw X s2)) rfl ?_
    obtain ⟨s3, e3⟩ : ∃ q : zS, q = zu s2 13 x1 x3 := ⟨_, rfl⟩
    refine gj_iast hM hZ (len := 150) rfl rfl (Nat.le_of_ble_eq_true rfl) zp_13 h.1 e3 ?_
    replace h := h.2 _ e3
    exact ⟨_, xi_To.rf _ _ _ _, 0, s3, rfl, h⟩
  · intro hp
    replace h := h.2.2 hp
    refine gx_r hM hZ 3 (B := (25, [some (.ref 3), some (.int (Int32.ofInt x1)), some (.int (Int32.ofInt x2)), some (.int (Int32.ofInt x3)), some (.int (Int32.ofInt x4)), none], [.int (Int32.ofInt x4), .int (Int32.ofInt x1), .ref 3], zw X s)) rfl ?_
    refine gi_call hM (s := s) (hj := 1) hZ rfl rfl (by omega) h ?_
    intro v4 s4 h
    refine gx_r hM hZ 3 (B := (33, [some (.ref 3), some (.int (Int32.ofInt x1)), some (.int (Int32.ofInt x2)), some (.int (Int32.ofInt x3)), some (.int (Int32.ofInt x4)), some (.int (Int32.ofInt v4))], [.int (Int32.ofInt (-1)), .int (Int32.ofInt v4)], zw X s4)) rfl ?_
    refine gi_if2 hM hZ (fun x y => decide (x = y)) (p := v4 = (-1)) rfl rfl (zc_eq h.1 (by decide)) ?_ ?_
    · intro hp
      replace h := h.2.1 hp
      exact gx_fg [true, true, true, true, true, false] (h hZ d hd)
    · intro hp
      replace h := h.2.2 hp
      refine gx_r hM hZ 4 (B := (43, [some (.ref 3), some (.int (Int32.ofInt x1)), some (.int (Int32.ofInt x2)), some (.int (Int32.ofInt x3)), some (.int (Int32.ofInt x4)), some (.int (Int32.ofInt v4))], [.int (Int32.ofInt v4), .ref 12, .int (Int32.ofInt x2)], zw X s4)) rfl ?_
      refine gi_iald hM hZ (s := s4) (len := 150) rfl rfl (Nat.le_of_ble_eq_true rfl) h.1 ?_
      replace h := h.2
      refine gi_add hM hZ rfl ?_
      refine gx_r hM hZ 5 (B := (52, [some (.ref 3), some (.int (Int32.ofInt x1)), some (.int (Int32.ofInt (x2 + (s4 12 v4)))), some (.int (Int32.ofInt x3)), some (.int (Int32.ofInt x4)), some (.int (Int32.ofInt v4))], [.int (Int32.ofInt x1), .ref 10, .int (Int32.ofInt x3)], zw X s4)) rfl ?_
      refine gi_iald hM hZ (s := s4) (len := 150) rfl rfl (Nat.le_of_ble_eq_true rfl) h.1 ?_
      replace h := h.2
      refine gx_r hM hZ 1 (B := (55, [some (.ref 3), some (.int (Int32.ofInt x1)), some (.int (Int32.ofInt (x2 + (s4 12 v4)))), some (.int (Int32.ofInt x3)), some (.int (Int32.ofInt x4)), some (.int (Int32.ofInt v4))], [.int (Int32.ofInt x4), .int (Int32.ofInt (s4 10 x1)), .int (Int32.ofInt x3)], zw X s4)) rfl ?_
      refine gi_call hM (s := s4) (hj := 0) hZ rfl rfl (by omega) h ?_
      intro v5 s5 h
      refine gx_r hM hZ 3 (B := (64, [some (.ref 3), some (.int (Int32.ofInt x1)), some (.int (Int32.ofInt (x2 + (s4 12 v4)))), some (.int (Int32.ofInt x3)), some (.int (Int32.ofInt x4)), some (.int (Int32.ofInt v4))], [.int (Int32.ofInt v4), .ref 13, .int (Int32.ofInt v5), .int (Int32.ofInt x3)], zw X s5)) rfl ?_
      refine gi_iald hM hZ (s := s5) (len := 150) rfl rfl (Nat.le_of_ble_eq_true rfl) h.1 ?_
      replace h := h.2
      refine gi_add hM hZ rfl ?_
      refine gi_call hM (s := s5) (hj := 0) hZ rfl rfl (by omega) h ?_
      intro v6 s6 h
      refine gx_r hM hZ 1 (B := (70, [some (.ref 3), some (.int (Int32.ofInt x1)), some (.int (Int32.ofInt (x2 + (s4 12 v4)))), some (.int (Int32.ofInt v6)), some (.int (Int32.ofInt x4)), some (.int (Int32.ofInt v4))], [], zw X s6)) rfl ?_
      exact gx_fg [true, true, true, true, true, false] (h hZ d hd)
theorem w_28_70_i {X : zX} {x1 x2 x3 x4 : Int} {s : zS} {Q : Int → zS → Prop} (h : w_28_15 X x1 x2 x3 (x4 + 1) s Q) : w_28_70 X x1 x2 x3 x4 s Q := by
  intro hZ d hd
  have hM : xi_ml[28]? = some xm_28 := rfl
  refine gi_inc hM hZ (x := x4) (m := 1) rfl rfl ?_
  refine gx_r hM hZ 0 (B := (73, [some (.ref 3), some (.int (Int32.ofInt x1)), some (.int (Int32.ofInt x2)), some (.int (Int32.ofInt x3)), some (.int (Int32.ofInt (x4 + 1))), none], [], zw X s)) rfl ?_
  refine gx_r hM hZ 1 (B := (15, [some (.ref 3), some (.int (Int32.ofInt x1)), some (.int (Int32.ofInt x2)), some (.int (Int32.ofInt x3)), some (.int (Int32.ofInt (x4 + 1))), none], [], zw X s)) rfl ?_
  exact gx_fg [true, true, true, true, true, false] (h hZ d hd)
-- RootLoom$Source.setBody
def w_33 (X : zX) (x1 x2 : Int) (s : zS) (Q : Int → zS → Prop) : Prop := wW X 33 xm_33 2 (0, [some (.ref 3), some (.int (Int32.ofInt x1)), some (.int (Int32.ofInt x2))], [], zw X s) Q
def w_33_21 (X : zX) (s : zS) (Q : Int → zS → Prop) : Prop := wW X 33 xm_33 2 (21, [none, none, none], [], zw X s) Q
def w_33_23 (X : zX) (x1 x2 : Int) (s : zS) (Q : Int → zS → Prop) : Prop := wW X 33 xm_33 2 (23, [some (.ref 3), some (.int (Int32.ofInt x1)), some (.int (Int32.ofInt x2))], [], zw X s) Q
theorem w_33_i {X : zX} {x1 x2 : Int} {s : zS} {Q : Int → zS → Prop} (h : (w_25 X x1 s (fun v1 s1 => ((-2147483648 ≤ v1 ∧ v1 ≤ 2147483647) ∧ (v1 = 0 → w_33_21 X s1 Q) ∧ (¬ v1 = 0 → ((-2147483648 ≤ x2 ∧ x2 ≤ 2147483647) ∧ (x2 = (-1) → w_33_23 X x1 x2 s1 Q) ∧ (¬ x2 = (-1) → (w_26 X x2 s1 (fun v2 s2 => ((-2147483648 ≤ v2 ∧ v2 ≤ 2147483647) ∧ (¬ v2 = 0 → w_33_23 X x1 x2 s2 Q) ∧ (¬ ¬ v2 = 0 → w_33_21 X s2 Q))))))))))) : w_33 X x1 x2 s Q := by
  intro hZ d hd
  have hM : xi_ml[33]? = some xm_33 := rfl
  refine gx_r hM hZ 2 (B := (2, [some (.ref 3), some (.int (Int32.ofInt x1)), some (.int (Int32.ofInt x2))], [.int (Int32.ofInt x1), .ref 3], zw X s)) rfl ?_
  refine gi_call hM (s := s) (hj := 0) hZ rfl rfl (by omega) h ?_
  intro v1 s1 h
  refine gi_if1 hM hZ (fun x => decide (x = 0)) (p := v1 = 0) rfl rfl (zd_eq h.1) ?_ ?_
  · intro hp
    replace h := h.2.1 hp
    exact gx_fg [false, false, false] (h hZ d hd)
  · intro hp
    replace h := h.2.2 hp
    refine gx_r hM hZ 2 (B := (10, [some (.ref 3), some (.int (Int32.ofInt x1)), some (.int (Int32.ofInt x2))], [.int (Int32.ofInt (-1)), .int (Int32.ofInt x2)], zw X s1)) rfl ?_
    refine gi_if2 hM hZ (fun x y => decide (x = y)) (p := x2 = (-1)) rfl rfl (zc_eq h.1 (by decide)) ?_ ?_
    · intro hp
      replace h := h.2.1 hp
      exact gx_fg [true, true, true] (h hZ d hd)
    · intro hp
      replace h := h.2.2 hp
      refine gx_r hM hZ 2 (B := (15, [some (.ref 3), some (.int (Int32.ofInt x1)), some (.int (Int32.ofInt x2))], [.int (Int32.ofInt x2), .ref 3], zw X s1)) rfl ?_
      refine gi_call hM (s := s1) (hj := 1) hZ rfl rfl (by omega) h ?_
      intro v2 s2 h
      refine gi_if1 hM hZ (fun x => decide (¬ x = 0)) (p := ¬ v2 = 0) rfl rfl (zd_ne h.1) ?_ ?_
      · intro hp
        replace h := h.2.1 hp
        exact gx_fg [true, true, true] (h hZ d hd)
      · intro hp
        replace h := h.2.2 hp
        exact gx_fg [false, false, false] (h hZ d hd)
theorem w_33_21_i {X : zX} {s : zS} {Q : Int → zS → Prop} (h : Q 0 s) : w_33_21 X s Q := by
  intro hZ d hd
  have hM : xi_ml[33]? = some xm_33 := rfl
  refine gx_r hM hZ 1 (B := (22, [none, none, none], [.int (Int32.ofInt 0)], zw X s)) rfl ?_
  exact ⟨_, xi_To.rf _ _ _ _, 0, s, rfl, h⟩
theorem w_33_23_i {X : zX} {x1 x2 : Int} {s : zS} {Q : Int → zS → Prop} (h : (0 ≤ x1 ∧ x1 < 6) ∧ (∀ s1 : zS, s1 = zu s 9 x1 x2 → Q 1 s1)) : w_33_23 X x1 x2 s Q := by
  intro hZ d hd
  have hM : xi_ml[33]? = some xm_33 := rfl
  refine gx_r hM hZ 4 (B := (29, [some (.ref 3), some (.int (Int32.ofInt x1)), some (.int (Int32.ofInt x2))], [.int (Int32.ofInt x2), .int (Int32.ofInt x1), .ref 9], zw X s)) rfl ?_
  obtain ⟨s1, e1⟩ : ∃ q : zS, q = zu s 9 x1 x2 := ⟨_, rfl⟩
  refine gj_iast hM hZ (len := 6) rfl rfl (Nat.le_of_ble_eq_true rfl) zp_9 h.1 e1 ?_
  replace h := h.2 _ e1
  refine gx_r hM hZ 1 (B := (31, [some (.ref 3), some (.int (Int32.ofInt x1)), some (.int (Int32.ofInt x2))], [.int (Int32.ofInt 1)], zw X s1)) rfl ?_
  exact ⟨_, xi_To.rf _ _ _ _, 1, s1, rfl, h⟩
-- RootLoom$Weaver.weaveSum
def w_52 (X : zX) (x1 : Int) (s : zS) (Q : Int → zS → Prop) : Prop := wW X 52 xm_52 2 (0, [some (.ref 22), some (.int (Int32.ofInt x1))], [], zw X s) Q
theorem w_52_i {X : zX} {x1 : Int} {s : zS} {Q : Int → zS → Prop} (h : (w_39 X x1 0 s (fun v1 s1 => (w_53 X s1 (fun _ s2 => (w_53 X s2 (fun _ s3 => (w_49 X 0 s3 (fun _ s4 => Q 0 s4))))))))) : w_52 X x1 s Q := by
  intro hZ d hd
  have hM : xi_ml[52]? = some xm_52 := rfl
  refine gx_r hM hZ 4 (B := (6, [some (.ref 22), some (.int (Int32.ofInt x1))], [.int (Int32.ofInt 0), .int (Int32.ofInt x1), .ref 14], zw X s)) rfl ?_
  refine gi_call hM (s := s) (hj := 0) hZ rfl rfl (by omega) h ?_
  intro v1 s1 h
  refine gx_r hM hZ 2 (B := (11, [some (.ref 22), some (.int (Int32.ofInt x1))], [.ref 22], zw X s1)) rfl ?_
  refine gi_call hM (s := s1) (hj := 1) hZ rfl rfl (by omega) h ?_
  intro _ s2 h
  refine gx_r hM hZ 1 (B := (15, [some (.ref 22), some (.int (Int32.ofInt x1))], [.ref 22], zw X s2)) rfl ?_
  refine gi_call hM (s := s2) (hj := 1) hZ rfl rfl (by omega) h ?_
  intro _ s3 h
  refine gx_r hM hZ 2 (B := (20, [some (.ref 22), some (.int (Int32.ofInt x1))], [.int (Int32.ofInt 0), .ref 22], zw X s3)) rfl ?_
  refine gi_call hM (s := s3) (hj := 0) hZ rfl rfl (by omega) h ?_
  intro _ s4 h
  exact ⟨_, xi_To.rf _ _ _ _, 0, s4, rfl, h⟩
-- RootLoom$Weaver.weaveNew
def w_55 (X : zX) (x1 : Int) (s : zS) (Q : Int → zS → Prop) : Prop := wW X 55 xm_55 2 (0, [some (.ref 22), some (.int (Int32.ofInt x1))], [], zw X s) Q
def w_55_29 (X : zX) (x1 t1 : Int) (s : zS) (Q : Int → zS → Prop) : Prop := wW X 55 xm_55 2 (29, [some (.ref 22), some (.int (Int32.ofInt x1))], [.int (Int32.ofInt t1), .ref 22], zw X s) Q
def w_55_54 (X : zX) (x1 t1 : Int) (s : zS) (Q : Int → zS → Prop) : Prop := wW X 55 xm_55 2 (54, [some (.ref 22), some (.int (Int32.ofInt x1))], [.int (Int32.ofInt t1), .ref 22], zw X s) Q
theorem w_55_i {X : zX} {x1 : Int} {s : zS} {Q : Int → zS → Prop} (h : (w_56 X 6 x1 s (fun _ s1 => (w_54 X s1 (fun v2 s2 => (0 ≤ x1 ∧ x1 < 8) ∧ (((-2147483648 ≤ v2 ∧ v2 ≤ 2147483647) ∧ (-2147483648 ≤ (s2 5 x1) ∧ (s2 5 x1) ≤ 2147483647)) ∧ (¬ v2 = (s2 5 x1) → w_55_29 X x1 0 s2 Q) ∧ (¬ ¬ v2 = (s2 5 x1) → w_55_29 X x1 1 s2 Q))))))) : w_55 X x1 s Q := by
  intro hZ d hd
  have hM : xi_ml[55]? = some xm_55 := rfl
  refine gx_r hM hZ 1 (B := (1, [some (.ref 22), some (.int (Int32.ofInt x1))], [.ref 22], zw X s)) rfl ?_
  refine gi_bip hM hZ rfl rfl ?_
  refine gx_r hM hZ 1 (B := (4, [some (.ref 22), some (.int (Int32.ofInt x1))], [.int (Int32.ofInt x1), .int (Int32.ofInt 6), .ref 22], zw X s)) rfl ?_
  refine gi_call hM (s := s) (hj := 1) hZ rfl rfl (by omega) h ?_
  intro _ s1 h
  refine gx_r hM hZ 2 (B := (9, [some (.ref 22), some (.int (Int32.ofInt x1))], [.ref 22, .ref 22], zw X s1)) rfl ?_
  refine gi_call hM (s := s1) (hj := 0) hZ rfl rfl (by omega) h ?_
  intro v2 s2 h
  refine gx_r hM hZ 4 (B := (20, [some (.ref 22), some (.int (Int32.ofInt x1))], [.int (Int32.ofInt x1), .ref 5, .int (Int32.ofInt v2), .ref 22], zw X s2)) rfl ?_
  refine gi_iald hM hZ (s := s2) (len := 8) rfl rfl (Nat.le_of_ble_eq_true rfl) h.1 ?_
  replace h := h.2
  refine gi_if2 hM hZ (fun x y => decide (¬ x = y)) (p := ¬ v2 = (s2 5 x1)) rfl rfl (zc_ne h.1.1 h.1.2) ?_ ?_
  · intro hp
    replace h := h.2.1 hp
    refine gx_r hM hZ 1 (B := (29, [some (.ref 22), some (.int (Int32.ofInt x1))], [.int (Int32.ofInt 0), .ref 22], zw X s2)) rfl ?_
    exact gx_fg [true, true] (h hZ d hd)
  · intro hp
    replace h := h.2.2 hp
    refine gx_r hM hZ 2 (B := (29, [some (.ref 22), some (.int (Int32.ofInt x1))], [.int (Int32.ofInt 1), .ref 22], zw X s2)) rfl ?_
    exact gx_fg [true, true] (h hZ d hd)
theorem w_55_29_i {X : zX} {x1 t1 : Int} {s : zS} {Q : Int → zS → Prop} (h : (w_51 X t1 s (fun _ s1 => (w_54 X s1 (fun v2 s2 => (0 ≤ x1 ∧ x1 < 8) ∧ (((-2147483648 ≤ v2 ∧ v2 ≤ 2147483647) ∧ (-2147483648 ≤ (s2 4 x1) ∧ (s2 4 x1) ≤ 2147483647)) ∧ (¬ v2 = (s2 4 x1) → w_55_54 X x1 0 s2 Q) ∧ (¬ ¬ v2 = (s2 4 x1) → w_55_54 X x1 1 s2 Q))))))) : w_55_29 X x1 t1 s Q := by
  intro hZ d hd
  have hM : xi_ml[55]? = some xm_55 := rfl
  refine gi_call hM (s := s) (hj := 0) hZ rfl rfl (by omega) h ?_
  intro _ s1 h
  refine gx_r hM hZ 2 (B := (34, [some (.ref 22), some (.int (Int32.ofInt x1))], [.ref 22, .ref 22], zw X s1)) rfl ?_
  refine gi_call hM (s := s1) (hj := 0) hZ rfl rfl (by omega) h ?_
  intro v2 s2 h
  refine gx_r hM hZ 4 (B := (45, [some (.ref 22), some (.int (Int32.ofInt x1))], [.int (Int32.ofInt x1), .ref 4, .int (Int32.ofInt v2), .ref 22], zw X s2)) rfl ?_
  refine gi_iald hM hZ (s := s2) (len := 8) rfl rfl (Nat.le_of_ble_eq_true rfl) h.1 ?_
  replace h := h.2
  refine gi_if2 hM hZ (fun x y => decide (¬ x = y)) (p := ¬ v2 = (s2 4 x1)) rfl rfl (zc_ne h.1.1 h.1.2) ?_ ?_
  · intro hp
    replace h := h.2.1 hp
    refine gx_r hM hZ 1 (B := (54, [some (.ref 22), some (.int (Int32.ofInt x1))], [.int (Int32.ofInt 0), .ref 22], zw X s2)) rfl ?_
    exact gx_fg [true, true] (h hZ d hd)
  · intro hp
    replace h := h.2.2 hp
    refine gx_r hM hZ 2 (B := (54, [some (.ref 22), some (.int (Int32.ofInt x1))], [.int (Int32.ofInt 1), .ref 22], zw X s2)) rfl ?_
    exact gx_fg [true, true] (h hZ d hd)
theorem w_55_54_i {X : zX} {x1 t1 : Int} {s : zS} {Q : Int → zS → Prop} (h : (w_51 X t1 s (fun _ s1 => (w_49 X x1 s1 (fun _ s2 => Q 0 s2))))) : w_55_54 X x1 t1 s Q := by
  intro hZ d hd
  have hM : xi_ml[55]? = some xm_55 := rfl
  refine gi_call hM (s := s) (hj := 0) hZ rfl rfl (by omega) h ?_
  intro _ s1 h
  refine gx_r hM hZ 2 (B := (59, [some (.ref 22), some (.int (Int32.ofInt x1))], [.int (Int32.ofInt x1), .ref 22], zw X s1)) rfl ?_
  refine gi_call hM (s := s1) (hj := 0) hZ rfl rfl (by omega) h ?_
  intro _ s2 h
  exact ⟨_, xi_To.rf _ _ _ _, 0, s2, rfl, h⟩
-- RootLoom$Weaver.weaveCall
def w_59 (X : zX) (x1 x2 : Int) (s : zS) (Q : Int → zS → Prop) : Prop := wW X 59 xm_59 2 (0, [some (.ref 22), some (.int (Int32.ofInt x1)), some (.int (Int32.ofInt x2)), none], [], zw X s) Q
def w_59_38 (X : zX) (x1 x2 : Int) (s : zS) (Q : Int → zS → Prop) : Prop := wW X 59 xm_59 2 (38, [some (.ref 22), some (.int (Int32.ofInt x1)), some (.int (Int32.ofInt x2)), none], [.ref 22], zw X s) Q
def w_59_39 (X : zX) (x1 x2 t1 : Int) (s : zS) (Q : Int → zS → Prop) : Prop := wW X 59 xm_59 2 (39, [some (.ref 22), some (.int (Int32.ofInt x1)), some (.int (Int32.ofInt x2)), none], [.int (Int32.ofInt t1), .ref 22], zw X s) Q
def w_59_46 (X : zX) (x1 x3 : Int) (s : zS) (Q : Int → zS → Prop) : Prop := wW X 59 xm_59 2 (46, [some (.ref 22), some (.int (Int32.ofInt x1)), none, some (.int (Int32.ofInt x3))], [], zw X s) Q
def w_59_79 (X : zX) (x1 x3 t1 : Int) (s : zS) (Q : Int → zS → Prop) : Prop := wW X 59 xm_59 2 (79, [some (.ref 22), some (.int (Int32.ofInt x1)), none, some (.int (Int32.ofInt x3))], [.int (Int32.ofInt t1), .ref 22], zw X s) Q
def w_59_88 (X : zX) (x1 : Int) (s : zS) (Q : Int → zS → Prop) : Prop := wW X 59 xm_59 2 (88, [some (.ref 22), some (.int (Int32.ofInt x1)), none, none], [], zw X s) Q
theorem w_59_i {X : zX} {x1 x2 : Int} {s : zS} {Q : Int → zS → Prop} (h : (w_56 X 13 x1 s (fun _ s1 => (0 ≤ x1 ∧ x1 < 6) ∧ ((-2147483648 ≤ (s1 9 x1) ∧ (s1 9 x1) ≤ 2147483647) ∧ ((s1 9 x1) = (-1) → w_59_38 X x1 x2 s1 Q) ∧ (¬ (s1 9 x1) = (-1) → (0 ≤ x1 ∧ x1 < 6) ∧ (((-2147483648 ≤ x2 ∧ x2 ≤ 2147483647) ∧ (-2147483648 ≤ (s1 7 x1) ∧ (s1 7 x1) ≤ 2147483647)) ∧ (¬ x2 = (s1 7 x1) → w_59_38 X x1 x2 s1 Q) ∧ (¬ ¬ x2 = (s1 7 x1) → w_59_39 X x1 x2 1 s1 Q))))))) : w_59 X x1 x2 s Q := by
  intro hZ d hd
  have hM : xi_ml[59]? = some xm_59 := rfl
  refine gx_r hM hZ 1 (B := (1, [some (.ref 22), some (.int (Int32.ofInt x1)), some (.int (Int32.ofInt x2)), none], [.ref 22], zw X s)) rfl ?_
  refine gi_bip hM hZ rfl rfl ?_
  refine gx_r hM hZ 1 (B := (4, [some (.ref 22), some (.int (Int32.ofInt x1)), some (.int (Int32.ofInt x2)), none], [.int (Int32.ofInt x1), .int (Int32.ofInt 13), .ref 22], zw X s)) rfl ?_
  refine gi_call hM (s := s) (hj := 1) hZ rfl rfl (by omega) h ?_
  intro _ s1 h
  refine gx_r hM hZ 5 (B := (16, [some (.ref 22), some (.int (Int32.ofInt x1)), some (.int (Int32.ofInt x2)), none], [.int (Int32.ofInt x1), .ref 9, .ref 22], zw X s1)) rfl ?_
  refine gi_iald hM hZ (s := s1) (len := 6) rfl rfl (Nat.le_of_ble_eq_true rfl) h.1 ?_
  replace h := h.2
  refine gx_r hM hZ 1 (B := (18, [some (.ref 22), some (.int (Int32.ofInt x1)), some (.int (Int32.ofInt x2)), none], [.int (Int32.ofInt (-1)), .int (Int32.ofInt (s1 9 x1)), .ref 22], zw X s1)) rfl ?_
  refine gi_if2 hM hZ (fun x y => decide (x = y)) (p := (s1 9 x1) = (-1)) rfl rfl (zc_eq h.1 (by decide)) ?_ ?_
  · intro hp
    replace h := h.2.1 hp
    exact gx_fg [true, true, true, false] (h hZ d hd)
  · intro hp
    replace h := h.2.2 hp
    refine gx_r hM hZ 5 (B := (30, [some (.ref 22), some (.int (Int32.ofInt x1)), some (.int (Int32.ofInt x2)), none], [.int (Int32.ofInt x1), .ref 7, .int (Int32.ofInt x2), .ref 22], zw X s1)) rfl ?_
    refine gi_iald hM hZ (s := s1) (len := 6) rfl rfl (Nat.le_of_ble_eq_true rfl) h.1 ?_
    replace h := h.2
    refine gi_if2 hM hZ (fun x y => decide (¬ x = y)) (p := ¬ x2 = (s1 7 x1)) rfl rfl (zc_ne h.1.1 h.1.2) ?_ ?_
    · intro hp
      replace h := h.2.1 hp
      exact gx_fg [true, true, true, false] (h hZ d hd)
    · intro hp
      replace h := h.2.2 hp
      refine gx_r hM hZ 2 (B := (39, [some (.ref 22), some (.int (Int32.ofInt x1)), some (.int (Int32.ofInt x2)), none], [.int (Int32.ofInt 1), .ref 22], zw X s1)) rfl ?_
      exact gx_fg [true, true, true, false] (h hZ d hd)
theorem w_59_38_i {X : zX} {x1 x2 : Int} {s : zS} {Q : Int → zS → Prop} (h : w_59_39 X x1 x2 0 s Q) : w_59_38 X x1 x2 s Q := by
  intro hZ d hd
  have hM : xi_ml[59]? = some xm_59 := rfl
  refine gx_r hM hZ 1 (B := (39, [some (.ref 22), some (.int (Int32.ofInt x1)), some (.int (Int32.ofInt x2)), none], [.int (Int32.ofInt 0), .ref 22], zw X s)) rfl ?_
  exact gx_fg [true, true, true, false] (h hZ d hd)
theorem w_59_39_i {X : zX} {x1 x2 t1 : Int} {s : zS} {Q : Int → zS → Prop} (h : (w_51 X t1 s (fun _ s1 => w_59_46 X x1 (x2 - 1) s1 Q))) : w_59_39 X x1 x2 t1 s Q := by
  intro hZ d hd
  have hM : xi_ml[59]? = some xm_59 := rfl
  refine gi_call hM (s := s) (hj := 0) hZ rfl rfl (by omega) h ?_
  intro _ s1 h
  refine gx_r hM hZ 2 (B := (44, [some (.ref 22), some (.int (Int32.ofInt x1)), some (.int (Int32.ofInt x2)), none], [.int (Int32.ofInt 1), .int (Int32.ofInt x2)], zw X s1)) rfl ?_
  refine gi_sub hM hZ rfl ?_
  refine gx_r hM hZ 1 (B := (46, [some (.ref 22), some (.int (Int32.ofInt x1)), some (.int (Int32.ofInt x2)), some (.int (Int32.ofInt (x2 - 1)))], [], zw X s1)) rfl ?_
  exact gx_fg [true, true, false, true] (h hZ d hd)
theorem w_59_46_i {X : zX} {x1 x3 : Int} {s : zS} {Q : Int → zS → Prop} (h : ((-2147483648 ≤ x3 ∧ x3 ≤ 2147483647) ∧ (x3 < 0 → w_59_88 X x1 s Q) ∧ (¬ x3 < 0 → ((-2147483648 ≤ (s 22 10) ∧ (s 22 10) ≤ 2147483647) ∧ ((s 22 10) = 0 → w_59_88 X x1 s Q) ∧ (¬ (s 22 10) = 0 → (w_54 X s (fun v1 s1 => (w_34 X x1 x3 s1 (fun v2 s2 => (((-2147483648 ≤ v1 ∧ v1 ≤ 2147483647) ∧ (-2147483648 ≤ v2 ∧ v2 ≤ 2147483647)) ∧ (¬ v1 = v2 → w_59_79 X x1 x3 0 s2 Q) ∧ (¬ ¬ v1 = v2 → w_59_79 X x1 x3 1 s2 Q))))))))))) : w_59_46 X x1 x3 s Q := by
  intro hZ d hd
  have hM : xi_ml[59]? = some xm_59 := rfl
  refine gx_r hM hZ 1 (B := (47, [some (.ref 22), some (.int (Int32.ofInt x1)), none, some (.int (Int32.ofInt x3))], [.int (Int32.ofInt x3)], zw X s)) rfl ?_
  refine gi_if1 hM hZ (fun x => decide (x < 0)) (p := x3 < 0) rfl rfl (zd_lt h.1) ?_ ?_
  · intro hp
    replace h := h.2.1 hp
    exact gx_fg [true, true, false, false] (h hZ d hd)
  · intro hp
    replace h := h.2.2 hp
    refine gx_r hM hZ 2 (B := (54, [some (.ref 22), some (.int (Int32.ofInt x1)), none, some (.int (Int32.ofInt x3))], [.int (Int32.ofInt (s 22 10))], zw X s)) rfl ?_
    refine gi_if1 hM hZ (fun x => decide (x = 0)) (p := (s 22 10) = 0) rfl rfl (zd_eq h.1) ?_ ?_
    · intro hp
      replace h := h.2.1 hp
      exact gx_fg [true, true, false, false] (h hZ d hd)
    · intro hp
      replace h := h.2.2 hp
      refine gx_r hM hZ 2 (B := (59, [some (.ref 22), some (.int (Int32.ofInt x1)), none, some (.int (Int32.ofInt x3))], [.ref 22, .ref 22], zw X s)) rfl ?_
      refine gi_call hM (s := s) (hj := 0) hZ rfl rfl (by omega) h ?_
      intro v1 s1 h
      refine gx_r hM hZ 4 (B := (68, [some (.ref 22), some (.int (Int32.ofInt x1)), none, some (.int (Int32.ofInt x3))], [.int (Int32.ofInt x3), .int (Int32.ofInt x1), .ref 3, .int (Int32.ofInt v1), .ref 22], zw X s1)) rfl ?_
      refine gi_call hM (s := s1) (hj := 0) hZ rfl rfl (by omega) h ?_
      intro v2 s2 h
      refine gi_if2 hM hZ (fun x y => decide (¬ x = y)) (p := ¬ v1 = v2) rfl rfl (zc_ne h.1.1 h.1.2) ?_ ?_
      · intro hp
        replace h := h.2.1 hp
        refine gx_r hM hZ 1 (B := (79, [some (.ref 22), some (.int (Int32.ofInt x1)), none, some (.int (Int32.ofInt x3))], [.int (Int32.ofInt 0), .ref 22], zw X s2)) rfl ?_
        exact gx_fg [true, true, false, true] (h hZ d hd)
      · intro hp
        replace h := h.2.2 hp
        refine gx_r hM hZ 2 (B := (79, [some (.ref 22), some (.int (Int32.ofInt x1)), none, some (.int (Int32.ofInt x3))], [.int (Int32.ofInt 1), .ref 22], zw X s2)) rfl ?_
        exact gx_fg [true, true, false, true] (h hZ d hd)
theorem w_59_79_i {X : zX} {x1 x3 t1 : Int} {s : zS} {Q : Int → zS → Prop} (h : (w_51 X t1 s (fun _ s1 => w_59_46 X x1 (x3 + (-1)) s1 Q))) : w_59_79 X x1 x3 t1 s Q := by
  intro hZ d hd
  have hM : xi_ml[59]? = some xm_59 := rfl
  refine gi_call hM (s := s) (hj := 0) hZ rfl rfl (by omega) h ?_
  intro _ s1 h
  refine gi_inc hM hZ (x := x3) (m := (-1)) rfl rfl ?_
  refine gx_r hM hZ 0 (B := (85, [some (.ref 22), some (.int (Int32.ofInt x1)), none, some (.int (Int32.ofInt (x3 + (-1))))], [], zw X s1)) rfl ?_
  refine gx_r hM hZ 1 (B := (46, [some (.ref 22), some (.int (Int32.ofInt x1)), none, some (.int (Int32.ofInt (x3 + (-1))))], [], zw X s1)) rfl ?_
  exact gx_fg [true, true, false, true] (h hZ d hd)
theorem w_59_88_i {X : zX} {x1 : Int} {s : zS} {Q : Int → zS → Prop} (h : (0 ≤ x1 ∧ x1 < 6) ∧ (w_49 X (s 6 x1) s (fun _ s1 => Q 0 s1))) : w_59_88 X x1 s Q := by
  intro hZ d hd
  have hM : xi_ml[59]? = some xm_59 := rfl
  refine gx_r hM hZ 5 (B := (97, [some (.ref 22), some (.int (Int32.ofInt x1)), none, none], [.int (Int32.ofInt x1), .ref 6, .ref 22], zw X s)) rfl ?_
  refine gi_iald hM hZ (s := s) (len := 6) rfl rfl (Nat.le_of_ble_eq_true rfl) h.1 ?_
  replace h := h.2
  refine gi_call hM (s := s) (hj := 0) hZ rfl rfl (by omega) h ?_
  intro _ s1 h
  exact ⟨_, xi_To.rf _ _ _ _, 0, s1, rfl, h⟩
-- RootLoom$Weaver.weavePut
def w_60_4 (X : zX) (x1 : Int) (s : zS) (Q : Int → zS → Prop) : Prop := wW X 60 xm_60 2 (0, [some (.ref 22), some (.int (Int32.ofInt x1)), some (.ref 4), none], [], zw X s) Q
def w_60_4_31 (X : zX) (x3 t1 : Int) (s : zS) (Q : Int → zS → Prop) : Prop := wW X 60 xm_60 2 (31, [some (.ref 22), none, none, some (.int (Int32.ofInt x3))], [.int (Int32.ofInt t1), .ref 22], zw X s) Q
theorem w_60_4_i {X : zX} {x1 : Int} {s : zS} {Q : Int → zS → Prop} (h : (w_39 X x1 0 s (fun v1 s1 => (w_54 X s1 (fun v2 s2 => (w_57 X s2 (fun v3 s3 => (0 ≤ v3 ∧ v3 < 8) ∧ (((-2147483648 ≤ v2 ∧ v2 ≤ 2147483647) ∧ (-2147483648 ≤ (s3 4 v3) ∧ (s3 4 v3) ≤ 2147483647)) ∧ (¬ v2 = (s3 4 v3) → w_60_4_31 X v2 0 s3 Q) ∧ (¬ ¬ v2 = (s3 4 v3) → w_60_4_31 X v2 1 s3 Q))))))))) : w_60_4 X x1 s Q := by
  intro hZ d hd
  have hM : xi_ml[60]? = some xm_60 := rfl
  refine gx_r hM hZ 4 (B := (6, [some (.ref 22), some (.int (Int32.ofInt x1)), some (.ref 4), none], [.int (Int32.ofInt 0), .int (Int32.ofInt x1), .ref 14], zw X s)) rfl ?_
  refine gi_call hM (s := s) (hj := 0) hZ rfl rfl (by omega) h ?_
  intro v1 s1 h
  refine gx_r hM hZ 2 (B := (11, [some (.ref 22), some (.int (Int32.ofInt x1)), some (.ref 4), none], [.ref 22], zw X s1)) rfl ?_
  refine gi_call hM (s := s1) (hj := 0) hZ rfl rfl (by omega) h ?_
  intro v2 s2 h
  refine gx_r hM hZ 5 (B := (19, [some (.ref 22), some (.int (Int32.ofInt x1)), some (.ref 4), some (.int (Int32.ofInt v2))], [.ref 22, .ref 4, .int (Int32.ofInt v2), .ref 22], zw X s2)) rfl ?_
  refine gi_call hM (s := s2) (hj := 1) hZ rfl rfl (by omega) h ?_
  intro v3 s3 h
  refine gi_iald hM hZ (s := s3) (len := 8) rfl rfl (Nat.le_of_ble_eq_true rfl) h.1 ?_
  replace h := h.2
  refine gi_if2 hM hZ (fun x y => decide (¬ x = y)) (p := ¬ v2 = (s3 4 v3)) rfl rfl (zc_ne h.1.1 h.1.2) ?_ ?_
  · intro hp
    replace h := h.2.1 hp
    refine gx_r hM hZ 1 (B := (31, [some (.ref 22), some (.int (Int32.ofInt x1)), some (.ref 4), some (.int (Int32.ofInt v2))], [.int (Int32.ofInt 0), .ref 22], zw X s3)) rfl ?_
    exact gx_fg [true, false, false, true] (h hZ d hd)
  · intro hp
    replace h := h.2.2 hp
    refine gx_r hM hZ 2 (B := (31, [some (.ref 22), some (.int (Int32.ofInt x1)), some (.ref 4), some (.int (Int32.ofInt v2))], [.int (Int32.ofInt 1), .ref 22], zw X s3)) rfl ?_
    exact gx_fg [true, false, false, true] (h hZ d hd)
theorem w_60_4_31_i {X : zX} {x3 t1 : Int} {s : zS} {Q : Int → zS → Prop} (h : (w_51 X t1 s (fun _ s1 => (w_49 X x3 s1 (fun _ s2 => Q 0 s2))))) : w_60_4_31 X x3 t1 s Q := by
  intro hZ d hd
  have hM : xi_ml[60]? = some xm_60 := rfl
  refine gi_call hM (s := s) (hj := 0) hZ rfl rfl (by omega) h ?_
  intro _ s1 h
  refine gx_r hM hZ 2 (B := (36, [some (.ref 22), none, none, some (.int (Int32.ofInt x3))], [.int (Int32.ofInt x3), .ref 22], zw X s1)) rfl ?_
  refine gi_call hM (s := s1) (hj := 0) hZ rfl rfl (by omega) h ?_
  intro _ s2 h
  exact ⟨_, xi_To.rf _ _ _ _, 0, s2, rfl, h⟩
-- RootLoom$Weaver.weavePut
def w_60_5 (X : zX) (x1 : Int) (s : zS) (Q : Int → zS → Prop) : Prop := wW X 60 xm_60 2 (0, [some (.ref 22), some (.int (Int32.ofInt x1)), some (.ref 5), none], [], zw X s) Q
def w_60_5_31 (X : zX) (x3 t1 : Int) (s : zS) (Q : Int → zS → Prop) : Prop := wW X 60 xm_60 2 (31, [some (.ref 22), none, none, some (.int (Int32.ofInt x3))], [.int (Int32.ofInt t1), .ref 22], zw X s) Q
theorem w_60_5_i {X : zX} {x1 : Int} {s : zS} {Q : Int → zS → Prop} (h : (w_39 X x1 0 s (fun v1 s1 => (w_54 X s1 (fun v2 s2 => (w_57 X s2 (fun v3 s3 => (0 ≤ v3 ∧ v3 < 8) ∧ (((-2147483648 ≤ v2 ∧ v2 ≤ 2147483647) ∧ (-2147483648 ≤ (s3 5 v3) ∧ (s3 5 v3) ≤ 2147483647)) ∧ (¬ v2 = (s3 5 v3) → w_60_5_31 X v2 0 s3 Q) ∧ (¬ ¬ v2 = (s3 5 v3) → w_60_5_31 X v2 1 s3 Q))))))))) : w_60_5 X x1 s Q := by
  intro hZ d hd
  have hM : xi_ml[60]? = some xm_60 := rfl
  refine gx_r hM hZ 4 (B := (6, [some (.ref 22), some (.int (Int32.ofInt x1)), some (.ref 5), none], [.int (Int32.ofInt 0), .int (Int32.ofInt x1), .ref 14], zw X s)) rfl ?_
  refine gi_call hM (s := s) (hj := 0) hZ rfl rfl (by omega) h ?_
  intro v1 s1 h
  refine gx_r hM hZ 2 (B := (11, [some (.ref 22), some (.int (Int32.ofInt x1)), some (.ref 5), none], [.ref 22], zw X s1)) rfl ?_
  refine gi_call hM (s := s1) (hj := 0) hZ rfl rfl (by omega) h ?_
  intro v2 s2 h
  refine gx_r hM hZ 5 (B := (19, [some (.ref 22), some (.int (Int32.ofInt x1)), some (.ref 5), some (.int (Int32.ofInt v2))], [.ref 22, .ref 5, .int (Int32.ofInt v2), .ref 22], zw X s2)) rfl ?_
  refine gi_call hM (s := s2) (hj := 1) hZ rfl rfl (by omega) h ?_
  intro v3 s3 h
  refine gi_iald hM hZ (s := s3) (len := 8) rfl rfl (Nat.le_of_ble_eq_true rfl) h.1 ?_
  replace h := h.2
  refine gi_if2 hM hZ (fun x y => decide (¬ x = y)) (p := ¬ v2 = (s3 5 v3)) rfl rfl (zc_ne h.1.1 h.1.2) ?_ ?_
  · intro hp
    replace h := h.2.1 hp
    refine gx_r hM hZ 1 (B := (31, [some (.ref 22), some (.int (Int32.ofInt x1)), some (.ref 5), some (.int (Int32.ofInt v2))], [.int (Int32.ofInt 0), .ref 22], zw X s3)) rfl ?_
    exact gx_fg [true, false, false, true] (h hZ d hd)
  · intro hp
    replace h := h.2.2 hp
    refine gx_r hM hZ 2 (B := (31, [some (.ref 22), some (.int (Int32.ofInt x1)), some (.ref 5), some (.int (Int32.ofInt v2))], [.int (Int32.ofInt 1), .ref 22], zw X s3)) rfl ?_
    exact gx_fg [true, false, false, true] (h hZ d hd)
theorem w_60_5_31_i {X : zX} {x3 t1 : Int} {s : zS} {Q : Int → zS → Prop} (h : (w_51 X t1 s (fun _ s1 => (w_49 X x3 s1 (fun _ s2 => Q 0 s2))))) : w_60_5_31 X x3 t1 s Q := by
  intro hZ d hd
  have hM : xi_ml[60]? = some xm_60 := rfl
  refine gi_call hM (s := s) (hj := 0) hZ rfl rfl (by omega) h ?_
  intro _ s1 h
  refine gx_r hM hZ 2 (B := (36, [some (.ref 22), none, none, some (.int (Int32.ofInt x3))], [.int (Int32.ofInt x3), .ref 22], zw X s1)) rfl ?_
  refine gi_call hM (s := s1) (hj := 0) hZ rfl rfl (by omega) h ?_
  intro _ s2 h
  exact ⟨_, xi_To.rf _ _ _ _, 0, s2, rfl, h⟩
-- RootLoom$Weaver.prepare
def w_62 (X : zX) (x1 x2 x3 : Int) (s : zS) (Q : Int → zS → Prop) : Prop := wW X 62 xm_62 2 (0, [some (.ref 22), some (.int (Int32.ofInt x1)), some (.int (Int32.ofInt x2)), some (.int (Int32.ofInt x3)), none, none], [], zw X s) Q
def w_62_46 (X : zX) (x1 x2 x3 x4 : Int) (s : zS) (Q : Int → zS → Prop) : Prop := wW X 62 xm_62 2 (46, [some (.ref 22), some (.int (Int32.ofInt x1)), some (.int (Int32.ofInt x2)), some (.int (Int32.ofInt x3)), some (.int (Int32.ofInt x4)), none], [], zw X s) Q
def w_62_112 (X : zX) (x1 x2 x4 : Int) (s : zS) (Q : Int → zS → Prop) : Prop := wW X 62 xm_62 2 (112, [some (.ref 22), some (.int (Int32.ofInt x1)), some (.int (Int32.ofInt x2)), none, some (.int (Int32.ofInt x4)), none], [], zw X s) Q
def w_62_140 (X : zX) (x2 x4 : Int) (s : zS) (Q : Int → zS → Prop) : Prop := wW X 62 xm_62 2 (140, [some (.ref 22), none, some (.int (Int32.ofInt x2)), none, some (.int (Int32.ofInt x4)), none], [], zw X s) Q
theorem w_62_i {X : zX} {x1 x2 x3 : Int} {s : zS} {Q : Int → zS → Prop} (h : (0 ≤ x1 ∧ x1 < 150) ∧ ((-2147483648 ≤ (s 10 x1) ∧ (s 10 x1) ≤ 2147483647) ∧ (¬ (s 10 x1) = 10 → w_62_46 X x1 x2 x3 (s 10 x1) s Q) ∧ (¬ ¬ (s 10 x1) = 10 → ((-2147483648 ≤ x2 ∧ x2 ≤ 2147483647) ∧ (¬ x2 = 1 → w_62_46 X x1 x2 x3 (s 10 x1) s Q) ∧ (¬ ¬ x2 = 1 → (w_53 X s (fun _ s1 => (w_39 X 10 0 s1 (fun v2 s2 => (0 ≤ x3 ∧ x3 < 150) ∧ (∀ s3 : zS, s3 = zu s2 25 x3 v2 → Q 0 s3)))))))))) : w_62 X x1 x2 x3 s Q := by
  intro hZ d hd
  have hM : xi_ml[62]? = some xm_62 := rfl
  refine gx_r hM hZ 4 (B := (8, [some (.ref 22), some (.int (Int32.ofInt x1)), some (.int (Int32.ofInt x2)), some (.int (Int32.ofInt x3)), none, none], [.int (Int32.ofInt x1), .ref 10], zw X s)) rfl ?_
  refine gi_iald hM hZ (s := s) (len := 150) rfl rfl (Nat.le_of_ble_eq_true rfl) h.1 ?_
  replace h := h.2
  refine gx_r hM hZ 2 (B := (13, [some (.ref 22), some (.int (Int32.ofInt x1)), some (.int (Int32.ofInt x2)), some (.int (Int32.ofInt x3)), some (.int (Int32.ofInt (s 10 x1))), none], [.int (Int32.ofInt (s 10 x1))], zw X s)) rfl ?_
  refine gi_bip hM hZ rfl rfl ?_
  refine gi_if2 hM hZ (fun x y => decide (¬ x = y)) (p := ¬ (s 10 x1) = 10) rfl rfl (zc_ne h.1 (by decide)) ?_ ?_
  · intro hp
    replace h := h.2.1 hp
    exact gx_fg [true, true, true, true, true, false] (h hZ d hd)
  · intro hp
    replace h := h.2.2 hp
    refine gx_r hM hZ 2 (B := (20, [some (.ref 22), some (.int (Int32.ofInt x1)), some (.int (Int32.ofInt x2)), some (.int (Int32.ofInt x3)), some (.int (Int32.ofInt (s 10 x1))), none], [.int (Int32.ofInt 1), .int (Int32.ofInt x2)], zw X s)) rfl ?_
    refine gi_if2 hM hZ (fun x y => decide (¬ x = y)) (p := ¬ x2 = 1) rfl rfl (zc_ne h.1 (by decide)) ?_ ?_
    · intro hp
      replace h := h.2.1 hp
      exact gx_fg [true, true, true, true, true, false] (h hZ d hd)
    · intro hp
      replace h := h.2.2 hp
      refine gx_r hM hZ 1 (B := (24, [some (.ref 22), some (.int (Int32.ofInt x1)), some (.int (Int32.ofInt x2)), some (.int (Int32.ofInt x3)), some (.int (Int32.ofInt (s 10 x1))), none], [.ref 22], zw X s)) rfl ?_
      refine gi_call hM (s := s) (hj := 1) hZ rfl rfl (by omega) h ?_
      intro _ s1 h
      refine gx_r hM hZ 5 (B := (36, [some (.ref 22), some (.int (Int32.ofInt x1)), some (.int (Int32.ofInt x2)), some (.int (Int32.ofInt x3)), some (.int (Int32.ofInt (s 10 x1))), none], [.ref 14, .int (Int32.ofInt x3), .ref 25], zw X s1)) rfl ?_
      refine gi_bip hM hZ rfl rfl ?_
      refine gx_r hM hZ 1 (B := (39, [some (.ref 22), some (.int (Int32.ofInt x1)), some (.int (Int32.ofInt x2)), some (.int (Int32.ofInt x3)), some (.int (Int32.ofInt (s 10 x1))), none], [.int (Int32.ofInt 0), .int (Int32.ofInt 10), .ref 14, .int (Int32.ofInt x3), .ref 25], zw X s1)) rfl ?_
      refine gi_call hM (s := s1) (hj := 0) hZ rfl rfl (by omega) h ?_
      intro v2 s2 h
      obtain ⟨s3, e3⟩ : ∃ q : zS, q = zu s2 25 x3 v2 := ⟨_, rfl⟩
      refine gj_iast hM hZ (len := 150) rfl rfl (Nat.le_of_ble_eq_true rfl) zp_25 h.1 e3 ?_
      replace h := h.2 _ e3
      refine gx_r hM hZ 1 (B := (168, [some (.ref 22), some (.int (Int32.ofInt x1)), some (.int (Int32.ofInt x2)), some (.int (Int32.ofInt x3)), some (.int (Int32.ofInt (s 10 x1))), none], [], zw X s3)) rfl ?_
      exact ⟨_, xi_To.rf _ _ _ _, 0, s3, rfl, h⟩
theorem w_62_46_i {X : zX} {x1 x2 x3 x4 : Int} {s : zS} {Q : Int → zS → Prop} (h : ((-2147483648 ≤ x4 ∧ x4 ≤ 2147483647) ∧ (¬ x4 = 10 → w_62_112 X x1 x2 x4 s Q) ∧ (¬ ¬ x4 = 10 → ((-2147483648 ≤ x2 ∧ x2 ≤ 2147483647) ∧ (¬ x2 = 2 → w_62_112 X x1 x2 x4 s Q) ∧ (¬ ¬ x2 = 2 → (w_54 X s (fun v1 s1 => (0 ≤ x3 ∧ x3 < 150) ∧ (∀ s2 : zS, s2 = zu s1 26 x3 v1 → (w_39 X 11 0 s2 (fun v3 s3 => (0 ≤ x3 ∧ x3 < 150) ∧ (0 ≤ (s3 25 x3) ∧ (s3 25 x3) < 400) ∧ (∀ s4 : zS, s4 = zu s3 16 (s3 25 x3) (s3 14 1) → (0 ≤ x3 ∧ x3 < 150) ∧ (∀ s5 : zS, s5 = zu s4 25 x3 v3 → Q 0 s5)))))))))))) : w_62_46 X x1 x2 x3 x4 s Q := by
  intro hZ d hd
  have hM : xi_ml[62]? = some xm_62 := rfl
  refine gx_r hM hZ 1 (B := (48, [some (.ref 22), some (.int (Int32.ofInt x1)), some (.int (Int32.ofInt x2)), some (.int (Int32.ofInt x3)), some (.int (Int32.ofInt x4)), none], [.int (Int32.ofInt x4)], zw X s)) rfl ?_
  refine gi_bip hM hZ rfl rfl ?_
  refine gi_if2 hM hZ (fun x y => decide (¬ x = y)) (p := ¬ x4 = 10) rfl rfl (zc_ne h.1 (by decide)) ?_ ?_
  · intro hp
    replace h := h.2.1 hp
    exact gx_fg [true, true, true, false, true, false] (h hZ d hd)
  · intro hp
    replace h := h.2.2 hp
    refine gx_r hM hZ 2 (B := (55, [some (.ref 22), some (.int (Int32.ofInt x1)), some (.int (Int32.ofInt x2)), some (.int (Int32.ofInt x3)), some (.int (Int32.ofInt x4)), none], [.int (Int32.ofInt 2), .int (Int32.ofInt x2)], zw X s)) rfl ?_
    refine gi_if2 hM hZ (fun x y => decide (¬ x = y)) (p := ¬ x2 = 2) rfl rfl (zc_ne h.1 (by decide)) ?_ ?_
    · intro hp
      replace h := h.2.1 hp
      exact gx_fg [true, true, true, false, true, false] (h hZ d hd)
    · intro hp
      replace h := h.2.2 hp
      refine gx_r hM hZ 4 (B := (64, [some (.ref 22), some (.int (Int32.ofInt x1)), some (.int (Int32.ofInt x2)), some (.int (Int32.ofInt x3)), some (.int (Int32.ofInt x4)), none], [.ref 22, .int (Int32.ofInt x3), .ref 26], zw X s)) rfl ?_
      refine gi_call hM (s := s) (hj := 0) hZ rfl rfl (by omega) h ?_
      intro v1 s1 h
      obtain ⟨s2, e2⟩ : ∃ q : zS, q = zu s1 26 x3 v1 := ⟨_, rfl⟩
      refine gj_iast hM hZ (len := 150) rfl rfl (Nat.le_of_ble_eq_true rfl) zp_26 h.1 e2 ?_
      replace h := h.2 _ e2
      refine gx_r hM hZ 2 (B := (72, [some (.ref 22), some (.int (Int32.ofInt x1)), some (.int (Int32.ofInt x2)), some (.int (Int32.ofInt x3)), some (.int (Int32.ofInt x4)), none], [.ref 14], zw X s2)) rfl ?_
      refine gi_bip hM hZ rfl rfl ?_
      refine gx_r hM hZ 1 (B := (75, [some (.ref 22), some (.int (Int32.ofInt x1)), some (.int (Int32.ofInt x2)), some (.int (Int32.ofInt x3)), some (.int (Int32.ofInt x4)), none], [.int (Int32.ofInt 0), .int (Int32.ofInt 11), .ref 14], zw X s2)) rfl ?_
      refine gi_call hM (s := s2) (hj := 0) hZ rfl rfl (by omega) h ?_
      intro v3 s3 h
      refine gx_r hM hZ 7 (B := (92, [some (.ref 22), some (.int (Int32.ofInt x1)), some (.int (Int32.ofInt x2)), some (.int (Int32.ofInt x3)), some (.int (Int32.ofInt x4)), some (.int (Int32.ofInt v3))], [.int (Int32.ofInt x3), .ref 25, .ref 16], zw X s3)) rfl ?_
      refine gi_iald hM hZ (s := s3) (len := 150) rfl rfl (Nat.le_of_ble_eq_true rfl) h.1 ?_
      replace h := h.2
      refine gx_r hM hZ 3 (B := (100, [some (.ref 22), some (.int (Int32.ofInt x1)), some (.int (Int32.ofInt x2)), some (.int (Int32.ofInt x3)), some (.int (Int32.ofInt x4)), some (.int (Int32.ofInt v3))], [.int (Int32.ofInt (s3 14 1)), .int (Int32.ofInt (s3 25 x3)), .ref 16], zw X s3)) rfl ?_
      obtain ⟨s4, e4⟩ : ∃ q : zS, q = zu s3 16 (s3 25 x3) (s3 14 1) := ⟨_, rfl⟩
      refine gj_iast hM hZ (len := 400) rfl rfl (Nat.le_of_ble_eq_true rfl) zp_16 h.1 e4 ?_
      replace h := h.2 _ e4
      refine gx_r hM hZ 4 (B := (108, [some (.ref 22), some (.int (Int32.ofInt x1)), some (.int (Int32.ofInt x2)), some (.int (Int32.ofInt x3)), some (.int (Int32.ofInt x4)), some (.int (Int32.ofInt v3))], [.int (Int32.ofInt v3), .int (Int32.ofInt x3), .ref 25], zw X s4)) rfl ?_
      obtain ⟨s5, e5⟩ : ∃ q : zS, q = zu s4 25 x3 v3 := ⟨_, rfl⟩
      refine gj_iast hM hZ (len := 150) rfl rfl (Nat.le_of_ble_eq_true rfl) zp_25 h.1 e5 ?_
      replace h := h.2 _ e5
      refine gx_r hM hZ 1 (B := (168, [some (.ref 22), some (.int (Int32.ofInt x1)), some (.int (Int32.ofInt x2)), some (.int (Int32.ofInt x3)), some (.int (Int32.ofInt x4)), some (.int (Int32.ofInt v3))], [], zw X s5)) rfl ?_
      exact ⟨_, xi_To.rf _ _ _ _, 0, s5, rfl, h⟩
theorem w_62_112_i {X : zX} {x1 x2 x4 : Int} {s : zS} {Q : Int → zS → Prop} (h : ((-2147483648 ≤ x4 ∧ x4 ≤ 2147483647) ∧ (¬ x4 = 11 → w_62_140 X x2 x4 s Q) ∧ (¬ ¬ x4 = 11 → ((-2147483648 ≤ x2 ∧ x2 ≤ 2147483647) ∧ (¬ x2 = 2 → w_62_140 X x2 x4 s Q) ∧ (¬ ¬ x2 = 2 → (w_31 X x1 0 s (fun v1 s1 => (w_63 X v1 s1 (fun _ s2 => Q 0 s2))))))))) : w_62_112 X x1 x2 x4 s Q := by
  intro hZ d hd
  have hM : xi_ml[62]? = some xm_62 := rfl
  refine gx_r hM hZ 1 (B := (114, [some (.ref 22), some (.int (Int32.ofInt x1)), some (.int (Int32.ofInt x2)), none, some (.int (Int32.ofInt x4)), none], [.int (Int32.ofInt x4)], zw X s)) rfl ?_
  refine gi_bip hM hZ rfl rfl ?_
  refine gi_if2 hM hZ (fun x y => decide (¬ x = y)) (p := ¬ x4 = 11) rfl rfl (zc_ne h.1 (by decide)) ?_ ?_
  · intro hp
    replace h := h.2.1 hp
    exact gx_fg [true, false, true, false, true, false] (h hZ d hd)
  · intro hp
    replace h := h.2.2 hp
    refine gx_r hM hZ 2 (B := (121, [some (.ref 22), some (.int (Int32.ofInt x1)), some (.int (Int32.ofInt x2)), none, some (.int (Int32.ofInt x4)), none], [.int (Int32.ofInt 2), .int (Int32.ofInt x2)], zw X s)) rfl ?_
    refine gi_if2 hM hZ (fun x y => decide (¬ x = y)) (p := ¬ x2 = 2) rfl rfl (zc_ne h.1 (by decide)) ?_ ?_
    · intro hp
      replace h := h.2.1 hp
      exact gx_fg [true, false, true, false, true, false] (h hZ d hd)
    · intro hp
      replace h := h.2.2 hp
      refine gx_r hM hZ 5 (B := (131, [some (.ref 22), some (.int (Int32.ofInt x1)), some (.int (Int32.ofInt x2)), none, some (.int (Int32.ofInt x4)), none], [.int (Int32.ofInt 0), .int (Int32.ofInt x1), .ref 3, .ref 22], zw X s)) rfl ?_
      refine gi_call hM (s := s) (hj := 0) hZ rfl rfl (by omega) h ?_
      intro v1 s1 h
      refine gi_call hM (s := s1) (hj := 1) hZ rfl rfl (by omega) h ?_
      intro _ s2 h
      refine gx_r hM hZ 1 (B := (168, [some (.ref 22), some (.int (Int32.ofInt x1)), some (.int (Int32.ofInt x2)), none, some (.int (Int32.ofInt x4)), none], [], zw X s2)) rfl ?_
      exact ⟨_, xi_To.rf _ _ _ _, 0, s2, rfl, h⟩
theorem w_62_140_i {X : zX} {x2 x4 : Int} {s : zS} {Q : Int → zS → Prop} (h : ((-2147483648 ≤ x4 ∧ x4 ≤ 2147483647) ∧ (¬ x4 = 17 → Q 0 s) ∧ (¬ ¬ x4 = 17 → ((-2147483648 ≤ x2 ∧ x2 ≤ 2147483647) ∧ (¬ x2 = 1 → Q 0 s) ∧ (¬ ¬ x2 = 1 → (w_54 X s (fun v1 s1 => (w_39 X 18 0 s1 (fun v2 s2 => Q 0 s2))))))))) : w_62_140 X x2 x4 s Q := by
  intro hZ d hd
  have hM : xi_ml[62]? = some xm_62 := rfl
  refine gx_r hM hZ 1 (B := (142, [some (.ref 22), none, some (.int (Int32.ofInt x2)), none, some (.int (Int32.ofInt x4)), none], [.int (Int32.ofInt x4)], zw X s)) rfl ?_
  refine gi_bip hM hZ rfl rfl ?_
  refine gi_if2 hM hZ (fun x y => decide (¬ x = y)) (p := ¬ x4 = 17) rfl rfl (zc_ne h.1 (by decide)) ?_ ?_
  · intro hp
    replace h := h.2.1 hp
    exact ⟨_, xi_To.rf _ _ _ _, 0, s, rfl, h⟩
  · intro hp
    replace h := h.2.2 hp
    refine gx_r hM hZ 2 (B := (149, [some (.ref 22), none, some (.int (Int32.ofInt x2)), none, some (.int (Int32.ofInt x4)), none], [.int (Int32.ofInt 1), .int (Int32.ofInt x2)], zw X s)) rfl ?_
    refine gi_if2 hM hZ (fun x y => decide (¬ x = y)) (p := ¬ x2 = 1) rfl rfl (zc_ne h.1 (by decide)) ?_ ?_
    · intro hp
      replace h := h.2.1 hp
      exact ⟨_, xi_To.rf _ _ _ _, 0, s, rfl, h⟩
    · intro hp
      replace h := h.2.2 hp
      refine gx_r hM hZ 1 (B := (153, [some (.ref 22), none, some (.int (Int32.ofInt x2)), none, some (.int (Int32.ofInt x4)), none], [.ref 22], zw X s)) rfl ?_
      refine gi_call hM (s := s) (hj := 0) hZ rfl rfl (by omega) h ?_
      intro v1 s1 h
      refine gx_r hM hZ 3 (B := (161, [some (.ref 22), none, some (.int (Int32.ofInt x2)), none, some (.int (Int32.ofInt x4)), none], [.ref 14], zw X s1)) rfl ?_
      refine gi_bip hM hZ rfl rfl ?_
      refine gx_r hM hZ 1 (B := (164, [some (.ref 22), none, some (.int (Int32.ofInt x2)), none, some (.int (Int32.ofInt x4)), none], [.int (Int32.ofInt 0), .int (Int32.ofInt 18), .ref 14], zw X s1)) rfl ?_
      refine gi_call hM (s := s1) (hj := 0) hZ rfl rfl (by omega) h ?_
      intro v2 s2 h
      refine gx_r hM hZ 1 (B := (168, [some (.ref 22), none, some (.int (Int32.ofInt x2)), none, some (.int (Int32.ofInt x4)), none], [], zw X s2)) rfl ?_
      exact ⟨_, xi_To.rf _ _ _ _, 0, s2, rfl, h⟩
-- RootLoom$Machine.collect
def w_74 (X : zX) (x1 : Int) (s : zS) (Q : Int → zS → Prop) : Prop := wW X 74 xm_74 2 (0, [some (.ref 31), some (.int (Int32.ofInt x1)), none], [], zw X s) Q
def w_74_9 (X : zX) (x1 x2 : Int) (s : zS) (Q : Int → zS → Prop) : Prop := wW X 74 xm_74 2 (9, [some (.ref 31), some (.int (Int32.ofInt x1)), some (.int (Int32.ofInt x2))], [], zw X s) Q
def w_74_46 (X : zX) (x1 x2 t1 t2 : Int) (s : zS) (Q : Int → zS → Prop) : Prop := wW X 74 xm_74 2 (46, [some (.ref 31), some (.int (Int32.ofInt x1)), some (.int (Int32.ofInt x2))], [.int (Int32.ofInt t2), .int (Int32.ofInt t1), .ref 31], zw X s) Q
theorem w_74_i {X : zX} {x1 : Int} {s : zS} {Q : Int → zS → Prop} (h : (w_87 X s (fun _ s1 => w_74_9 X x1 0 s1 Q))) : w_74 X x1 s Q := by
  intro hZ d hd
  have hM : xi_ml[74]? = some xm_74 := rfl
  refine gx_r hM hZ 2 (B := (4, [some (.ref 31), some (.int (Int32.ofInt x1)), none], [.ref 32], zw X s)) rfl ?_
  refine gi_call hM (s := s) (hj := 0) hZ rfl rfl (by omega) h ?_
  intro _ s1 h
  refine gx_r hM hZ 2 (B := (9, [some (.ref 31), some (.int (Int32.ofInt x1)), some (.int (Int32.ofInt 0))], [], zw X s1)) rfl ?_
  exact gx_fg [true, true, true] (h hZ d hd)
theorem w_74_9_i {X : zX} {x1 x2 : Int} {s : zS} {Q : Int → zS → Prop} (h : (((-2147483648 ≤ x2 ∧ x2 ≤ 2147483647) ∧ (-2147483648 ≤ (s 39 4) ∧ (s 39 4) ≤ 2147483647)) ∧ ((s 39 4) < x2 → (w_89_20_21 X s (fun _ s1 => (∀ s2 : zS, s2 = zu s1 31 10 ((s1 31 10) + 1) → (w_86 X s2 (fun v3 s3 => (∀ s4 : zS, s4 = zu s3 31 11 v3 → Q 0 s4))))))) ∧ (¬ (s 39 4) < x2 → (((-2147483648 ≤ x2 ∧ x2 ≤ 2147483647) ∧ (-2147483648 ≤ (s 39 4) ∧ (s 39 4) ≤ 2147483647)) ∧ (¬ x2 = (s 39 4) → (0 ≤ x2 ∧ x2 < 24) ∧ w_74_46 X x1 x2 x2 (s 43 x2) s Q) ∧ (¬ ¬ x2 = (s 39 4) → w_74_46 X x1 x2 x2 x1 s Q))))) : w_74_9 X x1 x2 s Q := by
  intro hZ d hd
  have hM : xi_ml[74]? = some xm_74 := rfl
  refine gx_r hM hZ 4 (B := (17, [some (.ref 31), some (.int (Int32.ofInt x1)), some (.int (Int32.ofInt x2))], [.int (Int32.ofInt (s 39 4)), .int (Int32.ofInt x2)], zw X s)) rfl ?_
  refine gi_if2 hM hZ (fun x y => decide (y < x)) (p := (s 39 4) < x2) rfl rfl (zc_gt h.1.1 h.1.2) ?_ ?_
  · intro hp
    replace h := h.2.1 hp
    refine gx_r hM hZ 8 (B := (73, [some (.ref 31), some (.int (Int32.ofInt x1)), some (.int (Int32.ofInt x2))], [.ref 21, .ref 20, .ref 32], zw X s)) rfl ?_
    refine gi_call hM (s := s) (hj := 1) hZ rfl rfl (by omega) h ?_
    intro _ s1 h
    refine gx_r hM hZ 4 (B := (82, [some (.ref 31), some (.int (Int32.ofInt x1)), some (.int (Int32.ofInt x2))], [.int (Int32.ofInt 1), .int (Int32.ofInt (s1 31 10)), .ref 31], zw X s1)) rfl ?_
    refine gi_add hM hZ rfl ?_
    obtain ⟨s2, e2⟩ : ∃ q : zS, q = zu s1 31 10 ((s1 31 10) + 1) := ⟨_, rfl⟩
    refine gj_put hM hZ rfl rfl rfl (Nat.le_of_ble_eq_true rfl) rfl rfl zq_31_10 e2 ?_
    replace h := h _ e2
    refine gx_r hM hZ 3 (B := (91, [some (.ref 31), some (.int (Int32.ofInt x1)), some (.int (Int32.ofInt x2))], [.ref 32, .ref 31], zw X s2)) rfl ?_
    refine gi_call hM (s := s2) (hj := 0) hZ rfl rfl (by omega) h ?_
    intro v3 s3 h
    obtain ⟨s4, e4⟩ : ∃ q : zS, q = zu s3 31 11 v3 := ⟨_, rfl⟩
    refine gj_put hM hZ rfl rfl rfl (Nat.le_of_ble_eq_true rfl) rfl rfl zq_31_11 e4 ?_
    replace h := h _ e4
    exact ⟨_, xi_To.rf _ _ _ _, 0, s4, rfl, h⟩
  · intro hp
    replace h := h.2.2 hp
    refine gx_r hM hZ 6 (B := (30, [some (.ref 31), some (.int (Int32.ofInt x1)), some (.int (Int32.ofInt x2))], [.int (Int32.ofInt (s 39 4)), .int (Int32.ofInt x2), .int (Int32.ofInt x2), .ref 31], zw X s)) rfl ?_
    refine gi_if2 hM hZ (fun x y => decide (¬ x = y)) (p := ¬ x2 = (s 39 4)) rfl rfl (zc_ne h.1.1 h.1.2) ?_ ?_
    · intro hp
      replace h := h.2.1 hp
      refine gx_r hM hZ 4 (B := (45, [some (.ref 31), some (.int (Int32.ofInt x1)), some (.int (Int32.ofInt x2))], [.int (Int32.ofInt x2), .ref 43, .int (Int32.ofInt x2), .ref 31], zw X s)) rfl ?_
      refine gi_iald hM hZ (s := s) (len := 24) rfl rfl (Nat.le_of_ble_eq_true rfl) h.1 ?_
      replace h := h.2
      exact gx_fg [true, true, true] (h hZ d hd)
    · intro hp
      replace h := h.2.2 hp
      refine gx_r hM hZ 2 (B := (46, [some (.ref 31), some (.int (Int32.ofInt x1)), some (.int (Int32.ofInt x2))], [.int (Int32.ofInt x1), .int (Int32.ofInt x2), .ref 31], zw X s)) rfl ?_
      exact gx_fg [true, true, true] (h hZ d hd)
theorem w_74_46_i {X : zX} {x1 x2 t1 t2 : Int} {s : zS} {Q : Int → zS → Prop} (h : (w_75 X t1 t2 s (fun _ s1 => w_74_9 X x1 (x2 + 1) s1 Q))) : w_74_46 X x1 x2 t1 t2 s Q := by
  intro hZ d hd
  have hM : xi_ml[74]? = some xm_74 := rfl
  refine gi_call hM (s := s) (hj := 1) hZ rfl rfl (by omega) h ?_
  intro _ s1 h
  refine gi_inc hM hZ (x := x2) (m := 1) rfl rfl ?_
  refine gx_r hM hZ 0 (B := (52, [some (.ref 31), some (.int (Int32.ofInt x1)), some (.int (Int32.ofInt (x2 + 1)))], [], zw X s1)) rfl ?_
  refine gx_r hM hZ 1 (B := (9, [some (.ref 31), some (.int (Int32.ofInt x1)), some (.int (Int32.ofInt (x2 + 1)))], [], zw X s1)) rfl ?_
  exact gx_fg [true, true, true] (h hZ d hd)
-- RootLoomModel.mayBe
def w_104 (X : zX) (x1 x2 x3 x4 : Int) (s : zS) (Q : Int → zS → Prop) : Prop := wW X 104 xm_104 2 (0, [some (.ref 45), some (.int (Int32.ofInt x1)), some (.int (Int32.ofInt x2)), some (.int (Int32.ofInt x3)), some (.int (Int32.ofInt x4))], [], zw X s) Q
def w_104_137 (X : zX) (s : zS) (Q : Int → zS → Prop) : Prop := wW X 104 xm_104 2 (137, [none, none, none, none, none], [], zw X s) Q
def w_104_174 (X : zX) (s : zS) (Q : Int → zS → Prop) : Prop := wW X 104 xm_104 2 (174, [none, none, none, none, none], [], zw X s) Q
def w_104_207 (X : zX) (s : zS) (Q : Int → zS → Prop) : Prop := wW X 104 xm_104 2 (207, [none, none, none, none, none], [], zw X s) Q
def w_104_235 (X : zX) (s : zS) (Q : Int → zS → Prop) : Prop := wW X 104 xm_104 2 (235, [none, none, none, none, none], [], zw X s) Q
def w_104_257 (X : zX) (s : zS) (Q : Int → zS → Prop) : Prop := wW X 104 xm_104 2 (257, [none, none, none, none, none], [], zw X s) Q
def w_104_279 (X : zX) (s : zS) (Q : Int → zS → Prop) : Prop := wW X 104 xm_104 2 (279, [none, none, none, none, none], [], zw X s) Q
theorem w_104_i {X : zX} {x1 x2 x3 x4 : Int} {s : zS} {Q : Int → zS → Prop} (h : ((-2147483648 ≤ x1 ∧ x1 ≤ 2147483647) ∧ ((x1 < 0 ∨ 17 < x1) → Q 0 s) ∧ ((x1 = 0) → Q 1 s) ∧ ((x1 = 1) → (w_101 X x2 1 7 s (fun v1 s1 => ((v1 = 0 ∨ v1 = 1) ∧ Q v1 s1)))) ∧ ((x1 = 2) → (w_101 X x2 0 7 s (fun v2 s2 => ((v2 = 0 ∨ v2 = 1) ∧ Q v2 s2)))) ∧ ((x1 = 3 ∨ x1 = 4 ∨ x1 = 5 ∨ x1 = 14 ∨ x1 = 15 ∨ x1 = 17) → (w_105 X x2 s (fun v3 s3 => ((-2147483648 ≤ v3 ∧ v3 ≤ 2147483647) ∧ (v3 = 0 → w_104_279 X s3 Q) ∧ (¬ v3 = 0 → (w_105 X x3 s3 (fun v4 s4 => ((-2147483648 ≤ v4 ∧ v4 ≤ 2147483647) ∧ (v4 = 0 → w_104_279 X s4 Q) ∧ (¬ v4 = 0 → Q 1 s4))))))))) ∧ ((x1 = 6) → (w_101 X x2 1 7 s (fun v9 s9 => ((-2147483648 ≤ v9 ∧ v9 ≤ 2147483647) ∧ (v9 = 0 → w_104_137 X s9 Q) ∧ (¬ v9 = 0 → (w_105 X x3 s9 (fun v10 s10 => ((-2147483648 ≤ v10 ∧ v10 ≤ 2147483647) ∧ (v10 = 0 → w_104_137 X s10 Q) ∧ (¬ v10 = 0 → (w_105 X x4 s10 (fun v11 s11 => ((-2147483648 ≤ v11 ∧ v11 ≤ 2147483647) ∧ (v11 = 0 → w_104_137 X s11 Q) ∧ (¬ v11 = 0 → Q 1 s11))))))))))))) ∧ ((x1 = 7 ∨ x1 = 8 ∨ x1 = 9 ∨ x1 = 16) → (w_105 X x2 s (fun v12 s12 => ((v12 = 0 ∨ v12 = 1) ∧ Q v12 s12)))) ∧ ((x1 = 10) → (w_105 X x2 s (fun v15 s15 => ((-2147483648 ≤ v15 ∧ v15 ≤ 2147483647) ∧ (v15 = 0 → w_104_174 X s15 Q) ∧ (¬ v15 = 0 → (w_105 X x3 s15 (fun v16 s16 => ((-2147483648 ≤ v16 ∧ v16 ≤ 2147483647) ∧ (v16 = 0 → w_104_174 X s16 Q) ∧ (¬ v16 = 0 → (w_105 X x4 s16 (fun v17 s17 => ((-2147483648 ≤ v17 ∧ v17 ≤ 2147483647) ∧ (v17 = 0 → w_104_174 X s17 Q) ∧ (¬ v17 = 0 → Q 1 s17))))))))))))) ∧ ((x1 = 11) → (w_101 X x2 0 7 s (fun v18 s18 => ((-2147483648 ≤ v18 ∧ v18 ≤ 2147483647) ∧ (v18 = 0 → w_104_207 X s18 Q) ∧ (¬ v18 = 0 → (w_105 X x3 s18 (fun v19 s19 => ((-2147483648 ≤ v19 ∧ v19 ≤ 2147483647) ∧ (v19 = 0 → w_104_207 X s19 Q) ∧ (¬ v19 = 0 → (w_105 X x4 s19 (fun v20 s20 => ((-2147483648 ≤ v20 ∧ v20 ≤ 2147483647) ∧ (v20 = 0 → w_104_207 X s20 Q) ∧ (¬ v20 = 0 → Q 1 s20))))))))))))) ∧ ((x1 = 12) → (w_101 X x2 0 ((s 45 3) - 1) s (fun v21 s21 => ((-2147483648 ≤ v21 ∧ v21 ≤ 2147483647) ∧ (v21 = 0 → w_104_235 X s21 Q) ∧ (¬ v21 = 0 → (w_106 X x3 s21 (fun v22 s22 => ((-2147483648 ≤ v22 ∧ v22 ≤ 2147483647) ∧ (v22 = 0 → w_104_235 X s22 Q) ∧ (¬ v22 = 0 → Q 1 s22))))))))) ∧ ((x1 = 13) → (w_105 X x2 s (fun v23 s23 => ((-2147483648 ≤ v23 ∧ v23 ≤ 2147483647) ∧ (v23 = 0 → w_104_257 X s23 Q) ∧ (¬ v23 = 0 → (w_106 X x3 s23 (fun v24 s24 => ((-2147483648 ≤ v24 ∧ v24 ≤ 2147483647) ∧ (v24 = 0 → w_104_257 X s24 Q) ∧ (¬ v24 = 0 → Q 1 s24))))))))))) : w_104 X x1 x2 x3 x4 s Q := by
  intro hZ d hd
  have hM : xi_ml[104]? = some xm_104 := rfl
  refine gx_r hM hZ 1 (B := (1, [some (.ref 45), some (.int (Int32.ofInt x1)), some (.int (Int32.ofInt x2)), some (.int (Int32.ofInt x3)), some (.int (Int32.ofInt x4))], [.int (Int32.ofInt x1)], zw X s)) rfl ?_
  by_cases hq0 : (x1 = 0)
  · refine gi_tab hM hZ (x := x1) (o := 87) rfl h.1 ?_ (by decide) ?_
    · rw [hq0]; rfl
    · replace h := h.2.2.1 hq0
      refine gx_r hM hZ 1 (B := (89, [some (.ref 45), some (.int (Int32.ofInt x1)), some (.int (Int32.ofInt x2)), some (.int (Int32.ofInt x3)), some (.int (Int32.ofInt x4))], [.int (Int32.ofInt 1)], zw X s)) rfl ?_
      exact ⟨_, xi_To.rf _ _ _ _, 1, s, rfl, h⟩
  · by_cases hq1 : (x1 = 1)
    · refine gi_tab hM hZ (x := x1) (o := 89) rfl h.1 ?_ (by decide) ?_
      · rw [hq1]; rfl
      · replace h := h.2.2.2.1 hq1
        refine gx_r hM hZ 2 (B := (92, [some (.ref 45), some (.int (Int32.ofInt x1)), some (.int (Int32.ofInt x2)), some (.int (Int32.ofInt x3)), some (.int (Int32.ofInt x4))], [.int (Int32.ofInt 1), .int (Int32.ofInt x2)], zw X s)) rfl ?_
        refine gi_bip hM hZ rfl rfl ?_
        refine gi_call hM (s := s) (hj := 0) hZ rfl rfl (by omega) h ?_
        intro v1 s1 h
        exact ⟨_, xi_To.rf _ _ _ _, v1, s1, zb_end rfl rfl h.1, h.2⟩
    · by_cases hq2 : (x1 = 2)
      · refine gi_tab hM hZ (x := x1) (o := 97) rfl h.1 ?_ (by decide) ?_
        · rw [hq2]; rfl
        · replace h := h.2.2.2.2.1 hq2
          refine gx_r hM hZ 2 (B := (100, [some (.ref 45), some (.int (Int32.ofInt x1)), some (.int (Int32.ofInt x2)), some (.int (Int32.ofInt x3)), some (.int (Int32.ofInt x4))], [.int (Int32.ofInt 0), .int (Int32.ofInt x2)], zw X s)) rfl ?_
          refine gi_bip hM hZ rfl rfl ?_
          refine gi_call hM (s := s) (hj := 0) hZ rfl rfl (by omega) h ?_
          intro v2 s2 h
          exact ⟨_, xi_To.rf _ _ _ _, v2, s2, zb_end rfl rfl h.1, h.2⟩
      · by_cases hq3 : (x1 = 3 ∨ x1 = 4 ∨ x1 = 5 ∨ x1 = 14 ∨ x1 = 15 ∨ x1 = 17)
        · refine gi_tab hM hZ (x := x1) (o := 258) rfl h.1 ?_ (by decide) ?_
          · rcases hq3 with e | e | e | e | e | e <;> (rw [e]; rfl)
          · replace h := h.2.2.2.2.2.1 hq3
            refine gx_r hM hZ 2 (B := (261, [some (.ref 45), some (.int (Int32.ofInt x1)), some (.int (Int32.ofInt x2)), some (.int (Int32.ofInt x3)), some (.int (Int32.ofInt x4))], [.int (Int32.ofInt x2), .ref 45], zw X s)) rfl ?_
            refine gi_call hM (s := s) (hj := 1) hZ rfl rfl (by omega) h ?_
            intro v3 s3 h
            refine gi_if1 hM hZ (fun x => decide (x = 0)) (p := v3 = 0) rfl rfl (zd_eq h.1) ?_ ?_
            · intro hp
              replace h := h.2.1 hp
              exact gx_fg [false, false, false, false, false] (h hZ d hd)
            · intro hp
              replace h := h.2.2 hp
              refine gx_r hM hZ 2 (B := (269, [some (.ref 45), some (.int (Int32.ofInt x1)), some (.int (Int32.ofInt x2)), some (.int (Int32.ofInt x3)), some (.int (Int32.ofInt x4))], [.int (Int32.ofInt x3), .ref 45], zw X s3)) rfl ?_
              refine gi_call hM (s := s3) (hj := 1) hZ rfl rfl (by omega) h ?_
              intro v4 s4 h
              refine gi_if1 hM hZ (fun x => decide (x = 0)) (p := v4 = 0) rfl rfl (zd_eq h.1) ?_ ?_
              · intro hp
                replace h := h.2.1 hp
                exact gx_fg [false, false, false, false, false] (h hZ d hd)
              · intro hp
                replace h := h.2.2 hp
                refine gx_r hM hZ 2 (B := (280, [some (.ref 45), some (.int (Int32.ofInt x1)), some (.int (Int32.ofInt x2)), some (.int (Int32.ofInt x3)), some (.int (Int32.ofInt x4))], [.int (Int32.ofInt 1)], zw X s4)) rfl ?_
                exact ⟨_, xi_To.rf _ _ _ _, 1, s4, rfl, h⟩
        · by_cases hq4 : (x1 = 6)
          · refine gi_tab hM hZ (x := x1) (o := 105) rfl h.1 ?_ (by decide) ?_
            · rw [hq4]; rfl
            · replace h := h.2.2.2.2.2.2.1 hq4
              refine gx_r hM hZ 2 (B := (108, [some (.ref 45), some (.int (Int32.ofInt x1)), some (.int (Int32.ofInt x2)), some (.int (Int32.ofInt x3)), some (.int (Int32.ofInt x4))], [.int (Int32.ofInt 1), .int (Int32.ofInt x2)], zw X s)) rfl ?_
              refine gi_bip hM hZ rfl rfl ?_
              refine gi_call hM (s := s) (hj := 0) hZ rfl rfl (by omega) h ?_
              intro v9 s9 h
              refine gi_if1 hM hZ (fun x => decide (x = 0)) (p := v9 = 0) rfl rfl (zd_eq h.1) ?_ ?_
              · intro hp
                replace h := h.2.1 hp
                exact gx_fg [false, false, false, false, false] (h hZ d hd)
              · intro hp
                replace h := h.2.2 hp
                refine gx_r hM hZ 2 (B := (118, [some (.ref 45), some (.int (Int32.ofInt x1)), some (.int (Int32.ofInt x2)), some (.int (Int32.ofInt x3)), some (.int (Int32.ofInt x4))], [.int (Int32.ofInt x3), .ref 45], zw X s9)) rfl ?_
                refine gi_call hM (s := s9) (hj := 1) hZ rfl rfl (by omega) h ?_
                intro v10 s10 h
                refine gi_if1 hM hZ (fun x => decide (x = 0)) (p := v10 = 0) rfl rfl (zd_eq h.1) ?_ ?_
                · intro hp
                  replace h := h.2.1 hp
                  exact gx_fg [false, false, false, false, false] (h hZ d hd)
                · intro hp
                  replace h := h.2.2 hp
                  refine gx_r hM hZ 2 (B := (127, [some (.ref 45), some (.int (Int32.ofInt x1)), some (.int (Int32.ofInt x2)), some (.int (Int32.ofInt x3)), some (.int (Int32.ofInt x4))], [.int (Int32.ofInt x4), .ref 45], zw X s10)) rfl ?_
                  refine gi_call hM (s := s10) (hj := 1) hZ rfl rfl (by omega) h ?_
                  intro v11 s11 h
                  refine gi_if1 hM hZ (fun x => decide (x = 0)) (p := v11 = 0) rfl rfl (zd_eq h.1) ?_ ?_
                  · intro hp
                    replace h := h.2.1 hp
                    exact gx_fg [false, false, false, false, false] (h hZ d hd)
                  · intro hp
                    replace h := h.2.2 hp
                    refine gx_r hM hZ 2 (B := (138, [some (.ref 45), some (.int (Int32.ofInt x1)), some (.int (Int32.ofInt x2)), some (.int (Int32.ofInt x3)), some (.int (Int32.ofInt x4))], [.int (Int32.ofInt 1)], zw X s11)) rfl ?_
                    exact ⟨_, xi_To.rf _ _ _ _, 1, s11, rfl, h⟩
          · by_cases hq5 : (x1 = 7 ∨ x1 = 8 ∨ x1 = 9 ∨ x1 = 16)
            · refine gi_tab hM hZ (x := x1) (o := 138) rfl h.1 ?_ (by decide) ?_
              · rcases hq5 with e | e | e | e <;> (rw [e]; rfl)
              · replace h := h.2.2.2.2.2.2.2.1 hq5
                refine gx_r hM hZ 2 (B := (141, [some (.ref 45), some (.int (Int32.ofInt x1)), some (.int (Int32.ofInt x2)), some (.int (Int32.ofInt x3)), some (.int (Int32.ofInt x4))], [.int (Int32.ofInt x2), .ref 45], zw X s)) rfl ?_
                refine gi_call hM (s := s) (hj := 1) hZ rfl rfl (by omega) h ?_
                intro v12 s12 h
                exact ⟨_, xi_To.rf _ _ _ _, v12, s12, zb_end rfl rfl h.1, h.2⟩
            · by_cases hq6 : (x1 = 10)
              · refine gi_tab hM hZ (x := x1) (o := 144) rfl h.1 ?_ (by decide) ?_
                · rw [hq6]; rfl
                · replace h := h.2.2.2.2.2.2.2.2.1 hq6
                  refine gx_r hM hZ 2 (B := (147, [some (.ref 45), some (.int (Int32.ofInt x1)), some (.int (Int32.ofInt x2)), some (.int (Int32.ofInt x3)), some (.int (Int32.ofInt x4))], [.int (Int32.ofInt x2), .ref 45], zw X s)) rfl ?_
                  refine gi_call hM (s := s) (hj := 1) hZ rfl rfl (by omega) h ?_
                  intro v15 s15 h
                  refine gi_if1 hM hZ (fun x => decide (x = 0)) (p := v15 = 0) rfl rfl (zd_eq h.1) ?_ ?_
                  · intro hp
                    replace h := h.2.1 hp
                    exact gx_fg [false, false, false, false, false] (h hZ d hd)
                  · intro hp
                    replace h := h.2.2 hp
                    refine gx_r hM hZ 2 (B := (155, [some (.ref 45), some (.int (Int32.ofInt x1)), some (.int (Int32.ofInt x2)), some (.int (Int32.ofInt x3)), some (.int (Int32.ofInt x4))], [.int (Int32.ofInt x3), .ref 45], zw X s15)) rfl ?_
                    refine gi_call hM (s := s15) (hj := 1) hZ rfl rfl (by omega) h ?_
                    intro v16 s16 h
                    refine gi_if1 hM hZ (fun x => decide (x = 0)) (p := v16 = 0) rfl rfl (zd_eq h.1) ?_ ?_
                    · intro hp
                      replace h := h.2.1 hp
                      exact gx_fg [false, false, false, false, false] (h hZ d hd)
                    · intro hp
                      replace h := h.2.2 hp
                      refine gx_r hM hZ 2 (B := (164, [some (.ref 45), some (.int (Int32.ofInt x1)), some (.int (Int32.ofInt x2)), some (.int (Int32.ofInt x3)), some (.int (Int32.ofInt x4))], [.int (Int32.ofInt x4), .ref 45], zw X s16)) rfl ?_
                      refine gi_call hM (s := s16) (hj := 1) hZ rfl rfl (by omega) h ?_
                      intro v17 s17 h
                      refine gi_if1 hM hZ (fun x => decide (x = 0)) (p := v17 = 0) rfl rfl (zd_eq h.1) ?_ ?_
                      · intro hp
                        replace h := h.2.1 hp
                        exact gx_fg [false, false, false, false, false] (h hZ d hd)
                      · intro hp
                        replace h := h.2.2 hp
                        refine gx_r hM hZ 2 (B := (175, [some (.ref 45), some (.int (Int32.ofInt x1)), some (.int (Int32.ofInt x2)), some (.int (Int32.ofInt x3)), some (.int (Int32.ofInt x4))], [.int (Int32.ofInt 1)], zw X s17)) rfl ?_
                        exact ⟨_, xi_To.rf _ _ _ _, 1, s17, rfl, h⟩
              · by_cases hq7 : (x1 = 11)
                · refine gi_tab hM hZ (x := x1) (o := 175) rfl h.1 ?_ (by decide) ?_
                  · rw [hq7]; rfl
                  · replace h := h.2.2.2.2.2.2.2.2.2.1 hq7
                    refine gx_r hM hZ 2 (B := (178, [some (.ref 45), some (.int (Int32.ofInt x1)), some (.int (Int32.ofInt x2)), some (.int (Int32.ofInt x3)), some (.int (Int32.ofInt x4))], [.int (Int32.ofInt 0), .int (Int32.ofInt x2)], zw X s)) rfl ?_
                    refine gi_bip hM hZ rfl rfl ?_
                    refine gi_call hM (s := s) (hj := 0) hZ rfl rfl (by omega) h ?_
                    intro v18 s18 h
                    refine gi_if1 hM hZ (fun x => decide (x = 0)) (p := v18 = 0) rfl rfl (zd_eq h.1) ?_ ?_
                    · intro hp
                      replace h := h.2.1 hp
                      exact gx_fg [false, false, false, false, false] (h hZ d hd)
                    · intro hp
                      replace h := h.2.2 hp
                      refine gx_r hM hZ 2 (B := (188, [some (.ref 45), some (.int (Int32.ofInt x1)), some (.int (Int32.ofInt x2)), some (.int (Int32.ofInt x3)), some (.int (Int32.ofInt x4))], [.int (Int32.ofInt x3), .ref 45], zw X s18)) rfl ?_
                      refine gi_call hM (s := s18) (hj := 1) hZ rfl rfl (by omega) h ?_
                      intro v19 s19 h
                      refine gi_if1 hM hZ (fun x => decide (x = 0)) (p := v19 = 0) rfl rfl (zd_eq h.1) ?_ ?_
                      · intro hp
                        replace h := h.2.1 hp
                        exact gx_fg [false, false, false, false, false] (h hZ d hd)
                      · intro hp
                        replace h := h.2.2 hp
                        refine gx_r hM hZ 2 (B := (197, [some (.ref 45), some (.int (Int32.ofInt x1)), some (.int (Int32.ofInt x2)), some (.int (Int32.ofInt x3)), some (.int (Int32.ofInt x4))], [.int (Int32.ofInt x4), .ref 45], zw X s19)) rfl ?_
                        refine gi_call hM (s := s19) (hj := 1) hZ rfl rfl (by omega) h ?_
                        intro v20 s20 h
                        refine gi_if1 hM hZ (fun x => decide (x = 0)) (p := v20 = 0) rfl rfl (zd_eq h.1) ?_ ?_
                        · intro hp
                          replace h := h.2.1 hp
                          exact gx_fg [false, false, false, false, false] (h hZ d hd)
                        · intro hp
                          replace h := h.2.2 hp
                          refine gx_r hM hZ 2 (B := (208, [some (.ref 45), some (.int (Int32.ofInt x1)), some (.int (Int32.ofInt x2)), some (.int (Int32.ofInt x3)), some (.int (Int32.ofInt x4))], [.int (Int32.ofInt 1)], zw X s20)) rfl ?_
                          exact ⟨_, xi_To.rf _ _ _ _, 1, s20, rfl, h⟩
                · by_cases hq8 : (x1 = 12)
                  · refine gi_tab hM hZ (x := x1) (o := 208) rfl h.1 ?_ (by decide) ?_
                    · rw [hq8]; rfl
                    · replace h := h.2.2.2.2.2.2.2.2.2.2.1 hq8
                      refine gx_r hM hZ 5 (B := (216, [some (.ref 45), some (.int (Int32.ofInt x1)), some (.int (Int32.ofInt x2)), some (.int (Int32.ofInt x3)), some (.int (Int32.ofInt x4))], [.int (Int32.ofInt 1), .int (Int32.ofInt (s 45 3)), .int (Int32.ofInt 0), .int (Int32.ofInt x2)], zw X s)) rfl ?_
                      refine gi_sub hM hZ rfl ?_
                      refine gi_call hM (s := s) (hj := 0) hZ rfl rfl (by omega) h ?_
                      intro v21 s21 h
                      refine gi_if1 hM hZ (fun x => decide (x = 0)) (p := v21 = 0) rfl rfl (zd_eq h.1) ?_ ?_
                      · intro hp
                        replace h := h.2.1 hp
                        exact gx_fg [false, false, false, false, false] (h hZ d hd)
                      · intro hp
                        replace h := h.2.2 hp
                        refine gx_r hM hZ 2 (B := (225, [some (.ref 45), some (.int (Int32.ofInt x1)), some (.int (Int32.ofInt x2)), some (.int (Int32.ofInt x3)), some (.int (Int32.ofInt x4))], [.int (Int32.ofInt x3), .ref 45], zw X s21)) rfl ?_
                        refine gi_call hM (s := s21) (hj := 1) hZ rfl rfl (by omega) h ?_
                        intro v22 s22 h
                        refine gi_if1 hM hZ (fun x => decide (x = 0)) (p := v22 = 0) rfl rfl (zd_eq h.1) ?_ ?_
                        · intro hp
                          replace h := h.2.1 hp
                          exact gx_fg [false, false, false, false, false] (h hZ d hd)
                        · intro hp
                          replace h := h.2.2 hp
                          refine gx_r hM hZ 2 (B := (236, [some (.ref 45), some (.int (Int32.ofInt x1)), some (.int (Int32.ofInt x2)), some (.int (Int32.ofInt x3)), some (.int (Int32.ofInt x4))], [.int (Int32.ofInt 1)], zw X s22)) rfl ?_
                          exact ⟨_, xi_To.rf _ _ _ _, 1, s22, rfl, h⟩
                  · by_cases hq9 : (x1 = 13)
                    · refine gi_tab hM hZ (x := x1) (o := 236) rfl h.1 ?_ (by decide) ?_
                      · rw [hq9]; rfl
                      · replace h := h.2.2.2.2.2.2.2.2.2.2.2 hq9
                        refine gx_r hM hZ 2 (B := (239, [some (.ref 45), some (.int (Int32.ofInt x1)), some (.int (Int32.ofInt x2)), some (.int (Int32.ofInt x3)), some (.int (Int32.ofInt x4))], [.int (Int32.ofInt x2), .ref 45], zw X s)) rfl ?_
                        refine gi_call hM (s := s) (hj := 1) hZ rfl rfl (by omega) h ?_
                        intro v23 s23 h
                        refine gi_if1 hM hZ (fun x => decide (x = 0)) (p := v23 = 0) rfl rfl (zd_eq h.1) ?_ ?_
                        · intro hp
                          replace h := h.2.1 hp
                          exact gx_fg [false, false, false, false, false] (h hZ d hd)
                        · intro hp
                          replace h := h.2.2 hp
                          refine gx_r hM hZ 2 (B := (247, [some (.ref 45), some (.int (Int32.ofInt x1)), some (.int (Int32.ofInt x2)), some (.int (Int32.ofInt x3)), some (.int (Int32.ofInt x4))], [.int (Int32.ofInt x3), .ref 45], zw X s23)) rfl ?_
                          refine gi_call hM (s := s23) (hj := 1) hZ rfl rfl (by omega) h ?_
                          intro v24 s24 h
                          refine gi_if1 hM hZ (fun x => decide (x = 0)) (p := v24 = 0) rfl rfl (zd_eq h.1) ?_ ?_
                          · intro hp
                            replace h := h.2.1 hp
                            exact gx_fg [false, false, false, false, false] (h hZ d hd)
                          · intro hp
                            replace h := h.2.2 hp
                            refine gx_r hM hZ 2 (B := (258, [some (.ref 45), some (.int (Int32.ofInt x1)), some (.int (Int32.ofInt x2)), some (.int (Int32.ofInt x3)), some (.int (Int32.ofInt x4))], [.int (Int32.ofInt 1)], zw X s24)) rfl ?_
                            exact ⟨_, xi_To.rf _ _ _ _, 1, s24, rfl, h⟩
                    · refine gi_tab hM hZ (x := x1) (o := 280) rfl h.1 ?_ (by decide) ?_
                      · exact if_pos (by omega)
                      · replace h := h.2.1 (by omega)
                        refine gx_r hM hZ 1 (B := (282, [some (.ref 45), some (.int (Int32.ofInt x1)), some (.int (Int32.ofInt x2)), some (.int (Int32.ofInt x3)), some (.int (Int32.ofInt x4))], [.int (Int32.ofInt 0)], zw X s)) rfl ?_
                        exact ⟨_, xi_To.rf _ _ _ _, 0, s, rfl, h⟩
theorem w_104_137_i {X : zX} {s : zS} {Q : Int → zS → Prop} (h : Q 0 s) : w_104_137 X s Q := by
  intro hZ d hd
  have hM : xi_ml[104]? = some xm_104 := rfl
  refine gx_r hM hZ 1 (B := (138, [none, none, none, none, none], [.int (Int32.ofInt 0)], zw X s)) rfl ?_
  exact ⟨_, xi_To.rf _ _ _ _, 0, s, rfl, h⟩
theorem w_104_174_i {X : zX} {s : zS} {Q : Int → zS → Prop} (h : Q 0 s) : w_104_174 X s Q := by
  intro hZ d hd
  have hM : xi_ml[104]? = some xm_104 := rfl
  refine gx_r hM hZ 1 (B := (175, [none, none, none, none, none], [.int (Int32.ofInt 0)], zw X s)) rfl ?_
  exact ⟨_, xi_To.rf _ _ _ _, 0, s, rfl, h⟩
theorem w_104_207_i {X : zX} {s : zS} {Q : Int → zS → Prop} (h : Q 0 s) : w_104_207 X s Q := by
  intro hZ d hd
  have hM : xi_ml[104]? = some xm_104 := rfl
  refine gx_r hM hZ 1 (B := (208, [none, none, none, none, none], [.int (Int32.ofInt 0)], zw X s)) rfl ?_
  exact ⟨_, xi_To.rf _ _ _ _, 0, s, rfl, h⟩
theorem w_104_235_i {X : zX} {s : zS} {Q : Int → zS → Prop} (h : Q 0 s) : w_104_235 X s Q := by
  intro hZ d hd
  have hM : xi_ml[104]? = some xm_104 := rfl
  refine gx_r hM hZ 1 (B := (236, [none, none, none, none, none], [.int (Int32.ofInt 0)], zw X s)) rfl ?_
  exact ⟨_, xi_To.rf _ _ _ _, 0, s, rfl, h⟩
theorem w_104_257_i {X : zX} {s : zS} {Q : Int → zS → Prop} (h : Q 0 s) : w_104_257 X s Q := by
  intro hZ d hd
  have hM : xi_ml[104]? = some xm_104 := rfl
  refine gx_r hM hZ 1 (B := (258, [none, none, none, none, none], [.int (Int32.ofInt 0)], zw X s)) rfl ?_
  exact ⟨_, xi_To.rf _ _ _ _, 0, s, rfl, h⟩
theorem w_104_279_i {X : zX} {s : zS} {Q : Int → zS → Prop} (h : Q 0 s) : w_104_279 X s Q := by
  intro hZ d hd
  have hM : xi_ml[104]? = some xm_104 := rfl
  refine gx_r hM hZ 1 (B := (280, [none, none, none, none, none], [.int (Int32.ofInt 0)], zw X s)) rfl ?_
  exact ⟨_, xi_To.rf _ _ _ _, 0, s, rfl, h⟩
-- RootLoomModel.body
def w_107 (X : zX) (x1 x2 : Int) (s : zS) (Q : Int → zS → Prop) : Prop := wW X 107 xm_107 2 (0, [some (.ref 45), some (.int (Int32.ofInt x1)), some (.int (Int32.ofInt x2))], [], zw X s) Q
def w_107_32 (X : zX) (s : zS) (Q : Int → zS → Prop) : Prop := wW X 107 xm_107 2 (32, [none, none, none], [], zw X s) Q
def w_107_34 (X : zX) (x1 x2 : Int) (s : zS) (Q : Int → zS → Prop) : Prop := wW X 107 xm_107 2 (34, [some (.ref 45), some (.int (Int32.ofInt x1)), some (.int (Int32.ofInt x2))], [], zw X s) Q
theorem w_107_i {X : zX} {x1 x2 : Int} {s : zS} {Q : Int → zS → Prop} (h : (∀ s1 : zS, s1 = zu s 45 0 0 → (w_101 X x1 0 ((s1 45 3) - 1) s1 (fun v2 s2 => ((-2147483648 ≤ v2 ∧ v2 ≤ 2147483647) ∧ (v2 = 0 → w_107_32 X s2 Q) ∧ (¬ v2 = 0 → ((-2147483648 ≤ x2 ∧ x2 ≤ 2147483647) ∧ (x2 = (-1) → w_107_34 X x1 x2 s2 Q) ∧ (¬ x2 = (-1) → (w_105 X x2 s2 (fun v3 s3 => ((-2147483648 ≤ v3 ∧ v3 ≤ 2147483647) ∧ (¬ v3 = 0 → w_107_34 X x1 x2 s3 Q) ∧ (¬ ¬ v3 = 0 → w_107_32 X s3 Q)))))))))))) : w_107 X x1 x2 s Q := by
  intro hZ d hd
  have hM : xi_ml[107]? = some xm_107 := rfl
  refine gx_r hM hZ 2 (B := (2, [some (.ref 45), some (.int (Int32.ofInt x1)), some (.int (Int32.ofInt x2))], [.int (Int32.ofInt 0), .ref 45], zw X s)) rfl ?_
  obtain ⟨s1, e1⟩ : ∃ q : zS, q = zu s 45 0 0 := ⟨_, rfl⟩
  refine gj_put hM hZ rfl rfl rfl (Nat.le_of_ble_eq_true rfl) rfl rfl zq_45_0 e1 ?_
  replace h := h _ e1
  refine gx_r hM hZ 5 (B := (12, [some (.ref 45), some (.int (Int32.ofInt x1)), some (.int (Int32.ofInt x2))], [.int (Int32.ofInt 1), .int (Int32.ofInt (s1 45 3)), .int (Int32.ofInt 0), .int (Int32.ofInt x1)], zw X s1)) rfl ?_
  refine gi_sub hM hZ rfl ?_
  refine gi_call hM (s := s1) (hj := 0) hZ rfl rfl (by omega) h ?_
  intro v2 s2 h
  refine gi_if1 hM hZ (fun x => decide (x = 0)) (p := v2 = 0) rfl rfl (zd_eq h.1) ?_ ?_
  · intro hp
    replace h := h.2.1 hp
    exact gx_fg [false, false, false] (h hZ d hd)
  · intro hp
    replace h := h.2.2 hp
    refine gx_r hM hZ 2 (B := (21, [some (.ref 45), some (.int (Int32.ofInt x1)), some (.int (Int32.ofInt x2))], [.int (Int32.ofInt (-1)), .int (Int32.ofInt x2)], zw X s2)) rfl ?_
    refine gi_if2 hM hZ (fun x y => decide (x = y)) (p := x2 = (-1)) rfl rfl (zc_eq h.1 (by decide)) ?_ ?_
    · intro hp
      replace h := h.2.1 hp
      exact gx_fg [true, true, true] (h hZ d hd)
    · intro hp
      replace h := h.2.2 hp
      refine gx_r hM hZ 2 (B := (26, [some (.ref 45), some (.int (Int32.ofInt x1)), some (.int (Int32.ofInt x2))], [.int (Int32.ofInt x2), .ref 45], zw X s2)) rfl ?_
      refine gi_call hM (s := s2) (hj := 1) hZ rfl rfl (by omega) h ?_
      intro v3 s3 h
      refine gi_if1 hM hZ (fun x => decide (¬ x = 0)) (p := ¬ v3 = 0) rfl rfl (zd_ne h.1) ?_ ?_
      · intro hp
        replace h := h.2.1 hp
        exact gx_fg [true, true, true] (h hZ d hd)
      · intro hp
        replace h := h.2.2 hp
        exact gx_fg [false, false, false] (h hZ d hd)
theorem w_107_32_i {X : zX} {s : zS} {Q : Int → zS → Prop} (h : Q 0 s) : w_107_32 X s Q := by
  intro hZ d hd
  have hM : xi_ml[107]? = some xm_107 := rfl
  refine gx_r hM hZ 1 (B := (33, [none, none, none], [.int (Int32.ofInt 0)], zw X s)) rfl ?_
  exact ⟨_, xi_To.rf _ _ _ _, 0, s, rfl, h⟩
theorem w_107_34_i {X : zX} {x1 x2 : Int} {s : zS} {Q : Int → zS → Prop} (h : (0 ≤ x1 ∧ x1 < 6) ∧ (∀ s1 : zS, s1 = zu s 51 x1 x2 → Q 1 s1)) : w_107_34 X x1 x2 s Q := by
  intro hZ d hd
  have hM : xi_ml[107]? = some xm_107 := rfl
  refine gx_r hM hZ 4 (B := (40, [some (.ref 45), some (.int (Int32.ofInt x1)), some (.int (Int32.ofInt x2))], [.int (Int32.ofInt x2), .int (Int32.ofInt x1), .ref 51], zw X s)) rfl ?_
  obtain ⟨s1, e1⟩ : ∃ q : zS, q = zu s 51 x1 x2 := ⟨_, rfl⟩
  refine gj_iast hM hZ (len := 6) rfl rfl (Nat.le_of_ble_eq_true rfl) zp_51 h.1 e1 ?_
  replace h := h.2 _ e1
  refine gx_r hM hZ 1 (B := (42, [some (.ref 45), some (.int (Int32.ofInt x1)), some (.int (Int32.ofInt x2))], [.int (Int32.ofInt 1)], zw X s1)) rfl ?_
  exact ⟨_, xi_To.rf _ _ _ _, 1, s1, rfl, h⟩
-- RootLoomModel.isTooLarge
def w_109 (X : zX) (s : zS) (Q : Int → zS → Prop) : Prop := wW X 109 xm_109 2 (0, [some (.ref 45), none, none, none], [], zw X s) Q
def w_109_6 (X : zX) (x1 x2 x3 : Int) (s : zS) (Q : Int → zS → Prop) : Prop := wW X 109 xm_109 2 (6, [some (.ref 45), some (.int (Int32.ofInt x1)), some (.int (Int32.ofInt x2)), some (.int (Int32.ofInt x3))], [], zw X s) Q
def w_109_27 (X : zX) (x1 x2 x3 : Int) (s : zS) (Q : Int → zS → Prop) : Prop := wW X 109 xm_109 2 (27, [some (.ref 45), some (.int (Int32.ofInt x1)), some (.int (Int32.ofInt x2)), some (.int (Int32.ofInt x3))], [], zw X s) Q
def w_109_79 (X : zX) (x1 x2 x3 : Int) (s : zS) (Q : Int → zS → Prop) : Prop := wW X 109 xm_109 2 (79, [some (.ref 45), some (.int (Int32.ofInt x1)), some (.int (Int32.ofInt x2)), some (.int (Int32.ofInt x3))], [], zw X s) Q
def w_109_103 (X : zX) (s : zS) (Q : Int → zS → Prop) : Prop := wW X 109 xm_109 2 (103, [none, none, none, none], [], zw X s) Q
theorem w_109_i {X : zX} {s : zS} {Q : Int → zS → Prop} (h : w_109_6 X 0 0 0 s Q) : w_109 X s Q := by
  intro hZ d hd
  have hM : xi_ml[109]? = some xm_109 := rfl
  refine gx_r hM hZ 6 (B := (6, [some (.ref 45), some (.int (Int32.ofInt 0)), some (.int (Int32.ofInt 0)), some (.int (Int32.ofInt 0))], [], zw X s)) rfl ?_
  exact gx_fg [true, true, true, true] (h hZ d hd)
theorem w_109_6_i {X : zX} {x1 x2 x3 : Int} {s : zS} {Q : Int → zS → Prop} (h : (((-2147483648 ≤ x3 ∧ x3 ≤ 2147483647) ∧ (-2147483648 ≤ (s 45 8) ∧ (s 45 8) ≤ 2147483647)) ∧ ((s 45 8) ≤ x3 → w_109_27 X x1 x2 0 s Q) ∧ (¬ (s 45 8) ≤ x3 → (w_110 X x3 s (fun _ s1 => w_109_6 X x1 x2 (x3 + 1) s1 Q))))) : w_109_6 X x1 x2 x3 s Q := by
  intro hZ d hd
  have hM : xi_ml[109]? = some xm_109 := rfl
  refine gx_r hM hZ 3 (B := (11, [some (.ref 45), some (.int (Int32.ofInt x1)), some (.int (Int32.ofInt x2)), some (.int (Int32.ofInt x3))], [.int (Int32.ofInt (s 45 8)), .int (Int32.ofInt x3)], zw X s)) rfl ?_
  refine gi_if2 hM hZ (fun x y => decide (y ≤ x)) (p := (s 45 8) ≤ x3) rfl rfl (zc_ge h.1.1 h.1.2) ?_ ?_
  · intro hp
    replace h := h.2.1 hp
    refine gx_r hM hZ 2 (B := (27, [some (.ref 45), some (.int (Int32.ofInt x1)), some (.int (Int32.ofInt x2)), some (.int (Int32.ofInt 0))], [], zw X s)) rfl ?_
    exact gx_fg [true, true, true, true] (h hZ d hd)
  · intro hp
    replace h := h.2.2 hp
    refine gx_r hM hZ 2 (B := (16, [some (.ref 45), some (.int (Int32.ofInt x1)), some (.int (Int32.ofInt x2)), some (.int (Int32.ofInt x3))], [.int (Int32.ofInt x3), .ref 45], zw X s)) rfl ?_
    refine gi_call hM (s := s) (hj := 1) hZ rfl rfl (by omega) h ?_
    intro _ s1 h
    refine gi_inc hM hZ (x := x3) (m := 1) rfl rfl ?_
    refine gx_r hM hZ 0 (B := (22, [some (.ref 45), some (.int (Int32.ofInt x1)), some (.int (Int32.ofInt x2)), some (.int (Int32.ofInt (x3 + 1)))], [], zw X s1)) rfl ?_
    refine gx_r hM hZ 1 (B := (6, [some (.ref 45), some (.int (Int32.ofInt x1)), some (.int (Int32.ofInt x2)), some (.int (Int32.ofInt (x3 + 1)))], [], zw X s1)) rfl ?_
    exact gx_fg [true, true, true, true] (h hZ d hd)
theorem w_109_27_i {X : zX} {x1 x2 x3 : Int} {s : zS} {Q : Int → zS → Prop} (h : (((-2147483648 ≤ x3 ∧ x3 ≤ 2147483647) ∧ (-2147483648 ≤ (s 45 3) ∧ (s 45 3) ≤ 2147483647)) ∧ ((s 45 3) ≤ x3 → (∀ s1 : zS, s1 = zu s 45 26 x2 → ((-2147483648 ≤ x1 ∧ x1 ≤ 2147483647) ∧ (400 < x1 → w_109_103 X s1 Q) ∧ (¬ 400 < x1 → ((-2147483648 ≤ x2 ∧ x2 ≤ 2147483647) ∧ (x2 ≤ 16 → Q 0 s1) ∧ (¬ x2 ≤ 16 → w_109_103 X s1 Q)))))) ∧ (¬ (s 45 3) ≤ x3 → (0 ≤ x3 ∧ x3 < 6) ∧ ((-2147483648 ≤ (s 51 x3) ∧ (s 51 x3) ≤ 2147483647) ∧ (0 ≤ (s 51 x3) → (0 ≤ x3 ∧ x3 < 6) ∧ (0 ≤ (s 51 x3) ∧ (s 51 x3) < 150) ∧ (0 ≤ x3 ∧ x3 < 6) ∧ (0 ≤ (s 51 x3) ∧ (s 51 x3) < 150) ∧ (w_111 X x2 (s 57 (s 51 x3)) s (fun v2 s2 => w_109_79 X (x1 + ((s 56 (s 51 x3)) + 1)) v2 x3 s2 Q))) ∧ (¬ 0 ≤ (s 51 x3) → w_109_79 X x1 x2 x3 s Q))))) : w_109_27 X x1 x2 x3 s Q := by
  intro hZ d hd
  have hM : xi_ml[109]? = some xm_109 := rfl
  refine gx_r hM hZ 3 (B := (32, [some (.ref 45), some (.int (Int32.ofInt x1)), some (.int (Int32.ofInt x2)), some (.int (Int32.ofInt x3))], [.int (Int32.ofInt (s 45 3)), .int (Int32.ofInt x3)], zw X s)) rfl ?_
  refine gi_if2 hM hZ (fun x y => decide (y ≤ x)) (p := (s 45 3) ≤ x3) rfl rfl (zc_ge h.1.1 h.1.2) ?_ ?_
  · intro hp
    replace h := h.2.1 hp
    refine gx_r hM hZ 2 (B := (87, [some (.ref 45), some (.int (Int32.ofInt x1)), some (.int (Int32.ofInt x2)), some (.int (Int32.ofInt x3))], [.int (Int32.ofInt x2), .ref 45], zw X s)) rfl ?_
    obtain ⟨s1, e1⟩ : ∃ q : zS, q = zu s 45 26 x2 := ⟨_, rfl⟩
    refine gj_put hM hZ rfl rfl rfl (Nat.le_of_ble_eq_true rfl) rfl rfl zq_45_26 e1 ?_
    replace h := h _ e1
    refine gx_r hM hZ 1 (B := (91, [some (.ref 45), some (.int (Int32.ofInt x1)), some (.int (Int32.ofInt x2)), some (.int (Int32.ofInt x3))], [.int (Int32.ofInt x1)], zw X s1)) rfl ?_
    refine gi_sip hM hZ rfl rfl ?_
    refine gi_if2 hM hZ (fun x y => decide (y < x)) (p := 400 < x1) rfl rfl (zc_gt h.1 (by decide)) ?_ ?_
    · intro hp
      replace h := h.2.1 hp
      exact gx_fg [false, false, false, false] (h hZ d hd)
    · intro hp
      replace h := h.2.2 hp
      refine gx_r hM hZ 1 (B := (98, [some (.ref 45), some (.int (Int32.ofInt x1)), some (.int (Int32.ofInt x2)), some (.int (Int32.ofInt x3))], [.int (Int32.ofInt x2)], zw X s1)) rfl ?_
      refine gi_bip hM hZ rfl rfl ?_
      refine gi_if2 hM hZ (fun x y => decide (x ≤ y)) (p := x2 ≤ 16) rfl rfl (zc_le h.1 (by decide)) ?_ ?_
      · intro hp
        replace h := h.2.1 hp
        refine gx_r hM hZ 1 (B := (108, [some (.ref 45), some (.int (Int32.ofInt x1)), some (.int (Int32.ofInt x2)), some (.int (Int32.ofInt x3))], [.int (Int32.ofInt 0)], zw X s1)) rfl ?_
        exact ⟨_, xi_To.rf _ _ _ _, 0, s1, rfl, h⟩
      · intro hp
        replace h := h.2.2 hp
        exact gx_fg [false, false, false, false] (h hZ d hd)
  · intro hp
    replace h := h.2.2 hp
    refine gx_r hM hZ 3 (B := (40, [some (.ref 45), some (.int (Int32.ofInt x1)), some (.int (Int32.ofInt x2)), some (.int (Int32.ofInt x3))], [.int (Int32.ofInt x3), .ref 51], zw X s)) rfl ?_
    refine gi_iald hM hZ (s := s) (len := 6) rfl rfl (Nat.le_of_ble_eq_true rfl) h.1 ?_
    replace h := h.2
    refine gi_if1 hM hZ (fun x => decide (0 ≤ x)) (p := 0 ≤ (s 51 x3)) rfl rfl (zd_ge h.1) ?_ ?_
    · intro hp
      replace h := h.2.1 hp
      refine gx_r hM hZ 6 (B := (57, [some (.ref 45), some (.int (Int32.ofInt x1)), some (.int (Int32.ofInt x2)), some (.int (Int32.ofInt x3))], [.int (Int32.ofInt x3), .ref 51, .ref 56, .int (Int32.ofInt x1)], zw X s)) rfl ?_
      refine gi_iald hM hZ (s := s) (len := 6) rfl rfl (Nat.le_of_ble_eq_true rfl) h.1 ?_
      replace h := h.2
      refine gi_iald hM hZ (s := s) (len := 150) rfl rfl (Nat.le_of_ble_eq_true rfl) h.1 ?_
      replace h := h.2
      refine gx_r hM hZ 1 (B := (60, [some (.ref 45), some (.int (Int32.ofInt x1)), some (.int (Int32.ofInt x2)), some (.int (Int32.ofInt x3))], [.int (Int32.ofInt 1), .int (Int32.ofInt (s 56 (s 51 x3))), .int (Int32.ofInt x1)], zw X s)) rfl ?_
      refine gi_add hM hZ rfl ?_
      refine gi_add hM hZ rfl ?_
      refine gx_r hM hZ 7 (B := (73, [some (.ref 45), some (.int (Int32.ofInt (x1 + ((s 56 (s 51 x3)) + 1)))), some (.int (Int32.ofInt x2)), some (.int (Int32.ofInt x3))], [.int (Int32.ofInt x3), .ref 51, .ref 57, .int (Int32.ofInt x2)], zw X s)) rfl ?_
      refine gi_iald hM hZ (s := s) (len := 6) rfl rfl (Nat.le_of_ble_eq_true rfl) h.1 ?_
      replace h := h.2
      refine gi_iald hM hZ (s := s) (len := 150) rfl rfl (Nat.le_of_ble_eq_true rfl) h.1 ?_
      replace h := h.2
      refine gi_call hM (s := s) (hj := 0) hZ rfl rfl (by omega) h ?_
      intro v2 s2 h
      refine gx_r hM hZ 1 (B := (79, [some (.ref 45), some (.int (Int32.ofInt (x1 + ((s 56 (s 51 x3)) + 1)))), some (.int (Int32.ofInt v2)), some (.int (Int32.ofInt x3))], [], zw X s2)) rfl ?_
      exact gx_fg [true, true, true, true] (h hZ d hd)
    · intro hp
      replace h := h.2.2 hp
      refine gx_r hM hZ 1 (B := (79, [some (.ref 45), some (.int (Int32.ofInt x1)), some (.int (Int32.ofInt x2)), some (.int (Int32.ofInt x3))], [], zw X s)) rfl ?_
      exact gx_fg [true, true, true, true] (h hZ d hd)
theorem w_109_79_i {X : zX} {x1 x2 x3 : Int} {s : zS} {Q : Int → zS → Prop} (h : w_109_27 X x1 x2 (x3 + 1) s Q) : w_109_79 X x1 x2 x3 s Q := by
  intro hZ d hd
  have hM : xi_ml[109]? = some xm_109 := rfl
  refine gi_inc hM hZ (x := x3) (m := 1) rfl rfl ?_
  refine gx_r hM hZ 0 (B := (82, [some (.ref 45), some (.int (Int32.ofInt x1)), some (.int (Int32.ofInt x2)), some (.int (Int32.ofInt (x3 + 1)))], [], zw X s)) rfl ?_
  refine gx_r hM hZ 1 (B := (27, [some (.ref 45), some (.int (Int32.ofInt x1)), some (.int (Int32.ofInt x2)), some (.int (Int32.ofInt (x3 + 1)))], [], zw X s)) rfl ?_
  exact gx_fg [true, true, true, true] (h hZ d hd)
theorem w_109_103_i {X : zX} {s : zS} {Q : Int → zS → Prop} (h : Q 1 s) : w_109_103 X s Q := by
  intro hZ d hd
  have hM : xi_ml[109]? = some xm_109 := rfl
  refine gx_r hM hZ 2 (B := (108, [none, none, none, none], [.int (Int32.ofInt 1)], zw X s)) rfl ?_
  exact ⟨_, xi_To.rf _ _ _ _, 1, s, rfl, h⟩
-- RootLoomModel.callBehind
def w_120 (X : zX) (x1 : Int) (s : zS) (Q : Int → zS → Prop) : Prop := wW X 120 xm_120 2 (0, [some (.ref 45), some (.int (Int32.ofInt x1)), none, none, none, none], [], zw X s) Q
def w_120_17 (X : zX) (x2 x3 x4 : Int) (s : zS) (Q : Int → zS → Prop) : Prop := wW X 120 xm_120 2 (17, [some (.ref 45), none, some (.int (Int32.ofInt x2)), some (.int (Int32.ofInt x3)), some (.int (Int32.ofInt x4)), none], [], zw X s) Q
def w_120_61 (X : zX) (x2 x3 : Int) (s : zS) (Q : Int → zS → Prop) : Prop := wW X 120 xm_120 2 (61, [some (.ref 45), none, some (.int (Int32.ofInt x2)), some (.int (Int32.ofInt x3)), none, none], [.ref 45], zw X s) Q
def w_120_62 (X : zX) (x2 x3 t1 : Int) (s : zS) (Q : Int → zS → Prop) : Prop := wW X 120 xm_120 2 (62, [some (.ref 45), none, some (.int (Int32.ofInt x2)), some (.int (Int32.ofInt x3)), none, none], [.int (Int32.ofInt t1), .ref 45], zw X s) Q
def w_120_78 (X : zX) (x2 x4 : Int) (s : zS) (Q : Int → zS → Prop) : Prop := wW X 120 xm_120 2 (78, [some (.ref 45), none, some (.int (Int32.ofInt x2)), none, some (.int (Int32.ofInt x4)), none], [], zw X s) Q
def w_120_112 (X : zX) (x2 x4 : Int) (s : zS) (Q : Int → zS → Prop) : Prop := wW X 120 xm_120 2 (112, [some (.ref 45), none, some (.int (Int32.ofInt x2)), none, some (.int (Int32.ofInt x4)), none], [.ref 45], zw X s) Q
def w_120_117 (X : zX) (x2 x4 t1 : Int) (s : zS) (Q : Int → zS → Prop) : Prop := wW X 120 xm_120 2 (117, [some (.ref 45), none, some (.int (Int32.ofInt x2)), none, some (.int (Int32.ofInt x4)), none], [.int (Int32.ofInt t1), .ref 45], zw X s) Q
theorem w_120_i {X : zX} {x1 : Int} {s : zS} {Q : Int → zS → Prop} (h : (0 ≤ x1 ∧ x1 < 150) ∧ (0 ≤ x1 ∧ x1 < 150) ∧ w_120_17 X (s 53 x1) 0 (s 54 x1) s Q) : w_120 X x1 s Q := by
  intro hZ d hd
  have hM : xi_ml[120]? = some xm_120 := rfl
  refine gx_r hM hZ 3 (B := (5, [some (.ref 45), some (.int (Int32.ofInt x1)), none, none, none, none], [.int (Int32.ofInt x1), .ref 53], zw X s)) rfl ?_
  refine gi_iald hM hZ (s := s) (len := 150) rfl rfl (Nat.le_of_ble_eq_true rfl) h.1 ?_
  replace h := h.2
  refine gx_r hM hZ 6 (B := (14, [some (.ref 45), some (.int (Int32.ofInt x1)), some (.int (Int32.ofInt (s 53 x1))), some (.int (Int32.ofInt 0)), none, none], [.int (Int32.ofInt x1), .ref 54], zw X s)) rfl ?_
  refine gi_iald hM hZ (s := s) (len := 150) rfl rfl (Nat.le_of_ble_eq_true rfl) h.1 ?_
  replace h := h.2
  refine gx_r hM hZ 1 (B := (17, [some (.ref 45), some (.int (Int32.ofInt x1)), some (.int (Int32.ofInt (s 53 x1))), some (.int (Int32.ofInt 0)), some (.int (Int32.ofInt (s 54 x1))), none], [], zw X s)) rfl ?_
  exact gx_fg [true, false, true, true, true, false] (h hZ d hd)
theorem w_120_17_i {X : zX} {x2 x3 x4 : Int} {s : zS} {Q : Int → zS → Prop} (h : ((-2147483648 ≤ x4 ∧ x4 ≤ 2147483647) ∧ (x4 < 0 → (0 ≤ x2 ∧ x2 < 6) ∧ ((-2147483648 ≤ (s 51 x2) ∧ (s 51 x2) ≤ 2147483647) ∧ ((s 51 x2) < 0 → w_120_61 X x2 x3 s Q) ∧ (¬ (s 51 x2) < 0 → (0 ≤ x2 ∧ x2 < 6) ∧ (((-2147483648 ≤ x3 ∧ x3 ≤ 2147483647) ∧ (-2147483648 ≤ (s 49 x2) ∧ (s 49 x2) ≤ 2147483647)) ∧ (¬ x3 = (s 49 x2) → w_120_61 X x2 x3 s Q) ∧ (¬ ¬ x3 = (s 49 x2) → w_120_62 X x2 x3 1 s Q))))) ∧ (¬ x4 < 0 → (0 ≤ x4 ∧ x4 < 150) ∧ w_120_17 X x2 (x3 + 1) (s 54 x4) s Q))) : w_120_17 X x2 x3 x4 s Q := by
  intro hZ d hd
  have hM : xi_ml[120]? = some xm_120 := rfl
  refine gx_r hM hZ 1 (B := (19, [some (.ref 45), none, some (.int (Int32.ofInt x2)), some (.int (Int32.ofInt x3)), some (.int (Int32.ofInt x4)), none], [.int (Int32.ofInt x4)], zw X s)) rfl ?_
  refine gi_if1 hM hZ (fun x => decide (x < 0)) (p := x4 < 0) rfl rfl (zd_lt h.1) ?_ ?_
  · intro hp
    replace h := h.2.1 hp
    refine gx_r hM hZ 4 (B := (43, [some (.ref 45), none, some (.int (Int32.ofInt x2)), some (.int (Int32.ofInt x3)), some (.int (Int32.ofInt x4)), none], [.int (Int32.ofInt x2), .ref 51, .ref 45], zw X s)) rfl ?_
    refine gi_iald hM hZ (s := s) (len := 6) rfl rfl (Nat.le_of_ble_eq_true rfl) h.1 ?_
    replace h := h.2
    refine gi_if1 hM hZ (fun x => decide (x < 0)) (p := (s 51 x2) < 0) rfl rfl (zd_lt h.1) ?_ ?_
    · intro hp
      replace h := h.2.1 hp
      exact gx_fg [true, false, true, true, false, false] (h hZ d hd)
    · intro hp
      replace h := h.2.2 hp
      refine gx_r hM hZ 4 (B := (53, [some (.ref 45), none, some (.int (Int32.ofInt x2)), some (.int (Int32.ofInt x3)), some (.int (Int32.ofInt x4)), none], [.int (Int32.ofInt x2), .ref 49, .int (Int32.ofInt x3), .ref 45], zw X s)) rfl ?_
      refine gi_iald hM hZ (s := s) (len := 6) rfl rfl (Nat.le_of_ble_eq_true rfl) h.1 ?_
      replace h := h.2
      refine gi_if2 hM hZ (fun x y => decide (¬ x = y)) (p := ¬ x3 = (s 49 x2)) rfl rfl (zc_ne h.1.1 h.1.2) ?_ ?_
      · intro hp
        replace h := h.2.1 hp
        exact gx_fg [true, false, true, true, false, false] (h hZ d hd)
      · intro hp
        replace h := h.2.2 hp
        refine gx_r hM hZ 2 (B := (62, [some (.ref 45), none, some (.int (Int32.ofInt x2)), some (.int (Int32.ofInt x3)), some (.int (Int32.ofInt x4)), none], [.int (Int32.ofInt 1), .ref 45], zw X s)) rfl ?_
        exact gx_fg [true, false, true, true, false, false] (h hZ d hd)
  · intro hp
    replace h := h.2.2 hp
    refine gi_inc hM hZ (x := x3) (m := 1) rfl rfl ?_
    refine gx_r hM hZ 0 (B := (25, [some (.ref 45), none, some (.int (Int32.ofInt x2)), some (.int (Int32.ofInt (x3 + 1))), some (.int (Int32.ofInt x4)), none], [], zw X s)) rfl ?_
    refine gx_r hM hZ 3 (B := (31, [some (.ref 45), none, some (.int (Int32.ofInt x2)), some (.int (Int32.ofInt (x3 + 1))), some (.int (Int32.ofInt x4)), none], [.int (Int32.ofInt x4), .ref 54], zw X s)) rfl ?_
    refine gi_iald hM hZ (s := s) (len := 150) rfl rfl (Nat.le_of_ble_eq_true rfl) h.1 ?_
    replace h := h.2
    refine gx_r hM hZ 2 (B := (17, [some (.ref 45), none, some (.int (Int32.ofInt x2)), some (.int (Int32.ofInt (x3 + 1))), some (.int (Int32.ofInt (s 54 x4))), none], [], zw X s)) rfl ?_
    exact gx_fg [true, false, true, true, true, false] (h hZ d hd)
theorem w_120_61_i {X : zX} {x2 x3 : Int} {s : zS} {Q : Int → zS → Prop} (h : w_120_62 X x2 x3 0 s Q) : w_120_61 X x2 x3 s Q := by
  intro hZ d hd
  have hM : xi_ml[120]? = some xm_120 := rfl
  refine gx_r hM hZ 1 (B := (62, [some (.ref 45), none, some (.int (Int32.ofInt x2)), some (.int (Int32.ofInt x3)), none, none], [.int (Int32.ofInt 0), .ref 45], zw X s)) rfl ?_
  exact gx_fg [true, false, true, true, false, false] (h hZ d hd)
theorem w_120_62_i {X : zX} {x2 x3 t1 : Int} {s : zS} {Q : Int → zS → Prop} (h : (w_118 X t1 s (fun _ s1 => (w_121 X 13 x2 x3 s1 (fun _ s2 => w_120_78 X x2 (x3 - 1) s2 Q))))) : w_120_62 X x2 x3 t1 s Q := by
  intro hZ d hd
  have hM : xi_ml[120]? = some xm_120 := rfl
  refine gi_call hM (s := s) (hj := 0) hZ rfl rfl (by omega) h ?_
  intro _ s1 h
  refine gx_r hM hZ 1 (B := (66, [some (.ref 45), none, some (.int (Int32.ofInt x2)), some (.int (Int32.ofInt x3)), none, none], [.ref 45], zw X s1)) rfl ?_
  refine gi_bip hM hZ rfl rfl ?_
  refine gx_r hM hZ 2 (B := (70, [some (.ref 45), none, some (.int (Int32.ofInt x2)), some (.int (Int32.ofInt x3)), none, none], [.int (Int32.ofInt x3), .int (Int32.ofInt x2), .int (Int32.ofInt 13), .ref 45], zw X s1)) rfl ?_
  refine gi_call hM (s := s1) (hj := 1) hZ rfl rfl (by omega) h ?_
  intro _ s2 h
  refine gx_r hM hZ 2 (B := (75, [some (.ref 45), none, some (.int (Int32.ofInt x2)), some (.int (Int32.ofInt x3)), none, none], [.int (Int32.ofInt 1), .int (Int32.ofInt x3)], zw X s2)) rfl ?_
  refine gi_sub hM hZ rfl ?_
  refine gx_r hM hZ 1 (B := (78, [some (.ref 45), none, some (.int (Int32.ofInt x2)), some (.int (Int32.ofInt x3)), some (.int (Int32.ofInt (x3 - 1))), none], [], zw X s2)) rfl ?_
  exact gx_fg [true, false, true, false, true, false] (h hZ d hd)
theorem w_120_78_i {X : zX} {x2 x4 : Int} {s : zS} {Q : Int → zS → Prop} (h : ((-2147483648 ≤ x4 ∧ x4 ≤ 2147483647) ∧ (x4 < 0 → (0 ≤ x2 ∧ x2 < 6) ∧ (w_117 X (s 48 x2) s (fun _ s1 => Q 0 s1))) ∧ (¬ x4 < 0 → (w_122 X s (fun v2 s2 => ((-2147483648 ≤ x4 ∧ x4 ≤ 2147483647) ∧ (2 < x4 → w_120_112 X x2 x4 s2 Q) ∧ (¬ 2 < x4 → (0 ≤ ((3 * x2) + x4) ∧ ((3 * x2) + x4) < 18) ∧ (((-2147483648 ≤ v2 ∧ v2 ≤ 2147483647) ∧ (-2147483648 ≤ (s2 50 ((3 * x2) + x4)) ∧ (s2 50 ((3 * x2) + x4)) ≤ 2147483647)) ∧ (¬ v2 = (s2 50 ((3 * x2) + x4)) → w_120_117 X x2 x4 0 s2 Q) ∧ (¬ ¬ v2 = (s2 50 ((3 * x2) + x4)) → w_120_112 X x2 x4 s2 Q))))))))) : w_120_78 X x2 x4 s Q := by
  intro hZ d hd
  have hM : xi_ml[120]? = some xm_120 := rfl
  refine gx_r hM hZ 1 (B := (80, [some (.ref 45), none, some (.int (Int32.ofInt x2)), none, some (.int (Int32.ofInt x4)), none], [.int (Int32.ofInt x4)], zw X s)) rfl ?_
  refine gi_if1 hM hZ (fun x => decide (x < 0)) (p := x4 < 0) rfl rfl (zd_lt h.1) ?_ ?_
  · intro hp
    replace h := h.2.1 hp
    refine gx_r hM hZ 4 (B := (132, [some (.ref 45), none, some (.int (Int32.ofInt x2)), none, some (.int (Int32.ofInt x4)), none], [.int (Int32.ofInt x2), .ref 48, .ref 45], zw X s)) rfl ?_
    refine gi_iald hM hZ (s := s) (len := 6) rfl rfl (Nat.le_of_ble_eq_true rfl) h.1 ?_
    replace h := h.2
    refine gi_call hM (s := s) (hj := 0) hZ rfl rfl (by omega) h ?_
    intro _ s1 h
    exact ⟨_, xi_To.rf _ _ _ _, 0, s1, rfl, h⟩
  · intro hp
    replace h := h.2.2 hp
    refine gx_r hM hZ 1 (B := (84, [some (.ref 45), none, some (.int (Int32.ofInt x2)), none, some (.int (Int32.ofInt x4)), none], [.ref 45], zw X s)) rfl ?_
    refine gi_call hM (s := s) (hj := 0) hZ rfl rfl (by omega) h ?_
    intro v2 s2 h
    refine gx_r hM hZ 4 (B := (93, [some (.ref 45), none, some (.int (Int32.ofInt x2)), none, some (.int (Int32.ofInt x4)), some (.int (Int32.ofInt v2))], [.int (Int32.ofInt 2), .int (Int32.ofInt x4), .ref 45], zw X s2)) rfl ?_
    refine gi_if2 hM hZ (fun x y => decide (y < x)) (p := 2 < x4) rfl rfl (zc_gt h.1 (by decide)) ?_ ?_
    · intro hp
      replace h := h.2.1 hp
      exact gx_fg [true, false, true, false, true, false] (h hZ d hd)
    · intro hp
      replace h := h.2.2 hp
      refine gx_r hM hZ 5 (B := (104, [some (.ref 45), none, some (.int (Int32.ofInt x2)), none, some (.int (Int32.ofInt x4)), some (.int (Int32.ofInt v2))], [.int (Int32.ofInt x2), .int (Int32.ofInt 3), .ref 50, .int (Int32.ofInt v2), .ref 45], zw X s2)) rfl ?_
      refine gi_mul hM hZ rfl ?_
      refine gx_r hM hZ 1 (B := (107, [some (.ref 45), none, some (.int (Int32.ofInt x2)), none, some (.int (Int32.ofInt x4)), some (.int (Int32.ofInt v2))], [.int (Int32.ofInt x4), .int (Int32.ofInt (3 * x2)), .ref 50, .int (Int32.ofInt v2), .ref 45], zw X s2)) rfl ?_
      refine gi_add hM hZ rfl ?_
      refine gi_iald hM hZ (s := s2) (len := 18) rfl rfl (Nat.le_of_ble_eq_true rfl) h.1 ?_
      replace h := h.2
      refine gi_if2 hM hZ (fun x y => decide (¬ x = y)) (p := ¬ v2 = (s2 50 ((3 * x2) + x4))) rfl rfl (zc_ne h.1.1 h.1.2) ?_ ?_
      · intro hp
        replace h := h.2.1 hp
        refine gx_r hM hZ 1 (B := (117, [some (.ref 45), none, some (.int (Int32.ofInt x2)), none, some (.int (Int32.ofInt x4)), some (.int (Int32.ofInt v2))], [.int (Int32.ofInt 0), .ref 45], zw X s2)) rfl ?_
        exact gx_fg [true, false, true, false, true, false] (h hZ d hd)
      · intro hp
        replace h := h.2.2 hp
        exact gx_fg [true, false, true, false, true, false] (h hZ d hd)
theorem w_120_112_i {X : zX} {x2 x4 : Int} {s : zS} {Q : Int → zS → Prop} (h : w_120_117 X x2 x4 1 s Q) : w_120_112 X x2 x4 s Q := by
  intro hZ d hd
  have hM : xi_ml[120]? = some xm_120 := rfl
  refine gx_r hM hZ 2 (B := (117, [some (.ref 45), none, some (.int (Int32.ofInt x2)), none, some (.int (Int32.ofInt x4)), none], [.int (Int32.ofInt 1), .ref 45], zw X s)) rfl ?_
  exact gx_fg [true, false, true, false, true, false] (h hZ d hd)
theorem w_120_117_i {X : zX} {x2 x4 t1 : Int} {s : zS} {Q : Int → zS → Prop} (h : (w_118 X t1 s (fun _ s1 => w_120_78 X x2 (x4 + (-1)) s1 Q))) : w_120_117 X x2 x4 t1 s Q := by
  intro hZ d hd
  have hM : xi_ml[120]? = some xm_120 := rfl
  refine gi_call hM (s := s) (hj := 0) hZ rfl rfl (by omega) h ?_
  intro _ s1 h
  refine gi_inc hM hZ (x := x4) (m := (-1)) rfl rfl ?_
  refine gx_r hM hZ 0 (B := (123, [some (.ref 45), none, some (.int (Int32.ofInt x2)), none, some (.int (Int32.ofInt (x4 + (-1)))), none], [], zw X s1)) rfl ?_
  refine gx_r hM hZ 1 (B := (78, [some (.ref 45), none, some (.int (Int32.ofInt x2)), none, some (.int (Int32.ofInt (x4 + (-1)))), none], [], zw X s1)) rfl ?_
  exact gx_fg [true, false, true, false, true, false] (h hZ d hd)
-- RootLoomModel.twoBehind
def w_123 (X : zX) (x1 : Int) (s : zS) (Q : Int → zS → Prop) : Prop := wW X 123 xm_123 2 (0, [some (.ref 45), some (.int (Int32.ofInt x1)), none, none, none], [], zw X s) Q
def w_123_53 (X : zX) (x1 x2 t1 : Int) (s : zS) (Q : Int → zS → Prop) : Prop := wW X 123 xm_123 2 (53, [some (.ref 45), some (.int (Int32.ofInt x1)), some (.int (Int32.ofInt x2)), none, none], [.int (Int32.ofInt t1), .ref 45], zw X s) Q
def w_123_57 (X : zX) (x1 x2 : Int) (s : zS) (Q : Int → zS → Prop) : Prop := wW X 123 xm_123 2 (57, [some (.ref 45), some (.int (Int32.ofInt x1)), some (.int (Int32.ofInt x2)), none, none], [], zw X s) Q
def w_123_110 (X : zX) (x1 : Int) (s : zS) (Q : Int → zS → Prop) : Prop := wW X 123 xm_123 2 (110, [some (.ref 45), some (.int (Int32.ofInt x1)), none, none, none], [.ref 45], zw X s) Q
def w_123_111 (X : zX) (x1 t1 : Int) (s : zS) (Q : Int → zS → Prop) : Prop := wW X 123 xm_123 2 (111, [some (.ref 45), some (.int (Int32.ofInt x1)), none, none, none], [.int (Int32.ofInt t1), .ref 45], zw X s) Q
def w_123_147 (X : zX) (s : zS) (Q : Int → zS → Prop) : Prop := wW X 123 xm_123 2 (147, [some (.ref 45), none, none, none, none], [.ref 45], zw X s) Q
def w_123_148 (X : zX) (t1 : Int) (s : zS) (Q : Int → zS → Prop) : Prop := wW X 123 xm_123 2 (148, [some (.ref 45), none, none, none, none], [.int (Int32.ofInt t1), .ref 45], zw X s) Q
def w_123_189 (X : zX) (x3 t1 t2 : Int) (s : zS) (Q : Int → zS → Prop) : Prop := wW X 123 xm_123 2 (189, [some (.ref 45), none, none, some (.int (Int32.ofInt x3)), none], [.int (Int32.ofInt t2), .int (Int32.ofInt t1), .ref 45], zw X s) Q
def w_123_196 (X : zX) (x3 : Int) (s : zS) (Q : Int → zS → Prop) : Prop := wW X 123 xm_123 2 (196, [some (.ref 45), none, none, some (.int (Int32.ofInt x3)), none], [.ref 45], zw X s) Q
def w_123_197 (X : zX) (x3 t1 : Int) (s : zS) (Q : Int → zS → Prop) : Prop := wW X 123 xm_123 2 (197, [some (.ref 45), none, none, some (.int (Int32.ofInt x3)), none], [.int (Int32.ofInt t1), .ref 45], zw X s) Q
theorem w_123_i {X : zX} {x1 : Int} {s : zS} {Q : Int → zS → Prop} (h : (0 ≤ x1 ∧ x1 < 150) ∧ ((-2147483648 ≤ (s 52 x1) ∧ (s 52 x1) ≤ 2147483647) ∧ (¬ (s 52 x1) = 6 → ((-2147483648 ≤ (s 52 x1) ∧ (s 52 x1) ≤ 2147483647) ∧ (6 ≤ (s 52 x1) → ((-2147483648 ≤ (s 52 x1) ∧ (s 52 x1) ≤ 2147483647) ∧ (¬ (s 52 x1) = 14 → w_123_53 X x1 (s 52 x1) 16 s Q) ∧ (¬ ¬ (s 52 x1) = 14 → w_123_53 X x1 (s 52 x1) 15 s Q))) ∧ (¬ 6 ≤ (s 52 x1) → w_123_53 X x1 (s 52 x1) (s 52 x1) s Q))) ∧ (¬ ¬ (s 52 x1) = 6 → (0 ≤ x1 ∧ x1 < 150) ∧ (w_121 X 6 (s 53 x1) 2 s (fun _ s1 => w_123_57 X x1 (s 52 x1) s1 Q))))) : w_123 X x1 s Q := by
  intro hZ d hd
  have hM : xi_ml[123]? = some xm_123 := rfl
  refine gx_r hM hZ 3 (B := (5, [some (.ref 45), some (.int (Int32.ofInt x1)), none, none, none], [.int (Int32.ofInt x1), .ref 52], zw X s)) rfl ?_
  refine gi_iald hM hZ (s := s) (len := 150) rfl rfl (Nat.le_of_ble_eq_true rfl) h.1 ?_
  replace h := h.2
  refine gx_r hM hZ 2 (B := (8, [some (.ref 45), some (.int (Int32.ofInt x1)), some (.int (Int32.ofInt (s 52 x1))), none, none], [.int (Int32.ofInt (s 52 x1))], zw X s)) rfl ?_
  refine gi_bip hM hZ rfl rfl ?_
  refine gi_if2 hM hZ (fun x y => decide (¬ x = y)) (p := ¬ (s 52 x1) = 6) rfl rfl (zc_ne h.1 (by decide)) ?_ ?_
  · intro hp
    replace h := h.2.1 hp
    refine gx_r hM hZ 2 (B := (31, [some (.ref 45), some (.int (Int32.ofInt x1)), some (.int (Int32.ofInt (s 52 x1))), none, none], [.int (Int32.ofInt (s 52 x1)), .ref 45], zw X s)) rfl ?_
    refine gi_bip hM hZ rfl rfl ?_
    refine gi_if2 hM hZ (fun x y => decide (y ≤ x)) (p := 6 ≤ (s 52 x1)) rfl rfl (zc_ge h.1 (by decide)) ?_ ?_
    · intro hp
      replace h := h.2.1 hp
      refine gx_r hM hZ 1 (B := (41, [some (.ref 45), some (.int (Int32.ofInt x1)), some (.int (Int32.ofInt (s 52 x1))), none, none], [.int (Int32.ofInt (s 52 x1)), .ref 45], zw X s)) rfl ?_
      refine gi_bip hM hZ rfl rfl ?_
      refine gi_if2 hM hZ (fun x y => decide (¬ x = y)) (p := ¬ (s 52 x1) = 14) rfl rfl (zc_ne h.1 (by decide)) ?_ ?_
      · intro hp
        replace h := h.2.1 hp
        refine gi_bip hM hZ rfl rfl ?_
        exact gx_fg [true, true, true, false, false] (h hZ d hd)
      · intro hp
        replace h := h.2.2 hp
        refine gi_bip hM hZ rfl rfl ?_
        refine gx_r hM hZ 1 (B := (53, [some (.ref 45), some (.int (Int32.ofInt x1)), some (.int (Int32.ofInt (s 52 x1))), none, none], [.int (Int32.ofInt 15), .ref 45], zw X s)) rfl ?_
        exact gx_fg [true, true, true, false, false] (h hZ d hd)
    · intro hp
      replace h := h.2.2 hp
      refine gx_r hM hZ 2 (B := (53, [some (.ref 45), some (.int (Int32.ofInt x1)), some (.int (Int32.ofInt (s 52 x1))), none, none], [.int (Int32.ofInt (s 52 x1)), .ref 45], zw X s)) rfl ?_
      exact gx_fg [true, true, true, false, false] (h hZ d hd)
  · intro hp
    replace h := h.2.2 hp
    refine gx_r hM hZ 1 (B := (14, [some (.ref 45), some (.int (Int32.ofInt x1)), some (.int (Int32.ofInt (s 52 x1))), none, none], [.ref 45], zw X s)) rfl ?_
    refine gi_bip hM hZ rfl rfl ?_
    refine gx_r hM hZ 3 (B := (21, [some (.ref 45), some (.int (Int32.ofInt x1)), some (.int (Int32.ofInt (s 52 x1))), none, none], [.int (Int32.ofInt x1), .ref 53, .int (Int32.ofInt 6), .ref 45], zw X s)) rfl ?_
    refine gi_iald hM hZ (s := s) (len := 150) rfl rfl (Nat.le_of_ble_eq_true rfl) h.1 ?_
    replace h := h.2
    refine gx_r hM hZ 1 (B := (23, [some (.ref 45), some (.int (Int32.ofInt x1)), some (.int (Int32.ofInt (s 52 x1))), none, none], [.int (Int32.ofInt 2), .int (Int32.ofInt (s 53 x1)), .int (Int32.ofInt 6), .ref 45], zw X s)) rfl ?_
    refine gi_call hM (s := s) (hj := 1) hZ rfl rfl (by omega) h ?_
    intro _ s1 h
    refine gx_r hM hZ 1 (B := (57, [some (.ref 45), some (.int (Int32.ofInt x1)), some (.int (Int32.ofInt (s 52 x1))), none, none], [], zw X s1)) rfl ?_
    exact gx_fg [true, true, true, false, false] (h hZ d hd)
theorem w_123_53_i {X : zX} {x1 x2 t1 : Int} {s : zS} {Q : Int → zS → Prop} (h : (w_116 X t1 0 s (fun _ s1 => w_123_57 X x1 x2 s1 Q))) : w_123_53 X x1 x2 t1 s Q := by
  intro hZ d hd
  have hM : xi_ml[123]? = some xm_123 := rfl
  refine gx_r hM hZ 1 (B := (54, [some (.ref 45), some (.int (Int32.ofInt x1)), some (.int (Int32.ofInt x2)), none, none], [.int (Int32.ofInt 0), .int (Int32.ofInt t1), .ref 45], zw X s)) rfl ?_
  refine gi_call hM (s := s) (hj := 0) hZ rfl rfl (by omega) h ?_
  intro _ s1 h
  exact gx_fg [true, true, true, false, false] (h hZ d hd)
theorem w_123_57_i {X : zX} {x1 x2 : Int} {s : zS} {Q : Int → zS → Prop} (h : (w_122 X s (fun v1 s1 => (w_122 X s1 (fun v2 s2 => ((-2147483648 ≤ x2 ∧ x2 ≤ 2147483647) ∧ (¬ x2 = 6 → ((-2147483648 ≤ x2 ∧ x2 ≤ 2147483647) ∧ (6 ≤ x2 → ((-2147483648 ≤ v2 ∧ v2 ≤ 2147483647) ∧ (v2 ≤ 0 → w_123_196 X v1 s2 Q) ∧ (¬ v2 ≤ 0 → ((-2147483648 ≤ x2 ∧ x2 ≤ 2147483647) ∧ (¬ x2 = 14 → (0 ≤ v2 ∧ v2 < 8) ∧ w_123_189 X v1 v1 (s2 47 v2) s2 Q) ∧ (¬ ¬ x2 = 14 → (0 ≤ v2 ∧ v2 < 8) ∧ w_123_189 X v1 v1 (s2 46 v2) s2 Q))))) ∧ (¬ 6 ≤ x2 → ((-2147483648 ≤ v2 ∧ v2 ≤ 2147483647) ∧ (¬ v2 = 0 → w_123_147 X s2 Q) ∧ (¬ ¬ v2 = 0 → ((-2147483648 ≤ v1 ∧ v1 ≤ 2147483647) ∧ (¬ v1 = 0 → w_123_147 X s2 Q) ∧ (¬ ¬ v1 = 0 → w_123_148 X 1 s2 Q))))))) ∧ (¬ ¬ x2 = 6 → (0 ≤ x1 ∧ x1 < 150) ∧ (0 ≤ (s2 53 x1) ∧ (s2 53 x1) < 8) ∧ (((-2147483648 ≤ v2 ∧ v2 ≤ 2147483647) ∧ (-2147483648 ≤ (s2 46 (s2 53 x1)) ∧ (s2 46 (s2 53 x1)) ≤ 2147483647)) ∧ (¬ v2 = (s2 46 (s2 53 x1)) → w_123_110 X x1 s2 Q) ∧ (¬ ¬ v2 = (s2 46 (s2 53 x1)) → (0 ≤ x1 ∧ x1 < 150) ∧ (0 ≤ (s2 53 x1) ∧ (s2 53 x1) < 8) ∧ (((-2147483648 ≤ v1 ∧ v1 ≤ 2147483647) ∧ (-2147483648 ≤ (s2 47 (s2 53 x1)) ∧ (s2 47 (s2 53 x1)) ≤ 2147483647)) ∧ (¬ v1 = (s2 47 (s2 53 x1)) → w_123_110 X x1 s2 Q) ∧ (¬ ¬ v1 = (s2 47 (s2 53 x1)) → w_123_111 X x1 1 s2 Q))))))))))) : w_123_57 X x1 x2 s Q := by
  intro hZ d hd
  have hM : xi_ml[123]? = some xm_123 := rfl
  refine gx_r hM hZ 1 (B := (58, [some (.ref 45), some (.int (Int32.ofInt x1)), some (.int (Int32.ofInt x2)), none, none], [.ref 45], zw X s)) rfl ?_
  refine gi_call hM (s := s) (hj := 0) hZ rfl rfl (by omega) h ?_
  intro v1 s1 h
  refine gx_r hM hZ 2 (B := (63, [some (.ref 45), some (.int (Int32.ofInt x1)), some (.int (Int32.ofInt x2)), some (.int (Int32.ofInt v1)), none], [.ref 45], zw X s1)) rfl ?_
  refine gi_call hM (s := s1) (hj := 0) hZ rfl rfl (by omega) h ?_
  intro v2 s2 h
  refine gx_r hM hZ 2 (B := (69, [some (.ref 45), some (.int (Int32.ofInt x1)), some (.int (Int32.ofInt x2)), some (.int (Int32.ofInt v1)), some (.int (Int32.ofInt v2))], [.int (Int32.ofInt x2)], zw X s2)) rfl ?_
  refine gi_bip hM hZ rfl rfl ?_
  refine gi_if2 hM hZ (fun x y => decide (¬ x = y)) (p := ¬ x2 = 6) rfl rfl (zc_ne h.1 (by decide)) ?_ ?_
  · intro hp
    replace h := h.2.1 hp
    refine gx_r hM hZ 1 (B := (128, [some (.ref 45), some (.int (Int32.ofInt x1)), some (.int (Int32.ofInt x2)), some (.int (Int32.ofInt v1)), some (.int (Int32.ofInt v2))], [.int (Int32.ofInt x2)], zw X s2)) rfl ?_
    refine gi_bip hM hZ rfl rfl ?_
    refine gi_if2 hM hZ (fun x y => decide (y ≤ x)) (p := 6 ≤ x2) rfl rfl (zc_ge h.1 (by decide)) ?_ ?_
    · intro hp
      replace h := h.2.1 hp
      refine gx_r hM hZ 2 (B := (162, [some (.ref 45), some (.int (Int32.ofInt x1)), some (.int (Int32.ofInt x2)), some (.int (Int32.ofInt v1)), some (.int (Int32.ofInt v2))], [.int (Int32.ofInt v2), .ref 45], zw X s2)) rfl ?_
      refine gi_if1 hM hZ (fun x => decide (x ≤ 0)) (p := v2 ≤ 0) rfl rfl (zd_le h.1) ?_ ?_
      · intro hp
        replace h := h.2.1 hp
        exact gx_fg [true, false, false, true, false] (h hZ d hd)
      · intro hp
        replace h := h.2.2 hp
        refine gx_r hM hZ 2 (B := (167, [some (.ref 45), some (.int (Int32.ofInt x1)), some (.int (Int32.ofInt x2)), some (.int (Int32.ofInt v1)), some (.int (Int32.ofInt v2))], [.int (Int32.ofInt x2), .int (Int32.ofInt v1), .ref 45], zw X s2)) rfl ?_
        refine gi_bip hM hZ rfl rfl ?_
        refine gi_if2 hM hZ (fun x y => decide (¬ x = y)) (p := ¬ x2 = 14) rfl rfl (zc_ne h.1 (by decide)) ?_ ?_
        · intro hp
          replace h := h.2.1 hp
          refine gx_r hM hZ 3 (B := (188, [some (.ref 45), some (.int (Int32.ofInt x1)), some (.int (Int32.ofInt x2)), some (.int (Int32.ofInt v1)), some (.int (Int32.ofInt v2))], [.int (Int32.ofInt v2), .ref 47, .int (Int32.ofInt v1), .ref 45], zw X s2)) rfl ?_
          refine gi_iald hM hZ (s := s2) (len := 8) rfl rfl (Nat.le_of_ble_eq_true rfl) h.1 ?_
          replace h := h.2
          exact gx_fg [true, false, false, true, false] (h hZ d hd)
        · intro hp
          replace h := h.2.2 hp
          refine gx_r hM hZ 3 (B := (178, [some (.ref 45), some (.int (Int32.ofInt x1)), some (.int (Int32.ofInt x2)), some (.int (Int32.ofInt v1)), some (.int (Int32.ofInt v2))], [.int (Int32.ofInt v2), .ref 46, .int (Int32.ofInt v1), .ref 45], zw X s2)) rfl ?_
          refine gi_iald hM hZ (s := s2) (len := 8) rfl rfl (Nat.le_of_ble_eq_true rfl) h.1 ?_
          replace h := h.2
          refine gx_r hM hZ 1 (B := (189, [some (.ref 45), some (.int (Int32.ofInt x1)), some (.int (Int32.ofInt x2)), some (.int (Int32.ofInt v1)), some (.int (Int32.ofInt v2))], [.int (Int32.ofInt (s2 46 v2)), .int (Int32.ofInt v1), .ref 45], zw X s2)) rfl ?_
          exact gx_fg [true, false, false, true, false] (h hZ d hd)
    · intro hp
      replace h := h.2.2 hp
      refine gx_r hM hZ 2 (B := (136, [some (.ref 45), some (.int (Int32.ofInt x1)), some (.int (Int32.ofInt x2)), some (.int (Int32.ofInt v1)), some (.int (Int32.ofInt v2))], [.int (Int32.ofInt v2), .ref 45], zw X s2)) rfl ?_
      refine gi_if1 hM hZ (fun x => decide (¬ x = 0)) (p := ¬ v2 = 0) rfl rfl (zd_ne h.1) ?_ ?_
      · intro hp
        replace h := h.2.1 hp
        exact gx_fg [true, false, false, false, false] (h hZ d hd)
      · intro hp
        replace h := h.2.2 hp
        refine gx_r hM hZ 1 (B := (140, [some (.ref 45), some (.int (Int32.ofInt x1)), some (.int (Int32.ofInt x2)), some (.int (Int32.ofInt v1)), some (.int (Int32.ofInt v2))], [.int (Int32.ofInt v1), .ref 45], zw X s2)) rfl ?_
        refine gi_if1 hM hZ (fun x => decide (¬ x = 0)) (p := ¬ v1 = 0) rfl rfl (zd_ne h.1) ?_ ?_
        · intro hp
          replace h := h.2.1 hp
          exact gx_fg [true, false, false, false, false] (h hZ d hd)
        · intro hp
          replace h := h.2.2 hp
          refine gx_r hM hZ 2 (B := (148, [some (.ref 45), some (.int (Int32.ofInt x1)), some (.int (Int32.ofInt x2)), some (.int (Int32.ofInt v1)), some (.int (Int32.ofInt v2))], [.int (Int32.ofInt 1), .ref 45], zw X s2)) rfl ?_
          exact gx_fg [true, false, false, false, false] (h hZ d hd)
  · intro hp
    replace h := h.2.2 hp
    refine gx_r hM hZ 7 (B := (86, [some (.ref 45), some (.int (Int32.ofInt x1)), some (.int (Int32.ofInt x2)), some (.int (Int32.ofInt v1)), some (.int (Int32.ofInt v2))], [.int (Int32.ofInt x1), .ref 53, .ref 46, .int (Int32.ofInt v2), .ref 45], zw X s2)) rfl ?_
    refine gi_iald hM hZ (s := s2) (len := 150) rfl rfl (Nat.le_of_ble_eq_true rfl) h.1 ?_
    replace h := h.2
    refine gi_iald hM hZ (s := s2) (len := 8) rfl rfl (Nat.le_of_ble_eq_true rfl) h.1 ?_
    replace h := h.2
    refine gi_if2 hM hZ (fun x y => decide (¬ x = y)) (p := ¬ v2 = (s2 46 (s2 53 x1))) rfl rfl (zc_ne h.1.1 h.1.2) ?_ ?_
    · intro hp
      replace h := h.2.1 hp
      exact gx_fg [true, true, false, false, false] (h hZ d hd)
    · intro hp
      replace h := h.2.2 hp
      refine gx_r hM hZ 6 (B := (101, [some (.ref 45), some (.int (Int32.ofInt x1)), some (.int (Int32.ofInt x2)), some (.int (Int32.ofInt v1)), some (.int (Int32.ofInt v2))], [.int (Int32.ofInt x1), .ref 53, .ref 47, .int (Int32.ofInt v1), .ref 45], zw X s2)) rfl ?_
      refine gi_iald hM hZ (s := s2) (len := 150) rfl rfl (Nat.le_of_ble_eq_true rfl) h.1 ?_
      replace h := h.2
      refine gi_iald hM hZ (s := s2) (len := 8) rfl rfl (Nat.le_of_ble_eq_true rfl) h.1 ?_
      replace h := h.2
      refine gi_if2 hM hZ (fun x y => decide (¬ x = y)) (p := ¬ v1 = (s2 47 (s2 53 x1))) rfl rfl (zc_ne h.1.1 h.1.2) ?_ ?_
      · intro hp
        replace h := h.2.1 hp
        exact gx_fg [true, true, false, false, false] (h hZ d hd)
      · intro hp
        replace h := h.2.2 hp
        refine gx_r hM hZ 2 (B := (111, [some (.ref 45), some (.int (Int32.ofInt x1)), some (.int (Int32.ofInt x2)), some (.int (Int32.ofInt v1)), some (.int (Int32.ofInt v2))], [.int (Int32.ofInt 1), .ref 45], zw X s2)) rfl ?_
        exact gx_fg [true, true, false, false, false] (h hZ d hd)
theorem w_123_110_i {X : zX} {x1 : Int} {s : zS} {Q : Int → zS → Prop} (h : w_123_111 X x1 0 s Q) : w_123_110 X x1 s Q := by
  intro hZ d hd
  have hM : xi_ml[123]? = some xm_123 := rfl
  refine gx_r hM hZ 1 (B := (111, [some (.ref 45), some (.int (Int32.ofInt x1)), none, none, none], [.int (Int32.ofInt 0), .ref 45], zw X s)) rfl ?_
  exact gx_fg [true, true, false, false, false] (h hZ d hd)
theorem w_123_111_i {X : zX} {x1 t1 : Int} {s : zS} {Q : Int → zS → Prop} (h : (w_118 X t1 s (fun _ s1 => (0 ≤ x1 ∧ x1 < 150) ∧ (w_117 X (s1 53 x1) s1 (fun _ s2 => Q 0 s2))))) : w_123_111 X x1 t1 s Q := by
  intro hZ d hd
  have hM : xi_ml[123]? = some xm_123 := rfl
  refine gi_call hM (s := s) (hj := 0) hZ rfl rfl (by omega) h ?_
  intro _ s1 h
  refine gx_r hM hZ 4 (B := (120, [some (.ref 45), some (.int (Int32.ofInt x1)), none, none, none], [.int (Int32.ofInt x1), .ref 53, .ref 45], zw X s1)) rfl ?_
  refine gi_iald hM hZ (s := s1) (len := 150) rfl rfl (Nat.le_of_ble_eq_true rfl) h.1 ?_
  replace h := h.2
  refine gi_call hM (s := s1) (hj := 0) hZ rfl rfl (by omega) h ?_
  intro _ s2 h
  refine gx_r hM hZ 1 (B := (205, [some (.ref 45), some (.int (Int32.ofInt x1)), none, none, none], [], zw X s2)) rfl ?_
  exact ⟨_, xi_To.rf _ _ _ _, 0, s2, rfl, h⟩
theorem w_123_147_i {X : zX} {s : zS} {Q : Int → zS → Prop} (h : w_123_148 X 0 s Q) : w_123_147 X s Q := by
  intro hZ d hd
  have hM : xi_ml[123]? = some xm_123 := rfl
  refine gx_r hM hZ 1 (B := (148, [some (.ref 45), none, none, none, none], [.int (Int32.ofInt 0), .ref 45], zw X s)) rfl ?_
  exact gx_fg [true, false, false, false, false] (h hZ d hd)
theorem w_123_148_i {X : zX} {t1 : Int} {s : zS} {Q : Int → zS → Prop} (h : (w_118 X t1 s (fun _ s1 => (w_117 X 0 s1 (fun _ s2 => Q 0 s2))))) : w_123_148 X t1 s Q := by
  intro hZ d hd
  have hM : xi_ml[123]? = some xm_123 := rfl
  refine gi_call hM (s := s) (hj := 0) hZ rfl rfl (by omega) h ?_
  intro _ s1 h
  refine gx_r hM hZ 2 (B := (153, [some (.ref 45), none, none, none, none], [.int (Int32.ofInt 0), .ref 45], zw X s1)) rfl ?_
  refine gi_call hM (s := s1) (hj := 0) hZ rfl rfl (by omega) h ?_
  intro _ s2 h
  refine gx_r hM hZ 1 (B := (205, [some (.ref 45), none, none, none, none], [], zw X s2)) rfl ?_
  exact ⟨_, xi_To.rf _ _ _ _, 0, s2, rfl, h⟩
theorem w_123_189_i {X : zX} {x3 t1 t2 : Int} {s : zS} {Q : Int → zS → Prop} (h : (((-2147483648 ≤ t1 ∧ t1 ≤ 2147483647) ∧ (-2147483648 ≤ t2 ∧ t2 ≤ 2147483647)) ∧ (¬ t1 = t2 → w_123_196 X x3 s Q) ∧ (¬ ¬ t1 = t2 → w_123_197 X x3 1 s Q))) : w_123_189 X x3 t1 t2 s Q := by
  intro hZ d hd
  have hM : xi_ml[123]? = some xm_123 := rfl
  refine gi_if2 hM hZ (fun x y => decide (¬ x = y)) (p := ¬ t1 = t2) rfl rfl (zc_ne h.1.1 h.1.2) ?_ ?_
  · intro hp
    replace h := h.2.1 hp
    exact gx_fg [true, false, false, true, false] (h hZ d hd)
  · intro hp
    replace h := h.2.2 hp
    refine gx_r hM hZ 2 (B := (197, [some (.ref 45), none, none, some (.int (Int32.ofInt x3)), none], [.int (Int32.ofInt 1), .ref 45], zw X s)) rfl ?_
    exact gx_fg [true, false, false, true, false] (h hZ d hd)
theorem w_123_196_i {X : zX} {x3 : Int} {s : zS} {Q : Int → zS → Prop} (h : w_123_197 X x3 0 s Q) : w_123_196 X x3 s Q := by
  intro hZ d hd
  have hM : xi_ml[123]? = some xm_123 := rfl
  refine gx_r hM hZ 1 (B := (197, [some (.ref 45), none, none, some (.int (Int32.ofInt x3)), none], [.int (Int32.ofInt 0), .ref 45], zw X s)) rfl ?_
  exact gx_fg [true, false, false, true, false] (h hZ d hd)
theorem w_123_197_i {X : zX} {x3 t1 : Int} {s : zS} {Q : Int → zS → Prop} (h : (w_118 X t1 s (fun _ s1 => (w_117 X x3 s1 (fun _ s2 => Q 0 s2))))) : w_123_197 X x3 t1 s Q := by
  intro hZ d hd
  have hM : xi_ml[123]? = some xm_123 := rfl
  refine gi_call hM (s := s) (hj := 0) hZ rfl rfl (by omega) h ?_
  intro _ s1 h
  refine gx_r hM hZ 2 (B := (202, [some (.ref 45), none, none, some (.int (Int32.ofInt x3)), none], [.int (Int32.ofInt x3), .ref 45], zw X s1)) rfl ?_
  refine gi_call hM (s := s1) (hj := 0) hZ rfl rfl (by omega) h ?_
  intro _ s2 h
  exact ⟨_, xi_To.rf _ _ _ _, 0, s2, rfl, h⟩
-- RootLoomModel.instruction
def w_130 (X : zX) (x1 x2 : Int) (s : zS) (Q : Int → zS → Prop) : Prop := wW X 130 xm_130 2 (0, [some (.ref 45), some (.int (Int32.ofInt x1)), some (.int (Int32.ofInt x2))], [], zw X s) Q
def w_130_26 (X : zX) (x1 x2 : Int) (s : zS) (Q : Int → zS → Prop) : Prop := wW X 130 xm_130 2 (26, [some (.ref 45), some (.int (Int32.ofInt x1)), some (.int (Int32.ofInt x2))], [.ref 45], zw X s) Q
def w_130_27 (X : zX) (x1 x2 t1 : Int) (s : zS) (Q : Int → zS → Prop) : Prop := wW X 130 xm_130 2 (27, [some (.ref 45), some (.int (Int32.ofInt x1)), some (.int (Int32.ofInt x2))], [.int (Int32.ofInt t1), .ref 45], zw X s) Q
theorem w_130_i {X : zX} {x1 x2 : Int} {s : zS} {Q : Int → zS → Prop} (h : (w_131 X x1 s (fun v1 s1 => ((-2147483648 ≤ v1 ∧ v1 ≤ 2147483647) ∧ (¬ v1 = 0 → ((-2147483648 ≤ x2 ∧ x2 ≤ 2147483647) ∧ (x2 = 0 → w_130_26 X x1 x2 s1 Q) ∧ (¬ x2 = 0 → ((-2147483648 ≤ x2 ∧ x2 ≤ 2147483647) ∧ (x2 = 1 → w_130_26 X x1 x2 s1 Q) ∧ (¬ x2 = 1 → w_130_27 X x1 x2 2 s1 Q))))) ∧ (¬ ¬ v1 = 0 → w_130_27 X x1 x2 1 s1 Q))))) : w_130 X x1 x2 s Q := by
  intro hZ d hd
  have hM : xi_ml[130]? = some xm_130 := rfl
  refine gx_r hM hZ 3 (B := (3, [some (.ref 45), some (.int (Int32.ofInt x1)), some (.int (Int32.ofInt x2))], [.int (Int32.ofInt x1), .ref 45, .ref 45], zw X s)) rfl ?_
  refine gi_call hM (s := s) (hj := 1) hZ rfl rfl (by omega) h ?_
  intro v1 s1 h
  refine gi_if1 hM hZ (fun x => decide (¬ x = 0)) (p := ¬ v1 = 0) rfl rfl (zd_ne h.1) ?_ ?_
  · intro hp
    replace h := h.2.1 hp
    refine gx_r hM hZ 1 (B := (14, [some (.ref 45), some (.int (Int32.ofInt x1)), some (.int (Int32.ofInt x2))], [.int (Int32.ofInt x2), .ref 45], zw X s1)) rfl ?_
    refine gi_if1 hM hZ (fun x => decide (x = 0)) (p := x2 = 0) rfl rfl (zd_eq h.1) ?_ ?_
    · intro hp
      replace h := h.2.1 hp
      exact gx_fg [true, true, true] (h hZ d hd)
    · intro hp
      replace h := h.2.2 hp
      refine gx_r hM hZ 2 (B := (19, [some (.ref 45), some (.int (Int32.ofInt x1)), some (.int (Int32.ofInt x2))], [.int (Int32.ofInt 1), .int (Int32.ofInt x2), .ref 45], zw X s1)) rfl ?_
      refine gi_if2 hM hZ (fun x y => decide (x = y)) (p := x2 = 1) rfl rfl (zc_eq h.1 (by decide)) ?_ ?_
      · intro hp
        replace h := h.2.1 hp
        exact gx_fg [true, true, true] (h hZ d hd)
      · intro hp
        replace h := h.2.2 hp
        refine gx_r hM hZ 2 (B := (27, [some (.ref 45), some (.int (Int32.ofInt x1)), some (.int (Int32.ofInt x2))], [.int (Int32.ofInt 2), .ref 45], zw X s1)) rfl ?_
        exact gx_fg [true, true, true] (h hZ d hd)
  · intro hp
    replace h := h.2.2 hp
    refine gx_r hM hZ 2 (B := (27, [some (.ref 45), some (.int (Int32.ofInt x1)), some (.int (Int32.ofInt x2))], [.int (Int32.ofInt 1), .ref 45], zw X s1)) rfl ?_
    exact gx_fg [true, true, true] (h hZ d hd)
theorem w_130_26_i {X : zX} {x1 x2 : Int} {s : zS} {Q : Int → zS → Prop} (h : w_130_27 X x1 x2 0 s Q) : w_130_26 X x1 x2 s Q := by
  intro hZ d hd
  have hM : xi_ml[130]? = some xm_130 := rfl
  refine gx_r hM hZ 1 (B := (27, [some (.ref 45), some (.int (Int32.ofInt x1)), some (.int (Int32.ofInt x2))], [.int (Int32.ofInt 0), .ref 45], zw X s)) rfl ?_
  exact gx_fg [true, true, true] (h hZ d hd)
theorem w_130_27_i {X : zX} {x1 x2 t1 : Int} {s : zS} {Q : Int → zS → Prop} (h : (∀ s1 : zS, s1 = zu s 45 0 t1 → ((-2147483648 ≤ (s1 45 0) ∧ (s1 45 0) ≤ 2147483647) ∧ ((s1 45 0) ≤ 0 → ((-2147483648 ≤ x2 ∧ x2 ≤ 2147483647) ∧ (¬ x2 = 0 → (0 ≤ x1 ∧ x1 < 400) ∧ Q (s1 59 x1) s1) ∧ (¬ ¬ x2 = 0 → (0 ≤ x1 ∧ x1 < 400) ∧ Q (s1 58 x1) s1))) ∧ (¬ (s1 45 0) ≤ 0 → Q 0 s1)))) : w_130_27 X x1 x2 t1 s Q := by
  intro hZ d hd
  have hM : xi_ml[130]? = some xm_130 := rfl
  obtain ⟨s1, e1⟩ : ∃ q : zS, q = zu s 45 0 t1 := ⟨_, rfl⟩
  refine gj_put hM hZ rfl rfl rfl (Nat.le_of_ble_eq_true rfl) rfl rfl zq_45_0 e1 ?_
  replace h := h _ e1
  refine gx_r hM hZ 2 (B := (34, [some (.ref 45), some (.int (Int32.ofInt x1)), some (.int (Int32.ofInt x2))], [.int (Int32.ofInt (s1 45 0))], zw X s1)) rfl ?_
  refine gi_if1 hM hZ (fun x => decide (x ≤ 0)) (p := (s1 45 0) ≤ 0) rfl rfl (zd_le h.1) ?_ ?_
  · intro hp
    replace h := h.2.1 hp
    refine gx_r hM hZ 1 (B := (40, [some (.ref 45), some (.int (Int32.ofInt x1)), some (.int (Int32.ofInt x2))], [.int (Int32.ofInt x2)], zw X s1)) rfl ?_
    refine gi_if1 hM hZ (fun x => decide (¬ x = 0)) (p := ¬ x2 = 0) rfl rfl (zd_ne h.1) ?_ ?_
    · intro hp
      replace h := h.2.1 hp
      refine gx_r hM hZ 3 (B := (57, [some (.ref 45), some (.int (Int32.ofInt x1)), some (.int (Int32.ofInt x2))], [.int (Int32.ofInt x1), .ref 59], zw X s1)) rfl ?_
      refine gi_iald hM hZ (s := s1) (len := 400) rfl rfl (Nat.le_of_ble_eq_true rfl) h.1 ?_
      replace h := h.2
      exact ⟨_, xi_To.rf _ _ _ _, (s1 59 x1), s1, rfl, h⟩
    · intro hp
      replace h := h.2.2 hp
      refine gx_r hM hZ 3 (B := (48, [some (.ref 45), some (.int (Int32.ofInt x1)), some (.int (Int32.ofInt x2))], [.int (Int32.ofInt x1), .ref 58], zw X s1)) rfl ?_
      refine gi_iald hM hZ (s := s1) (len := 400) rfl rfl (Nat.le_of_ble_eq_true rfl) h.1 ?_
      replace h := h.2
      refine gx_r hM hZ 1 (B := (58, [some (.ref 45), some (.int (Int32.ofInt x1)), some (.int (Int32.ofInt x2))], [.int (Int32.ofInt (s1 58 x1))], zw X s1)) rfl ?_
      exact ⟨_, xi_To.rf _ _ _ _, (s1 58 x1), s1, rfl, h⟩
  · intro hp
    replace h := h.2.2 hp
    refine gx_r hM hZ 1 (B := (38, [some (.ref 45), some (.int (Int32.ofInt x1)), some (.int (Int32.ofInt x2))], [.int (Int32.ofInt 0)], zw X s1)) rfl ?_
    exact ⟨_, xi_To.rf _ _ _ _, 0, s1, rfl, h⟩
-- RootLoomModel.map
def w_133 (X : zX) (x1 x2 : Int) (s : zS) (Q : Int → zS → Prop) : Prop := wW X 133 xm_133 2 (0, [some (.ref 45), some (.int (Int32.ofInt x1)), some (.int (Int32.ofInt x2))], [], zw X s) Q
def w_133_30 (X : zX) (s : zS) (Q : Int → zS → Prop) : Prop := wW X 133 xm_133 2 (30, [none, none, none], [], zw X s) Q
def w_133_32 (X : zX) (x1 x2 : Int) (s : zS) (Q : Int → zS → Prop) : Prop := wW X 133 xm_133 2 (32, [some (.ref 45), some (.int (Int32.ofInt x1)), some (.int (Int32.ofInt x2))], [], zw X s) Q
theorem w_133_i {X : zX} {x1 x2 : Int} {s : zS} {Q : Int → zS → Prop} (h : (∀ s1 : zS, s1 = zu s 45 0 0 → (w_131 X x1 s1 (fun v2 s2 => ((-2147483648 ≤ v2 ∧ v2 ≤ 2147483647) ∧ (v2 = 0 → w_133_30 X s2 Q) ∧ (¬ v2 = 0 → (w_129 X x1 s2 (fun v3 s3 => ((-2147483648 ≤ v3 ∧ v3 ≤ 2147483647) ∧ (v3 = 0 → w_133_30 X s3 Q) ∧ (¬ v3 = 0 → ((-2147483648 ≤ x2 ∧ x2 ≤ 2147483647) ∧ (x2 = 0 → w_133_32 X x1 x2 s3 Q) ∧ (¬ x2 = 0 → ((-2147483648 ≤ x2 ∧ x2 ≤ 2147483647) ∧ (x2 = 1 → w_133_32 X x1 x2 s3 Q) ∧ (¬ x2 = 1 → w_133_30 X s3 Q)))))))))))))) : w_133 X x1 x2 s Q := by
  intro hZ d hd
  have hM : xi_ml[133]? = some xm_133 := rfl
  refine gx_r hM hZ 2 (B := (2, [some (.ref 45), some (.int (Int32.ofInt x1)), some (.int (Int32.ofInt x2))], [.int (Int32.ofInt 0), .ref 45], zw X s)) rfl ?_
  obtain ⟨s1, e1⟩ : ∃ q : zS, q = zu s 45 0 0 := ⟨_, rfl⟩
  refine gj_put hM hZ rfl rfl rfl (Nat.le_of_ble_eq_true rfl) rfl rfl zq_45_0 e1 ?_
  replace h := h _ e1
  refine gx_r hM hZ 2 (B := (7, [some (.ref 45), some (.int (Int32.ofInt x1)), some (.int (Int32.ofInt x2))], [.int (Int32.ofInt x1), .ref 45], zw X s1)) rfl ?_
  refine gi_call hM (s := s1) (hj := 1) hZ rfl rfl (by omega) h ?_
  intro v2 s2 h
  refine gi_if1 hM hZ (fun x => decide (x = 0)) (p := v2 = 0) rfl rfl (zd_eq h.1) ?_ ?_
  · intro hp
    replace h := h.2.1 hp
    exact gx_fg [false, false, false] (h hZ d hd)
  · intro hp
    replace h := h.2.2 hp
    refine gx_r hM hZ 2 (B := (15, [some (.ref 45), some (.int (Int32.ofInt x1)), some (.int (Int32.ofInt x2))], [.int (Int32.ofInt x1), .ref 45], zw X s2)) rfl ?_
    refine gi_call hM (s := s2) (hj := 0) hZ rfl rfl (by omega) h ?_
    intro v3 s3 h
    refine gi_if1 hM hZ (fun x => decide (x = 0)) (p := v3 = 0) rfl rfl (zd_eq h.1) ?_ ?_
    · intro hp
      replace h := h.2.1 hp
      exact gx_fg [false, false, false] (h hZ d hd)
    · intro hp
      replace h := h.2.2 hp
      refine gx_r hM hZ 1 (B := (22, [some (.ref 45), some (.int (Int32.ofInt x1)), some (.int (Int32.ofInt x2))], [.int (Int32.ofInt x2)], zw X s3)) rfl ?_
      refine gi_if1 hM hZ (fun x => decide (x = 0)) (p := x2 = 0) rfl rfl (zd_eq h.1) ?_ ?_
      · intro hp
        replace h := h.2.1 hp
        exact gx_fg [true, true, true] (h hZ d hd)
      · intro hp
        replace h := h.2.2 hp
        refine gx_r hM hZ 2 (B := (27, [some (.ref 45), some (.int (Int32.ofInt x1)), some (.int (Int32.ofInt x2))], [.int (Int32.ofInt 1), .int (Int32.ofInt x2)], zw X s3)) rfl ?_
        refine gi_if2 hM hZ (fun x y => decide (x = y)) (p := x2 = 1) rfl rfl (zc_eq h.1 (by decide)) ?_ ?_
        · intro hp
          replace h := h.2.1 hp
          exact gx_fg [true, true, true] (h hZ d hd)
        · intro hp
          replace h := h.2.2 hp
          exact gx_fg [false, false, false] (h hZ d hd)
theorem w_133_30_i {X : zX} {s : zS} {Q : Int → zS → Prop} (h : Q (-1) s) : w_133_30 X s Q := by
  intro hZ d hd
  have hM : xi_ml[133]? = some xm_133 := rfl
  refine gx_r hM hZ 1 (B := (31, [none, none, none], [.int (Int32.ofInt (-1))], zw X s)) rfl ?_
  exact ⟨_, xi_To.rf _ _ _ _, (-1), s, rfl, h⟩
theorem w_133_32_i {X : zX} {x1 x2 : Int} {s : zS} {Q : Int → zS → Prop} (h : ((-2147483648 ≤ x2 ∧ x2 ≤ 2147483647) ∧ (¬ x2 = 0 → (0 ≤ x1 ∧ x1 < 400) ∧ Q (s 62 x1) s) ∧ (¬ ¬ x2 = 0 → (0 ≤ x1 ∧ x1 < 400) ∧ Q (s 61 x1) s))) : w_133_32 X x1 x2 s Q := by
  intro hZ d hd
  have hM : xi_ml[133]? = some xm_133 := rfl
  refine gx_r hM hZ 1 (B := (33, [some (.ref 45), some (.int (Int32.ofInt x1)), some (.int (Int32.ofInt x2))], [.int (Int32.ofInt x2)], zw X s)) rfl ?_
  refine gi_if1 hM hZ (fun x => decide (¬ x = 0)) (p := ¬ x2 = 0) rfl rfl (zd_ne h.1) ?_ ?_
  · intro hp
    replace h := h.2.1 hp
    refine gx_r hM hZ 3 (B := (50, [some (.ref 45), some (.int (Int32.ofInt x1)), some (.int (Int32.ofInt x2))], [.int (Int32.ofInt x1), .ref 62], zw X s)) rfl ?_
    refine gi_iald hM hZ (s := s) (len := 400) rfl rfl (Nat.le_of_ble_eq_true rfl) h.1 ?_
    replace h := h.2
    exact ⟨_, xi_To.rf _ _ _ _, (s 62 x1), s, rfl, h⟩
  · intro hp
    replace h := h.2.2 hp
    refine gx_r hM hZ 3 (B := (41, [some (.ref 45), some (.int (Int32.ofInt x1)), some (.int (Int32.ofInt x2))], [.int (Int32.ofInt x1), .ref 61], zw X s)) rfl ?_
    refine gi_iald hM hZ (s := s) (len := 400) rfl rfl (Nat.le_of_ble_eq_true rfl) h.1 ?_
    replace h := h.2
    refine gx_r hM hZ 1 (B := (51, [some (.ref 45), some (.int (Int32.ofInt x1)), some (.int (Int32.ofInt x2))], [.int (Int32.ofInt (s 61 x1))], zw X s)) rfl ?_
    exact ⟨_, xi_To.rf _ _ _ _, (s 61 x1), s, rfl, h⟩
-- RootLoomModel.collect
def w_140 (X : zX) (s : zS) (Q : Int → zS → Prop) : Prop := wW X 140 xm_140 2 (0, [some (.ref 45), none, none], [], zw X s) Q
def w_140_12 (X : zX) (x1 : Int) (s : zS) (Q : Int → zS → Prop) : Prop := wW X 140 xm_140 2 (12, [some (.ref 45), some (.int (Int32.ofInt x1)), none], [], zw X s) Q
def w_140_39 (X : zX) (x1 : Int) (s : zS) (Q : Int → zS → Prop) : Prop := wW X 140 xm_140 2 (39, [some (.ref 45), some (.int (Int32.ofInt x1)), none], [], zw X s) Q
def w_140_72 (X : zX) (x1 t0 : Int) (s : zS) (Q : Int → zS → Prop) : Prop := wW X 140 xm_140 2 (72, [some (.ref 45), some (.int (Int32.ofInt x1)), none], [.int (Int32.ofInt t0)], zw X s) Q
def w_140_96 (X : zX) (s : zS) (Q : Int → zS → Prop) : Prop := wW X 140 xm_140 2 (96, [some (.ref 45), none, none], [], zw X s) Q
def w_140_147 (X : zX) (x1 : Int) (s : zS) (Q : Int → zS → Prop) : Prop := wW X 140 xm_140 2 (147, [some (.ref 45), some (.int (Int32.ofInt x1)), none], [], zw X s) Q
def w_140_171 (X : zX) (s : zS) (Q : Int → zS → Prop) : Prop := wW X 140 xm_140 2 (171, [some (.ref 45), none, none], [], zw X s) Q
def w_140_181 (X : zX) (x1 : Int) (s : zS) (Q : Int → zS → Prop) : Prop := wW X 140 xm_140 2 (181, [some (.ref 45), some (.int (Int32.ofInt x1)), none], [], zw X s) Q
def w_140_215 (X : zX) (x1 t1 : Int) (s : zS) (Q : Int → zS → Prop) : Prop := wW X 140 xm_140 2 (215, [some (.ref 45), some (.int (Int32.ofInt x1)), none], [.int (Int32.ofInt t1), .ref 74], zw X s) Q
def w_140_216 (X : zX) (x1 t1 t2 : Int) (s : zS) (Q : Int → zS → Prop) : Prop := wW X 140 xm_140 2 (216, [some (.ref 45), some (.int (Int32.ofInt x1)), none], [.int (Int32.ofInt t2), .int (Int32.ofInt t1), .ref 74], zw X s) Q
def w_140_236 (X : zX) (x1 t1 t2 : Int) (s : zS) (Q : Int → zS → Prop) : Prop := wW X 140 xm_140 2 (236, [some (.ref 45), some (.int (Int32.ofInt x1)), none], [.int (Int32.ofInt t2), .int (Int32.ofInt t1), .ref 45], zw X s) Q
theorem w_140_i {X : zX} {s : zS} {Q : Int → zS → Prop} (h : (∀ s1 : zS, s1 = zu s 45 41 ((s 45 41) + 1) → w_140_12 X 0 s1 Q)) : w_140 X s Q := by
  intro hZ d hd
  have hM : xi_ml[140]? = some xm_140 := rfl
  refine gx_r hM hZ 4 (B := (6, [some (.ref 45), none, none], [.int (Int32.ofInt 1), .int (Int32.ofInt (s 45 41)), .ref 45], zw X s)) rfl ?_
  refine gi_add hM hZ rfl ?_
  obtain ⟨s1, e1⟩ : ∃ q : zS, q = zu s 45 41 ((s 45 41) + 1) := ⟨_, rfl⟩
  refine gj_put hM hZ rfl rfl rfl (Nat.le_of_ble_eq_true rfl) rfl rfl zq_45_41 e1 ?_
  replace h := h _ e1
  refine gx_r hM hZ 2 (B := (12, [some (.ref 45), some (.int (Int32.ofInt 0)), none], [], zw X s1)) rfl ?_
  exact gx_fg [true, true, false] (h hZ d hd)
theorem w_140_12_i {X : zX} {x1 : Int} {s : zS} {Q : Int → zS → Prop} (h : ((-2147483648 ≤ x1 ∧ x1 ≤ 2147483647) ∧ (200 ≤ x1 → (∀ s1 : zS, s1 = zu s 45 54 0 → w_140_39 X 0 s1 Q)) ∧ (¬ 200 ≤ x1 → (0 ≤ x1 ∧ x1 < 200) ∧ (∀ s2 : zS, s2 = zu s 78 x1 0 → w_140_12 X (x1 + 1) s2 Q)))) : w_140_12 X x1 s Q := by
  intro hZ d hd
  have hM : xi_ml[140]? = some xm_140 := rfl
  refine gx_r hM hZ 1 (B := (13, [some (.ref 45), some (.int (Int32.ofInt x1)), none], [.int (Int32.ofInt x1)], zw X s)) rfl ?_
  refine gi_sip hM hZ rfl rfl ?_
  refine gi_if2 hM hZ (fun x y => decide (y ≤ x)) (p := 200 ≤ x1) rfl rfl (zc_ge h.1 (by decide)) ?_ ?_
  · intro hp
    replace h := h.2.1 hp
    refine gx_r hM hZ 2 (B := (34, [some (.ref 45), some (.int (Int32.ofInt x1)), none], [.int (Int32.ofInt 0), .ref 45], zw X s)) rfl ?_
    obtain ⟨s1, e1⟩ : ∃ q : zS, q = zu s 45 54 0 := ⟨_, rfl⟩
    refine gj_put hM hZ rfl rfl rfl (Nat.le_of_ble_eq_true rfl) rfl rfl zq_45_54 e1 ?_
    replace h := h _ e1
    refine gx_r hM hZ 2 (B := (39, [some (.ref 45), some (.int (Int32.ofInt 0)), none], [], zw X s1)) rfl ?_
    exact gx_fg [true, true, false] (h hZ d hd)
  · intro hp
    replace h := h.2.2 hp
    refine gx_r hM hZ 4 (B := (25, [some (.ref 45), some (.int (Int32.ofInt x1)), none], [.int (Int32.ofInt 0), .int (Int32.ofInt x1), .ref 78], zw X s)) rfl ?_
    obtain ⟨s2, e2⟩ : ∃ q : zS, q = zu s 78 x1 0 := ⟨_, rfl⟩
    refine gj_zast hM hZ (len := 200) rfl rfl (Nat.le_of_ble_eq_true rfl) zp_78 h.1 (.inl rfl) e2 ?_
    replace h := h.2 _ e2
    refine gi_inc hM hZ (x := x1) (m := 1) rfl rfl ?_
    refine gx_r hM hZ 0 (B := (29, [some (.ref 45), some (.int (Int32.ofInt (x1 + 1))), none], [], zw X s2)) rfl ?_
    refine gx_r hM hZ 1 (B := (12, [some (.ref 45), some (.int (Int32.ofInt (x1 + 1))), none], [], zw X s2)) rfl ?_
    exact gx_fg [true, true, false] (h hZ d hd)
theorem w_140_39_i {X : zX} {x1 : Int} {s : zS} {Q : Int → zS → Prop} (h : (((-2147483648 ≤ x1 ∧ x1 ≤ 2147483647) ∧ (-2147483648 ≤ (s 45 56) ∧ (s 45 56) ≤ 2147483647)) ∧ ((s 45 56) < x1 → w_140_96 X s Q) ∧ (¬ (s 45 56) < x1 → (((-2147483648 ≤ x1 ∧ x1 ≤ 2147483647) ∧ (-2147483648 ≤ (s 45 56) ∧ (s 45 56) ≤ 2147483647)) ∧ (¬ x1 = (s 45 56) → (0 ≤ (x1 + 1) ∧ (x1 + 1) < 24) ∧ w_140_72 X x1 ((s 80 (x1 + 1)) - 1) s Q) ∧ (¬ ¬ x1 = (s 45 56) → w_140_72 X x1 (s 45 57) s Q))))) : w_140_39 X x1 s Q := by
  intro hZ d hd
  have hM : xi_ml[140]? = some xm_140 := rfl
  refine gx_r hM hZ 3 (B := (44, [some (.ref 45), some (.int (Int32.ofInt x1)), none], [.int (Int32.ofInt (s 45 56)), .int (Int32.ofInt x1)], zw X s)) rfl ?_
  refine gi_if2 hM hZ (fun x y => decide (y < x)) (p := (s 45 56) < x1) rfl rfl (zc_gt h.1.1 h.1.2) ?_ ?_
  · intro hp
    replace h := h.2.1 hp
    exact gx_fg [true, false, false] (h hZ d hd)
  · intro hp
    replace h := h.2.2 hp
    refine gx_r hM hZ 3 (B := (52, [some (.ref 45), some (.int (Int32.ofInt x1)), none], [.int (Int32.ofInt (s 45 56)), .int (Int32.ofInt x1)], zw X s)) rfl ?_
    refine gi_if2 hM hZ (fun x y => decide (¬ x = y)) (p := ¬ x1 = (s 45 56)) rfl rfl (zc_ne h.1.1 h.1.2) ?_ ?_
    · intro hp
      replace h := h.2.1 hp
      refine gx_r hM hZ 4 (B := (68, [some (.ref 45), some (.int (Int32.ofInt x1)), none], [.int (Int32.ofInt 1), .int (Int32.ofInt x1), .ref 80], zw X s)) rfl ?_
      refine gi_add hM hZ rfl ?_
      refine gi_iald hM hZ (s := s) (len := 24) rfl rfl (Nat.le_of_ble_eq_true rfl) h.1 ?_
      replace h := h.2
      refine gx_r hM hZ 1 (B := (71, [some (.ref 45), some (.int (Int32.ofInt x1)), none], [.int (Int32.ofInt 1), .int (Int32.ofInt (s 80 (x1 + 1)))], zw X s)) rfl ?_
      refine gi_sub hM hZ rfl ?_
      exact gx_fg [true, true, false] (h hZ d hd)
    · intro hp
      replace h := h.2.2 hp
      refine gx_r hM hZ 3 (B := (72, [some (.ref 45), some (.int (Int32.ofInt x1)), none], [.int (Int32.ofInt (s 45 57))], zw X s)) rfl ?_
      exact gx_fg [true, true, false] (h hZ d hd)
theorem w_140_72_i {X : zX} {x1 t0 : Int} {s : zS} {Q : Int → zS → Prop} (h : (0 ≤ t0 ∧ t0 < 400) ∧ (0 ≤ t0 ∧ t0 < 400) ∧ (w_141 X x1 (s 61 t0) (s 62 t0) s (fun _ s1 => w_140_39 X (x1 + 1) s1 Q))) : w_140_72 X x1 t0 s Q := by
  intro hZ d hd
  have hM : xi_ml[140]? = some xm_140 := rfl
  refine gx_r hM hZ 6 (B := (80, [some (.ref 45), some (.int (Int32.ofInt x1)), some (.int (Int32.ofInt t0))], [.int (Int32.ofInt t0), .ref 61, .int (Int32.ofInt x1), .ref 45], zw X s)) rfl ?_
  refine gi_iald hM hZ (s := s) (len := 400) rfl rfl (Nat.le_of_ble_eq_true rfl) h.1 ?_
  replace h := h.2
  refine gx_r hM hZ 3 (B := (86, [some (.ref 45), some (.int (Int32.ofInt x1)), some (.int (Int32.ofInt t0))], [.int (Int32.ofInt t0), .ref 62, .int (Int32.ofInt (s 61 t0)), .int (Int32.ofInt x1), .ref 45], zw X s)) rfl ?_
  refine gi_iald hM hZ (s := s) (len := 400) rfl rfl (Nat.le_of_ble_eq_true rfl) h.1 ?_
  replace h := h.2
  refine gi_call hM (s := s) (hj := 1) hZ rfl rfl (by omega) h ?_
  intro _ s1 h
  refine gi_inc hM hZ (x := x1) (m := 1) rfl rfl ?_
  refine gx_r hM hZ 0 (B := (93, [some (.ref 45), some (.int (Int32.ofInt (x1 + 1))), some (.int (Int32.ofInt t0))], [], zw X s1)) rfl ?_
  refine gx_r hM hZ 1 (B := (39, [some (.ref 45), some (.int (Int32.ofInt (x1 + 1))), some (.int (Int32.ofInt t0))], [], zw X s1)) rfl ?_
  exact gx_fg [true, true, false] (h hZ d hd)
theorem w_140_96_i {X : zX} {s : zS} {Q : Int → zS → Prop} (h : ((-2147483648 ≤ (s 45 54) ∧ (s 45 54) ≤ 2147483647) ∧ ((s 45 54) ≤ 0 → (∀ s1 : zS, s1 = zu s 45 48 0 → w_140_181 X 0 s1 Q)) ∧ (¬ (s 45 54) ≤ 0 → (∀ s2 : zS, s2 = zu s 45 54 ((s 45 54) - 1) → (0 ≤ (s2 45 54) ∧ (s2 45 54) < 200) ∧ (0 ≤ (s2 79 (s2 45 54)) ∧ (s2 79 (s2 45 54)) < 200) ∧ (0 ≤ (s2 75 (s2 79 (s2 45 54))) ∧ (s2 75 (s2 79 (s2 45 54))) < 8) ∧ ((-2147483648 ≤ (s2 65 (s2 75 (s2 79 (s2 45 54)))) ∧ (s2 65 (s2 75 (s2 79 (s2 45 54)))) ≤ 2147483647) ∧ ((s2 65 (s2 75 (s2 79 (s2 45 54)))) ≤ 0 → w_140_147 X (s2 79 (s2 45 54)) s2 Q) ∧ (¬ (s2 65 (s2 75 (s2 79 (s2 45 54)))) ≤ 0 → (0 ≤ (s2 79 (s2 45 54)) ∧ (s2 79 (s2 45 54)) < 200) ∧ (w_142 X (s2 76 (s2 79 (s2 45 54))) s2 (fun _ s3 => w_140_147 X (s2 79 (s2 45 54)) s3 Q)))))))) : w_140_96 X s Q := by
  intro hZ d hd
  have hM : xi_ml[140]? = some xm_140 := rfl
  refine gx_r hM hZ 2 (B := (100, [some (.ref 45), none, none], [.int (Int32.ofInt (s 45 54))], zw X s)) rfl ?_
  refine gi_if1 hM hZ (fun x => decide (x ≤ 0)) (p := (s 45 54) ≤ 0) rfl rfl (zd_le h.1) ?_ ?_
  · intro hp
    replace h := h.2.1 hp
    refine gx_r hM hZ 2 (B := (176, [some (.ref 45), none, none], [.int (Int32.ofInt 0), .ref 45], zw X s)) rfl ?_
    obtain ⟨s1, e1⟩ : ∃ q : zS, q = zu s 45 48 0 := ⟨_, rfl⟩
    refine gj_put hM hZ rfl rfl rfl (Nat.le_of_ble_eq_true rfl) rfl rfl zq_45_48 e1 ?_
    replace h := h _ e1
    refine gx_r hM hZ 2 (B := (181, [some (.ref 45), some (.int (Int32.ofInt 0)), none], [], zw X s1)) rfl ?_
    exact gx_fg [true, true, false] (h hZ d hd)
  · intro hp
    replace h := h.2.2 hp
    refine gx_r hM hZ 4 (B := (109, [some (.ref 45), none, none], [.int (Int32.ofInt 1), .int (Int32.ofInt (s 45 54)), .ref 45], zw X s)) rfl ?_
    refine gi_sub hM hZ rfl ?_
    obtain ⟨s2, e2⟩ : ∃ q : zS, q = zu s 45 54 ((s 45 54) - 1) := ⟨_, rfl⟩
    refine gj_put hM hZ rfl rfl rfl (Nat.le_of_ble_eq_true rfl) rfl rfl zq_45_54 e2 ?_
    replace h := h _ e2
    refine gx_r hM hZ 4 (B := (121, [some (.ref 45), none, none], [.int (Int32.ofInt (s2 45 54)), .ref 79], zw X s2)) rfl ?_
    refine gi_iald hM hZ (s := s2) (len := 200) rfl rfl (Nat.le_of_ble_eq_true rfl) h.1 ?_
    replace h := h.2
    refine gx_r hM hZ 6 (B := (132, [some (.ref 45), some (.int (Int32.ofInt (s2 79 (s2 45 54)))), none], [.int (Int32.ofInt (s2 79 (s2 45 54))), .ref 75, .ref 65], zw X s2)) rfl ?_
    refine gi_iald hM hZ (s := s2) (len := 200) rfl rfl (Nat.le_of_ble_eq_true rfl) h.1 ?_
    replace h := h.2
    refine gi_iald hM hZ (s := s2) (len := 8) rfl rfl (Nat.le_of_ble_eq_true rfl) h.1 ?_
    replace h := h.2
    refine gi_if1 hM hZ (fun x => decide (x ≤ 0)) (p := (s2 65 (s2 75 (s2 79 (s2 45 54)))) ≤ 0) rfl rfl (zd_le h.1) ?_ ?_
    · intro hp
      replace h := h.2.1 hp
      exact gx_fg [true, true, false] (h hZ d hd)
    · intro hp
      replace h := h.2.2 hp
      refine gx_r hM hZ 4 (B := (143, [some (.ref 45), some (.int (Int32.ofInt (s2 79 (s2 45 54)))), none], [.int (Int32.ofInt (s2 79 (s2 45 54))), .ref 76, .ref 45], zw X s2)) rfl ?_
      refine gi_iald hM hZ (s := s2) (len := 200) rfl rfl (Nat.le_of_ble_eq_true rfl) h.1 ?_
      replace h := h.2
      refine gi_call hM (s := s2) (hj := 0) hZ rfl rfl (by omega) h ?_
      intro _ s3 h
      exact gx_fg [true, true, false] (h hZ d hd)
theorem w_140_147_i {X : zX} {x1 : Int} {s : zS} {Q : Int → zS → Prop} (h : (0 ≤ x1 ∧ x1 < 200) ∧ (0 ≤ (s 75 x1) ∧ (s 75 x1) < 8) ∧ ((-2147483648 ≤ (s 66 (s 75 x1)) ∧ (s 66 (s 75 x1)) ≤ 2147483647) ∧ ((s 66 (s 75 x1)) ≤ 0 → w_140_171 X s Q) ∧ (¬ (s 66 (s 75 x1)) ≤ 0 → (0 ≤ x1 ∧ x1 < 200) ∧ (w_142 X (s 77 x1) s (fun _ s1 => w_140_171 X s1 Q))))) : w_140_147 X x1 s Q := by
  intro hZ d hd
  have hM : xi_ml[140]? = some xm_140 := rfl
  refine gx_r hM hZ 5 (B := (156, [some (.ref 45), some (.int (Int32.ofInt x1)), none], [.int (Int32.ofInt x1), .ref 75, .ref 66], zw X s)) rfl ?_
  refine gi_iald hM hZ (s := s) (len := 200) rfl rfl (Nat.le_of_ble_eq_true rfl) h.1 ?_
  replace h := h.2
  refine gi_iald hM hZ (s := s) (len := 8) rfl rfl (Nat.le_of_ble_eq_true rfl) h.1 ?_
  replace h := h.2
  refine gi_if1 hM hZ (fun x => decide (x ≤ 0)) (p := (s 66 (s 75 x1)) ≤ 0) rfl rfl (zd_le h.1) ?_ ?_
  · intro hp
    replace h := h.2.1 hp
    exact gx_fg [true, false, false] (h hZ d hd)
  · intro hp
    replace h := h.2.2 hp
    refine gx_r hM hZ 4 (B := (167, [some (.ref 45), some (.int (Int32.ofInt x1)), none], [.int (Int32.ofInt x1), .ref 77, .ref 45], zw X s)) rfl ?_
    refine gi_iald hM hZ (s := s) (len := 200) rfl rfl (Nat.le_of_ble_eq_true rfl) h.1 ?_
    replace h := h.2
    refine gi_call hM (s := s) (hj := 0) hZ rfl rfl (by omega) h ?_
    intro _ s1 h
    exact gx_fg [true, false, false] (h hZ d hd)
theorem w_140_171_i {X : zX} {s : zS} {Q : Int → zS → Prop} (h : w_140_96 X s Q) : w_140_171 X s Q := by
  intro hZ d hd
  have hM : xi_ml[140]? = some xm_140 := rfl
  refine gx_r hM hZ 1 (B := (96, [some (.ref 45), none, none], [], zw X s)) rfl ?_
  exact gx_fg [true, false, false] (h hZ d hd)
theorem w_140_181_i {X : zX} {x1 : Int} {s : zS} {Q : Int → zS → Prop} (h : ((-2147483648 ≤ x1 ∧ x1 ≤ 2147483647) ∧ (200 ≤ x1 → (∀ s1 : zS, s1 = zu s 45 42 (3 * (s 45 48)) → Q 0 s1)) ∧ (¬ 200 ≤ x1 → (0 ≤ x1 ∧ x1 < 200) ∧ ((-2147483648 ≤ (s 74 x1) ∧ (s 74 x1) ≤ 2147483647) ∧ ((s 74 x1) = 0 → w_140_215 X x1 x1 s Q) ∧ (¬ (s 74 x1) = 0 → (0 ≤ x1 ∧ x1 < 200) ∧ ((-2147483648 ≤ (s 78 x1) ∧ (s 78 x1) ≤ 2147483647) ∧ ((s 78 x1) = 0 → w_140_215 X x1 x1 s Q) ∧ (¬ (s 78 x1) = 0 → w_140_216 X x1 x1 1 s Q))))))) : w_140_181 X x1 s Q := by
  intro hZ d hd
  have hM : xi_ml[140]? = some xm_140 := rfl
  refine gx_r hM hZ 1 (B := (182, [some (.ref 45), some (.int (Int32.ofInt x1)), none], [.int (Int32.ofInt x1)], zw X s)) rfl ?_
  refine gi_sip hM hZ rfl rfl ?_
  refine gi_if2 hM hZ (fun x y => decide (y ≤ x)) (p := 200 ≤ x1) rfl rfl (zc_ge h.1 (by decide)) ?_ ?_
  · intro hp
    replace h := h.2.1 hp
    refine gx_r hM hZ 4 (B := (252, [some (.ref 45), some (.int (Int32.ofInt x1)), none], [.int (Int32.ofInt (s 45 48)), .int (Int32.ofInt 3), .ref 45], zw X s)) rfl ?_
    refine gi_mul hM hZ rfl ?_
    obtain ⟨s1, e1⟩ : ∃ q : zS, q = zu s 45 42 (3 * (s 45 48)) := ⟨_, rfl⟩
    refine gj_put hM hZ rfl rfl rfl (Nat.le_of_ble_eq_true rfl) rfl rfl zq_45_42 e1 ?_
    replace h := h _ e1
    exact ⟨_, xi_To.rf _ _ _ _, 0, s1, rfl, h⟩
  · intro hp
    replace h := h.2.2 hp
    refine gx_r hM hZ 6 (B := (198, [some (.ref 45), some (.int (Int32.ofInt x1)), none], [.int (Int32.ofInt x1), .ref 74, .int (Int32.ofInt x1), .ref 74], zw X s)) rfl ?_
    refine gi_zald hM hZ (s := s) (len := 200) rfl rfl (Nat.le_of_ble_eq_true rfl) h.1 ?_
    replace h := h.2
    refine gi_if1 hM hZ (fun x => decide (x = 0)) (p := (s 74 x1) = 0) rfl rfl (zd_eq h.1) ?_ ?_
    · intro hp
      replace h := h.2.1 hp
      exact gx_fg [true, true, false] (h hZ d hd)
    · intro hp
      replace h := h.2.2 hp
      refine gx_r hM hZ 3 (B := (207, [some (.ref 45), some (.int (Int32.ofInt x1)), none], [.int (Int32.ofInt x1), .ref 78, .int (Int32.ofInt x1), .ref 74], zw X s)) rfl ?_
      refine gi_zald hM hZ (s := s) (len := 200) rfl rfl (Nat.le_of_ble_eq_true rfl) h.1 ?_
      replace h := h.2
      refine gi_if1 hM hZ (fun x => decide (x = 0)) (p := (s 78 x1) = 0) rfl rfl (zd_eq h.1) ?_ ?_
      · intro hp
        replace h := h.2.1 hp
        exact gx_fg [true, true, false] (h hZ d hd)
      · intro hp
        replace h := h.2.2 hp
        refine gx_r hM hZ 2 (B := (216, [some (.ref 45), some (.int (Int32.ofInt x1)), none], [.int (Int32.ofInt 1), .int (Int32.ofInt x1), .ref 74], zw X s)) rfl ?_
        exact gx_fg [true, true, false] (h hZ d hd)
theorem w_140_215_i {X : zX} {x1 t1 : Int} {s : zS} {Q : Int → zS → Prop} (h : w_140_216 X x1 t1 0 s Q) : w_140_215 X x1 t1 s Q := by
  intro hZ d hd
  have hM : xi_ml[140]? = some xm_140 := rfl
  refine gx_r hM hZ 1 (B := (216, [some (.ref 45), some (.int (Int32.ofInt x1)), none], [.int (Int32.ofInt 0), .int (Int32.ofInt t1), .ref 74], zw X s)) rfl ?_
  exact gx_fg [true, true, false] (h hZ d hd)
theorem w_140_216_i {X : zX} {x1 t1 t2 : Int} {s : zS} {Q : Int → zS → Prop} (h : (0 ≤ t1 ∧ t1 < 200) ∧ ((t2 = 0 ∨ t2 = 1) ∧ (∀ s1 : zS, s1 = zu s 74 t1 t2 → (0 ≤ x1 ∧ x1 < 200) ∧ ((-2147483648 ≤ (s1 74 x1) ∧ (s1 74 x1) ≤ 2147483647) ∧ ((s1 74 x1) = 0 → w_140_236 X x1 (s1 45 48) 0 s1 Q) ∧ (¬ (s1 74 x1) = 0 → w_140_236 X x1 (s1 45 48) 1 s1 Q))))) : w_140_216 X x1 t1 t2 s Q := by
  intro hZ d hd
  have hM : xi_ml[140]? = some xm_140 := rfl
  obtain ⟨s1, e1⟩ : ∃ q : zS, q = zu s 74 t1 t2 := ⟨_, rfl⟩
  refine gj_zast hM hZ (len := 200) rfl rfl (Nat.le_of_ble_eq_true rfl) zp_74 h.1 h.2.1 e1 ?_
  replace h := h.2.2 _ e1
  refine gx_r hM hZ 6 (B := (227, [some (.ref 45), some (.int (Int32.ofInt x1)), none], [.int (Int32.ofInt x1), .ref 74, .int (Int32.ofInt (s1 45 48)), .ref 45], zw X s1)) rfl ?_
  refine gi_zald hM hZ (s := s1) (len := 200) rfl rfl (Nat.le_of_ble_eq_true rfl) h.1 ?_
  replace h := h.2
  refine gi_if1 hM hZ (fun x => decide (x = 0)) (p := (s1 74 x1) = 0) rfl rfl (zd_eq h.1) ?_ ?_
  · intro hp
    replace h := h.2.1 hp
    refine gx_r hM hZ 1 (B := (236, [some (.ref 45), some (.int (Int32.ofInt x1)), none], [.int (Int32.ofInt 0), .int (Int32.ofInt (s1 45 48)), .ref 45], zw X s1)) rfl ?_
    exact gx_fg [true, true, false] (h hZ d hd)
  · intro hp
    replace h := h.2.2 hp
    refine gx_r hM hZ 2 (B := (236, [some (.ref 45), some (.int (Int32.ofInt x1)), none], [.int (Int32.ofInt 1), .int (Int32.ofInt (s1 45 48)), .ref 45], zw X s1)) rfl ?_
    exact gx_fg [true, true, false] (h hZ d hd)
theorem w_140_236_i {X : zX} {x1 t1 t2 : Int} {s : zS} {Q : Int → zS → Prop} (h : (∀ s1 : zS, s1 = zu s 45 48 (t1 + t2) → w_140_181 X (x1 + 1) s1 Q)) : w_140_236 X x1 t1 t2 s Q := by
  intro hZ d hd
  have hM : xi_ml[140]? = some xm_140 := rfl
  refine gi_add hM hZ rfl ?_
  obtain ⟨s1, e1⟩ : ∃ q : zS, q = zu s 45 48 (t1 + t2) := ⟨_, rfl⟩
  refine gj_put hM hZ rfl rfl rfl (Nat.le_of_ble_eq_true rfl) rfl rfl zq_45_48 e1 ?_
  replace h := h _ e1
  refine gi_inc hM hZ (x := x1) (m := 1) rfl rfl ?_
  refine gx_r hM hZ 0 (B := (243, [some (.ref 45), some (.int (Int32.ofInt (x1 + 1))), none], [], zw X s1)) rfl ?_
  refine gx_r hM hZ 1 (B := (181, [some (.ref 45), some (.int (Int32.ofInt (x1 + 1))), none], [], zw X s1)) rfl ?_
  exact gx_fg [true, true, false] (h hZ d hd)
-- RootLoomModel.tell
def w_154 (X : zX) (x1 x2 : Int) (s : zS) (Q : Int → zS → Prop) : Prop := wW X 154 xm_154 2 (0, [some (.ref 45), some (.int (Int32.ofInt x1)), some (.int (Int32.ofInt x2))], [], zw X s) Q
theorem w_154_i {X : zX} {x1 x2 : Int} {s : zS} {Q : Int → zS → Prop} (h : (∀ s1 : zS, s1 = zu s 45 0 0 → (w_155 X x1 x2 s1 (fun v2 s2 => Q v2 s2)))) : w_154 X x1 x2 s Q := by
  intro hZ d hd
  have hM : xi_ml[154]? = some xm_154 := rfl
  refine gx_r hM hZ 2 (B := (2, [some (.ref 45), some (.int (Int32.ofInt x1)), some (.int (Int32.ofInt x2))], [.int (Int32.ofInt 0), .ref 45], zw X s)) rfl ?_
  obtain ⟨s1, e1⟩ : ∃ q : zS, q = zu s 45 0 0 := ⟨_, rfl⟩
  refine gj_put hM hZ rfl rfl rfl (Nat.le_of_ble_eq_true rfl) rfl rfl zq_45_0 e1 ?_
  replace h := h _ e1
  refine gx_r hM hZ 3 (B := (8, [some (.ref 45), some (.int (Int32.ofInt x1)), some (.int (Int32.ofInt x2))], [.int (Int32.ofInt x2), .int (Int32.ofInt x1), .ref 45], zw X s1)) rfl ?_
  refine gi_call hM (s := s1) (hj := 1) hZ rfl rfl (by omega) h ?_
  intro v2 s2 h
  exact ⟨_, xi_To.rf _ _ _ _, v2, s2, rfl, h⟩
-- RootLoomModel.value
def w_156 (X : zX) (x1 x2 : Int) (s : zS) (Q : Int → zS → Prop) : Prop := wW X 156 xm_156 2 (0, [some (.ref 45), some (.int (Int32.ofInt x1)), some (.int (Int32.ofInt x2))], [], zw X s) Q
theorem w_156_i {X : zX} {x1 x2 : Int} {s : zS} {Q : Int → zS → Prop} (h : (∀ s1 : zS, s1 = zu s 45 0 0 → (w_155 X x1 x2 s1 (fun v2 s2 => ((-2147483648 ≤ v2 ∧ v2 ≤ 2147483647) ∧ (¬ v2 = 0 → Q 0 s2) ∧ (¬ ¬ v2 = 0 → Q (s2 45 64) s2)))))) : w_156 X x1 x2 s Q := by
  intro hZ d hd
  have hM : xi_ml[156]? = some xm_156 := rfl
  refine gx_r hM hZ 2 (B := (2, [some (.ref 45), some (.int (Int32.ofInt x1)), some (.int (Int32.ofInt x2))], [.int (Int32.ofInt 0), .ref 45], zw X s)) rfl ?_
  obtain ⟨s1, e1⟩ : ∃ q : zS, q = zu s 45 0 0 := ⟨_, rfl⟩
  refine gj_put hM hZ rfl rfl rfl (Nat.le_of_ble_eq_true rfl) rfl rfl zq_45_0 e1 ?_
  replace h := h _ e1
  refine gx_r hM hZ 3 (B := (8, [some (.ref 45), some (.int (Int32.ofInt x1)), some (.int (Int32.ofInt x2))], [.int (Int32.ofInt x2), .int (Int32.ofInt x1), .ref 45], zw X s1)) rfl ?_
  refine gi_call hM (s := s1) (hj := 1) hZ rfl rfl (by omega) h ?_
  intro v2 s2 h
  refine gi_if1 hM hZ (fun x => decide (¬ x = 0)) (p := ¬ v2 = 0) rfl rfl (zd_ne h.1) ?_ ?_
  · intro hp
    replace h := h.2.1 hp
    refine gx_r hM hZ 1 (B := (22, [some (.ref 45), some (.int (Int32.ofInt x1)), some (.int (Int32.ofInt x2))], [.int (Int32.ofInt 0)], zw X s2)) rfl ?_
    exact ⟨_, xi_To.rf _ _ _ _, 0, s2, rfl, h⟩
  · intro hp
    replace h := h.2.2 hp
    refine gx_r hM hZ 3 (B := (22, [some (.ref 45), some (.int (Int32.ofInt x1)), some (.int (Int32.ofInt x2))], [.int (Int32.ofInt (s2 45 64))], zw X s2)) rfl ?_
    exact ⟨_, xi_To.rf _ _ _ _, (s2 45 64), s2, rfl, h⟩
-- RootLoom.body
def w_5 (X : zX) (x1 x2 : Int) (s : zS) (Q : Int → zS → Prop) : Prop := wW X 5 xm_5 3 (0, [some (.ref 2), some (.int (Int32.ofInt x1)), some (.int (Int32.ofInt x2))], [], zw X s) Q
theorem w_5_i {X : zX} {x1 x2 : Int} {s : zS} {Q : Int → zS → Prop} (h : (w_33 X x1 x2 s (fun v1 s1 => ((v1 = 0 ∨ v1 = 1) ∧ Q v1 s1)))) : w_5 X x1 x2 s Q := by
  intro hZ d hd
  have hM : xi_ml[5]? = some xm_5 := rfl
  refine gx_r hM hZ 4 (B := (6, [some (.ref 2), some (.int (Int32.ofInt x1)), some (.int (Int32.ofInt x2))], [.int (Int32.ofInt x2), .int (Int32.ofInt x1), .ref 3], zw X s)) rfl ?_
  refine gi_call hM (s := s) (hj := 2) hZ rfl rfl (by omega) h ?_
  intro v1 s1 h
  exact ⟨_, xi_To.rf _ _ _ _, v1, s1, zb_end rfl rfl h.1, h.2⟩
-- RootLoom$Source.addNode
def w_23 (X : zX) (x1 x2 x3 x4 : Int) (s : zS) (Q : Int → zS → Prop) : Prop := wW X 23 xm_23 3 (0, [some (.ref 3), some (.int (Int32.ofInt x1)), some (.int (Int32.ofInt x2)), some (.int (Int32.ofInt x3)), some (.int (Int32.ofInt x4)), none, none], [], zw X s) Q
def w_23_20 (X : zX) (s : zS) (Q : Int → zS → Prop) : Prop := wW X 23 xm_23 3 (20, [none, none, none, none, none, none, none], [], zw X s) Q
def w_23_74 (X : zX) (s : zS) (Q : Int → zS → Prop) : Prop := wW X 23 xm_23 3 (74, [none, none, none, none, none, none, none], [], zw X s) Q
theorem w_23_i {X : zX} {x1 x2 x3 x4 : Int} {s : zS} {Q : Int → zS → Prop} (h : ((-2147483648 ≤ x1 ∧ x1 ≤ 2147483647) ∧ (x1 < 0 → w_23_20 X s Q) ∧ (¬ x1 < 0 → ((-2147483648 ≤ x1 ∧ x1 ≤ 2147483647) ∧ (18 ≤ x1 → w_23_20 X s Q) ∧ (¬ 18 ≤ x1 → ((-2147483648 ≤ (s 3 11) ∧ (s 3 11) ≤ 2147483647) ∧ ((s 3 11) < 150 → (0 ≤ (x1 * 3) ∧ (x1 * 3) < 54) ∧ (w_24 X (zP (x1 * 3)) x2 s (fun v1 s1 => ((-2147483648 ≤ v1 ∧ v1 ≤ 2147483647) ∧ (v1 = 0 → w_23_74 X s1 Q) ∧ (¬ v1 = 0 → (0 ≤ ((x1 * 3) + 1) ∧ ((x1 * 3) + 1) < 54) ∧ (w_24 X (zP ((x1 * 3) + 1)) x3 s1 (fun v2 s2 => ((-2147483648 ≤ v2 ∧ v2 ≤ 2147483647) ∧ (v2 = 0 → w_23_74 X s2 Q) ∧ (¬ v2 = 0 → (0 ≤ ((x1 * 3) + 2) ∧ ((x1 * 3) + 2) < 54) ∧ (w_24 X (zP ((x1 * 3) + 2)) x4 s2 (fun v3 s3 => ((-2147483648 ≤ v3 ∧ v3 ≤ 2147483647) ∧ (¬ v3 = 0 → (0 ≤ (s3 3 11) ∧ (s3 3 11) < 150) ∧ (∀ s4 : zS, s4 = zu s3 10 (s3 3 11) x1 → (0 ≤ ((s3 3 11) * 3) ∧ ((s3 3 11) * 3) < 450) ∧ (∀ s5 : zS, s5 = zu s4 11 ((s3 3 11) * 3) x2 → (0 ≤ (((s3 3 11) * 3) + 1) ∧ (((s3 3 11) * 3) + 1) < 450) ∧ (∀ s6 : zS, s6 = zu s5 11 (((s3 3 11) * 3) + 1) x3 → (0 ≤ (((s3 3 11) * 3) + 2) ∧ (((s3 3 11) * 3) + 2) < 450) ∧ (∀ s7 : zS, s7 = zu s6 11 (((s3 3 11) * 3) + 2) x4 → (w_28 X (s3 3 11) s7 (fun _ s8 => (∀ s9 : zS, s9 = zu s8 3 11 ((s8 3 11) + 1) → Q (s3 3 11) s9)))))))) ∧ (¬ ¬ v3 = 0 → w_23_74 X s3 Q))))))))))))) ∧ (¬ (s 3 11) < 150 → w_23_20 X s Q))))))) : w_23 X x1 x2 x3 x4 s Q := by
  intro hZ d hd
  have hM : xi_ml[23]? = some xm_23 := rfl
  refine gx_r hM hZ 1 (B := (1, [some (.ref 3), some (.int (Int32.ofInt x1)), some (.int (Int32.ofInt x2)), some (.int (Int32.ofInt x3)), some (.int (Int32.ofInt x4)), none, none], [.int (Int32.ofInt x1)], zw X s)) rfl ?_
  refine gi_if1 hM hZ (fun x => decide (x < 0)) (p := x1 < 0) rfl rfl (zd_lt h.1) ?_ ?_
  · intro hp
    replace h := h.2.1 hp
    exact gx_fg [false, false, false, false, false, false, false] (h hZ d hd)
  · intro hp
    replace h := h.2.2 hp
    refine gx_r hM hZ 1 (B := (5, [some (.ref 3), some (.int (Int32.ofInt x1)), some (.int (Int32.ofInt x2)), some (.int (Int32.ofInt x3)), some (.int (Int32.ofInt x4)), none, none], [.int (Int32.ofInt x1)], zw X s)) rfl ?_
    refine gi_bip hM hZ rfl rfl ?_
    refine gi_if2 hM hZ (fun x y => decide (y ≤ x)) (p := 18 ≤ x1) rfl rfl (zc_ge h.1 (by decide)) ?_ ?_
    · intro hp
      replace h := h.2.1 hp
      exact gx_fg [false, false, false, false, false, false, false] (h hZ d hd)
    · intro hp
      replace h := h.2.2 hp
      refine gx_r hM hZ 2 (B := (14, [some (.ref 3), some (.int (Int32.ofInt x1)), some (.int (Int32.ofInt x2)), some (.int (Int32.ofInt x3)), some (.int (Int32.ofInt x4)), none, none], [.int (Int32.ofInt (s 3 11))], zw X s)) rfl ?_
      refine gi_sip hM hZ rfl rfl ?_
      refine gi_if2 hM hZ (fun x y => decide (x < y)) (p := (s 3 11) < 150) rfl rfl (zc_lt h.1 (by decide)) ?_ ?_
      · intro hp
        replace h := h.2.1 hp
        refine gx_r hM hZ 2 (B := (24, [some (.ref 3), some (.int (Int32.ofInt x1)), some (.int (Int32.ofInt x2)), some (.int (Int32.ofInt x3)), some (.int (Int32.ofInt x4)), none, none], [.int (Int32.ofInt 3), .int (Int32.ofInt x1)], zw X s)) rfl ?_
        refine gi_mul hM hZ rfl ?_
        refine gx_r hM hZ 4 (B := (33, [some (.ref 3), some (.int (Int32.ofInt x1)), some (.int (Int32.ofInt x2)), some (.int (Int32.ofInt x3)), some (.int (Int32.ofInt x4)), some (.int (Int32.ofInt (x1 * 3))), none], [.int (Int32.ofInt (x1 * 3)), .ref 0, .ref 3], zw X s)) rfl ?_
        refine gi_parts hM hZ rfl h.1 ?_
        replace h := h.2
        refine gx_r hM hZ 1 (B := (35, [some (.ref 3), some (.int (Int32.ofInt x1)), some (.int (Int32.ofInt x2)), some (.int (Int32.ofInt x3)), some (.int (Int32.ofInt x4)), some (.int (Int32.ofInt (x1 * 3))), none], [.int (Int32.ofInt x2), .int (Int32.ofInt (zP (x1 * 3))), .ref 3], zw X s)) rfl ?_
        refine gi_call hM (s := s) (hj := 2) hZ rfl rfl (by omega) h ?_
        intro v1 s1 h
        refine gi_if1 hM hZ (fun x => decide (x = 0)) (p := v1 = 0) rfl rfl (zd_eq h.1) ?_ ?_
        · intro hp
          replace h := h.2.1 hp
          exact gx_fg [false, false, false, false, false, false, false] (h hZ d hd)
        · intro hp
          replace h := h.2.2 hp
          refine gx_r hM hZ 4 (B := (48, [some (.ref 3), some (.int (Int32.ofInt x1)), some (.int (Int32.ofInt x2)), some (.int (Int32.ofInt x3)), some (.int (Int32.ofInt x4)), some (.int (Int32.ofInt (x1 * 3))), none], [.int (Int32.ofInt 1), .int (Int32.ofInt (x1 * 3)), .ref 0, .ref 3], zw X s1)) rfl ?_
          refine gi_add hM hZ rfl ?_
          refine gi_parts hM hZ rfl h.1 ?_
          replace h := h.2
          refine gx_r hM hZ 1 (B := (51, [some (.ref 3), some (.int (Int32.ofInt x1)), some (.int (Int32.ofInt x2)), some (.int (Int32.ofInt x3)), some (.int (Int32.ofInt x4)), some (.int (Int32.ofInt (x1 * 3))), none], [.int (Int32.ofInt x3), .int (Int32.ofInt (zP ((x1 * 3) + 1))), .ref 3], zw X s1)) rfl ?_
          refine gi_call hM (s := s1) (hj := 2) hZ rfl rfl (by omega) h ?_
          intro v2 s2 h
          refine gi_if1 hM hZ (fun x => decide (x = 0)) (p := v2 = 0) rfl rfl (zd_eq h.1) ?_ ?_
          · intro hp
            replace h := h.2.1 hp
            exact gx_fg [false, false, false, false, false, false, false] (h hZ d hd)
          · intro hp
            replace h := h.2.2 hp
            refine gx_r hM hZ 4 (B := (64, [some (.ref 3), some (.int (Int32.ofInt x1)), some (.int (Int32.ofInt x2)), some (.int (Int32.ofInt x3)), some (.int (Int32.ofInt x4)), some (.int (Int32.ofInt (x1 * 3))), none], [.int (Int32.ofInt 2), .int (Int32.ofInt (x1 * 3)), .ref 0, .ref 3], zw X s2)) rfl ?_
            refine gi_add hM hZ rfl ?_
            refine gi_parts hM hZ rfl h.1 ?_
            replace h := h.2
            refine gx_r hM hZ 1 (B := (68, [some (.ref 3), some (.int (Int32.ofInt x1)), some (.int (Int32.ofInt x2)), some (.int (Int32.ofInt x3)), some (.int (Int32.ofInt x4)), some (.int (Int32.ofInt (x1 * 3))), none], [.int (Int32.ofInt x4), .int (Int32.ofInt (zP ((x1 * 3) + 2))), .ref 3], zw X s2)) rfl ?_
            refine gi_call hM (s := s2) (hj := 2) hZ rfl rfl (by omega) h ?_
            intro v3 s3 h
            refine gi_if1 hM hZ (fun x => decide (¬ x = 0)) (p := ¬ v3 = 0) rfl rfl (zd_ne h.1) ?_ ?_
            · intro hp
              replace h := h.2.1 hp
              refine gx_r hM hZ 7 (B := (89, [some (.ref 3), some (.int (Int32.ofInt x1)), some (.int (Int32.ofInt x2)), some (.int (Int32.ofInt x3)), some (.int (Int32.ofInt x4)), some (.int (Int32.ofInt (x1 * 3))), some (.int (Int32.ofInt (s3 3 11)))], [.int (Int32.ofInt x1), .int (Int32.ofInt (s3 3 11)), .ref 10], zw X s3)) rfl ?_
              obtain ⟨s4, e4⟩ : ∃ q : zS, q = zu s3 10 (s3 3 11) x1 := ⟨_, rfl⟩
              refine gj_iast hM hZ (len := 150) rfl rfl (Nat.le_of_ble_eq_true rfl) zp_10 h.1 e4 ?_
              replace h := h.2 _ e4
              refine gx_r hM hZ 4 (B := (97, [some (.ref 3), some (.int (Int32.ofInt x1)), some (.int (Int32.ofInt x2)), some (.int (Int32.ofInt x3)), some (.int (Int32.ofInt x4)), some (.int (Int32.ofInt (x1 * 3))), some (.int (Int32.ofInt (s3 3 11)))], [.int (Int32.ofInt 3), .int (Int32.ofInt (s3 3 11)), .ref 11], zw X s4)) rfl ?_
              refine gi_mul hM hZ rfl ?_
              refine gx_r hM hZ 1 (B := (99, [some (.ref 3), some (.int (Int32.ofInt x1)), some (.int (Int32.ofInt x2)), some (.int (Int32.ofInt x3)), some (.int (Int32.ofInt x4)), some (.int (Int32.ofInt (x1 * 3))), some (.int (Int32.ofInt (s3 3 11)))], [.int (Int32.ofInt x2), .int (Int32.ofInt ((s3 3 11) * 3)), .ref 11], zw X s4)) rfl ?_
              obtain ⟨s5, e5⟩ : ∃ q : zS, q = zu s4 11 ((s3 3 11) * 3) x2 := ⟨_, rfl⟩
              refine gj_iast hM hZ (len := 450) rfl rfl (Nat.le_of_ble_eq_true rfl) zp_11 h.1 e5 ?_
              replace h := h.2 _ e5
              refine gx_r hM hZ 4 (B := (107, [some (.ref 3), some (.int (Int32.ofInt x1)), some (.int (Int32.ofInt x2)), some (.int (Int32.ofInt x3)), some (.int (Int32.ofInt x4)), some (.int (Int32.ofInt (x1 * 3))), some (.int (Int32.ofInt (s3 3 11)))], [.int (Int32.ofInt 3), .int (Int32.ofInt (s3 3 11)), .ref 11], zw X s5)) rfl ?_
              refine gi_mul hM hZ rfl ?_
              refine gx_r hM hZ 1 (B := (109, [some (.ref 3), some (.int (Int32.ofInt x1)), some (.int (Int32.ofInt x2)), some (.int (Int32.ofInt x3)), some (.int (Int32.ofInt x4)), some (.int (Int32.ofInt (x1 * 3))), some (.int (Int32.ofInt (s3 3 11)))], [.int (Int32.ofInt 1), .int (Int32.ofInt ((s3 3 11) * 3)), .ref 11], zw X s5)) rfl ?_
              refine gi_add hM hZ rfl ?_
              refine gx_r hM hZ 1 (B := (111, [some (.ref 3), some (.int (Int32.ofInt x1)), some (.int (Int32.ofInt x2)), some (.int (Int32.ofInt x3)), some (.int (Int32.ofInt x4)), some (.int (Int32.ofInt (x1 * 3))), some (.int (Int32.ofInt (s3 3 11)))], [.int (Int32.ofInt x3), .int (Int32.ofInt (((s3 3 11) * 3) + 1)), .ref 11], zw X s5)) rfl ?_
              obtain ⟨s6, e6⟩ : ∃ q : zS, q = zu s5 11 (((s3 3 11) * 3) + 1) x3 := ⟨_, rfl⟩
              refine gj_iast hM hZ (len := 450) rfl rfl (Nat.le_of_ble_eq_true rfl) zp_11 h.1 e6 ?_
              replace h := h.2 _ e6
              refine gx_r hM hZ 4 (B := (119, [some (.ref 3), some (.int (Int32.ofInt x1)), some (.int (Int32.ofInt x2)), some (.int (Int32.ofInt x3)), some (.int (Int32.ofInt x4)), some (.int (Int32.ofInt (x1 * 3))), some (.int (Int32.ofInt (s3 3 11)))], [.int (Int32.ofInt 3), .int (Int32.ofInt (s3 3 11)), .ref 11], zw X s6)) rfl ?_
              refine gi_mul hM hZ rfl ?_
              refine gx_r hM hZ 1 (B := (121, [some (.ref 3), some (.int (Int32.ofInt x1)), some (.int (Int32.ofInt x2)), some (.int (Int32.ofInt x3)), some (.int (Int32.ofInt x4)), some (.int (Int32.ofInt (x1 * 3))), some (.int (Int32.ofInt (s3 3 11)))], [.int (Int32.ofInt 2), .int (Int32.ofInt ((s3 3 11) * 3)), .ref 11], zw X s6)) rfl ?_
              refine gi_add hM hZ rfl ?_
              refine gx_r hM hZ 1 (B := (124, [some (.ref 3), some (.int (Int32.ofInt x1)), some (.int (Int32.ofInt x2)), some (.int (Int32.ofInt x3)), some (.int (Int32.ofInt x4)), some (.int (Int32.ofInt (x1 * 3))), some (.int (Int32.ofInt (s3 3 11)))], [.int (Int32.ofInt x4), .int (Int32.ofInt (((s3 3 11) * 3) + 2)), .ref 11], zw X s6)) rfl ?_
              obtain ⟨s7, e7⟩ : ∃ q : zS, q = zu s6 11 (((s3 3 11) * 3) + 2) x4 := ⟨_, rfl⟩
              refine gj_iast hM hZ (len := 450) rfl rfl (Nat.le_of_ble_eq_true rfl) zp_11 h.1 e7 ?_
              replace h := h.2 _ e7
              refine gx_r hM hZ 2 (B := (128, [some (.ref 3), some (.int (Int32.ofInt x1)), some (.int (Int32.ofInt x2)), some (.int (Int32.ofInt x3)), some (.int (Int32.ofInt x4)), some (.int (Int32.ofInt (x1 * 3))), some (.int (Int32.ofInt (s3 3 11)))], [.int (Int32.ofInt (s3 3 11)), .ref 3], zw X s7)) rfl ?_
              refine gi_call hM (s := s7) (hj := 2) hZ rfl rfl (by omega) h ?_
              intro _ s8 h
              refine gx_r hM hZ 4 (B := (137, [some (.ref 3), some (.int (Int32.ofInt x1)), some (.int (Int32.ofInt x2)), some (.int (Int32.ofInt x3)), some (.int (Int32.ofInt x4)), some (.int (Int32.ofInt (x1 * 3))), some (.int (Int32.ofInt (s3 3 11)))], [.int (Int32.ofInt 1), .int (Int32.ofInt (s8 3 11)), .ref 3], zw X s8)) rfl ?_
              refine gi_add hM hZ rfl ?_
              obtain ⟨s9, e9⟩ : ∃ q : zS, q = zu s8 3 11 ((s8 3 11) + 1) := ⟨_, rfl⟩
              refine gj_put hM hZ rfl rfl rfl (Nat.le_of_ble_eq_true rfl) rfl rfl zq_3_11 e9 ?_
              replace h := h _ e9
              refine gx_r hM hZ 1 (B := (143, [some (.ref 3), some (.int (Int32.ofInt x1)), some (.int (Int32.ofInt x2)), some (.int (Int32.ofInt x3)), some (.int (Int32.ofInt x4)), some (.int (Int32.ofInt (x1 * 3))), some (.int (Int32.ofInt (s3 3 11)))], [.int (Int32.ofInt (s3 3 11))], zw X s9)) rfl ?_
              exact ⟨_, xi_To.rf _ _ _ _, (s3 3 11), s9, rfl, h⟩
            · intro hp
              replace h := h.2.2 hp
              exact gx_fg [false, false, false, false, false, false, false] (h hZ d hd)
      · intro hp
        replace h := h.2.2 hp
        exact gx_fg [false, false, false, false, false, false, false] (h hZ d hd)
theorem w_23_20_i {X : zX} {s : zS} {Q : Int → zS → Prop} (h : Q (-1) s) : w_23_20 X s Q := by
  intro hZ d hd
  have hM : xi_ml[23]? = some xm_23 := rfl
  refine gx_r hM hZ 1 (B := (21, [none, none, none, none, none, none, none], [.int (Int32.ofInt (-1))], zw X s)) rfl ?_
  exact ⟨_, xi_To.rf _ _ _ _, (-1), s, rfl, h⟩
theorem w_23_74_i {X : zX} {s : zS} {Q : Int → zS → Prop} (h : Q (-1) s) : w_23_74 X s Q := by
  intro hZ d hd
  have hM : xi_ml[23]? = some xm_23 := rfl
  refine gx_r hM hZ 1 (B := (75, [none, none, none, none, none, none, none], [.int (Int32.ofInt (-1))], zw X s)) rfl ?_
  exact ⟨_, xi_To.rf _ _ _ _, (-1), s, rfl, h⟩
-- RootLoom$Weaver.finish
def w_48 (X : zX) (x1 x2 : Int) (s : zS) (Q : Int → zS → Prop) : Prop := wW X 48 xm_48 3 (0, [some (.ref 22), some (.int (Int32.ofInt x1)), some (.int (Int32.ofInt x2)), none], [], zw X s) Q
theorem w_48_i {X : zX} {x1 x2 : Int} {s : zS} {Q : Int → zS → Prop} (h : (w_31 X x1 0 s (fun v1 s1 => (0 ≤ x1 ∧ x1 < 150) ∧ ((-2147483648 ≤ (s1 10 x1) ∧ (s1 10 x1) ≤ 2147483647) ∧ ((¬ (s1 10 x1) = 0 ∧ ¬ (s1 10 x1) = 1 ∧ ¬ (s1 10 x1) = 2 ∧ ¬ (s1 10 x1) = 3 ∧ ¬ (s1 10 x1) = 4 ∧ ¬ (s1 10 x1) = 5 ∧ ¬ (s1 10 x1) = 6 ∧ ¬ (s1 10 x1) = 7 ∧ ¬ (s1 10 x1) = 8 ∧ ¬ (s1 10 x1) = 9 ∧ ¬ (s1 10 x1) = 10 ∧ ¬ (s1 10 x1) = 11 ∧ ¬ (s1 10 x1) = 12 ∧ ¬ (s1 10 x1) = 14 ∧ ¬ (s1 10 x1) = 15 ∧ ¬ (s1 10 x1) = 16) → Q 0 s1) ∧ (((s1 10 x1) = 0) → (w_39 X 0 v1 s1 (fun v2 s2 => (w_49 X 0 s2 (fun _ s3 => Q 0 s3))))) ∧ (((s1 10 x1) = 1) → (w_39 X 1 0 s1 (fun v4 s4 => (w_49 X v1 s4 (fun _ s5 => Q 0 s5))))) ∧ (((s1 10 x1) = 2) → (w_50 X v1 s1 (fun _ s6 => Q 0 s6))) ∧ (((s1 10 x1) = 3) → (w_52 X 3 s1 (fun _ s7 => Q 0 s7))) ∧ (((s1 10 x1) = 4) → (w_52 X 4 s1 (fun _ s8 => Q 0 s8))) ∧ (((s1 10 x1) = 5) → (w_52 X 5 s1 (fun _ s9 => Q 0 s9))) ∧ (((s1 10 x1) = 6) → (w_55 X v1 s1 (fun _ s10 => Q 0 s10))) ∧ (((s1 10 x1) = 7) → (w_39 X 7 0 s1 (fun v11 s11 => (w_57 X s11 (fun v12 s12 => (0 ≤ v12 ∧ v12 < 8) ∧ (w_49 X (s12 4 v12) s12 (fun _ s13 => Q 0 s13))))))) ∧ (((s1 10 x1) = 8) → (w_39 X 8 0 s1 (fun v14 s14 => (w_57 X s14 (fun v15 s15 => (0 ≤ v15 ∧ v15 < 8) ∧ (w_49 X (s15 5 v15) s15 (fun _ s16 => Q 0 s16))))))) ∧ (((s1 10 x1) = 9) → (w_39 X 9 0 s1 (fun v17 s17 => (w_57 X s17 (fun v18 s18 => (w_49 X 0 s18 (fun _ s19 => Q 0 s19))))))) ∧ (((s1 10 x1) = 10) → (w_58 X x2 s1 (fun _ s20 => Q 0 s20))) ∧ (((s1 10 x1) = 11) → (0 ≤ v1 ∧ v1 < 8) ∧ (∀ s21 : zS, s21 = zu s1 28 v1 (-1) → Q 0 s21)) ∧ (((s1 10 x1) = 12) → (w_35 X x1 s1 (fun v22 s22 => (w_59 X v1 v22 s22 (fun _ s23 => Q 0 s23))))) ∧ (((s1 10 x1) = 14) → (w_60_4 X 15 s1 (fun _ s24 => Q 0 s24))) ∧ (((s1 10 x1) = 15) → (w_60_5 X 16 s1 (fun _ s25 => Q 0 s25))) ∧ (((s1 10 x1) = 16) → (w_39 X 17 0 s1 (fun v26 s26 => (w_53 X s26 (fun _ s27 => (w_49 X 0 s27 (fun _ s28 => Q 0 s28))))))))))) : w_48 X x1 x2 s Q := by
  intro hZ d hd
  have hM : xi_ml[48]? = some xm_48 := rfl
  refine gx_r hM hZ 4 (B := (6, [some (.ref 22), some (.int (Int32.ofInt x1)), some (.int (Int32.ofInt x2)), none], [.int (Int32.ofInt 0), .int (Int32.ofInt x1), .ref 3], zw X s)) rfl ?_
  refine gi_call hM (s := s) (hj := 0) hZ rfl rfl (by omega) h ?_
  intro v1 s1 h
  refine gx_r hM hZ 5 (B := (18, [some (.ref 22), some (.int (Int32.ofInt x1)), some (.int (Int32.ofInt x2)), some (.int (Int32.ofInt v1))], [.int (Int32.ofInt x1), .ref 10], zw X s1)) rfl ?_
  refine gi_iald hM hZ (s := s1) (len := 150) rfl rfl (Nat.le_of_ble_eq_true rfl) h.1 ?_
  replace h := h.2
  by_cases hq0 : ((s1 10 x1) = 0)
  · refine gi_tab hM hZ (x := (s1 10 x1)) (o := 81) rfl h.1 ?_ (by decide) ?_
    · rw [hq0]; rfl
    · replace h := h.2.2.1 hq0
      refine gx_r hM hZ 4 (B := (106, [some (.ref 22), some (.int (Int32.ofInt x1)), some (.int (Int32.ofInt x2)), some (.int (Int32.ofInt v1))], [.int (Int32.ofInt v1), .int (Int32.ofInt 0), .ref 14], zw X s1)) rfl ?_
      refine gi_call hM (s := s1) (hj := 0) hZ rfl rfl (by omega) h ?_
      intro v2 s2 h
      refine gx_r hM hZ 3 (B := (112, [some (.ref 22), some (.int (Int32.ofInt x1)), some (.int (Int32.ofInt x2)), some (.int (Int32.ofInt v1))], [.int (Int32.ofInt 0), .ref 22], zw X s2)) rfl ?_
      refine gi_call hM (s := s2) (hj := 0) hZ rfl rfl (by omega) h ?_
      intro _ s3 h
      refine gx_r hM hZ 1 (B := (349, [some (.ref 22), some (.int (Int32.ofInt x1)), some (.int (Int32.ofInt x2)), some (.int (Int32.ofInt v1))], [], zw X s3)) rfl ?_
      exact ⟨_, xi_To.rf _ _ _ _, 0, s3, rfl, h⟩
  · by_cases hq1 : ((s1 10 x1) = 1)
    · refine gi_tab hM hZ (x := (s1 10 x1)) (o := 99) rfl h.1 ?_ (by decide) ?_
      · rw [hq1]; rfl
      · replace h := h.2.2.2.1 hq1
        refine gx_r hM hZ 4 (B := (124, [some (.ref 22), some (.int (Int32.ofInt x1)), some (.int (Int32.ofInt x2)), some (.int (Int32.ofInt v1))], [.int (Int32.ofInt 0), .int (Int32.ofInt 1), .ref 14], zw X s1)) rfl ?_
        refine gi_call hM (s := s1) (hj := 0) hZ rfl rfl (by omega) h ?_
        intro v4 s4 h
        refine gx_r hM hZ 3 (B := (130, [some (.ref 22), some (.int (Int32.ofInt x1)), some (.int (Int32.ofInt x2)), some (.int (Int32.ofInt v1))], [.int (Int32.ofInt v1), .ref 22], zw X s4)) rfl ?_
        refine gi_call hM (s := s4) (hj := 0) hZ rfl rfl (by omega) h ?_
        intro _ s5 h
        refine gx_r hM hZ 1 (B := (349, [some (.ref 22), some (.int (Int32.ofInt x1)), some (.int (Int32.ofInt x2)), some (.int (Int32.ofInt v1))], [], zw X s5)) rfl ?_
        exact ⟨_, xi_To.rf _ _ _ _, 0, s5, rfl, h⟩
    · by_cases hq2 : ((s1 10 x1) = 2)
      · refine gi_tab hM hZ (x := (s1 10 x1)) (o := 117) rfl h.1 ?_ (by decide) ?_
        · rw [hq2]; rfl
        · replace h := h.2.2.2.2.1 hq2
          refine gx_r hM hZ 2 (B := (138, [some (.ref 22), some (.int (Int32.ofInt x1)), some (.int (Int32.ofInt x2)), some (.int (Int32.ofInt v1))], [.int (Int32.ofInt v1), .ref 22], zw X s1)) rfl ?_
          refine gi_call hM (s := s1) (hj := 1) hZ rfl rfl (by omega) h ?_
          intro _ s6 h
          refine gx_r hM hZ 1 (B := (349, [some (.ref 22), some (.int (Int32.ofInt x1)), some (.int (Int32.ofInt x2)), some (.int (Int32.ofInt v1))], [], zw X s6)) rfl ?_
          exact ⟨_, xi_To.rf _ _ _ _, 0, s6, rfl, h⟩
      · by_cases hq3 : ((s1 10 x1) = 3)
        · refine gi_tab hM hZ (x := (s1 10 x1)) (o := 125) rfl h.1 ?_ (by decide) ?_
          · rw [hq3]; rfl
          · replace h := h.2.2.2.2.2.1 hq3
            refine gx_r hM hZ 2 (B := (146, [some (.ref 22), some (.int (Int32.ofInt x1)), some (.int (Int32.ofInt x2)), some (.int (Int32.ofInt v1))], [.int (Int32.ofInt 3), .ref 22], zw X s1)) rfl ?_
            refine gi_call hM (s := s1) (hj := 2) hZ rfl rfl (by omega) h ?_
            intro _ s7 h
            refine gx_r hM hZ 1 (B := (349, [some (.ref 22), some (.int (Int32.ofInt x1)), some (.int (Int32.ofInt x2)), some (.int (Int32.ofInt v1))], [], zw X s7)) rfl ?_
            exact ⟨_, xi_To.rf _ _ _ _, 0, s7, rfl, h⟩
        · by_cases hq4 : ((s1 10 x1) = 4)
          · refine gi_tab hM hZ (x := (s1 10 x1)) (o := 133) rfl h.1 ?_ (by decide) ?_
            · rw [hq4]; rfl
            · replace h := h.2.2.2.2.2.2.1 hq4
              refine gx_r hM hZ 2 (B := (154, [some (.ref 22), some (.int (Int32.ofInt x1)), some (.int (Int32.ofInt x2)), some (.int (Int32.ofInt v1))], [.int (Int32.ofInt 4), .ref 22], zw X s1)) rfl ?_
              refine gi_call hM (s := s1) (hj := 2) hZ rfl rfl (by omega) h ?_
              intro _ s8 h
              refine gx_r hM hZ 1 (B := (349, [some (.ref 22), some (.int (Int32.ofInt x1)), some (.int (Int32.ofInt x2)), some (.int (Int32.ofInt v1))], [], zw X s8)) rfl ?_
              exact ⟨_, xi_To.rf _ _ _ _, 0, s8, rfl, h⟩
          · by_cases hq5 : ((s1 10 x1) = 5)
            · refine gi_tab hM hZ (x := (s1 10 x1)) (o := 141) rfl h.1 ?_ (by decide) ?_
              · rw [hq5]; rfl
              · replace h := h.2.2.2.2.2.2.2.1 hq5
                refine gx_r hM hZ 2 (B := (162, [some (.ref 22), some (.int (Int32.ofInt x1)), some (.int (Int32.ofInt x2)), some (.int (Int32.ofInt v1))], [.int (Int32.ofInt 5), .ref 22], zw X s1)) rfl ?_
                refine gi_call hM (s := s1) (hj := 2) hZ rfl rfl (by omega) h ?_
                intro _ s9 h
                refine gx_r hM hZ 1 (B := (349, [some (.ref 22), some (.int (Int32.ofInt x1)), some (.int (Int32.ofInt x2)), some (.int (Int32.ofInt v1))], [], zw X s9)) rfl ?_
                exact ⟨_, xi_To.rf _ _ _ _, 0, s9, rfl, h⟩
            · by_cases hq6 : ((s1 10 x1) = 6)
              · refine gi_tab hM hZ (x := (s1 10 x1)) (o := 149) rfl h.1 ?_ (by decide) ?_
                · rw [hq6]; rfl
                · replace h := h.2.2.2.2.2.2.2.2.1 hq6
                  refine gx_r hM hZ 2 (B := (170, [some (.ref 22), some (.int (Int32.ofInt x1)), some (.int (Int32.ofInt x2)), some (.int (Int32.ofInt v1))], [.int (Int32.ofInt v1), .ref 22], zw X s1)) rfl ?_
                  refine gi_call hM (s := s1) (hj := 2) hZ rfl rfl (by omega) h ?_
                  intro _ s10 h
                  refine gx_r hM hZ 1 (B := (349, [some (.ref 22), some (.int (Int32.ofInt x1)), some (.int (Int32.ofInt x2)), some (.int (Int32.ofInt v1))], [], zw X s10)) rfl ?_
                  exact ⟨_, xi_To.rf _ _ _ _, 0, s10, rfl, h⟩
              · by_cases hq7 : ((s1 10 x1) = 7)
                · refine gi_tab hM hZ (x := (s1 10 x1)) (o := 157) rfl h.1 ?_ (by decide) ?_
                  · rw [hq7]; rfl
                  · replace h := h.2.2.2.2.2.2.2.2.2.1 hq7
                    refine gx_r hM hZ 2 (B := (180, [some (.ref 22), some (.int (Int32.ofInt x1)), some (.int (Int32.ofInt x2)), some (.int (Int32.ofInt v1))], [.ref 14], zw X s1)) rfl ?_
                    refine gi_bip hM hZ rfl rfl ?_
                    refine gx_r hM hZ 1 (B := (183, [some (.ref 22), some (.int (Int32.ofInt x1)), some (.int (Int32.ofInt x2)), some (.int (Int32.ofInt v1))], [.int (Int32.ofInt 0), .int (Int32.ofInt 7), .ref 14], zw X s1)) rfl ?_
                    refine gi_call hM (s := s1) (hj := 0) hZ rfl rfl (by omega) h ?_
                    intro v11 s11 h
                    refine gx_r hM hZ 6 (B := (196, [some (.ref 22), some (.int (Int32.ofInt x1)), some (.int (Int32.ofInt x2)), some (.int (Int32.ofInt v1))], [.ref 22, .ref 4, .ref 22], zw X s11)) rfl ?_
                    refine gi_call hM (s := s11) (hj := 1) hZ rfl rfl (by omega) h ?_
                    intro v12 s12 h
                    refine gi_iald hM hZ (s := s12) (len := 8) rfl rfl (Nat.le_of_ble_eq_true rfl) h.1 ?_
                    replace h := h.2
                    refine gi_call hM (s := s12) (hj := 0) hZ rfl rfl (by omega) h ?_
                    intro _ s13 h
                    refine gx_r hM hZ 1 (B := (349, [some (.ref 22), some (.int (Int32.ofInt x1)), some (.int (Int32.ofInt x2)), some (.int (Int32.ofInt v1))], [], zw X s13)) rfl ?_
                    exact ⟨_, xi_To.rf _ _ _ _, 0, s13, rfl, h⟩
                · by_cases hq8 : ((s1 10 x1) = 8)
                  · refine gi_tab hM hZ (x := (s1 10 x1)) (o := 187) rfl h.1 ?_ (by decide) ?_
                    · rw [hq8]; rfl
                    · replace h := h.2.2.2.2.2.2.2.2.2.2.1 hq8
                      refine gx_r hM hZ 2 (B := (210, [some (.ref 22), some (.int (Int32.ofInt x1)), some (.int (Int32.ofInt x2)), some (.int (Int32.ofInt v1))], [.ref 14], zw X s1)) rfl ?_
                      refine gi_bip hM hZ rfl rfl ?_
                      refine gx_r hM hZ 1 (B := (213, [some (.ref 22), some (.int (Int32.ofInt x1)), some (.int (Int32.ofInt x2)), some (.int (Int32.ofInt v1))], [.int (Int32.ofInt 0), .int (Int32.ofInt 8), .ref 14], zw X s1)) rfl ?_
                      refine gi_call hM (s := s1) (hj := 0) hZ rfl rfl (by omega) h ?_
                      intro v14 s14 h
                      refine gx_r hM hZ 6 (B := (226, [some (.ref 22), some (.int (Int32.ofInt x1)), some (.int (Int32.ofInt x2)), some (.int (Int32.ofInt v1))], [.ref 22, .ref 5, .ref 22], zw X s14)) rfl ?_
                      refine gi_call hM (s := s14) (hj := 1) hZ rfl rfl (by omega) h ?_
                      intro v15 s15 h
                      refine gi_iald hM hZ (s := s15) (len := 8) rfl rfl (Nat.le_of_ble_eq_true rfl) h.1 ?_
                      replace h := h.2
                      refine gi_call hM (s := s15) (hj := 0) hZ rfl rfl (by omega) h ?_
                      intro _ s16 h
                      refine gx_r hM hZ 1 (B := (349, [some (.ref 22), some (.int (Int32.ofInt x1)), some (.int (Int32.ofInt x2)), some (.int (Int32.ofInt v1))], [], zw X s16)) rfl ?_
                      exact ⟨_, xi_To.rf _ _ _ _, 0, s16, rfl, h⟩
                  · by_cases hq9 : ((s1 10 x1) = 9)
                    · refine gi_tab hM hZ (x := (s1 10 x1)) (o := 217) rfl h.1 ?_ (by decide) ?_
                      · rw [hq9]; rfl
                      · replace h := h.2.2.2.2.2.2.2.2.2.2.2.1 hq9
                        refine gx_r hM hZ 2 (B := (240, [some (.ref 22), some (.int (Int32.ofInt x1)), some (.int (Int32.ofInt x2)), some (.int (Int32.ofInt v1))], [.ref 14], zw X s1)) rfl ?_
                        refine gi_bip hM hZ rfl rfl ?_
                        refine gx_r hM hZ 1 (B := (243, [some (.ref 22), some (.int (Int32.ofInt x1)), some (.int (Int32.ofInt x2)), some (.int (Int32.ofInt v1))], [.int (Int32.ofInt 0), .int (Int32.ofInt 9), .ref 14], zw X s1)) rfl ?_
                        refine gi_call hM (s := s1) (hj := 0) hZ rfl rfl (by omega) h ?_
                        intro v17 s17 h
                        refine gx_r hM hZ 2 (B := (248, [some (.ref 22), some (.int (Int32.ofInt x1)), some (.int (Int32.ofInt x2)), some (.int (Int32.ofInt v1))], [.ref 22], zw X s17)) rfl ?_
                        refine gi_call hM (s := s17) (hj := 1) hZ rfl rfl (by omega) h ?_
                        intro v18 s18 h
                        refine gx_r hM hZ 3 (B := (254, [some (.ref 22), some (.int (Int32.ofInt x1)), some (.int (Int32.ofInt x2)), some (.int (Int32.ofInt v1))], [.int (Int32.ofInt 0), .ref 22], zw X s18)) rfl ?_
                        refine gi_call hM (s := s18) (hj := 0) hZ rfl rfl (by omega) h ?_
                        intro _ s19 h
                        refine gx_r hM hZ 1 (B := (349, [some (.ref 22), some (.int (Int32.ofInt x1)), some (.int (Int32.ofInt x2)), some (.int (Int32.ofInt v1))], [], zw X s19)) rfl ?_
                        exact ⟨_, xi_To.rf _ _ _ _, 0, s19, rfl, h⟩
                    · by_cases hq10 : ((s1 10 x1) = 10)
                      · refine gi_tab hM hZ (x := (s1 10 x1)) (o := 241) rfl h.1 ?_ (by decide) ?_
                        · rw [hq10]; rfl
                        · replace h := h.2.2.2.2.2.2.2.2.2.2.2.2.1 hq10
                          refine gx_r hM hZ 2 (B := (262, [some (.ref 22), some (.int (Int32.ofInt x1)), some (.int (Int32.ofInt x2)), some (.int (Int32.ofInt v1))], [.int (Int32.ofInt x2), .ref 22], zw X s1)) rfl ?_
                          refine gi_call hM (s := s1) (hj := 1) hZ rfl rfl (by omega) h ?_
                          intro _ s20 h
                          refine gx_r hM hZ 1 (B := (349, [some (.ref 22), some (.int (Int32.ofInt x1)), some (.int (Int32.ofInt x2)), some (.int (Int32.ofInt v1))], [], zw X s20)) rfl ?_
                          exact ⟨_, xi_To.rf _ _ _ _, 0, s20, rfl, h⟩
                      · by_cases hq11 : ((s1 10 x1) = 11)
                        · refine gi_tab hM hZ (x := (s1 10 x1)) (o := 249) rfl h.1 ?_ (by decide) ?_
                          · rw [hq11]; rfl
                          · replace h := h.2.2.2.2.2.2.2.2.2.2.2.2.2.1 hq11
                            refine gx_r hM hZ 4 (B := (274, [some (.ref 22), some (.int (Int32.ofInt x1)), some (.int (Int32.ofInt x2)), some (.int (Int32.ofInt v1))], [.int (Int32.ofInt (-1)), .int (Int32.ofInt v1), .ref 28], zw X s1)) rfl ?_
                            obtain ⟨s21, e21⟩ : ∃ q : zS, q = zu s1 28 v1 (-1) := ⟨_, rfl⟩
                            refine gj_iast hM hZ (len := 8) rfl rfl (Nat.le_of_ble_eq_true rfl) zp_28 h.1 e21 ?_
                            replace h := h.2 _ e21
                            refine gx_r hM hZ 1 (B := (349, [some (.ref 22), some (.int (Int32.ofInt x1)), some (.int (Int32.ofInt x2)), some (.int (Int32.ofInt v1))], [], zw X s21)) rfl ?_
                            exact ⟨_, xi_To.rf _ _ _ _, 0, s21, rfl, h⟩
                        · by_cases hq12 : ((s1 10 x1) = 12)
                          · refine gi_tab hM hZ (x := (s1 10 x1)) (o := 259) rfl h.1 ?_ (by decide) ?_
                            · rw [hq12]; rfl
                            · replace h := h.2.2.2.2.2.2.2.2.2.2.2.2.2.2.1 hq12
                              refine gx_r hM hZ 5 (B := (285, [some (.ref 22), some (.int (Int32.ofInt x1)), some (.int (Int32.ofInt x2)), some (.int (Int32.ofInt v1))], [.int (Int32.ofInt x1), .ref 3, .int (Int32.ofInt v1), .ref 22], zw X s1)) rfl ?_
                              refine gi_call hM (s := s1) (hj := 1) hZ rfl rfl (by omega) h ?_
                              intro v22 s22 h
                              refine gi_call hM (s := s22) (hj := 2) hZ rfl rfl (by omega) h ?_
                              intro _ s23 h
                              refine gx_r hM hZ 1 (B := (349, [some (.ref 22), some (.int (Int32.ofInt x1)), some (.int (Int32.ofInt x2)), some (.int (Int32.ofInt v1))], [], zw X s23)) rfl ?_
                              exact ⟨_, xi_To.rf _ _ _ _, 0, s23, rfl, h⟩
                          · by_cases hq13 : ((s1 10 x1) = 14)
                            · refine gi_tab hM hZ (x := (s1 10 x1)) (o := 275) rfl h.1 ?_ (by decide) ?_
                              · rw [hq13]; rfl
                              · replace h := h.2.2.2.2.2.2.2.2.2.2.2.2.2.2.2.1 hq13
                                refine gx_r hM hZ 1 (B := (295, [some (.ref 22), some (.int (Int32.ofInt x1)), some (.int (Int32.ofInt x2)), some (.int (Int32.ofInt v1))], [.ref 22], zw X s1)) rfl ?_
                                refine gi_bip hM hZ rfl rfl ?_
                                refine gx_r hM hZ 3 (B := (304, [some (.ref 22), some (.int (Int32.ofInt x1)), some (.int (Int32.ofInt x2)), some (.int (Int32.ofInt v1))], [.ref 4, .int (Int32.ofInt 15), .ref 22], zw X s1)) rfl ?_
                                refine gi_call hM (s := s1) (hj := 2) hZ rfl rfl (by omega) h ?_
                                intro _ s24 h
                                refine gx_r hM hZ 1 (B := (349, [some (.ref 22), some (.int (Int32.ofInt x1)), some (.int (Int32.ofInt x2)), some (.int (Int32.ofInt v1))], [], zw X s24)) rfl ?_
                                exact ⟨_, xi_To.rf _ _ _ _, 0, s24, rfl, h⟩
                            · by_cases hq14 : ((s1 10 x1) = 15)
                              · refine gi_tab hM hZ (x := (s1 10 x1)) (o := 291) rfl h.1 ?_ (by decide) ?_
                                · rw [hq14]; rfl
                                · replace h := h.2.2.2.2.2.2.2.2.2.2.2.2.2.2.2.2.1 hq14
                                  refine gx_r hM hZ 1 (B := (311, [some (.ref 22), some (.int (Int32.ofInt x1)), some (.int (Int32.ofInt x2)), some (.int (Int32.ofInt v1))], [.ref 22], zw X s1)) rfl ?_
                                  refine gi_bip hM hZ rfl rfl ?_
                                  refine gx_r hM hZ 3 (B := (320, [some (.ref 22), some (.int (Int32.ofInt x1)), some (.int (Int32.ofInt x2)), some (.int (Int32.ofInt v1))], [.ref 5, .int (Int32.ofInt 16), .ref 22], zw X s1)) rfl ?_
                                  refine gi_call hM (s := s1) (hj := 2) hZ rfl rfl (by omega) h ?_
                                  intro _ s25 h
                                  refine gx_r hM hZ 1 (B := (349, [some (.ref 22), some (.int (Int32.ofInt x1)), some (.int (Int32.ofInt x2)), some (.int (Int32.ofInt v1))], [], zw X s25)) rfl ?_
                                  exact ⟨_, xi_To.rf _ _ _ _, 0, s25, rfl, h⟩
                              · by_cases hq15 : ((s1 10 x1) = 16)
                                · refine gi_tab hM hZ (x := (s1 10 x1)) (o := 307) rfl h.1 ?_ (by decide) ?_
                                  · rw [hq15]; rfl
                                  · replace h := h.2.2.2.2.2.2.2.2.2.2.2.2.2.2.2.2.2 hq15
                                    refine gx_r hM hZ 2 (B := (330, [some (.ref 22), some (.int (Int32.ofInt x1)), some (.int (Int32.ofInt x2)), some (.int (Int32.ofInt v1))], [.ref 14], zw X s1)) rfl ?_
                                    refine gi_bip hM hZ rfl rfl ?_
                                    refine gx_r hM hZ 1 (B := (333, [some (.ref 22), some (.int (Int32.ofInt x1)), some (.int (Int32.ofInt x2)), some (.int (Int32.ofInt v1))], [.int (Int32.ofInt 0), .int (Int32.ofInt 17), .ref 14], zw X s1)) rfl ?_
                                    refine gi_call hM (s := s1) (hj := 0) hZ rfl rfl (by omega) h ?_
                                    intro v26 s26 h
                                    refine gx_r hM hZ 2 (B := (338, [some (.ref 22), some (.int (Int32.ofInt x1)), some (.int (Int32.ofInt x2)), some (.int (Int32.ofInt v1))], [.ref 22], zw X s26)) rfl ?_
                                    refine gi_call hM (s := s26) (hj := 1) hZ rfl rfl (by omega) h ?_
                                    intro _ s27 h
                                    refine gx_r hM hZ 2 (B := (343, [some (.ref 22), some (.int (Int32.ofInt x1)), some (.int (Int32.ofInt x2)), some (.int (Int32.ofInt v1))], [.int (Int32.ofInt 0), .ref 22], zw X s27)) rfl ?_
                                    refine gi_call hM (s := s27) (hj := 0) hZ rfl rfl (by omega) h ?_
                                    intro _ s28 h
                                    refine gx_r hM hZ 1 (B := (349, [some (.ref 22), some (.int (Int32.ofInt x1)), some (.int (Int32.ofInt x2)), some (.int (Int32.ofInt v1))], [], zw X s28)) rfl ?_
                                    exact ⟨_, xi_To.rf _ _ _ _, 0, s28, rfl, h⟩
                                · refine gi_tab hM hZ (x := (s1 10 x1)) (o := 330) rfl h.1 ?_ (by decide) ?_
                                  · by_cases hr : (s1 10 x1) < 0 ∨ 16 < (s1 10 x1)
                                    · exact if_pos hr
                                    · have e : (s1 10 x1) = 13 := by omega
                                      rw [e]; rfl
                                  · replace h := h.2.1 (by omega)
                                    exact ⟨_, xi_To.rf _ _ _ _, 0, s1, rfl, h⟩
-- RootLoom$Weaver.goDown
def w_61 (X : zX) (x1 : Int) (s : zS) (Q : Int → zS → Prop) : Prop := wW X 61 xm_61 3 (0, [some (.ref 22), some (.int (Int32.ofInt x1)), none, none, none], [], zw X s) Q
theorem w_61_i {X : zX} {x1 : Int} {s : zS} {Q : Int → zS → Prop} (h : (0 ≤ x1 ∧ x1 < 150) ∧ (0 ≤ x1 ∧ x1 < 150) ∧ (0 ≤ x1 ∧ x1 < 150) ∧ (∀ s1 : zS, s1 = zu s 24 x1 ((s 24 x1) + 1) → (w_30 X (s 23 x1) (s 24 x1) s1 (fun v2 s2 => ((-2147483648 ≤ v2 ∧ v2 ≤ 2147483647) ∧ (v2 = (-1) → Q 0 s2) ∧ (¬ v2 = (-1) → (w_62 X (s 23 x1) (s 24 x1) x1 s2 (fun _ s3 => (w_47 X v2 s3 (fun _ s4 => Q 0 s4)))))))))) : w_61 X x1 s Q := by
  intro hZ d hd
  have hM : xi_ml[61]? = some xm_61 := rfl
  refine gx_r hM hZ 3 (B := (5, [some (.ref 22), some (.int (Int32.ofInt x1)), none, none, none], [.int (Int32.ofInt x1), .ref 23], zw X s)) rfl ?_
  refine gi_iald hM hZ (s := s) (len := 150) rfl rfl (Nat.le_of_ble_eq_true rfl) h.1 ?_
  replace h := h.2
  refine gx_r hM hZ 4 (B := (12, [some (.ref 22), some (.int (Int32.ofInt x1)), some (.int (Int32.ofInt (s 23 x1))), none, none], [.int (Int32.ofInt x1), .ref 24], zw X s)) rfl ?_
  refine gi_iald hM hZ (s := s) (len := 150) rfl rfl (Nat.le_of_ble_eq_true rfl) h.1 ?_
  replace h := h.2
  refine gx_r hM hZ 6 (B := (21, [some (.ref 22), some (.int (Int32.ofInt x1)), some (.int (Int32.ofInt (s 23 x1))), some (.int (Int32.ofInt (s 24 x1))), none], [.int (Int32.ofInt 1), .int (Int32.ofInt (s 24 x1)), .int (Int32.ofInt x1), .ref 24], zw X s)) rfl ?_
  refine gi_add hM hZ rfl ?_
  obtain ⟨s1, e1⟩ : ∃ q : zS, q = zu s 24 x1 ((s 24 x1) + 1) := ⟨_, rfl⟩
  refine gj_iast hM hZ (len := 150) rfl rfl (Nat.le_of_ble_eq_true rfl) zp_24 h.1 e1 ?_
  replace h := h.2 _ e1
  refine gx_r hM hZ 4 (B := (29, [some (.ref 22), some (.int (Int32.ofInt x1)), some (.int (Int32.ofInt (s 23 x1))), some (.int (Int32.ofInt (s 24 x1))), none], [.int (Int32.ofInt (s 24 x1)), .int (Int32.ofInt (s 23 x1)), .ref 3], zw X s1)) rfl ?_
  refine gi_call hM (s := s1) (hj := 1) hZ rfl rfl (by omega) h ?_
  intro v2 s2 h
  refine gx_r hM hZ 3 (B := (37, [some (.ref 22), some (.int (Int32.ofInt x1)), some (.int (Int32.ofInt (s 23 x1))), some (.int (Int32.ofInt (s 24 x1))), some (.int (Int32.ofInt v2))], [.int (Int32.ofInt (-1)), .int (Int32.ofInt v2)], zw X s2)) rfl ?_
  refine gi_if2 hM hZ (fun x y => decide (x = y)) (p := v2 = (-1)) rfl rfl (zc_eq h.1 (by decide)) ?_ ?_
  · intro hp
    replace h := h.2.1 hp
    exact ⟨_, xi_To.rf _ _ _ _, 0, s2, rfl, h⟩
  · intro hp
    replace h := h.2.2 hp
    refine gx_r hM hZ 4 (B := (44, [some (.ref 22), some (.int (Int32.ofInt x1)), some (.int (Int32.ofInt (s 23 x1))), some (.int (Int32.ofInt (s 24 x1))), some (.int (Int32.ofInt v2))], [.int (Int32.ofInt x1), .int (Int32.ofInt (s 24 x1)), .int (Int32.ofInt (s 23 x1)), .ref 22], zw X s2)) rfl ?_
    refine gi_call hM (s := s2) (hj := 2) hZ rfl rfl (by omega) h ?_
    intro _ s3 h
    refine gx_r hM hZ 2 (B := (50, [some (.ref 22), some (.int (Int32.ofInt x1)), some (.int (Int32.ofInt (s 23 x1))), some (.int (Int32.ofInt (s 24 x1))), some (.int (Int32.ofInt v2))], [.int (Int32.ofInt v2), .ref 22], zw X s3)) rfl ?_
    refine gi_call hM (s := s3) (hj := 0) hZ rfl rfl (by omega) h ?_
    intro _ s4 h
    exact ⟨_, xi_To.rf _ _ _ _, 0, s4, rfl, h⟩
-- RootLoom$Machine.doNew
def w_71 (X : zX) (x1 x2 : Int) (s : zS) (Q : Int → zS → Prop) : Prop := wW X 71 xm_71 3 (0, [some (.ref 31), some (.int (Int32.ofInt x1)), some (.int (Int32.ofInt x2)), none, none], [], zw X s) Q
def w_71_14 (X : zX) (x1 x2 : Int) (s : zS) (Q : Int → zS → Prop) : Prop := wW X 71 xm_71 3 (14, [some (.ref 31), some (.int (Int32.ofInt x1)), some (.int (Int32.ofInt x2)), none, none], [], zw X s) Q
def w_71_19 (X : zX) (x2 : Int) (s : zS) (Q : Int → zS → Prop) : Prop := wW X 71 xm_71 3 (19, [some (.ref 31), none, some (.int (Int32.ofInt x2)), none, none], [], zw X s) Q
theorem w_71_i {X : zX} {x1 x2 : Int} {s : zS} {Q : Int → zS → Prop} (h : (w_72 X s (fun v1 s1 => ((-2147483648 ≤ v1 ∧ v1 ≤ 2147483647) ∧ (¬ v1 = 0 → w_71_14 X x1 x2 s1 Q) ∧ (¬ ¬ v1 = 0 → (w_73 X s1 (fun v2 s2 => ((-2147483648 ≤ v2 ∧ v2 ≤ 2147483647) ∧ (v2 = 0 → w_71_19 X x2 s2 Q) ∧ (¬ v2 = 0 → w_71_14 X x1 x2 s2 Q))))))))) : w_71 X x1 x2 s Q := by
  intro hZ d hd
  have hM : xi_ml[71]? = some xm_71 := rfl
  refine gx_r hM hZ 1 (B := (1, [some (.ref 31), some (.int (Int32.ofInt x1)), some (.int (Int32.ofInt x2)), none, none], [.ref 31], zw X s)) rfl ?_
  refine gi_call hM (s := s) (hj := 0) hZ rfl rfl (by omega) h ?_
  intro v1 s1 h
  refine gi_if1 hM hZ (fun x => decide (¬ x = 0)) (p := ¬ v1 = 0) rfl rfl (zd_ne h.1) ?_ ?_
  · intro hp
    replace h := h.2.1 hp
    exact gx_fg [true, true, true, false, false] (h hZ d hd)
  · intro hp
    replace h := h.2.2 hp
    refine gx_r hM hZ 1 (B := (8, [some (.ref 31), some (.int (Int32.ofInt x1)), some (.int (Int32.ofInt x2)), none, none], [.ref 31], zw X s1)) rfl ?_
    refine gi_call hM (s := s1) (hj := 1) hZ rfl rfl (by omega) h ?_
    intro v2 s2 h
    refine gi_if1 hM hZ (fun x => decide (x = 0)) (p := v2 = 0) rfl rfl (zd_eq h.1) ?_ ?_
    · intro hp
      replace h := h.2.1 hp
      exact gx_fg [true, false, true, false, false] (h hZ d hd)
    · intro hp
      replace h := h.2.2 hp
      exact gx_fg [true, true, true, false, false] (h hZ d hd)
theorem w_71_14_i {X : zX} {x1 x2 : Int} {s : zS} {Q : Int → zS → Prop} (h : (w_74 X x1 s (fun _ s1 => w_71_19 X x2 s1 Q))) : w_71_14 X x1 x2 s Q := by
  intro hZ d hd
  have hM : xi_ml[71]? = some xm_71 := rfl
  refine gx_r hM hZ 2 (B := (16, [some (.ref 31), some (.int (Int32.ofInt x1)), some (.int (Int32.ofInt x2)), none, none], [.int (Int32.ofInt x1), .ref 31], zw X s)) rfl ?_
  refine gi_call hM (s := s) (hj := 2) hZ rfl rfl (by omega) h ?_
  intro _ s1 h
  exact gx_fg [true, false, true, false, false] (h hZ d hd)
theorem w_71_19_i {X : zX} {x2 : Int} {s : zS} {Q : Int → zS → Prop} (h : (w_73 X s (fun v1 s1 => ((-2147483648 ≤ v1 ∧ v1 ≤ 2147483647) ∧ (v1 = 0 → (w_95 X s1 (fun v2 s2 => (w_95 X s2 (fun v3 s3 => (w_90 X x2 v3 v2 s3 (fun v4 s4 => (w_93 X v4 s4 (fun _ s5 => Q 0 s5))))))))) ∧ (¬ v1 = 0 → (∀ s6 : zS, s6 = zu s1 31 8 3 → Q 0 s6)))))) : w_71_19 X x2 s Q := by
  intro hZ d hd
  have hM : xi_ml[71]? = some xm_71 := rfl
  refine gx_r hM hZ 1 (B := (20, [some (.ref 31), none, some (.int (Int32.ofInt x2)), none, none], [.ref 31], zw X s)) rfl ?_
  refine gi_call hM (s := s) (hj := 1) hZ rfl rfl (by omega) h ?_
  intro v1 s1 h
  refine gi_if1 hM hZ (fun x => decide (x = 0)) (p := v1 = 0) rfl rfl (zd_eq h.1) ?_ ?_
  · intro hp
    replace h := h.2.1 hp
    refine gx_r hM hZ 2 (B := (36, [some (.ref 31), none, some (.int (Int32.ofInt x2)), none, none], [.ref 39], zw X s1)) rfl ?_
    refine gi_call hM (s := s1) (hj := 0) hZ rfl rfl (by omega) h ?_
    intro v2 s2 h
    refine gx_r hM hZ 3 (B := (44, [some (.ref 31), none, some (.int (Int32.ofInt x2)), some (.int (Int32.ofInt v2)), none], [.ref 39], zw X s2)) rfl ?_
    refine gi_call hM (s := s2) (hj := 0) hZ rfl rfl (by omega) h ?_
    intro v3 s3 h
    refine gx_r hM hZ 8 (B := (61, [some (.ref 31), none, some (.int (Int32.ofInt x2)), some (.int (Int32.ofInt v2)), some (.int (Int32.ofInt v3))], [.int (Int32.ofInt v2), .int (Int32.ofInt v3), .int (Int32.ofInt x2), .ref 32, .ref 39], zw X s3)) rfl ?_
    refine gi_call hM (s := s3) (hj := 0) hZ rfl rfl (by omega) h ?_
    intro v4 s4 h
    refine gi_call hM (s := s4) (hj := 0) hZ rfl rfl (by omega) h ?_
    intro _ s5 h
    exact ⟨_, xi_To.rf _ _ _ _, 0, s5, rfl, h⟩
  · intro hp
    replace h := h.2.2 hp
    refine gx_r hM hZ 2 (B := (28, [some (.ref 31), none, some (.int (Int32.ofInt x2)), none, none], [.int (Int32.ofInt 3), .ref 31], zw X s1)) rfl ?_
    obtain ⟨s6, e6⟩ : ∃ q : zS, q = zu s1 31 8 3 := ⟨_, rfl⟩
    refine gj_put hM hZ rfl rfl rfl (Nat.le_of_ble_eq_true rfl) rfl rfl zq_31_8 e6 ?_
    replace h := h _ e6
    exact ⟨_, xi_To.rf _ _ _ _, 0, s6, rfl, h⟩
-- RootLoom$Machine.doCall
def w_78 (X : zX) (x1 x2 : Int) (s : zS) (Q : Int → zS → Prop) : Prop := wW X 78 xm_78 3 (0, [some (.ref 31), some (.int (Int32.ofInt x1)), some (.int (Int32.ofInt x2))], [], zw X s) Q
def w_78_12 (X : zX) (x1 x2 : Int) (s : zS) (Q : Int → zS → Prop) : Prop := wW X 78 xm_78 3 (12, [some (.ref 31), some (.int (Int32.ofInt x1)), some (.int (Int32.ofInt x2))], [], zw X s) Q
theorem w_78_i {X : zX} {x1 x2 : Int} {s : zS} {Q : Int → zS → Prop} (h : (w_72 X s (fun v1 s1 => ((-2147483648 ≤ v1 ∧ v1 ≤ 2147483647) ∧ (v1 = 0 → w_78_12 X x1 x2 s1 Q) ∧ (¬ v1 = 0 → (w_74 X x1 s1 (fun _ s2 => w_78_12 X x1 x2 s2 Q))))))) : w_78 X x1 x2 s Q := by
  intro hZ d hd
  have hM : xi_ml[78]? = some xm_78 := rfl
  refine gx_r hM hZ 1 (B := (1, [some (.ref 31), some (.int (Int32.ofInt x1)), some (.int (Int32.ofInt x2))], [.ref 31], zw X s)) rfl ?_
  refine gi_call hM (s := s) (hj := 0) hZ rfl rfl (by omega) h ?_
  intro v1 s1 h
  refine gi_if1 hM hZ (fun x => decide (x = 0)) (p := v1 = 0) rfl rfl (zd_eq h.1) ?_ ?_
  · intro hp
    replace h := h.2.1 hp
    exact gx_fg [true, true, true] (h hZ d hd)
  · intro hp
    replace h := h.2.2 hp
    refine gx_r hM hZ 2 (B := (9, [some (.ref 31), some (.int (Int32.ofInt x1)), some (.int (Int32.ofInt x2))], [.int (Int32.ofInt x1), .ref 31], zw X s1)) rfl ?_
    refine gi_call hM (s := s1) (hj := 2) hZ rfl rfl (by omega) h ?_
    intro _ s2 h
    exact gx_fg [true, true, true] (h hZ d hd)
theorem w_78_12_i {X : zX} {x1 x2 : Int} {s : zS} {Q : Int → zS → Prop} (h : ((-2147483648 ≤ ((s 39 4) + 1) ∧ ((s 39 4) + 1) ≤ 2147483647) ∧ (¬ ((s 39 4) + 1) = 24 → (0 ≤ x2 ∧ x2 < 6) ∧ (w_97 X x1 (s 7 x2) s (fun _ s1 => (w_157 X (s1 31 12) ((s1 39 4) + 1) s1 (fun v2 s2 => (∀ s3 : zS, s3 = zu s2 31 12 v2 → (w_42 X x2 s3 (fun v4 s4 => (∀ s5 : zS, s5 = zu s4 31 6 v4 → Q 0 s5))))))))) ∧ (¬ ¬ ((s 39 4) + 1) = 24 → (∀ s6 : zS, s6 = zu s 31 8 4 → Q 0 s6)))) : w_78_12 X x1 x2 s Q := by
  intro hZ d hd
  have hM : xi_ml[78]? = some xm_78 := rfl
  refine gx_r hM hZ 4 (B := (20, [some (.ref 31), some (.int (Int32.ofInt x1)), some (.int (Int32.ofInt x2))], [.int (Int32.ofInt 1), .int (Int32.ofInt (s 39 4))], zw X s)) rfl ?_
  refine gi_add hM hZ rfl ?_
  refine gi_bip hM hZ rfl rfl ?_
  refine gi_if2 hM hZ (fun x y => decide (¬ x = y)) (p := ¬ ((s 39 4) + 1) = 24) rfl rfl (zc_ne h.1 (by decide)) ?_ ?_
  · intro hp
    replace h := h.2.1 hp
    refine gx_r hM hZ 7 (B := (45, [some (.ref 31), some (.int (Int32.ofInt x1)), some (.int (Int32.ofInt x2))], [.int (Int32.ofInt x2), .ref 7, .int (Int32.ofInt x1), .ref 39], zw X s)) rfl ?_
    refine gi_iald hM hZ (s := s) (len := 6) rfl rfl (Nat.le_of_ble_eq_true rfl) h.1 ?_
    replace h := h.2
    refine gi_call hM (s := s) (hj := 0) hZ rfl rfl (by omega) h ?_
    intro _ s1 h
    refine gx_r hM hZ 7 (B := (62, [some (.ref 31), some (.int (Int32.ofInt x1)), some (.int (Int32.ofInt x2))], [.int (Int32.ofInt 1), .int (Int32.ofInt (s1 39 4)), .int (Int32.ofInt (s1 31 12)), .ref 31], zw X s1)) rfl ?_
    refine gi_add hM hZ rfl ?_
    refine gi_call hM (s := s1) (hj := 0) hZ rfl rfl (by omega) h ?_
    intro v2 s2 h
    obtain ⟨s3, e3⟩ : ∃ q : zS, q = zu s2 31 12 v2 := ⟨_, rfl⟩
    refine gj_put hM hZ rfl rfl rfl (Nat.le_of_ble_eq_true rfl) rfl rfl zq_31_12 e3 ?_
    replace h := h _ e3
    refine gx_r hM hZ 4 (B := (75, [some (.ref 31), some (.int (Int32.ofInt x1)), some (.int (Int32.ofInt x2))], [.int (Int32.ofInt x2), .ref 14, .ref 31], zw X s3)) rfl ?_
    refine gi_call hM (s := s3) (hj := 0) hZ rfl rfl (by omega) h ?_
    intro v4 s4 h
    obtain ⟨s5, e5⟩ : ∃ q : zS, q = zu s4 31 6 v4 := ⟨_, rfl⟩
    refine gj_put hM hZ rfl rfl rfl (Nat.le_of_ble_eq_true rfl) rfl rfl zq_31_6 e5 ?_
    replace h := h _ e5
    exact ⟨_, xi_To.rf _ _ _ _, 0, s5, rfl, h⟩
  · intro hp
    replace h := h.2.2 hp
    refine gx_r hM hZ 2 (B := (28, [some (.ref 31), some (.int (Int32.ofInt x1)), some (.int (Int32.ofInt x2))], [.int (Int32.ofInt 4), .ref 31], zw X s)) rfl ?_
    obtain ⟨s6, e6⟩ : ∃ q : zS, q = zu s 31 8 4 := ⟨_, rfl⟩
    refine gj_put hM hZ rfl rfl rfl (Nat.le_of_ble_eq_true rfl) rfl rfl zq_31_8 e6 ?_
    replace h := h _ e6
    exact ⟨_, xi_To.rf _ _ _ _, 0, s6, rfl, h⟩
-- RootLoomModel.node
def w_103 (X : zX) (x1 x2 x3 x4 : Int) (s : zS) (Q : Int → zS → Prop) : Prop := wW X 103 xm_103 3 (0, [some (.ref 45), some (.int (Int32.ofInt x1)), some (.int (Int32.ofInt x2)), some (.int (Int32.ofInt x3)), some (.int (Int32.ofInt x4))], [], zw X s) Q
def w_103_27 (X : zX) (s : zS) (Q : Int → zS → Prop) : Prop := wW X 103 xm_103 3 (27, [none, none, none, none, none], [], zw X s) Q
theorem w_103_i {X : zX} {x1 x2 x3 x4 : Int} {s : zS} {Q : Int → zS → Prop} (h : (∀ s1 : zS, s1 = zu s 45 0 0 → ((-2147483648 ≤ (s1 45 8) ∧ (s1 45 8) ≤ 2147483647) ∧ ((s1 45 8) = 150 → w_103_27 X s1 Q) ∧ (¬ (s1 45 8) = 150 → (w_104 X x1 x2 x3 x4 s1 (fun v2 s2 => ((-2147483648 ≤ v2 ∧ v2 ≤ 2147483647) ∧ (¬ v2 = 0 → (0 ≤ (s2 45 8) ∧ (s2 45 8) < 150) ∧ (∀ s3 : zS, s3 = zu s2 52 (s2 45 8) x1 → (0 ≤ (s3 45 8) ∧ (s3 45 8) < 150) ∧ (∀ s4 : zS, s4 = zu s3 53 (s3 45 8) x2 → (0 ≤ (s4 45 8) ∧ (s4 45 8) < 150) ∧ (∀ s5 : zS, s5 = zu s4 54 (s4 45 8) x3 → (0 ≤ (s5 45 8) ∧ (s5 45 8) < 150) ∧ (∀ s6 : zS, s6 = zu s5 55 (s5 45 8) x4 → (∀ s7 : zS, s7 = zu s6 45 8 ((s6 45 8) + 1) → Q ((s7 45 8) - 1) s7)))))) ∧ (¬ ¬ v2 = 0 → w_103_27 X s2 Q)))))))) : w_103 X x1 x2 x3 x4 s Q := by
  intro hZ d hd
  have hM : xi_ml[103]? = some xm_103 := rfl
  refine gx_r hM hZ 2 (B := (2, [some (.ref 45), some (.int (Int32.ofInt x1)), some (.int (Int32.ofInt x2)), some (.int (Int32.ofInt x3)), some (.int (Int32.ofInt x4))], [.int (Int32.ofInt 0), .ref 45], zw X s)) rfl ?_
  obtain ⟨s1, e1⟩ : ∃ q : zS, q = zu s 45 0 0 := ⟨_, rfl⟩
  refine gj_put hM hZ rfl rfl rfl (Nat.le_of_ble_eq_true rfl) rfl rfl zq_45_0 e1 ?_
  replace h := h _ e1
  refine gx_r hM hZ 2 (B := (9, [some (.ref 45), some (.int (Int32.ofInt x1)), some (.int (Int32.ofInt x2)), some (.int (Int32.ofInt x3)), some (.int (Int32.ofInt x4))], [.int (Int32.ofInt (s1 45 8))], zw X s1)) rfl ?_
  refine gi_sip hM hZ rfl rfl ?_
  refine gi_if2 hM hZ (fun x y => decide (x = y)) (p := (s1 45 8) = 150) rfl rfl (zc_eq h.1 (by decide)) ?_ ?_
  · intro hp
    replace h := h.2.1 hp
    exact gx_fg [false, false, false, false, false] (h hZ d hd)
  · intro hp
    replace h := h.2.2 hp
    refine gx_r hM hZ 5 (B := (21, [some (.ref 45), some (.int (Int32.ofInt x1)), some (.int (Int32.ofInt x2)), some (.int (Int32.ofInt x3)), some (.int (Int32.ofInt x4))], [.int (Int32.ofInt x4), .int (Int32.ofInt x3), .int (Int32.ofInt x2), .int (Int32.ofInt x1), .ref 45], zw X s1)) rfl ?_
    refine gi_call hM (s := s1) (hj := 2) hZ rfl rfl (by omega) h ?_
    intro v2 s2 h
    refine gi_if1 hM hZ (fun x => decide (¬ x = 0)) (p := ¬ v2 = 0) rfl rfl (zd_ne h.1) ?_ ?_
    · intro hp
      replace h := h.2.1 hp
      refine gx_r hM hZ 5 (B := (38, [some (.ref 45), some (.int (Int32.ofInt x1)), some (.int (Int32.ofInt x2)), some (.int (Int32.ofInt x3)), some (.int (Int32.ofInt x4))], [.int (Int32.ofInt x1), .int (Int32.ofInt (s2 45 8)), .ref 52], zw X s2)) rfl ?_
      obtain ⟨s3, e3⟩ : ∃ q : zS, q = zu s2 52 (s2 45 8) x1 := ⟨_, rfl⟩
      refine gj_iast hM hZ (len := 150) rfl rfl (Nat.le_of_ble_eq_true rfl) zp_52 h.1 e3 ?_
      replace h := h.2 _ e3
      refine gx_r hM hZ 5 (B := (48, [some (.ref 45), some (.int (Int32.ofInt x1)), some (.int (Int32.ofInt x2)), some (.int (Int32.ofInt x3)), some (.int (Int32.ofInt x4))], [.int (Int32.ofInt x2), .int (Int32.ofInt (s3 45 8)), .ref 53], zw X s3)) rfl ?_
      obtain ⟨s4, e4⟩ : ∃ q : zS, q = zu s3 53 (s3 45 8) x2 := ⟨_, rfl⟩
      refine gj_iast hM hZ (len := 150) rfl rfl (Nat.le_of_ble_eq_true rfl) zp_53 h.1 e4 ?_
      replace h := h.2 _ e4
      refine gx_r hM hZ 5 (B := (58, [some (.ref 45), some (.int (Int32.ofInt x1)), some (.int (Int32.ofInt x2)), some (.int (Int32.ofInt x3)), some (.int (Int32.ofInt x4))], [.int (Int32.ofInt x3), .int (Int32.ofInt (s4 45 8)), .ref 54], zw X s4)) rfl ?_
      obtain ⟨s5, e5⟩ : ∃ q : zS, q = zu s4 54 (s4 45 8) x3 := ⟨_, rfl⟩
      refine gj_iast hM hZ (len := 150) rfl rfl (Nat.le_of_ble_eq_true rfl) zp_54 h.1 e5 ?_
      replace h := h.2 _ e5
      refine gx_r hM hZ 5 (B := (69, [some (.ref 45), some (.int (Int32.ofInt x1)), some (.int (Int32.ofInt x2)), some (.int (Int32.ofInt x3)), some (.int (Int32.ofInt x4))], [.int (Int32.ofInt x4), .int (Int32.ofInt (s5 45 8)), .ref 55], zw X s5)) rfl ?_
      obtain ⟨s6, e6⟩ : ∃ q : zS, q = zu s5 55 (s5 45 8) x4 := ⟨_, rfl⟩
      refine gj_iast hM hZ (len := 150) rfl rfl (Nat.le_of_ble_eq_true rfl) zp_55 h.1 e6 ?_
      replace h := h.2 _ e6
      refine gx_r hM hZ 4 (B := (76, [some (.ref 45), some (.int (Int32.ofInt x1)), some (.int (Int32.ofInt x2)), some (.int (Int32.ofInt x3)), some (.int (Int32.ofInt x4))], [.int (Int32.ofInt 1), .int (Int32.ofInt (s6 45 8)), .ref 45], zw X s6)) rfl ?_
      refine gi_add hM hZ rfl ?_
      obtain ⟨s7, e7⟩ : ∃ q : zS, q = zu s6 45 8 ((s6 45 8) + 1) := ⟨_, rfl⟩
      refine gj_put hM hZ rfl rfl rfl (Nat.le_of_ble_eq_true rfl) rfl rfl zq_45_8 e7 ?_
      replace h := h _ e7
      refine gx_r hM hZ 3 (B := (85, [some (.ref 45), some (.int (Int32.ofInt x1)), some (.int (Int32.ofInt x2)), some (.int (Int32.ofInt x3)), some (.int (Int32.ofInt x4))], [.int (Int32.ofInt 1), .int (Int32.ofInt (s7 45 8))], zw X s7)) rfl ?_
      refine gi_sub hM hZ rfl ?_
      exact ⟨_, xi_To.rf _ _ _ _, ((s7 45 8) - 1), s7, rfl, h⟩
    · intro hp
      replace h := h.2.2 hp
      exact gx_fg [false, false, false, false, false] (h hZ d hd)
theorem w_103_27_i {X : zX} {s : zS} {Q : Int → zS → Prop} (h : Q (-1) s) : w_103_27 X s Q := by
  intro hZ d hd
  have hM : xi_ml[103]? = some xm_103 := rfl
  refine gx_r hM hZ 1 (B := (28, [none, none, none, none, none], [.int (Int32.ofInt (-1))], zw X s)) rfl ?_
  exact ⟨_, xi_To.rf _ _ _ _, (-1), s, rfl, h⟩
-- RootLoomModel.behind
def w_119 (X : zX) (x1 : Int) (s : zS) (Q : Int → zS → Prop) : Prop := wW X 119 xm_119 3 (0, [some (.ref 45), some (.int (Int32.ofInt x1)), none, none], [], zw X s) Q
def w_119_40 (X : zX) (t1 : Int) (s : zS) (Q : Int → zS → Prop) : Prop := wW X 119 xm_119 3 (40, [some (.ref 45), none, none, none], [.int (Int32.ofInt t1), .ref 45], zw X s) Q
def w_119_119 (X : zX) (x1 x3 t1 : Int) (s : zS) (Q : Int → zS → Prop) : Prop := wW X 119 xm_119 3 (119, [some (.ref 45), some (.int (Int32.ofInt x1)), none, some (.int (Int32.ofInt x3))], [.int (Int32.ofInt t1), .ref 45], zw X s) Q
def w_119_155 (X : zX) (x1 : Int) (s : zS) (Q : Int → zS → Prop) : Prop := wW X 119 xm_119 3 (155, [some (.ref 45), some (.int (Int32.ofInt x1)), none, none], [], zw X s) Q
theorem w_119_i {X : zX} {x1 : Int} {s : zS} {Q : Int → zS → Prop} (h : (0 ≤ x1 ∧ x1 < 150) ∧ ((-2147483648 ≤ (s 52 x1) ∧ (s 52 x1) ≤ 2147483647) ∧ (¬ (s 52 x1) = 12 → ((-2147483648 ≤ (s 52 x1) ∧ (s 52 x1) ≤ 2147483647) ∧ (¬ (s 52 x1) = 10 → ((-2147483648 ≤ (s 52 x1) ∧ (s 52 x1) ≤ 2147483647) ∧ (¬ (s 52 x1) = 11 → ((-2147483648 ≤ (s 52 x1) ∧ (s 52 x1) ≤ 2147483647) ∧ ((s 52 x1) < 7 → w_119_155 X x1 s Q) ∧ (¬ (s 52 x1) < 7 → ((-2147483648 ≤ (s 52 x1) ∧ (s 52 x1) ≤ 2147483647) ∧ ((s 52 x1) = 14 → w_119_155 X x1 s Q) ∧ (¬ (s 52 x1) = 14 → ((-2147483648 ≤ (s 52 x1) ∧ (s 52 x1) ≤ 2147483647) ∧ (¬ (s 52 x1) = 15 → (w_124 X x1 s (fun _ s1 => Q 0 s1))) ∧ (¬ ¬ (s 52 x1) = 15 → w_119_155 X x1 s Q))))))) ∧ (¬ ¬ (s 52 x1) = 11 → (w_122 X s (fun v2 s2 => (0 ≤ x1 ∧ x1 < 150) ∧ (w_116 X 12 (s2 53 x1) s2 (fun _ s3 => (0 ≤ x1 ∧ x1 < 150) ∧ (0 ≤ (s3 53 x1) ∧ (s3 53 x1) < 8) ∧ ((-2147483648 ≤ (s3 70 (s3 53 x1)) ∧ (s3 70 (s3 53 x1)) ≤ 2147483647) ∧ (0 ≤ (s3 70 (s3 53 x1)) → w_119_119 X x1 v2 0 s3 Q) ∧ (¬ 0 ≤ (s3 70 (s3 53 x1)) → w_119_119 X x1 v2 1 s3 Q))))))))) ∧ (¬ ¬ (s 52 x1) = 10 → (w_122 X s (fun v4 s4 => ((-2147483648 ≤ v4 ∧ v4 ≤ 2147483647) ∧ (¬ v4 = 0 → w_119_40 X 0 s4 Q) ∧ (¬ ¬ v4 = 0 → w_119_40 X 1 s4 Q))))))) ∧ (¬ ¬ (s 52 x1) = 12 → (w_120 X x1 s (fun _ s5 => Q 0 s5))))) : w_119 X x1 s Q := by
  intro hZ d hd
  have hM : xi_ml[119]? = some xm_119 := rfl
  refine gx_r hM hZ 3 (B := (5, [some (.ref 45), some (.int (Int32.ofInt x1)), none, none], [.int (Int32.ofInt x1), .ref 52], zw X s)) rfl ?_
  refine gi_iald hM hZ (s := s) (len := 150) rfl rfl (Nat.le_of_ble_eq_true rfl) h.1 ?_
  replace h := h.2
  refine gx_r hM hZ 2 (B := (8, [some (.ref 45), some (.int (Int32.ofInt x1)), some (.int (Int32.ofInt (s 52 x1))), none], [.int (Int32.ofInt (s 52 x1))], zw X s)) rfl ?_
  refine gi_bip hM hZ rfl rfl ?_
  refine gi_if2 hM hZ (fun x y => decide (¬ x = y)) (p := ¬ (s 52 x1) = 12) rfl rfl (zc_ne h.1 (by decide)) ?_ ?_
  · intro hp
    replace h := h.2.1 hp
    refine gx_r hM hZ 1 (B := (22, [some (.ref 45), some (.int (Int32.ofInt x1)), some (.int (Int32.ofInt (s 52 x1))), none], [.int (Int32.ofInt (s 52 x1))], zw X s)) rfl ?_
    refine gi_bip hM hZ rfl rfl ?_
    refine gi_if2 hM hZ (fun x y => decide (¬ x = y)) (p := ¬ (s 52 x1) = 10) rfl rfl (zc_ne h.1 (by decide)) ?_ ?_
    · intro hp
      replace h := h.2.1 hp
      refine gx_r hM hZ 1 (B := (77, [some (.ref 45), some (.int (Int32.ofInt x1)), some (.int (Int32.ofInt (s 52 x1))), none], [.int (Int32.ofInt (s 52 x1))], zw X s)) rfl ?_
      refine gi_bip hM hZ rfl rfl ?_
      refine gi_if2 hM hZ (fun x y => decide (¬ x = y)) (p := ¬ (s 52 x1) = 11) rfl rfl (zc_ne h.1 (by decide)) ?_ ?_
      · intro hp
        replace h := h.2.1 hp
        refine gx_r hM hZ 1 (B := (138, [some (.ref 45), some (.int (Int32.ofInt x1)), some (.int (Int32.ofInt (s 52 x1))), none], [.int (Int32.ofInt (s 52 x1))], zw X s)) rfl ?_
        refine gi_bip hM hZ rfl rfl ?_
        refine gi_if2 hM hZ (fun x y => decide (x < y)) (p := (s 52 x1) < 7) rfl rfl (zc_lt h.1 (by decide)) ?_ ?_
        · intro hp
          replace h := h.2.1 hp
          exact gx_fg [true, true, false, false] (h hZ d hd)
        · intro hp
          replace h := h.2.2 hp
          refine gx_r hM hZ 1 (B := (144, [some (.ref 45), some (.int (Int32.ofInt x1)), some (.int (Int32.ofInt (s 52 x1))), none], [.int (Int32.ofInt (s 52 x1))], zw X s)) rfl ?_
          refine gi_bip hM hZ rfl rfl ?_
          refine gi_if2 hM hZ (fun x y => decide (x = y)) (p := (s 52 x1) = 14) rfl rfl (zc_eq h.1 (by decide)) ?_ ?_
          · intro hp
            replace h := h.2.1 hp
            exact gx_fg [true, true, false, false] (h hZ d hd)
          · intro hp
            replace h := h.2.2 hp
            refine gx_r hM hZ 1 (B := (150, [some (.ref 45), some (.int (Int32.ofInt x1)), some (.int (Int32.ofInt (s 52 x1))), none], [.int (Int32.ofInt (s 52 x1))], zw X s)) rfl ?_
            refine gi_bip hM hZ rfl rfl ?_
            refine gi_if2 hM hZ (fun x y => decide (¬ x = y)) (p := ¬ (s 52 x1) = 15) rfl rfl (zc_ne h.1 (by decide)) ?_ ?_
            · intro hp
              replace h := h.2.1 hp
              refine gx_r hM hZ 2 (B := (165, [some (.ref 45), some (.int (Int32.ofInt x1)), some (.int (Int32.ofInt (s 52 x1))), none], [.int (Int32.ofInt x1), .ref 45], zw X s)) rfl ?_
              refine gi_call hM (s := s) (hj := 1) hZ rfl rfl (by omega) h ?_
              intro _ s1 h
              exact ⟨_, xi_To.rf _ _ _ _, 0, s1, rfl, h⟩
            · intro hp
              replace h := h.2.2 hp
              exact gx_fg [true, true, false, false] (h hZ d hd)
      · intro hp
        replace h := h.2.2 hp
        refine gx_r hM hZ 1 (B := (83, [some (.ref 45), some (.int (Int32.ofInt x1)), some (.int (Int32.ofInt (s 52 x1))), none], [.ref 45], zw X s)) rfl ?_
        refine gi_call hM (s := s) (hj := 0) hZ rfl rfl (by omega) h ?_
        intro v2 s2 h
        refine gx_r hM hZ 2 (B := (88, [some (.ref 45), some (.int (Int32.ofInt x1)), some (.int (Int32.ofInt (s 52 x1))), some (.int (Int32.ofInt v2))], [.ref 45], zw X s2)) rfl ?_
        refine gi_bip hM hZ rfl rfl ?_
        refine gx_r hM hZ 3 (B := (95, [some (.ref 45), some (.int (Int32.ofInt x1)), some (.int (Int32.ofInt (s 52 x1))), some (.int (Int32.ofInt v2))], [.int (Int32.ofInt x1), .ref 53, .int (Int32.ofInt 12), .ref 45], zw X s2)) rfl ?_
        refine gi_iald hM hZ (s := s2) (len := 150) rfl rfl (Nat.le_of_ble_eq_true rfl) h.1 ?_
        replace h := h.2
        refine gi_call hM (s := s2) (hj := 0) hZ rfl rfl (by omega) h ?_
        intro _ s3 h
        refine gx_r hM hZ 6 (B := (109, [some (.ref 45), some (.int (Int32.ofInt x1)), some (.int (Int32.ofInt (s 52 x1))), some (.int (Int32.ofInt v2))], [.int (Int32.ofInt x1), .ref 53, .ref 70, .ref 45], zw X s3)) rfl ?_
        refine gi_iald hM hZ (s := s3) (len := 150) rfl rfl (Nat.le_of_ble_eq_true rfl) h.1 ?_
        replace h := h.2
        refine gi_iald hM hZ (s := s3) (len := 8) rfl rfl (Nat.le_of_ble_eq_true rfl) h.1 ?_
        replace h := h.2
        refine gi_if1 hM hZ (fun x => decide (0 ≤ x)) (p := 0 ≤ (s3 70 (s3 53 x1))) rfl rfl (zd_ge h.1) ?_ ?_
        · intro hp
          replace h := h.2.1 hp
          refine gx_r hM hZ 1 (B := (119, [some (.ref 45), some (.int (Int32.ofInt x1)), some (.int (Int32.ofInt (s 52 x1))), some (.int (Int32.ofInt v2))], [.int (Int32.ofInt 0), .ref 45], zw X s3)) rfl ?_
          exact gx_fg [true, true, false, true] (h hZ d hd)
        · intro hp
          replace h := h.2.2 hp
          refine gx_r hM hZ 2 (B := (119, [some (.ref 45), some (.int (Int32.ofInt x1)), some (.int (Int32.ofInt (s 52 x1))), some (.int (Int32.ofInt v2))], [.int (Int32.ofInt 1), .ref 45], zw X s3)) rfl ?_
          exact gx_fg [true, true, false, true] (h hZ d hd)
    · intro hp
      replace h := h.2.2 hp
      refine gx_r hM hZ 2 (B := (29, [some (.ref 45), some (.int (Int32.ofInt x1)), some (.int (Int32.ofInt (s 52 x1))), none], [.ref 45, .ref 45], zw X s)) rfl ?_
      refine gi_call hM (s := s) (hj := 0) hZ rfl rfl (by omega) h ?_
      intro v4 s4 h
      refine gi_if1 hM hZ (fun x => decide (¬ x = 0)) (p := ¬ v4 = 0) rfl rfl (zd_ne h.1) ?_ ?_
      · intro hp
        replace h := h.2.1 hp
        refine gx_r hM hZ 1 (B := (40, [some (.ref 45), some (.int (Int32.ofInt x1)), some (.int (Int32.ofInt (s 52 x1))), none], [.int (Int32.ofInt 0), .ref 45], zw X s4)) rfl ?_
        exact gx_fg [true, false, false, false] (h hZ d hd)
      · intro hp
        replace h := h.2.2 hp
        refine gx_r hM hZ 2 (B := (40, [some (.ref 45), some (.int (Int32.ofInt x1)), some (.int (Int32.ofInt (s 52 x1))), none], [.int (Int32.ofInt 1), .ref 45], zw X s4)) rfl ?_
        exact gx_fg [true, false, false, false] (h hZ d hd)
  · intro hp
    replace h := h.2.2 hp
    refine gx_r hM hZ 2 (B := (15, [some (.ref 45), some (.int (Int32.ofInt x1)), some (.int (Int32.ofInt (s 52 x1))), none], [.int (Int32.ofInt x1), .ref 45], zw X s)) rfl ?_
    refine gi_call hM (s := s) (hj := 2) hZ rfl rfl (by omega) h ?_
    intro _ s5 h
    refine gx_r hM hZ 1 (B := (168, [some (.ref 45), some (.int (Int32.ofInt x1)), some (.int (Int32.ofInt (s 52 x1))), none], [], zw X s5)) rfl ?_
    exact ⟨_, xi_To.rf _ _ _ _, 0, s5, rfl, h⟩
theorem w_119_40_i {X : zX} {t1 : Int} {s : zS} {Q : Int → zS → Prop} (h : (w_118 X t1 s (fun _ s1 => (0 ≤ (s1 45 33) ∧ (s1 45 33) < 160) ∧ (∀ s2 : zS, s2 = zu s1 71 (s1 45 33) (s1 45 16) → (∀ s3 : zS, s3 = zu s2 45 33 ((s2 45 33) + 1) → (w_116 X 10 0 s3 (fun _ s4 => Q 0 s4))))))) : w_119_40 X t1 s Q := by
  intro hZ d hd
  have hM : xi_ml[119]? = some xm_119 := rfl
  refine gi_call hM (s := s) (hj := 0) hZ rfl rfl (by omega) h ?_
  intro _ s1 h
  refine gx_r hM hZ 6 (B := (55, [some (.ref 45), none, none, none], [.int (Int32.ofInt (s1 45 16)), .int (Int32.ofInt (s1 45 33)), .ref 71], zw X s1)) rfl ?_
  obtain ⟨s2, e2⟩ : ∃ q : zS, q = zu s1 71 (s1 45 33) (s1 45 16) := ⟨_, rfl⟩
  refine gj_iast hM hZ (len := 160) rfl rfl (Nat.le_of_ble_eq_true rfl) zp_71 h.1 e2 ?_
  replace h := h.2 _ e2
  refine gx_r hM hZ 4 (B := (62, [some (.ref 45), none, none, none], [.int (Int32.ofInt 1), .int (Int32.ofInt (s2 45 33)), .ref 45], zw X s2)) rfl ?_
  refine gi_add hM hZ rfl ?_
  obtain ⟨s3, e3⟩ : ∃ q : zS, q = zu s2 45 33 ((s2 45 33) + 1) := ⟨_, rfl⟩
  refine gj_put hM hZ rfl rfl rfl (Nat.le_of_ble_eq_true rfl) rfl rfl zq_45_33 e3 ?_
  replace h := h _ e3
  refine gx_r hM hZ 1 (B := (67, [some (.ref 45), none, none, none], [.ref 45], zw X s3)) rfl ?_
  refine gi_bip hM hZ rfl rfl ?_
  refine gx_r hM hZ 1 (B := (70, [some (.ref 45), none, none, none], [.int (Int32.ofInt 0), .int (Int32.ofInt 10), .ref 45], zw X s3)) rfl ?_
  refine gi_call hM (s := s3) (hj := 0) hZ rfl rfl (by omega) h ?_
  intro _ s4 h
  refine gx_r hM hZ 1 (B := (168, [some (.ref 45), none, none, none], [], zw X s4)) rfl ?_
  exact ⟨_, xi_To.rf _ _ _ _, 0, s4, rfl, h⟩
theorem w_119_119_i {X : zX} {x1 x3 t1 : Int} {s : zS} {Q : Int → zS → Prop} (h : (w_118 X t1 s (fun _ s1 => (0 ≤ x1 ∧ x1 < 150) ∧ (0 ≤ (s1 53 x1) ∧ (s1 53 x1) < 8) ∧ (∀ s2 : zS, s2 = zu s1 70 (s1 53 x1) x3 → Q 0 s2)))) : w_119_119 X x1 x3 t1 s Q := by
  intro hZ d hd
  have hM : xi_ml[119]? = some xm_119 := rfl
  refine gi_call hM (s := s) (hj := 0) hZ rfl rfl (by omega) h ?_
  intro _ s1 h
  refine gx_r hM hZ 5 (B := (131, [some (.ref 45), some (.int (Int32.ofInt x1)), none, some (.int (Int32.ofInt x3))], [.int (Int32.ofInt x1), .ref 53, .ref 70], zw X s1)) rfl ?_
  refine gi_iald hM hZ (s := s1) (len := 150) rfl rfl (Nat.le_of_ble_eq_true rfl) h.1 ?_
  replace h := h.2
  refine gx_r hM hZ 1 (B := (133, [some (.ref 45), some (.int (Int32.ofInt x1)), none, some (.int (Int32.ofInt x3))], [.int (Int32.ofInt x3), .int (Int32.ofInt (s1 53 x1)), .ref 70], zw X s1)) rfl ?_
  obtain ⟨s2, e2⟩ : ∃ q : zS, q = zu s1 70 (s1 53 x1) x3 := ⟨_, rfl⟩
  refine gj_iast hM hZ (len := 8) rfl rfl (Nat.le_of_ble_eq_true rfl) zp_70 h.1 e2 ?_
  replace h := h.2 _ e2
  refine gx_r hM hZ 1 (B := (168, [some (.ref 45), some (.int (Int32.ofInt x1)), none, some (.int (Int32.ofInt x3))], [], zw X s2)) rfl ?_
  exact ⟨_, xi_To.rf _ _ _ _, 0, s2, rfl, h⟩
theorem w_119_155_i {X : zX} {x1 : Int} {s : zS} {Q : Int → zS → Prop} (h : (w_123 X x1 s (fun _ s1 => Q 0 s1))) : w_119_155 X x1 s Q := by
  intro hZ d hd
  have hM : xi_ml[119]? = some xm_119 := rfl
  refine gx_r hM hZ 2 (B := (157, [some (.ref 45), some (.int (Int32.ofInt x1)), none, none], [.int (Int32.ofInt x1), .ref 45], zw X s)) rfl ?_
  refine gi_call hM (s := s) (hj := 2) hZ rfl rfl (by omega) h ?_
  intro _ s1 h
  refine gx_r hM hZ 1 (B := (168, [some (.ref 45), some (.int (Int32.ofInt x1)), none, none], [], zw X s1)) rfl ?_
  exact ⟨_, xi_To.rf _ _ _ _, 0, s1, rfl, h⟩
-- RootLoomModel.call
def w_138 (X : zX) (x1 x2 : Int) (s : zS) (Q : Int → zS → Prop) : Prop := wW X 138 xm_138 3 (0, [some (.ref 45), some (.int (Int32.ofInt x1)), some (.int (Int32.ofInt x2)), none, none], [], zw X s) Q
def w_138_12 (X : zX) (x1 x2 : Int) (s : zS) (Q : Int → zS → Prop) : Prop := wW X 138 xm_138 3 (12, [some (.ref 45), some (.int (Int32.ofInt x1)), some (.int (Int32.ofInt x2)), none, none], [], zw X s) Q
def w_138_74 (X : zX) (x1 x2 x3 x4 : Int) (s : zS) (Q : Int → zS → Prop) : Prop := wW X 138 xm_138 3 (74, [some (.ref 45), some (.int (Int32.ofInt x1)), some (.int (Int32.ofInt x2)), some (.int (Int32.ofInt x3)), some (.int (Int32.ofInt x4))], [], zw X s) Q
def w_138_124 (X : zX) (x1 x2 x3 x4 t1 t2 : Int) (s : zS) (Q : Int → zS → Prop) : Prop := wW X 138 xm_138 3 (124, [some (.ref 45), some (.int (Int32.ofInt x1)), some (.int (Int32.ofInt x2)), some (.int (Int32.ofInt x3)), some (.int (Int32.ofInt x4))], [.int (Int32.ofInt t2), .int (Int32.ofInt t1), .ref 82], zw X s) Q
theorem w_138_i {X : zX} {x1 x2 : Int} {s : zS} {Q : Int → zS → Prop} (h : (w_139 X 1 s (fun v1 s1 => ((-2147483648 ≤ v1 ∧ v1 ≤ 2147483647) ∧ (v1 = 0 → w_138_12 X x1 x2 s1 Q) ∧ (¬ v1 = 0 → (w_140 X s1 (fun _ s2 => w_138_12 X x1 x2 s2 Q))))))) : w_138 X x1 x2 s Q := by
  intro hZ d hd
  have hM : xi_ml[138]? = some xm_138 := rfl
  refine gx_r hM hZ 2 (B := (2, [some (.ref 45), some (.int (Int32.ofInt x1)), some (.int (Int32.ofInt x2)), none, none], [.int (Int32.ofInt 1), .ref 45], zw X s)) rfl ?_
  refine gi_call hM (s := s) (hj := 0) hZ rfl rfl (by omega) h ?_
  intro v1 s1 h
  refine gi_if1 hM hZ (fun x => decide (x = 0)) (p := v1 = 0) rfl rfl (zd_eq h.1) ?_ ?_
  · intro hp
    replace h := h.2.1 hp
    exact gx_fg [true, true, true, false, false] (h hZ d hd)
  · intro hp
    replace h := h.2.2 hp
    refine gx_r hM hZ 1 (B := (9, [some (.ref 45), some (.int (Int32.ofInt x1)), some (.int (Int32.ofInt x2)), none, none], [.ref 45], zw X s1)) rfl ?_
    refine gi_call hM (s := s1) (hj := 2) hZ rfl rfl (by omega) h ?_
    intro _ s2 h
    exact gx_fg [true, true, true, false, false] (h hZ d hd)
theorem w_138_12_i {X : zX} {x1 x2 : Int} {s : zS} {Q : Int → zS → Prop} (h : ((-2147483648 ≤ ((s 45 56) + 1) ∧ ((s 45 56) + 1) ≤ 2147483647) ∧ (¬ ((s 45 56) + 1) = 24 → (0 ≤ (s 45 56) ∧ (s 45 56) < 24) ∧ (0 ≤ (s 45 56) ∧ (s 45 56) < 24) ∧ (∀ s1 : zS, s1 = zu s 81 (s 45 56) ((s 81 (s 45 56)) - x2) → (∀ s2 : zS, s2 = zu s1 45 56 ((s1 45 56) + 1) → (w_111 X (s2 45 43) ((s2 45 56) + 1) s2 (fun v3 s3 => (∀ s4 : zS, s4 = zu s3 45 43 v3 → w_138_74 X x1 x2 (s 45 56) 0 s4 Q)))))) ∧ (¬ ¬ ((s 45 56) + 1) = 24 → (∀ s5 : zS, s5 = zu s 45 39 4 → Q 0 s5)))) : w_138_12 X x1 x2 s Q := by
  intro hZ d hd
  have hM : xi_ml[138]? = some xm_138 := rfl
  refine gx_r hM hZ 3 (B := (17, [some (.ref 45), some (.int (Int32.ofInt x1)), some (.int (Int32.ofInt x2)), none, none], [.int (Int32.ofInt 1), .int (Int32.ofInt (s 45 56))], zw X s)) rfl ?_
  refine gi_add hM hZ rfl ?_
  refine gi_bip hM hZ rfl rfl ?_
  refine gi_if2 hM hZ (fun x y => decide (¬ x = y)) (p := ¬ ((s 45 56) + 1) = 24) rfl rfl (zc_ne h.1 (by decide)) ?_ ?_
  · intro hp
    replace h := h.2.1 hp
    refine gx_r hM hZ 7 (B := (40, [some (.ref 45), some (.int (Int32.ofInt x1)), some (.int (Int32.ofInt x2)), some (.int (Int32.ofInt (s 45 56))), none], [.int (Int32.ofInt (s 45 56)), .ref 81, .int (Int32.ofInt (s 45 56)), .ref 81], zw X s)) rfl ?_
    refine gi_iald hM hZ (s := s) (len := 24) rfl rfl (Nat.le_of_ble_eq_true rfl) h.1 ?_
    replace h := h.2
    refine gx_r hM hZ 1 (B := (42, [some (.ref 45), some (.int (Int32.ofInt x1)), some (.int (Int32.ofInt x2)), some (.int (Int32.ofInt (s 45 56))), none], [.int (Int32.ofInt x2), .int (Int32.ofInt (s 81 (s 45 56))), .int (Int32.ofInt (s 45 56)), .ref 81], zw X s)) rfl ?_
    refine gi_sub hM hZ rfl ?_
    obtain ⟨s1, e1⟩ : ∃ q : zS, q = zu s 81 (s 45 56) ((s 81 (s 45 56)) - x2) := ⟨_, rfl⟩
    refine gj_iast hM hZ (len := 24) rfl rfl (Nat.le_of_ble_eq_true rfl) zp_81 h.1 e1 ?_
    replace h := h.2 _ e1
    refine gx_r hM hZ 4 (B := (50, [some (.ref 45), some (.int (Int32.ofInt x1)), some (.int (Int32.ofInt x2)), some (.int (Int32.ofInt (s 45 56))), none], [.int (Int32.ofInt 1), .int (Int32.ofInt (s1 45 56)), .ref 45], zw X s1)) rfl ?_
    refine gi_add hM hZ rfl ?_
    obtain ⟨s2, e2⟩ : ∃ q : zS, q = zu s1 45 56 ((s1 45 56) + 1) := ⟨_, rfl⟩
    refine gj_put hM hZ rfl rfl rfl (Nat.le_of_ble_eq_true rfl) rfl rfl zq_45_56 e2 ?_
    replace h := h _ e2
    refine gx_r hM hZ 6 (B := (64, [some (.ref 45), some (.int (Int32.ofInt x1)), some (.int (Int32.ofInt x2)), some (.int (Int32.ofInt (s 45 56))), none], [.int (Int32.ofInt 1), .int (Int32.ofInt (s2 45 56)), .int (Int32.ofInt (s2 45 43)), .ref 45], zw X s2)) rfl ?_
    refine gi_add hM hZ rfl ?_
    refine gi_call hM (s := s2) (hj := 0) hZ rfl rfl (by omega) h ?_
    intro v3 s3 h
    obtain ⟨s4, e4⟩ : ∃ q : zS, q = zu s3 45 43 v3 := ⟨_, rfl⟩
    refine gj_put hM hZ rfl rfl rfl (Nat.le_of_ble_eq_true rfl) rfl rfl zq_45_43 e4 ?_
    replace h := h _ e4
    refine gx_r hM hZ 2 (B := (74, [some (.ref 45), some (.int (Int32.ofInt x1)), some (.int (Int32.ofInt x2)), some (.int (Int32.ofInt (s 45 56))), some (.int (Int32.ofInt 0))], [], zw X s4)) rfl ?_
    exact gx_fg [true, true, true, true, true] (h hZ d hd)
  · intro hp
    replace h := h.2.2 hp
    refine gx_r hM hZ 2 (B := (25, [some (.ref 45), some (.int (Int32.ofInt x1)), some (.int (Int32.ofInt x2)), none, none], [.int (Int32.ofInt 4), .ref 45], zw X s)) rfl ?_
    obtain ⟨s5, e5⟩ : ∃ q : zS, q = zu s 45 39 4 := ⟨_, rfl⟩
    refine gj_put hM hZ rfl rfl rfl (Nat.le_of_ble_eq_true rfl) rfl rfl zq_45_39 e5 ?_
    replace h := h _ e5
    exact ⟨_, xi_To.rf _ _ _ _, 0, s5, rfl, h⟩
theorem w_138_74_i {X : zX} {x1 x2 x3 x4 : Int} {s : zS} {Q : Int → zS → Prop} (h : ((-2147483648 ≤ x4 ∧ x4 ≤ 2147483647) ∧ (8 ≤ x4 → (0 ≤ (s 45 56) ∧ (s 45 56) < 24) ∧ (∀ s1 : zS, s1 = zu s 81 (s 45 56) 0 → (0 ≤ (s1 45 56) ∧ (s1 45 56) < 24) ∧ (∀ s2 : zS, s2 = zu s1 80 (s1 45 56) ((s1 45 57) + 1) → (0 ≤ x1 ∧ x1 < 6) ∧ (∀ s3 : zS, s3 = zu s2 45 57 (s2 64 x1) → Q 0 s3)))) ∧ (¬ 8 ≤ x4 → (((-2147483648 ≤ x4 ∧ x4 ≤ 2147483647) ∧ (-2147483648 ≤ x2 ∧ x2 ≤ 2147483647)) ∧ (x2 ≤ x4 → w_138_124 X x1 x2 x3 x4 ((8 * (s 45 56)) + x4) 0 s Q) ∧ (¬ x2 ≤ x4 → (0 ≤ x3 ∧ x3 < 24) ∧ (0 ≤ (((16 * x3) + (s 81 x3)) + x4) ∧ (((16 * x3) + (s 81 x3)) + x4) < 384) ∧ w_138_124 X x1 x2 x3 x4 ((8 * (s 45 56)) + x4) (s 83 (((16 * x3) + (s 81 x3)) + x4)) s Q))))) : w_138_74 X x1 x2 x3 x4 s Q := by
  intro hZ d hd
  have hM : xi_ml[138]? = some xm_138 := rfl
  refine gx_r hM hZ 1 (B := (76, [some (.ref 45), some (.int (Int32.ofInt x1)), some (.int (Int32.ofInt x2)), some (.int (Int32.ofInt x3)), some (.int (Int32.ofInt x4))], [.int (Int32.ofInt x4)], zw X s)) rfl ?_
  refine gi_bip hM hZ rfl rfl ?_
  refine gi_if2 hM hZ (fun x y => decide (y ≤ x)) (p := 8 ≤ x4) rfl rfl (zc_ge h.1 (by decide)) ?_ ?_
  · intro hp
    replace h := h.2.1 hp
    refine gx_r hM hZ 5 (B := (140, [some (.ref 45), some (.int (Int32.ofInt x1)), some (.int (Int32.ofInt x2)), some (.int (Int32.ofInt x3)), some (.int (Int32.ofInt x4))], [.int (Int32.ofInt 0), .int (Int32.ofInt (s 45 56)), .ref 81], zw X s)) rfl ?_
    obtain ⟨s1, e1⟩ : ∃ q : zS, q = zu s 81 (s 45 56) 0 := ⟨_, rfl⟩
    refine gj_iast hM hZ (len := 24) rfl rfl (Nat.le_of_ble_eq_true rfl) zp_81 h.1 e1 ?_
    replace h := h.2 _ e1
    refine gx_r hM hZ 7 (B := (154, [some (.ref 45), some (.int (Int32.ofInt x1)), some (.int (Int32.ofInt x2)), some (.int (Int32.ofInt x3)), some (.int (Int32.ofInt x4))], [.int (Int32.ofInt 1), .int (Int32.ofInt (s1 45 57)), .int (Int32.ofInt (s1 45 56)), .ref 80], zw X s1)) rfl ?_
    refine gi_add hM hZ rfl ?_
    obtain ⟨s2, e2⟩ : ∃ q : zS, q = zu s1 80 (s1 45 56) ((s1 45 57) + 1) := ⟨_, rfl⟩
    refine gj_iast hM hZ (len := 24) rfl rfl (Nat.le_of_ble_eq_true rfl) zp_80 h.1 e2 ?_
    replace h := h.2 _ e2
    refine gx_r hM hZ 4 (B := (162, [some (.ref 45), some (.int (Int32.ofInt x1)), some (.int (Int32.ofInt x2)), some (.int (Int32.ofInt x3)), some (.int (Int32.ofInt x4))], [.int (Int32.ofInt x1), .ref 64, .ref 45], zw X s2)) rfl ?_
    refine gi_iald hM hZ (s := s2) (len := 6) rfl rfl (Nat.le_of_ble_eq_true rfl) h.1 ?_
    replace h := h.2
    obtain ⟨s3, e3⟩ : ∃ q : zS, q = zu s2 45 57 (s2 64 x1) := ⟨_, rfl⟩
    refine gj_put hM hZ rfl rfl rfl (Nat.le_of_ble_eq_true rfl) rfl rfl zq_45_57 e3 ?_
    replace h := h _ e3
    exact ⟨_, xi_To.rf _ _ _ _, 0, s3, rfl, h⟩
  · intro hp
    replace h := h.2.2 hp
    refine gx_r hM hZ 2 (B := (85, [some (.ref 45), some (.int (Int32.ofInt x1)), some (.int (Int32.ofInt x2)), some (.int (Int32.ofInt x3)), some (.int (Int32.ofInt x4))], [.ref 82], zw X s)) rfl ?_
    refine gi_bip hM hZ rfl rfl ?_
    refine gx_r hM hZ 2 (B := (91, [some (.ref 45), some (.int (Int32.ofInt x1)), some (.int (Int32.ofInt x2)), some (.int (Int32.ofInt x3)), some (.int (Int32.ofInt x4))], [.int (Int32.ofInt (s 45 56)), .int (Int32.ofInt 8), .ref 82], zw X s)) rfl ?_
    refine gi_mul hM hZ rfl ?_
    refine gx_r hM hZ 1 (B := (94, [some (.ref 45), some (.int (Int32.ofInt x1)), some (.int (Int32.ofInt x2)), some (.int (Int32.ofInt x3)), some (.int (Int32.ofInt x4))], [.int (Int32.ofInt x4), .int (Int32.ofInt (8 * (s 45 56))), .ref 82], zw X s)) rfl ?_
    refine gi_add hM hZ rfl ?_
    refine gx_r hM hZ 2 (B := (98, [some (.ref 45), some (.int (Int32.ofInt x1)), some (.int (Int32.ofInt x2)), some (.int (Int32.ofInt x3)), some (.int (Int32.ofInt x4))], [.int (Int32.ofInt x2), .int (Int32.ofInt x4), .int (Int32.ofInt ((8 * (s 45 56)) + x4)), .ref 82], zw X s)) rfl ?_
    refine gi_if2 hM hZ (fun x y => decide (y ≤ x)) (p := x2 ≤ x4) rfl rfl (zc_ge h.1.1 h.1.2) ?_ ?_
    · intro hp
      replace h := h.2.1 hp
      refine gx_r hM hZ 1 (B := (124, [some (.ref 45), some (.int (Int32.ofInt x1)), some (.int (Int32.ofInt x2)), some (.int (Int32.ofInt x3)), some (.int (Int32.ofInt x4))], [.int (Int32.ofInt 0), .int (Int32.ofInt ((8 * (s 45 56)) + x4)), .ref 82], zw X s)) rfl ?_
      exact gx_fg [true, true, true, true, true] (h hZ d hd)
    · intro hp
      replace h := h.2.2 hp
      refine gx_r hM hZ 2 (B := (105, [some (.ref 45), some (.int (Int32.ofInt x1)), some (.int (Int32.ofInt x2)), some (.int (Int32.ofInt x3)), some (.int (Int32.ofInt x4))], [.ref 83, .int (Int32.ofInt ((8 * (s 45 56)) + x4)), .ref 82], zw X s)) rfl ?_
      refine gi_bip hM hZ rfl rfl ?_
      refine gx_r hM hZ 1 (B := (108, [some (.ref 45), some (.int (Int32.ofInt x1)), some (.int (Int32.ofInt x2)), some (.int (Int32.ofInt x3)), some (.int (Int32.ofInt x4))], [.int (Int32.ofInt x3), .int (Int32.ofInt 16), .ref 83, .int (Int32.ofInt ((8 * (s 45 56)) + x4)), .ref 82], zw X s)) rfl ?_
      refine gi_mul hM hZ rfl ?_
      refine gx_r hM hZ 3 (B := (114, [some (.ref 45), some (.int (Int32.ofInt x1)), some (.int (Int32.ofInt x2)), some (.int (Int32.ofInt x3)), some (.int (Int32.ofInt x4))], [.int (Int32.ofInt x3), .ref 81, .int (Int32.ofInt (16 * x3)), .ref 83, .int (Int32.ofInt ((8 * (s 45 56)) + x4)), .ref 82], zw X s)) rfl ?_
      refine gi_iald hM hZ (s := s) (len := 24) rfl rfl (Nat.le_of_ble_eq_true rfl) h.1 ?_
      replace h := h.2
      refine gi_add hM hZ rfl ?_
      refine gx_r hM hZ 1 (B := (118, [some (.ref 45), some (.int (Int32.ofInt x1)), some (.int (Int32.ofInt x2)), some (.int (Int32.ofInt x3)), some (.int (Int32.ofInt x4))], [.int (Int32.ofInt x4), .int (Int32.ofInt ((16 * x3) + (s 81 x3))), .ref 83, .int (Int32.ofInt ((8 * (s 45 56)) + x4)), .ref 82], zw X s)) rfl ?_
      refine gi_add hM hZ rfl ?_
      refine gi_iald hM hZ (s := s) (len := 384) rfl rfl (Nat.le_of_ble_eq_true rfl) h.1 ?_
      replace h := h.2
      refine gx_r hM hZ 1 (B := (124, [some (.ref 45), some (.int (Int32.ofInt x1)), some (.int (Int32.ofInt x2)), some (.int (Int32.ofInt x3)), some (.int (Int32.ofInt x4))], [.int (Int32.ofInt (s 83 (((16 * x3) + (s 81 x3)) + x4))), .int (Int32.ofInt ((8 * (s 45 56)) + x4)), .ref 82], zw X s)) rfl ?_
      exact gx_fg [true, true, true, true, true] (h hZ d hd)
theorem w_138_124_i {X : zX} {x1 x2 x3 x4 t1 t2 : Int} {s : zS} {Q : Int → zS → Prop} (h : (0 ≤ t1 ∧ t1 < 192) ∧ (∀ s1 : zS, s1 = zu s 82 t1 t2 → w_138_74 X x1 x2 x3 (x4 + 1) s1 Q)) : w_138_124 X x1 x2 x3 x4 t1 t2 s Q := by
  intro hZ d hd
  have hM : xi_ml[138]? = some xm_138 := rfl
  obtain ⟨s1, e1⟩ : ∃ q : zS, q = zu s 82 t1 t2 := ⟨_, rfl⟩
  refine gj_iast hM hZ (len := 192) rfl rfl (Nat.le_of_ble_eq_true rfl) zp_82 h.1 e1 ?_
  replace h := h.2 _ e1
  refine gi_inc hM hZ (x := x4) (m := 1) rfl rfl ?_
  refine gx_r hM hZ 0 (B := (128, [some (.ref 45), some (.int (Int32.ofInt x1)), some (.int (Int32.ofInt x2)), some (.int (Int32.ofInt x3)), some (.int (Int32.ofInt (x4 + 1)))], [], zw X s1)) rfl ?_
  refine gx_r hM hZ 1 (B := (74, [some (.ref 45), some (.int (Int32.ofInt x1)), some (.int (Int32.ofInt x2)), some (.int (Int32.ofInt x3)), some (.int (Int32.ofInt (x4 + 1)))], [], zw X s1)) rfl ?_
  exact gx_fg [true, true, true, true, true] (h hZ d hd)
-- RootLoomModel.make
def w_148 (X : zX) (x1 : Int) (s : zS) (Q : Int → zS → Prop) : Prop := wW X 148 xm_148 3 (0, [some (.ref 45), some (.int (Int32.ofInt x1)), none], [], zw X s) Q
def w_148_15 (X : zX) (x1 : Int) (s : zS) (Q : Int → zS → Prop) : Prop := wW X 148 xm_148 3 (15, [some (.ref 45), some (.int (Int32.ofInt x1)), none], [], zw X s) Q
def w_148_30 (X : zX) (x1 x2 : Int) (s : zS) (Q : Int → zS → Prop) : Prop := wW X 148 xm_148 3 (30, [some (.ref 45), some (.int (Int32.ofInt x1)), some (.int (Int32.ofInt x2))], [], zw X s) Q
theorem w_148_i {X : zX} {x1 : Int} {s : zS} {Q : Int → zS → Prop} (h : (w_149 X s (fun v1 s1 => (w_139 X v1 s1 (fun v2 s2 => ((-2147483648 ≤ v2 ∧ v2 ≤ 2147483647) ∧ (v2 = 0 → w_148_15 X x1 s2 Q) ∧ (¬ v2 = 0 → (w_140 X s2 (fun _ s3 => w_148_15 X x1 s3 Q))))))))) : w_148 X x1 s Q := by
  intro hZ d hd
  have hM : xi_ml[148]? = some xm_148 := rfl
  refine gx_r hM hZ 2 (B := (2, [some (.ref 45), some (.int (Int32.ofInt x1)), none], [.ref 45, .ref 45], zw X s)) rfl ?_
  refine gi_call hM (s := s) (hj := 0) hZ rfl rfl (by omega) h ?_
  intro v1 s1 h
  refine gi_call hM (s := s1) (hj := 0) hZ rfl rfl (by omega) h ?_
  intro v2 s2 h
  refine gi_if1 hM hZ (fun x => decide (x = 0)) (p := v2 = 0) rfl rfl (zd_eq h.1) ?_ ?_
  · intro hp
    replace h := h.2.1 hp
    exact gx_fg [true, true, false] (h hZ d hd)
  · intro hp
    replace h := h.2.2 hp
    refine gx_r hM hZ 1 (B := (12, [some (.ref 45), some (.int (Int32.ofInt x1)), none], [.ref 45], zw X s2)) rfl ?_
    refine gi_call hM (s := s2) (hj := 2) hZ rfl rfl (by omega) h ?_
    intro _ s3 h
    exact gx_fg [true, true, false] (h hZ d hd)
theorem w_148_15_i {X : zX} {x1 : Int} {s : zS} {Q : Int → zS → Prop} (h : (w_149 X s (fun v1 s1 => ((-2147483648 ≤ v1 ∧ v1 ≤ 2147483647) ∧ (¬ v1 = 0 → w_148_30 X x1 0 s1 Q) ∧ (¬ ¬ v1 = 0 → (∀ s2 : zS, s2 = zu s1 45 39 3 → Q 0 s2)))))) : w_148_15 X x1 s Q := by
  intro hZ d hd
  have hM : xi_ml[148]? = some xm_148 := rfl
  refine gx_r hM hZ 1 (B := (16, [some (.ref 45), some (.int (Int32.ofInt x1)), none], [.ref 45], zw X s)) rfl ?_
  refine gi_call hM (s := s) (hj := 0) hZ rfl rfl (by omega) h ?_
  intro v1 s1 h
  refine gi_if1 hM hZ (fun x => decide (¬ x = 0)) (p := ¬ v1 = 0) rfl rfl (zd_ne h.1) ?_ ?_
  · intro hp
    replace h := h.2.1 hp
    refine gx_r hM hZ 2 (B := (30, [some (.ref 45), some (.int (Int32.ofInt x1)), some (.int (Int32.ofInt 0))], [], zw X s1)) rfl ?_
    exact gx_fg [true, true, true] (h hZ d hd)
  · intro hp
    replace h := h.2.2 hp
    refine gx_r hM hZ 2 (B := (24, [some (.ref 45), some (.int (Int32.ofInt x1)), none], [.int (Int32.ofInt 3), .ref 45], zw X s1)) rfl ?_
    obtain ⟨s2, e2⟩ : ∃ q : zS, q = zu s1 45 39 3 := ⟨_, rfl⟩
    refine gj_put hM hZ rfl rfl rfl (Nat.le_of_ble_eq_true rfl) rfl rfl zq_45_39 e2 ?_
    replace h := h _ e2
    exact ⟨_, xi_To.rf _ _ _ _, 0, s2, rfl, h⟩
theorem w_148_30_i {X : zX} {x1 x2 : Int} {s : zS} {Q : Int → zS → Prop} (h : (0 ≤ x2 ∧ x2 < 200) ∧ ((-2147483648 ≤ (s 74 x2) ∧ (s 74 x2) ≤ 2147483647) ∧ ((s 74 x2) = 0 → (0 ≤ x2 ∧ x2 < 200) ∧ (∀ s1 : zS, s1 = zu s 74 x2 1 → (∀ s2 : zS, s2 = zu s1 45 48 ((s1 45 48) + 1) → (0 ≤ x2 ∧ x2 < 200) ∧ (∀ s3 : zS, s3 = zu s2 75 x2 x1 → (w_144 X s3 (fun v4 s4 => (0 ≤ x2 ∧ x2 < 200) ∧ (∀ s5 : zS, s5 = zu s4 77 x2 v4 → (w_144 X s5 (fun v6 s6 => (0 ≤ x2 ∧ x2 < 200) ∧ (∀ s7 : zS, s7 = zu s6 76 x2 v6 → (w_145 X x2 s7 (fun _ s8 => Q 0 s8)))))))))))) ∧ (¬ (s 74 x2) = 0 → w_148_30 X x1 (x2 + 1) s Q))) : w_148_30 X x1 x2 s Q := by
  intro hZ d hd
  have hM : xi_ml[148]? = some xm_148 := rfl
  refine gx_r hM hZ 3 (B := (35, [some (.ref 45), some (.int (Int32.ofInt x1)), some (.int (Int32.ofInt x2))], [.int (Int32.ofInt x2), .ref 74], zw X s)) rfl ?_
  refine gi_zald hM hZ (s := s) (len := 200) rfl rfl (Nat.le_of_ble_eq_true rfl) h.1 ?_
  replace h := h.2
  refine gi_if1 hM hZ (fun x => decide (x = 0)) (p := (s 74 x2) = 0) rfl rfl (zd_eq h.1) ?_ ?_
  · intro hp
    replace h := h.2.1 hp
    refine gx_r hM hZ 4 (B := (51, [some (.ref 45), some (.int (Int32.ofInt x1)), some (.int (Int32.ofInt x2))], [.int (Int32.ofInt 1), .int (Int32.ofInt x2), .ref 74], zw X s)) rfl ?_
    obtain ⟨s1, e1⟩ : ∃ q : zS, q = zu s 74 x2 1 := ⟨_, rfl⟩
    refine gj_zast hM hZ (len := 200) rfl rfl (Nat.le_of_ble_eq_true rfl) zp_74 h.1 (.inr rfl) e1 ?_
    replace h := h.2 _ e1
    refine gx_r hM hZ 4 (B := (58, [some (.ref 45), some (.int (Int32.ofInt x1)), some (.int (Int32.ofInt x2))], [.int (Int32.ofInt 1), .int (Int32.ofInt (s1 45 48)), .ref 45], zw X s1)) rfl ?_
    refine gi_add hM hZ rfl ?_
    obtain ⟨s2, e2⟩ : ∃ q : zS, q = zu s1 45 48 ((s1 45 48) + 1) := ⟨_, rfl⟩
    refine gj_put hM hZ rfl rfl rfl (Nat.le_of_ble_eq_true rfl) rfl rfl zq_45_48 e2 ?_
    replace h := h _ e2
    refine gx_r hM hZ 4 (B := (68, [some (.ref 45), some (.int (Int32.ofInt x1)), some (.int (Int32.ofInt x2))], [.int (Int32.ofInt x1), .int (Int32.ofInt x2), .ref 75], zw X s2)) rfl ?_
    obtain ⟨s3, e3⟩ : ∃ q : zS, q = zu s2 75 x2 x1 := ⟨_, rfl⟩
    refine gj_iast hM hZ (len := 200) rfl rfl (Nat.le_of_ble_eq_true rfl) zp_75 h.1 e3 ?_
    replace h := h.2 _ e3
    refine gx_r hM hZ 4 (B := (75, [some (.ref 45), some (.int (Int32.ofInt x1)), some (.int (Int32.ofInt x2))], [.ref 45, .int (Int32.ofInt x2), .ref 77], zw X s3)) rfl ?_
    refine gi_call hM (s := s3) (hj := 0) hZ rfl rfl (by omega) h ?_
    intro v4 s4 h
    obtain ⟨s5, e5⟩ : ∃ q : zS, q = zu s4 77 x2 v4 := ⟨_, rfl⟩
    refine gj_iast hM hZ (len := 200) rfl rfl (Nat.le_of_ble_eq_true rfl) zp_77 h.1 e5 ?_
    replace h := h.2 _ e5
    refine gx_r hM hZ 4 (B := (85, [some (.ref 45), some (.int (Int32.ofInt x1)), some (.int (Int32.ofInt x2))], [.ref 45, .int (Int32.ofInt x2), .ref 76], zw X s5)) rfl ?_
    refine gi_call hM (s := s5) (hj := 0) hZ rfl rfl (by omega) h ?_
    intro v6 s6 h
    obtain ⟨s7, e7⟩ : ∃ q : zS, q = zu s6 76 x2 v6 := ⟨_, rfl⟩
    refine gj_iast hM hZ (len := 200) rfl rfl (Nat.le_of_ble_eq_true rfl) zp_76 h.1 e7 ?_
    replace h := h.2 _ e7
    refine gx_r hM hZ 2 (B := (91, [some (.ref 45), some (.int (Int32.ofInt x1)), some (.int (Int32.ofInt x2))], [.int (Int32.ofInt x2), .ref 45], zw X s7)) rfl ?_
    refine gi_call hM (s := s7) (hj := 0) hZ rfl rfl (by omega) h ?_
    intro _ s8 h
    exact ⟨_, xi_To.rf _ _ _ _, 0, s8, rfl, h⟩
  · intro hp
    replace h := h.2.2 hp
    refine gi_inc hM hZ (x := x2) (m := 1) rfl rfl ?_
    refine gx_r hM hZ 0 (B := (42, [some (.ref 45), some (.int (Int32.ofInt x1)), some (.int (Int32.ofInt (x2 + 1)))], [], zw X s)) rfl ?_
    refine gx_r hM hZ 1 (B := (30, [some (.ref 45), some (.int (Int32.ofInt x1)), some (.int (Int32.ofInt (x2 + 1)))], [], zw X s)) rfl ?_
    exact gx_fg [true, true, true] (h hZ d hd)
-- RootLoom.node
def w_4 (X : zX) (x1 x2 x3 x4 : Int) (s : zS) (Q : Int → zS → Prop) : Prop := wW X 4 xm_4 4 (0, [some (.ref 2), some (.int (Int32.ofInt x1)), some (.int (Int32.ofInt x2)), some (.int (Int32.ofInt x3)), some (.int (Int32.ofInt x4))], [], zw X s) Q
theorem w_4_i {X : zX} {x1 x2 x3 x4 : Int} {s : zS} {Q : Int → zS → Prop} (h : (w_23 X x1 x2 x3 x4 s (fun v1 s1 => Q v1 s1))) : w_4 X x1 x2 x3 x4 s Q := by
  intro hZ d hd
  have hM : xi_ml[4]? = some xm_4 := rfl
  refine gx_r hM hZ 6 (B := (9, [some (.ref 2), some (.int (Int32.ofInt x1)), some (.int (Int32.ofInt x2)), some (.int (Int32.ofInt x3)), some (.int (Int32.ofInt x4))], [.int (Int32.ofInt x4), .int (Int32.ofInt x3), .int (Int32.ofInt x2), .int (Int32.ofInt x1), .ref 3], zw X s)) rfl ?_
  refine gi_call hM (s := s) (hj := 3) hZ rfl rfl (by omega) h ?_
  intro v1 s1 h
  exact ⟨_, xi_To.rf _ _ _ _, v1, s1, rfl, h⟩
-- RootLoom$Weaver.weaveFunction
def w_46 (X : zX) (x1 : Int) (s : zS) (Q : Int → zS → Prop) : Prop := wW X 46 xm_46 4 (0, [some (.ref 22), some (.int (Int32.ofInt x1)), none, none], [], zw X s) Q
def w_46_18 (X : zX) (x1 x2 : Int) (s : zS) (Q : Int → zS → Prop) : Prop := wW X 46 xm_46 4 (18, [some (.ref 22), some (.int (Int32.ofInt x1)), some (.int (Int32.ofInt x2)), none], [], zw X s) Q
def w_46_42 (X : zX) (x1 x2 t0 : Int) (s : zS) (Q : Int → zS → Prop) : Prop := wW X 46 xm_46 4 (42, [some (.ref 22), some (.int (Int32.ofInt x1)), some (.int (Int32.ofInt x2)), none], [.int (Int32.ofInt t0)], zw X s) Q
def w_46_65 (X : zX) (x1 x2 t1 t2 : Int) (s : zS) (Q : Int → zS → Prop) : Prop := wW X 46 xm_46 4 (65, [some (.ref 22), some (.int (Int32.ofInt x1)), some (.int (Int32.ofInt x2)), none], [.int (Int32.ofInt t2), .int (Int32.ofInt t1), .ref 28], zw X s) Q
def w_46_102 (X : zX) (x1 x2 : Int) (s : zS) (Q : Int → zS → Prop) : Prop := wW X 46 xm_46 4 (102, [some (.ref 22), some (.int (Int32.ofInt x1)), some (.int (Int32.ofInt x2)), none], [], zw X s) Q
def w_46_169 (X : zX) (x1 x2 : Int) (s : zS) (Q : Int → zS → Prop) : Prop := wW X 46 xm_46 4 (169, [some (.ref 22), some (.int (Int32.ofInt x1)), some (.int (Int32.ofInt x2)), none], [], zw X s) Q
def w_46_175 (X : zX) (x1 : Int) (s : zS) (Q : Int → zS → Prop) : Prop := wW X 46 xm_46 4 (175, [some (.ref 22), some (.int (Int32.ofInt x1)), none, none], [], zw X s) Q
def w_46_198 (X : zX) (s : zS) (Q : Int → zS → Prop) : Prop := wW X 46 xm_46 4 (198, [none, none, none, none], [], zw X s) Q
theorem w_46_i {X : zX} {x1 : Int} {s : zS} {Q : Int → zS → Prop} (h : (0 ≤ x1 ∧ x1 < 6) ∧ (∀ s1 : zS, s1 = zu s 19 x1 (s 14 1) → w_46_18 X x1 0 s1 Q)) : w_46 X x1 s Q := by
  intro hZ d hd
  have hM : xi_ml[46]? = some xm_46 := rfl
  refine gx_r hM hZ 7 (B := (15, [some (.ref 22), some (.int (Int32.ofInt x1)), none, none], [.int (Int32.ofInt (s 14 1)), .int (Int32.ofInt x1), .ref 19], zw X s)) rfl ?_
  obtain ⟨s1, e1⟩ : ∃ q : zS, q = zu s 19 x1 (s 14 1) := ⟨_, rfl⟩
  refine gj_iast hM hZ (len := 6) rfl rfl (Nat.le_of_ble_eq_true rfl) zp_19 h.1 e1 ?_
  replace h := h.2 _ e1
  refine gx_r hM hZ 2 (B := (18, [some (.ref 22), some (.int (Int32.ofInt x1)), some (.int (Int32.ofInt 0)), none], [], zw X s1)) rfl ?_
  exact gx_fg [true, true, true, false] (h hZ d hd)
theorem w_46_18_i {X : zX} {x1 x2 : Int} {s : zS} {Q : Int → zS → Prop} (h : ((-2147483648 ≤ x2 ∧ x2 ≤ 2147483647) ∧ (8 ≤ x2 → (∀ s1 : zS, s1 = zu s 22 8 0 → (∀ s2 : zS, s2 = zu s1 22 6 0 → (∀ s3 : zS, s3 = zu s2 22 10 1 → (0 ≤ x1 ∧ x1 < 6) ∧ (w_47 X (s3 9 x1) s3 (fun _ s4 => w_46_102 X x1 0 s4 Q)))))) ∧ (¬ 8 ≤ x2 → (0 ≤ x1 ∧ x1 < 6) ∧ (((-2147483648 ≤ x2 ∧ x2 ≤ 2147483647) ∧ (-2147483648 ≤ (s 7 x1) ∧ (s 7 x1) ≤ 2147483647)) ∧ ((s 7 x1) ≤ x2 → w_46_42 X x1 x2 0 s Q) ∧ (¬ (s 7 x1) ≤ x2 → w_46_42 X x1 x2 1 s Q))))) : w_46_18 X x1 x2 s Q := by
  intro hZ d hd
  have hM : xi_ml[46]? = some xm_46 := rfl
  refine gx_r hM hZ 1 (B := (19, [some (.ref 22), some (.int (Int32.ofInt x1)), some (.int (Int32.ofInt x2)), none], [.int (Int32.ofInt x2)], zw X s)) rfl ?_
  refine gi_bip hM hZ rfl rfl ?_
  refine gi_if2 hM hZ (fun x y => decide (y ≤ x)) (p := 8 ≤ x2) rfl rfl (zc_ge h.1 (by decide)) ?_ ?_
  · intro hp
    replace h := h.2.1 hp
    refine gx_r hM hZ 2 (B := (74, [some (.ref 22), some (.int (Int32.ofInt x1)), some (.int (Int32.ofInt x2)), none], [.int (Int32.ofInt 0), .ref 22], zw X s)) rfl ?_
    obtain ⟨s1, e1⟩ : ∃ q : zS, q = zu s 22 8 0 := ⟨_, rfl⟩
    refine gj_put hM hZ rfl rfl rfl (Nat.le_of_ble_eq_true rfl) rfl rfl zq_22_8 e1 ?_
    replace h := h _ e1
    refine gx_r hM hZ 2 (B := (79, [some (.ref 22), some (.int (Int32.ofInt x1)), some (.int (Int32.ofInt x2)), none], [.int (Int32.ofInt 0), .ref 22], zw X s1)) rfl ?_
    obtain ⟨s2, e2⟩ : ∃ q : zS, q = zu s1 22 6 0 := ⟨_, rfl⟩
    refine gj_put hM hZ rfl rfl rfl (Nat.le_of_ble_eq_true rfl) rfl rfl zq_22_6 e2 ?_
    replace h := h _ e2
    refine gx_r hM hZ 2 (B := (84, [some (.ref 22), some (.int (Int32.ofInt x1)), some (.int (Int32.ofInt x2)), none], [.int (Int32.ofInt 1), .ref 22], zw X s2)) rfl ?_
    obtain ⟨s3, e3⟩ : ∃ q : zS, q = zu s2 22 10 1 := ⟨_, rfl⟩
    refine gj_put hM hZ rfl rfl rfl (Nat.le_of_ble_eq_true rfl) rfl rfl zq_22_10 e3 ?_
    replace h := h _ e3
    refine gx_r hM hZ 5 (B := (96, [some (.ref 22), some (.int (Int32.ofInt x1)), some (.int (Int32.ofInt x2)), none], [.int (Int32.ofInt x1), .ref 9, .ref 22], zw X s3)) rfl ?_
    refine gi_iald hM hZ (s := s3) (len := 6) rfl rfl (Nat.le_of_ble_eq_true rfl) h.1 ?_
    replace h := h.2
    refine gi_call hM (s := s3) (hj := 0) hZ rfl rfl (by omega) h ?_
    intro _ s4 h
    refine gx_r hM hZ 2 (B := (102, [some (.ref 22), some (.int (Int32.ofInt x1)), some (.int (Int32.ofInt 0)), none], [], zw X s4)) rfl ?_
    exact gx_fg [true, true, true, false] (h hZ d hd)
  · intro hp
    replace h := h.2.2 hp
    refine gx_r hM hZ 5 (B := (33, [some (.ref 22), some (.int (Int32.ofInt x1)), some (.int (Int32.ofInt x2)), none], [.int (Int32.ofInt x1), .ref 7, .int (Int32.ofInt x2)], zw X s)) rfl ?_
    refine gi_iald hM hZ (s := s) (len := 6) rfl rfl (Nat.le_of_ble_eq_true rfl) h.1 ?_
    replace h := h.2
    refine gi_if2 hM hZ (fun x y => decide (y ≤ x)) (p := (s 7 x1) ≤ x2) rfl rfl (zc_ge h.1.1 h.1.2) ?_ ?_
    · intro hp
      replace h := h.2.1 hp
      refine gx_r hM hZ 1 (B := (42, [some (.ref 22), some (.int (Int32.ofInt x1)), some (.int (Int32.ofInt x2)), none], [.int (Int32.ofInt 0)], zw X s)) rfl ?_
      exact gx_fg [true, true, true, false] (h hZ d hd)
    · intro hp
      replace h := h.2.2 hp
      refine gx_r hM hZ 2 (B := (42, [some (.ref 22), some (.int (Int32.ofInt x1)), some (.int (Int32.ofInt x2)), none], [.int (Int32.ofInt 1)], zw X s)) rfl ?_
      exact gx_fg [true, true, true, false] (h hZ d hd)
theorem w_46_42_i {X : zX} {x1 x2 t0 : Int} {s : zS} {Q : Int → zS → Prop} (h : ((-2147483648 ≤ t0 ∧ t0 ≤ 2147483647) ∧ (t0 = 0 → w_46_65 X x1 x2 x2 (-1) s Q) ∧ (¬ t0 = 0 → (w_34 X x1 x2 s (fun v1 s1 => w_46_65 X x1 x2 x2 v1 s1 Q))))) : w_46_42 X x1 x2 t0 s Q := by
  intro hZ d hd
  have hM : xi_ml[46]? = some xm_46 := rfl
  refine gx_r hM hZ 5 (B := (49, [some (.ref 22), some (.int (Int32.ofInt x1)), some (.int (Int32.ofInt x2)), some (.int (Int32.ofInt t0))], [.int (Int32.ofInt t0), .int (Int32.ofInt x2), .ref 28], zw X s)) rfl ?_
  refine gi_if1 hM hZ (fun x => decide (x = 0)) (p := t0 = 0) rfl rfl (zd_eq h.1) ?_ ?_
  · intro hp
    replace h := h.2.1 hp
    refine gx_r hM hZ 1 (B := (65, [some (.ref 22), some (.int (Int32.ofInt x1)), some (.int (Int32.ofInt x2)), some (.int (Int32.ofInt t0))], [.int (Int32.ofInt (-1)), .int (Int32.ofInt x2), .ref 28], zw X s)) rfl ?_
    exact gx_fg [true, true, true, false] (h hZ d hd)
  · intro hp
    replace h := h.2.2 hp
    refine gx_r hM hZ 4 (B := (58, [some (.ref 22), some (.int (Int32.ofInt x1)), some (.int (Int32.ofInt x2)), some (.int (Int32.ofInt t0))], [.int (Int32.ofInt x2), .int (Int32.ofInt x1), .ref 3, .int (Int32.ofInt x2), .ref 28], zw X s)) rfl ?_
    refine gi_call hM (s := s) (hj := 0) hZ rfl rfl (by omega) h ?_
    intro v1 s1 h
    refine gx_r hM hZ 1 (B := (65, [some (.ref 22), some (.int (Int32.ofInt x1)), some (.int (Int32.ofInt x2)), some (.int (Int32.ofInt t0))], [.int (Int32.ofInt v1), .int (Int32.ofInt x2), .ref 28], zw X s1)) rfl ?_
    exact gx_fg [true, true, true, false] (h hZ d hd)
theorem w_46_65_i {X : zX} {x1 x2 t1 t2 : Int} {s : zS} {Q : Int → zS → Prop} (h : (0 ≤ t1 ∧ t1 < 8) ∧ (∀ s1 : zS, s1 = zu s 28 t1 t2 → w_46_18 X x1 (x2 + 1) s1 Q)) : w_46_65 X x1 x2 t1 t2 s Q := by
  intro hZ d hd
  have hM : xi_ml[46]? = some xm_46 := rfl
  obtain ⟨s1, e1⟩ : ∃ q : zS, q = zu s 28 t1 t2 := ⟨_, rfl⟩
  refine gj_iast hM hZ (len := 8) rfl rfl (Nat.le_of_ble_eq_true rfl) zp_28 h.1 e1 ?_
  replace h := h.2 _ e1
  refine gi_inc hM hZ (x := x2) (m := 1) rfl rfl ?_
  refine gx_r hM hZ 0 (B := (69, [some (.ref 22), some (.int (Int32.ofInt x1)), some (.int (Int32.ofInt (x2 + 1))), none], [], zw X s1)) rfl ?_
  refine gx_r hM hZ 1 (B := (18, [some (.ref 22), some (.int (Int32.ofInt x1)), some (.int (Int32.ofInt (x2 + 1))), none], [], zw X s1)) rfl ?_
  exact gx_fg [true, true, true, false] (h hZ d hd)
theorem w_46_102_i {X : zX} {x1 x2 : Int} {s : zS} {Q : Int → zS → Prop} (h : ((-2147483648 ≤ x2 ∧ x2 ≤ 2147483647) ∧ (10000 ≤ x2 → w_46_175 X x1 s Q) ∧ (¬ 10000 ≤ x2 → ((-2147483648 ≤ (s 22 6) ∧ (s 22 6) ≤ 2147483647) ∧ ((s 22 6) ≤ 0 → w_46_175 X x1 s Q) ∧ (¬ (s 22 6) ≤ 0 → ((-2147483648 ≤ (s 22 10) ∧ (s 22 10) ≤ 2147483647) ∧ ((s 22 10) = 0 → w_46_175 X x1 s Q) ∧ (¬ (s 22 10) = 0 → (0 ≤ ((s 22 6) - 1) ∧ ((s 22 6) - 1) < 150) ∧ ((-2147483648 ≤ (s 24 ((s 22 6) - 1)) ∧ (s 24 ((s 22 6) - 1)) ≤ 2147483647) ∧ (¬ (s 24 ((s 22 6) - 1)) = 3 → (w_61 X ((s 22 6) - 1) s (fun _ s1 => w_46_169 X x1 x2 s1 Q))) ∧ (¬ ¬ (s 24 ((s 22 6) - 1)) = 3 → (∀ s2 : zS, s2 = zu s 22 6 ((s 22 6) - 1) → (0 ≤ ((s 22 6) - 1) ∧ ((s 22 6) - 1) < 150) ∧ (w_48 X (s2 23 ((s 22 6) - 1)) ((s 22 6) - 1) s2 (fun _ s3 => w_46_169 X x1 x2 s3 Q)))))))))))) : w_46_102 X x1 x2 s Q := by
  intro hZ d hd
  have hM : xi_ml[46]? = some xm_46 := rfl
  refine gx_r hM hZ 1 (B := (103, [some (.ref 22), some (.int (Int32.ofInt x1)), some (.int (Int32.ofInt x2)), none], [.int (Int32.ofInt x2)], zw X s)) rfl ?_
  refine gi_sip hM hZ rfl rfl ?_
  refine gi_if2 hM hZ (fun x y => decide (y ≤ x)) (p := 10000 ≤ x2) rfl rfl (zc_ge h.1 (by decide)) ?_ ?_
  · intro hp
    replace h := h.2.1 hp
    exact gx_fg [true, true, false, false] (h hZ d hd)
  · intro hp
    replace h := h.2.2 hp
    refine gx_r hM hZ 2 (B := (113, [some (.ref 22), some (.int (Int32.ofInt x1)), some (.int (Int32.ofInt x2)), none], [.int (Int32.ofInt (s 22 6))], zw X s)) rfl ?_
    refine gi_if1 hM hZ (fun x => decide (x ≤ 0)) (p := (s 22 6) ≤ 0) rfl rfl (zd_le h.1) ?_ ?_
    · intro hp
      replace h := h.2.1 hp
      exact gx_fg [true, true, false, false] (h hZ d hd)
    · intro hp
      replace h := h.2.2 hp
      refine gx_r hM hZ 2 (B := (120, [some (.ref 22), some (.int (Int32.ofInt x1)), some (.int (Int32.ofInt x2)), none], [.int (Int32.ofInt (s 22 10))], zw X s)) rfl ?_
      refine gi_if1 hM hZ (fun x => decide (x = 0)) (p := (s 22 10) = 0) rfl rfl (zd_eq h.1) ?_ ?_
      · intro hp
        replace h := h.2.1 hp
        exact gx_fg [true, true, false, false] (h hZ d hd)
      · intro hp
        replace h := h.2.2 hp
        refine gx_r hM hZ 3 (B := (128, [some (.ref 22), some (.int (Int32.ofInt x1)), some (.int (Int32.ofInt x2)), none], [.int (Int32.ofInt 1), .int (Int32.ofInt (s 22 6))], zw X s)) rfl ?_
        refine gi_sub hM hZ rfl ?_
        refine gx_r hM hZ 4 (B := (135, [some (.ref 22), some (.int (Int32.ofInt x1)), some (.int (Int32.ofInt x2)), some (.int (Int32.ofInt ((s 22 6) - 1)))], [.int (Int32.ofInt ((s 22 6) - 1)), .ref 24], zw X s)) rfl ?_
        refine gi_iald hM hZ (s := s) (len := 150) rfl rfl (Nat.le_of_ble_eq_true rfl) h.1 ?_
        replace h := h.2
        refine gx_r hM hZ 1 (B := (137, [some (.ref 22), some (.int (Int32.ofInt x1)), some (.int (Int32.ofInt x2)), some (.int (Int32.ofInt ((s 22 6) - 1)))], [.int (Int32.ofInt 3), .int (Int32.ofInt (s 24 ((s 22 6) - 1)))], zw X s)) rfl ?_
        refine gi_if2 hM hZ (fun x y => decide (¬ x = y)) (p := ¬ (s 24 ((s 22 6) - 1)) = 3) rfl rfl (zc_ne h.1 (by decide)) ?_ ?_
        · intro hp
          replace h := h.2.1 hp
          refine gx_r hM hZ 2 (B := (166, [some (.ref 22), some (.int (Int32.ofInt x1)), some (.int (Int32.ofInt x2)), some (.int (Int32.ofInt ((s 22 6) - 1)))], [.int (Int32.ofInt ((s 22 6) - 1)), .ref 22], zw X s)) rfl ?_
          refine gi_call hM (s := s) (hj := 3) hZ rfl rfl (by omega) h ?_
          intro _ s1 h
          exact gx_fg [true, true, true, false] (h hZ d hd)
        · intro hp
          replace h := h.2.2 hp
          refine gx_r hM hZ 4 (B := (146, [some (.ref 22), some (.int (Int32.ofInt x1)), some (.int (Int32.ofInt x2)), some (.int (Int32.ofInt ((s 22 6) - 1)))], [.int (Int32.ofInt 1), .int (Int32.ofInt (s 22 6)), .ref 22], zw X s)) rfl ?_
          refine gi_sub hM hZ rfl ?_
          obtain ⟨s2, e2⟩ : ∃ q : zS, q = zu s 22 6 ((s 22 6) - 1) := ⟨_, rfl⟩
          refine gj_put hM hZ rfl rfl rfl (Nat.le_of_ble_eq_true rfl) rfl rfl zq_22_6 e2 ?_
          replace h := h _ e2
          refine gx_r hM hZ 4 (B := (156, [some (.ref 22), some (.int (Int32.ofInt x1)), some (.int (Int32.ofInt x2)), some (.int (Int32.ofInt ((s 22 6) - 1)))], [.int (Int32.ofInt ((s 22 6) - 1)), .ref 23, .ref 22], zw X s2)) rfl ?_
          refine gi_iald hM hZ (s := s2) (len := 150) rfl rfl (Nat.le_of_ble_eq_true rfl) h.1 ?_
          replace h := h.2
          refine gx_r hM hZ 1 (B := (158, [some (.ref 22), some (.int (Int32.ofInt x1)), some (.int (Int32.ofInt x2)), some (.int (Int32.ofInt ((s 22 6) - 1)))], [.int (Int32.ofInt ((s 22 6) - 1)), .int (Int32.ofInt (s2 23 ((s 22 6) - 1))), .ref 22], zw X s2)) rfl ?_
          refine gi_call hM (s := s2) (hj := 3) hZ rfl rfl (by omega) h ?_
          intro _ s3 h
          refine gx_r hM hZ 1 (B := (169, [some (.ref 22), some (.int (Int32.ofInt x1)), some (.int (Int32.ofInt x2)), some (.int (Int32.ofInt ((s 22 6) - 1)))], [], zw X s3)) rfl ?_
          exact gx_fg [true, true, true, false] (h hZ d hd)
theorem w_46_169_i {X : zX} {x1 x2 : Int} {s : zS} {Q : Int → zS → Prop} (h : w_46_102 X x1 (x2 + 1) s Q) : w_46_169 X x1 x2 s Q := by
  intro hZ d hd
  have hM : xi_ml[46]? = some xm_46 := rfl
  refine gi_inc hM hZ (x := x2) (m := 1) rfl rfl ?_
  refine gx_r hM hZ 0 (B := (172, [some (.ref 22), some (.int (Int32.ofInt x1)), some (.int (Int32.ofInt (x2 + 1))), none], [], zw X s)) rfl ?_
  refine gx_r hM hZ 1 (B := (102, [some (.ref 22), some (.int (Int32.ofInt x1)), some (.int (Int32.ofInt (x2 + 1))), none], [], zw X s)) rfl ?_
  exact gx_fg [true, true, true, false] (h hZ d hd)
theorem w_46_175_i {X : zX} {x1 : Int} {s : zS} {Q : Int → zS → Prop} (h : ((-2147483648 ≤ (s 22 10) ∧ (s 22 10) ≤ 2147483647) ∧ ((s 22 10) = 0 → w_46_198 X s Q) ∧ (¬ (s 22 10) = 0 → (w_54 X s (fun v1 s1 => (0 ≤ x1 ∧ x1 < 6) ∧ (((-2147483648 ≤ v1 ∧ v1 ≤ 2147483647) ∧ (-2147483648 ≤ (s1 6 x1) ∧ (s1 6 x1) ≤ 2147483647)) ∧ (v1 = (s1 6 x1) → (w_39 X 14 0 s1 (fun v2 s2 => Q 1 s2))) ∧ (¬ v1 = (s1 6 x1) → w_46_198 X s1 Q))))))) : w_46_175 X x1 s Q := by
  intro hZ d hd
  have hM : xi_ml[46]? = some xm_46 := rfl
  refine gx_r hM hZ 2 (B := (179, [some (.ref 22), some (.int (Int32.ofInt x1)), none, none], [.int (Int32.ofInt (s 22 10))], zw X s)) rfl ?_
  refine gi_if1 hM hZ (fun x => decide (x = 0)) (p := (s 22 10) = 0) rfl rfl (zd_eq h.1) ?_ ?_
  · intro hp
    replace h := h.2.1 hp
    exact gx_fg [false, false, false, false] (h hZ d hd)
  · intro hp
    replace h := h.2.2 hp
    refine gx_r hM hZ 1 (B := (183, [some (.ref 22), some (.int (Int32.ofInt x1)), none, none], [.ref 22], zw X s)) rfl ?_
    refine gi_call hM (s := s) (hj := 0) hZ rfl rfl (by omega) h ?_
    intro v1 s1 h
    refine gx_r hM hZ 4 (B := (194, [some (.ref 22), some (.int (Int32.ofInt x1)), none, none], [.int (Int32.ofInt x1), .ref 6, .int (Int32.ofInt v1)], zw X s1)) rfl ?_
    refine gi_iald hM hZ (s := s1) (len := 6) rfl rfl (Nat.le_of_ble_eq_true rfl) h.1 ?_
    replace h := h.2
    refine gi_if2 hM hZ (fun x y => decide (x = y)) (p := v1 = (s1 6 x1)) rfl rfl (zc_eq h.1.1 h.1.2) ?_ ?_
    · intro hp
      replace h := h.2.1 hp
      refine gx_r hM hZ 2 (B := (204, [some (.ref 22), some (.int (Int32.ofInt x1)), none, none], [.ref 14], zw X s1)) rfl ?_
      refine gi_bip hM hZ rfl rfl ?_
      refine gx_r hM hZ 1 (B := (207, [some (.ref 22), some (.int (Int32.ofInt x1)), none, none], [.int (Int32.ofInt 0), .int (Int32.ofInt 14), .ref 14], zw X s1)) rfl ?_
      refine gi_call hM (s := s1) (hj := 0) hZ rfl rfl (by omega) h ?_
      intro v2 s2 h
      refine gx_r hM hZ 2 (B := (212, [some (.ref 22), some (.int (Int32.ofInt x1)), none, none], [.int (Int32.ofInt 1)], zw X s2)) rfl ?_
      exact ⟨_, xi_To.rf _ _ _ _, 1, s2, rfl, h⟩
    · intro hp
      replace h := h.2.2 hp
      exact gx_fg [false, false, false, false] (h hZ d hd)
theorem w_46_198_i {X : zX} {s : zS} {Q : Int → zS → Prop} (h : Q 0 s) : w_46_198 X s Q := by
  intro hZ d hd
  have hM : xi_ml[46]? = some xm_46 := rfl
  refine gx_r hM hZ 1 (B := (199, [none, none, none, none], [.int (Int32.ofInt 0)], zw X s)) rfl ?_
  exact ⟨_, xi_To.rf _ _ _ _, 0, s, rfl, h⟩
-- RootLoom$Machine.doNext
def w_69 (X : zX) (s : zS) (Q : Int → zS → Prop) : Prop := wW X 69 xm_69 4 (0, [some (.ref 31), none, none], [], zw X s) Q
def w_69_289 (X : zX) (t1 : Int) (s : zS) (Q : Int → zS → Prop) : Prop := wW X 69 xm_69 4 (289, [none, none, none], [.int (Int32.ofInt t1), .ref 39], zw X s) Q
def w_69_314 (X : zX) (t1 : Int) (s : zS) (Q : Int → zS → Prop) : Prop := wW X 69 xm_69 4 (314, [none, none, none], [.int (Int32.ofInt t1), .ref 31], zw X s) Q
theorem w_69_i {X : zX} {s : zS} {Q : Int → zS → Prop} (h : (0 ≤ (s 31 6) ∧ (s 31 6) < 400) ∧ (∀ s1 : zS, s1 = zu s 31 6 ((s 31 6) + 1) → (0 ≤ (s 31 6) ∧ (s 31 6) < 400) ∧ ((-2147483648 ≤ (s1 15 (s 31 6)) ∧ (s1 15 (s 31 6)) ≤ 2147483647) ∧ (((s1 15 (s 31 6)) < 0 ∨ 18 < (s1 15 (s 31 6))) → Q 0 s1) ∧ (((s1 15 (s 31 6)) = 0) → (w_93 X (s 16 (s 31 6)) s1 (fun _ s2 => Q 0 s2))) ∧ (((s1 15 (s 31 6)) = 1) → (w_93 X 0 s1 (fun _ s3 => Q 0 s3))) ∧ (((s1 15 (s 31 6)) = 2) → (w_94 X (s 16 (s 31 6)) s1 (fun v4 s4 => (w_93 X v4 s4 (fun _ s5 => Q 0 s5))))) ∧ (((s1 15 (s 31 6)) = 3 ∨ (s1 15 (s 31 6)) = 4 ∨ (s1 15 (s 31 6)) = 5) → (0 ≤ (s 31 6) ∧ (s 31 6) < 400) ∧ (w_70 X (s1 15 (s 31 6)) s1 (fun _ s6 => Q 0 s6))) ∧ (((s1 15 (s 31 6)) = 6) → (w_71 X (s 31 6) (s 16 (s 31 6)) s1 (fun _ s9 => Q 0 s9))) ∧ (((s1 15 (s 31 6)) = 7) → (w_76_33 X s1 (fun _ s10 => Q 0 s10))) ∧ (((s1 15 (s 31 6)) = 8) → (w_76_34 X s1 (fun _ s11 => Q 0 s11))) ∧ (((s1 15 (s 31 6)) = 9) → (w_95 X s1 (fun v12 s12 => ((-2147483648 ≤ v12 ∧ v12 ≤ 2147483647) ∧ (¬ v12 = 0 → w_69_289 X 0 s12 Q) ∧ (¬ ¬ v12 = 0 → w_69_289 X 1 s12 Q))))) ∧ (((s1 15 (s 31 6)) = 10) → (w_95 X s1 (fun v13 s13 => ((-2147483648 ≤ v13 ∧ v13 ≤ 2147483647) ∧ (¬ v13 = 0 → w_69_314 X (s13 31 6) s13 Q) ∧ (¬ ¬ v13 = 0 → w_69_314 X (s 16 (s 31 6)) s13 Q))))) ∧ (((s1 15 (s 31 6)) = 11) → (∀ s14 : zS, s14 = zu s1 31 6 (s 16 (s 31 6)) → Q 0 s14)) ∧ (((s1 15 (s 31 6)) = 12) → (w_95 X s1 (fun v15 s15 => (w_96 X (s 16 (s 31 6)) v15 s15 (fun _ s16 => Q 0 s16))))) ∧ (((s1 15 (s 31 6)) = 13) → (w_78 X (s 31 6) (s 16 (s 31 6)) s1 (fun _ s17 => Q 0 s17))) ∧ (((s1 15 (s 31 6)) = 14) → (w_79 X s1 (fun _ s18 => Q 0 s18))) ∧ (((s1 15 (s 31 6)) = 15) → (w_77_33 X s1 (fun _ s19 => Q 0 s19))) ∧ (((s1 15 (s 31 6)) = 16) → (w_77_34 X s1 (fun _ s20 => Q 0 s20))) ∧ (((s1 15 (s 31 6)) = 17) → (w_80 X s1 (fun _ s21 => Q 0 s21))) ∧ (((s1 15 (s 31 6)) = 18) → (w_95 X s1 (fun v22 s22 => Q 0 s22)))))) : w_69 X s Q := by
  intro hZ d hd
  have hM : xi_ml[69]? = some xm_69 := rfl
  refine gx_r hM hZ 7 (B := (13, [some (.ref 31), some (.int (Int32.ofInt (s 31 6))), none], [.int (Int32.ofInt (s 31 6)), .ref 16], zw X s)) rfl ?_
  refine gi_iald hM hZ (s := s) (len := 400) rfl rfl (Nat.le_of_ble_eq_true rfl) h.1 ?_
  replace h := h.2
  refine gx_r hM hZ 4 (B := (18, [some (.ref 31), some (.int (Int32.ofInt (s 31 6))), some (.int (Int32.ofInt (s 16 (s 31 6))))], [.int (Int32.ofInt 1), .int (Int32.ofInt (s 31 6)), .ref 31], zw X s)) rfl ?_
  refine gi_add hM hZ rfl ?_
  obtain ⟨s1, e1⟩ : ∃ q : zS, q = zu s 31 6 ((s 31 6) + 1) := ⟨_, rfl⟩
  refine gj_put hM hZ rfl rfl rfl (Nat.le_of_ble_eq_true rfl) rfl rfl zq_31_6 e1 ?_
  replace h := h _ e1
  refine gx_r hM hZ 4 (B := (30, [some (.ref 31), some (.int (Int32.ofInt (s 31 6))), some (.int (Int32.ofInt (s 16 (s 31 6))))], [.int (Int32.ofInt (s 31 6)), .ref 15], zw X s1)) rfl ?_
  refine gi_iald hM hZ (s := s1) (len := 400) rfl rfl (Nat.le_of_ble_eq_true rfl) h.1 ?_
  replace h := h.2
  by_cases hq0 : ((s1 15 (s 31 6)) = 0)
  · refine gi_tab hM hZ (x := (s1 15 (s 31 6))) (o := 89) rfl h.1 ?_ (by decide) ?_
    · rw [hq0]; rfl
    · replace h := h.2.2.1 hq0
      refine gx_r hM hZ 3 (B := (125, [some (.ref 31), some (.int (Int32.ofInt (s 31 6))), some (.int (Int32.ofInt (s 16 (s 31 6))))], [.int (Int32.ofInt (s 16 (s 31 6))), .ref 39], zw X s1)) rfl ?_
      refine gi_call hM (s := s1) (hj := 0) hZ rfl rfl (by omega) h ?_
      intro _ s2 h
      refine gx_r hM hZ 1 (B := (351, [some (.ref 31), some (.int (Int32.ofInt (s 31 6))), some (.int (Int32.ofInt (s 16 (s 31 6))))], [], zw X s2)) rfl ?_
      exact ⟨_, xi_To.rf _ _ _ _, 0, s2, rfl, h⟩
  · by_cases hq1 : ((s1 15 (s 31 6)) = 1)
    · refine gi_tab hM hZ (x := (s1 15 (s 31 6))) (o := 100) rfl h.1 ?_ (by decide) ?_
      · rw [hq1]; rfl
      · replace h := h.2.2.2.1 hq1
        refine gx_r hM hZ 3 (B := (136, [some (.ref 31), some (.int (Int32.ofInt (s 31 6))), some (.int (Int32.ofInt (s 16 (s 31 6))))], [.int (Int32.ofInt 0), .ref 39], zw X s1)) rfl ?_
        refine gi_call hM (s := s1) (hj := 0) hZ rfl rfl (by omega) h ?_
        intro _ s3 h
        refine gx_r hM hZ 1 (B := (351, [some (.ref 31), some (.int (Int32.ofInt (s 31 6))), some (.int (Int32.ofInt (s 16 (s 31 6))))], [], zw X s3)) rfl ?_
        exact ⟨_, xi_To.rf _ _ _ _, 0, s3, rfl, h⟩
    · by_cases hq2 : ((s1 15 (s 31 6)) = 2)
      · refine gi_tab hM hZ (x := (s1 15 (s 31 6))) (o := 111) rfl h.1 ?_ (by decide) ?_
        · rw [hq2]; rfl
        · replace h := h.2.2.2.2.1 hq2
          refine gx_r hM hZ 5 (B := (151, [some (.ref 31), some (.int (Int32.ofInt (s 31 6))), some (.int (Int32.ofInt (s 16 (s 31 6))))], [.int (Int32.ofInt (s 16 (s 31 6))), .ref 39, .ref 39], zw X s1)) rfl ?_
          refine gi_call hM (s := s1) (hj := 0) hZ rfl rfl (by omega) h ?_
          intro v4 s4 h
          refine gi_call hM (s := s4) (hj := 0) hZ rfl rfl (by omega) h ?_
          intro _ s5 h
          refine gx_r hM hZ 1 (B := (351, [some (.ref 31), some (.int (Int32.ofInt (s 31 6))), some (.int (Int32.ofInt (s 16 (s 31 6))))], [], zw X s5)) rfl ?_
          exact ⟨_, xi_To.rf _ _ _ _, 0, s5, rfl, h⟩
      · by_cases hq3 : ((s1 15 (s 31 6)) = 3 ∨ (s1 15 (s 31 6)) = 4 ∨ (s1 15 (s 31 6)) = 5)
        · refine gi_tab hM hZ (x := (s1 15 (s 31 6))) (o := 158) rfl h.1 ?_ (by decide) ?_
          · rcases hq3 with e | e | e <;> (rw [e]; rfl)
          · replace h := h.2.2.2.2.2.1 hq3
            refine gx_r hM hZ 5 (B := (198, [some (.ref 31), some (.int (Int32.ofInt (s 31 6))), some (.int (Int32.ofInt (s 16 (s 31 6))))], [.int (Int32.ofInt (s 31 6)), .ref 15, .ref 31], zw X s1)) rfl ?_
            refine gi_iald hM hZ (s := s1) (len := 400) rfl rfl (Nat.le_of_ble_eq_true rfl) h.1 ?_
            replace h := h.2
            refine gi_call hM (s := s1) (hj := 1) hZ rfl rfl (by omega) h ?_
            intro _ s6 h
            refine gx_r hM hZ 1 (B := (351, [some (.ref 31), some (.int (Int32.ofInt (s 31 6))), some (.int (Int32.ofInt (s 16 (s 31 6))))], [], zw X s6)) rfl ?_
            exact ⟨_, xi_To.rf _ _ _ _, 0, s6, rfl, h⟩
        · by_cases hq4 : ((s1 15 (s 31 6)) = 6)
          · refine gi_tab hM hZ (x := (s1 15 (s 31 6))) (o := 174) rfl h.1 ?_ (by decide) ?_
            · rw [hq4]; rfl
            · replace h := h.2.2.2.2.2.2.1 hq4
              refine gx_r hM hZ 3 (B := (208, [some (.ref 31), some (.int (Int32.ofInt (s 31 6))), some (.int (Int32.ofInt (s 16 (s 31 6))))], [.int (Int32.ofInt (s 16 (s 31 6))), .int (Int32.ofInt (s 31 6)), .ref 31], zw X s1)) rfl ?_
              refine gi_call hM (s := s1) (hj := 3) hZ rfl rfl (by omega) h ?_
              intro _ s9 h
              refine gx_r hM hZ 1 (B := (351, [some (.ref 31), some (.int (Int32.ofInt (s 31 6))), some (.int (Int32.ofInt (s 16 (s 31 6))))], [], zw X s9)) rfl ?_
              exact ⟨_, xi_To.rf _ _ _ _, 0, s9, rfl, h⟩
          · by_cases hq5 : ((s1 15 (s 31 6)) = 7)
            · refine gi_tab hM hZ (x := (s1 15 (s 31 6))) (o := 183) rfl h.1 ?_ (by decide) ?_
              · rw [hq5]; rfl
              · replace h := h.2.2.2.2.2.2.2.1 hq5
                refine gx_r hM hZ 4 (B := (222, [some (.ref 31), some (.int (Int32.ofInt (s 31 6))), some (.int (Int32.ofInt (s 16 (s 31 6))))], [.ref 33, .ref 31], zw X s1)) rfl ?_
                refine gi_call hM (s := s1) (hj := 1) hZ rfl rfl (by omega) h ?_
                intro _ s10 h
                refine gx_r hM hZ 1 (B := (351, [some (.ref 31), some (.int (Int32.ofInt (s 31 6))), some (.int (Int32.ofInt (s 16 (s 31 6))))], [], zw X s10)) rfl ?_
                exact ⟨_, xi_To.rf _ _ _ _, 0, s10, rfl, h⟩
            · by_cases hq6 : ((s1 15 (s 31 6)) = 8)
              · refine gi_tab hM hZ (x := (s1 15 (s 31 6))) (o := 197) rfl h.1 ?_ (by decide) ?_
                · rw [hq6]; rfl
                · replace h := h.2.2.2.2.2.2.2.2.1 hq6
                  refine gx_r hM hZ 4 (B := (236, [some (.ref 31), some (.int (Int32.ofInt (s 31 6))), some (.int (Int32.ofInt (s 16 (s 31 6))))], [.ref 34, .ref 31], zw X s1)) rfl ?_
                  refine gi_call hM (s := s1) (hj := 1) hZ rfl rfl (by omega) h ?_
                  intro _ s11 h
                  refine gx_r hM hZ 1 (B := (351, [some (.ref 31), some (.int (Int32.ofInt (s 31 6))), some (.int (Int32.ofInt (s 16 (s 31 6))))], [], zw X s11)) rfl ?_
                  exact ⟨_, xi_To.rf _ _ _ _, 0, s11, rfl, h⟩
              · by_cases hq7 : ((s1 15 (s 31 6)) = 9)
                · refine gi_tab hM hZ (x := (s1 15 (s 31 6))) (o := 239) rfl h.1 ?_ (by decide) ?_
                  · rw [hq7]; rfl
                  · replace h := h.2.2.2.2.2.2.2.2.2.1 hq7
                    refine gx_r hM hZ 4 (B := (278, [some (.ref 31), some (.int (Int32.ofInt (s 31 6))), some (.int (Int32.ofInt (s 16 (s 31 6))))], [.ref 39, .ref 39], zw X s1)) rfl ?_
                    refine gi_call hM (s := s1) (hj := 0) hZ rfl rfl (by omega) h ?_
                    intro v12 s12 h
                    refine gi_if1 hM hZ (fun x => decide (¬ x = 0)) (p := ¬ v12 = 0) rfl rfl (zd_ne h.1) ?_ ?_
                    · intro hp
                      replace h := h.2.1 hp
                      refine gx_r hM hZ 1 (B := (289, [some (.ref 31), some (.int (Int32.ofInt (s 31 6))), some (.int (Int32.ofInt (s 16 (s 31 6))))], [.int (Int32.ofInt 0), .ref 39], zw X s12)) rfl ?_
                      exact gx_fg [false, false, false] (h hZ d hd)
                    · intro hp
                      replace h := h.2.2 hp
                      refine gx_r hM hZ 2 (B := (289, [some (.ref 31), some (.int (Int32.ofInt (s 31 6))), some (.int (Int32.ofInt (s 16 (s 31 6))))], [.int (Int32.ofInt 1), .ref 39], zw X s12)) rfl ?_
                      exact gx_fg [false, false, false] (h hZ d hd)
                · by_cases hq8 : ((s1 15 (s 31 6)) = 10)
                  · refine gi_tab hM hZ (x := (s1 15 (s 31 6))) (o := 264) rfl h.1 ?_ (by decide) ?_
                    · rw [hq8]; rfl
                    · replace h := h.2.2.2.2.2.2.2.2.2.2.1 hq8
                      refine gx_r hM hZ 3 (B := (300, [some (.ref 31), some (.int (Int32.ofInt (s 31 6))), some (.int (Int32.ofInt (s 16 (s 31 6))))], [.ref 39, .ref 31], zw X s1)) rfl ?_
                      refine gi_call hM (s := s1) (hj := 0) hZ rfl rfl (by omega) h ?_
                      intro v13 s13 h
                      refine gi_if1 hM hZ (fun x => decide (¬ x = 0)) (p := ¬ v13 = 0) rfl rfl (zd_ne h.1) ?_ ?_
                      · intro hp
                        replace h := h.2.1 hp
                        refine gx_r hM hZ 2 (B := (314, [some (.ref 31), some (.int (Int32.ofInt (s 31 6))), some (.int (Int32.ofInt (s 16 (s 31 6))))], [.int (Int32.ofInt (s13 31 6)), .ref 31], zw X s13)) rfl ?_
                        exact gx_fg [false, false, false] (h hZ d hd)
                      · intro hp
                        replace h := h.2.2 hp
                        refine gx_r hM hZ 2 (B := (314, [some (.ref 31), some (.int (Int32.ofInt (s 31 6))), some (.int (Int32.ofInt (s 16 (s 31 6))))], [.int (Int32.ofInt (s 16 (s 31 6))), .ref 31], zw X s13)) rfl ?_
                        exact gx_fg [false, false, false] (h hZ d hd)
                  · by_cases hq9 : ((s1 15 (s 31 6)) = 11)
                    · refine gi_tab hM hZ (x := (s1 15 (s 31 6))) (o := 289) rfl h.1 ?_ (by decide) ?_
                      · rw [hq9]; rfl
                      · replace h := h.2.2.2.2.2.2.2.2.2.2.2.1 hq9
                        refine gx_r hM hZ 2 (B := (322, [some (.ref 31), some (.int (Int32.ofInt (s 31 6))), some (.int (Int32.ofInt (s 16 (s 31 6))))], [.int (Int32.ofInt (s 16 (s 31 6))), .ref 31], zw X s1)) rfl ?_
                        obtain ⟨s14, e14⟩ : ∃ q : zS, q = zu s1 31 6 (s 16 (s 31 6)) := ⟨_, rfl⟩
                        refine gj_put hM hZ rfl rfl rfl (Nat.le_of_ble_eq_true rfl) rfl rfl zq_31_6 e14 ?_
                        replace h := h _ e14
                        refine gx_r hM hZ 1 (B := (351, [some (.ref 31), some (.int (Int32.ofInt (s 31 6))), some (.int (Int32.ofInt (s 16 (s 31 6))))], [], zw X s14)) rfl ?_
                        exact ⟨_, xi_To.rf _ _ _ _, 0, s14, rfl, h⟩
                    · by_cases hq10 : ((s1 15 (s 31 6)) = 12)
                      · refine gi_tab hM hZ (x := (s1 15 (s 31 6))) (o := 129) rfl h.1 ?_ (by decide) ?_
                        · rw [hq10]; rfl
                        · replace h := h.2.2.2.2.2.2.2.2.2.2.2.2.1 hq10
                          refine gx_r hM hZ 5 (B := (169, [some (.ref 31), some (.int (Int32.ofInt (s 31 6))), some (.int (Int32.ofInt (s 16 (s 31 6))))], [.ref 39, .int (Int32.ofInt (s 16 (s 31 6))), .ref 39], zw X s1)) rfl ?_
                          refine gi_call hM (s := s1) (hj := 0) hZ rfl rfl (by omega) h ?_
                          intro v15 s15 h
                          refine gi_call hM (s := s15) (hj := 0) hZ rfl rfl (by omega) h ?_
                          intro _ s16 h
                          refine gx_r hM hZ 1 (B := (351, [some (.ref 31), some (.int (Int32.ofInt (s 31 6))), some (.int (Int32.ofInt (s 16 (s 31 6))))], [], zw X s16)) rfl ?_
                          exact ⟨_, xi_To.rf _ _ _ _, 0, s16, rfl, h⟩
                      · by_cases hq11 : ((s1 15 (s 31 6)) = 13)
                        · refine gi_tab hM hZ (x := (s1 15 (s 31 6))) (o := 297) rfl h.1 ?_ (by decide) ?_
                          · rw [hq11]; rfl
                          · replace h := h.2.2.2.2.2.2.2.2.2.2.2.2.2.1 hq11
                            refine gx_r hM hZ 3 (B := (331, [some (.ref 31), some (.int (Int32.ofInt (s 31 6))), some (.int (Int32.ofInt (s 16 (s 31 6))))], [.int (Int32.ofInt (s 16 (s 31 6))), .int (Int32.ofInt (s 31 6)), .ref 31], zw X s1)) rfl ?_
                            refine gi_call hM (s := s1) (hj := 3) hZ rfl rfl (by omega) h ?_
                            intro _ s17 h
                            refine gx_r hM hZ 1 (B := (351, [some (.ref 31), some (.int (Int32.ofInt (s 31 6))), some (.int (Int32.ofInt (s 16 (s 31 6))))], [], zw X s17)) rfl ?_
                            exact ⟨_, xi_To.rf _ _ _ _, 0, s17, rfl, h⟩
                        · by_cases hq12 : ((s1 15 (s 31 6)) = 14)
                          · refine gi_tab hM hZ (x := (s1 15 (s 31 6))) (o := 306) rfl h.1 ?_ (by decide) ?_
                            · rw [hq12]; rfl
                            · replace h := h.2.2.2.2.2.2.2.2.2.2.2.2.2.2.1 hq12
                              refine gx_r hM hZ 1 (B := (338, [some (.ref 31), some (.int (Int32.ofInt (s 31 6))), some (.int (Int32.ofInt (s 16 (s 31 6))))], [.ref 31], zw X s1)) rfl ?_
                              refine gi_call hM (s := s1) (hj := 1) hZ rfl rfl (by omega) h ?_
                              intro _ s18 h
                              refine gx_r hM hZ 1 (B := (351, [some (.ref 31), some (.int (Int32.ofInt (s 31 6))), some (.int (Int32.ofInt (s 16 (s 31 6))))], [], zw X s18)) rfl ?_
                              exact ⟨_, xi_To.rf _ _ _ _, 0, s18, rfl, h⟩
                          · by_cases hq13 : ((s1 15 (s 31 6)) = 15)
                            · refine gi_tab hM hZ (x := (s1 15 (s 31 6))) (o := 211) rfl h.1 ?_ (by decide) ?_
                              · rw [hq13]; rfl
                              · replace h := h.2.2.2.2.2.2.2.2.2.2.2.2.2.2.2.1 hq13
                                refine gx_r hM hZ 4 (B := (250, [some (.ref 31), some (.int (Int32.ofInt (s 31 6))), some (.int (Int32.ofInt (s 16 (s 31 6))))], [.ref 33, .ref 31], zw X s1)) rfl ?_
                                refine gi_call hM (s := s1) (hj := 1) hZ rfl rfl (by omega) h ?_
                                intro _ s19 h
                                refine gx_r hM hZ 1 (B := (351, [some (.ref 31), some (.int (Int32.ofInt (s 31 6))), some (.int (Int32.ofInt (s 16 (s 31 6))))], [], zw X s19)) rfl ?_
                                exact ⟨_, xi_To.rf _ _ _ _, 0, s19, rfl, h⟩
                            · by_cases hq14 : ((s1 15 (s 31 6)) = 16)
                              · refine gi_tab hM hZ (x := (s1 15 (s 31 6))) (o := 225) rfl h.1 ?_ (by decide) ?_
                                · rw [hq14]; rfl
                                · replace h := h.2.2.2.2.2.2.2.2.2.2.2.2.2.2.2.2.1 hq14
                                  refine gx_r hM hZ 4 (B := (264, [some (.ref 31), some (.int (Int32.ofInt (s 31 6))), some (.int (Int32.ofInt (s 16 (s 31 6))))], [.ref 34, .ref 31], zw X s1)) rfl ?_
                                  refine gi_call hM (s := s1) (hj := 1) hZ rfl rfl (by omega) h ?_
                                  intro _ s20 h
                                  refine gx_r hM hZ 1 (B := (351, [some (.ref 31), some (.int (Int32.ofInt (s 31 6))), some (.int (Int32.ofInt (s 16 (s 31 6))))], [], zw X s20)) rfl ?_
                                  exact ⟨_, xi_To.rf _ _ _ _, 0, s20, rfl, h⟩
                              · by_cases hq15 : ((s1 15 (s 31 6)) = 17)
                                · refine gi_tab hM hZ (x := (s1 15 (s 31 6))) (o := 313) rfl h.1 ?_ (by decide) ?_
                                  · rw [hq15]; rfl
                                  · replace h := h.2.2.2.2.2.2.2.2.2.2.2.2.2.2.2.2.2.1 hq15
                                    refine gx_r hM hZ 1 (B := (345, [some (.ref 31), some (.int (Int32.ofInt (s 31 6))), some (.int (Int32.ofInt (s 16 (s 31 6))))], [.ref 31], zw X s1)) rfl ?_
                                    refine gi_call hM (s := s1) (hj := 1) hZ rfl rfl (by omega) h ?_
                                    intro _ s21 h
                                    refine gx_r hM hZ 1 (B := (351, [some (.ref 31), some (.int (Int32.ofInt (s 31 6))), some (.int (Int32.ofInt (s 16 (s 31 6))))], [], zw X s21)) rfl ?_
                                    exact ⟨_, xi_To.rf _ _ _ _, 0, s21, rfl, h⟩
                                · by_cases hq16 : ((s1 15 (s 31 6)) = 18)
                                  · refine gi_tab hM hZ (x := (s1 15 (s 31 6))) (o := 147) rfl h.1 ?_ (by decide) ?_
                                    · rw [hq16]; rfl
                                    · replace h := h.2.2.2.2.2.2.2.2.2.2.2.2.2.2.2.2.2.2 hq16
                                      refine gx_r hM hZ 2 (B := (182, [some (.ref 31), some (.int (Int32.ofInt (s 31 6))), some (.int (Int32.ofInt (s 16 (s 31 6))))], [.ref 39], zw X s1)) rfl ?_
                                      refine gi_call hM (s := s1) (hj := 0) hZ rfl rfl (by omega) h ?_
                                      intro v22 s22 h
                                      refine gx_r hM hZ 2 (B := (351, [some (.ref 31), some (.int (Int32.ofInt (s 31 6))), some (.int (Int32.ofInt (s 16 (s 31 6))))], [], zw X s22)) rfl ?_
                                      exact ⟨_, xi_To.rf _ _ _ _, 0, s22, rfl, h⟩
                                  · refine gi_tab hM hZ (x := (s1 15 (s 31 6))) (o := 320) rfl h.1 ?_ (by decide) ?_
                                    · exact if_pos (by omega)
                                    · replace h := h.2.1 (by omega)
                                      exact ⟨_, xi_To.rf _ _ _ _, 0, s1, rfl, h⟩
theorem w_69_289_i {X : zX} {t1 : Int} {s : zS} {Q : Int → zS → Prop} (h : (w_93 X t1 s (fun _ s1 => Q 0 s1))) : w_69_289 X t1 s Q := by
  intro hZ d hd
  have hM : xi_ml[69]? = some xm_69 := rfl
  refine gi_call hM (s := s) (hj := 0) hZ rfl rfl (by omega) h ?_
  intro _ s1 h
  refine gx_r hM hZ 1 (B := (351, [none, none, none], [], zw X s1)) rfl ?_
  exact ⟨_, xi_To.rf _ _ _ _, 0, s1, rfl, h⟩
theorem w_69_314_i {X : zX} {t1 : Int} {s : zS} {Q : Int → zS → Prop} (h : (∀ s1 : zS, s1 = zu s 31 6 t1 → Q 0 s1)) : w_69_314 X t1 s Q := by
  intro hZ d hd
  have hM : xi_ml[69]? = some xm_69 := rfl
  obtain ⟨s1, e1⟩ : ∃ q : zS, q = zu s 31 6 t1 := ⟨_, rfl⟩
  refine gj_put hM hZ rfl rfl rfl (Nat.le_of_ble_eq_true rfl) rfl rfl zq_31_6 e1 ?_
  replace h := h _ e1
  refine gx_r hM hZ 1 (B := (351, [none, none, none], [], zw X s1)) rfl ?_
  exact ⟨_, xi_To.rf _ _ _ _, 0, s1, rfl, h⟩
-- RootLoomModel.layFunction
def w_113 (X : zX) (x1 : Int) (s : zS) (Q : Int → zS → Prop) : Prop := wW X 113 xm_113 4 (0, [some (.ref 45), some (.int (Int32.ofInt x1)), none, none], [], zw X s) Q
def w_113_12 (X : zX) (x1 x2 : Int) (s : zS) (Q : Int → zS → Prop) : Prop := wW X 113 xm_113 4 (12, [some (.ref 45), some (.int (Int32.ofInt x1)), some (.int (Int32.ofInt x2)), none], [], zw X s) Q
def w_113_47 (X : zX) (x1 x2 t1 t2 : Int) (s : zS) (Q : Int → zS → Prop) : Prop := wW X 113 xm_113 4 (47, [some (.ref 45), some (.int (Int32.ofInt x1)), some (.int (Int32.ofInt x2)), none], [.int (Int32.ofInt t2), .int (Int32.ofInt t1), .ref 70], zw X s) Q
def w_113_80 (X : zX) (x1 : Int) (s : zS) (Q : Int → zS → Prop) : Prop := wW X 113 xm_113 4 (80, [some (.ref 45), some (.int (Int32.ofInt x1)), none, none], [], zw X s) Q
def w_113_154 (X : zX) (x1 x3 : Int) (s : zS) (Q : Int → zS → Prop) : Prop := wW X 113 xm_113 4 (154, [some (.ref 45), some (.int (Int32.ofInt x1)), none, some (.int (Int32.ofInt x3))], [], zw X s) Q
def w_113_199 (X : zX) (x1 : Int) (s : zS) (Q : Int → zS → Prop) : Prop := wW X 113 xm_113 4 (199, [some (.ref 45), some (.int (Int32.ofInt x1)), none, none], [], zw X s) Q
def w_113_221 (X : zX) (t1 : Int) (s : zS) (Q : Int → zS → Prop) : Prop := wW X 113 xm_113 4 (221, [some (.ref 45), none, none, none], [.int (Int32.ofInt t1), .ref 45], zw X s) Q
theorem w_113_i {X : zX} {x1 : Int} {s : zS} {Q : Int → zS → Prop} (h : (0 ≤ x1 ∧ x1 < 6) ∧ (∀ s1 : zS, s1 = zu s 64 x1 (s 45 16) → w_113_12 X x1 0 s1 Q)) : w_113 X x1 s Q := by
  intro hZ d hd
  have hM : xi_ml[113]? = some xm_113 := rfl
  refine gx_r hM hZ 5 (B := (9, [some (.ref 45), some (.int (Int32.ofInt x1)), none, none], [.int (Int32.ofInt (s 45 16)), .int (Int32.ofInt x1), .ref 64], zw X s)) rfl ?_
  obtain ⟨s1, e1⟩ : ∃ q : zS, q = zu s 64 x1 (s 45 16) := ⟨_, rfl⟩
  refine gj_iast hM hZ (len := 6) rfl rfl (Nat.le_of_ble_eq_true rfl) zp_64 h.1 e1 ?_
  replace h := h.2 _ e1
  refine gx_r hM hZ 2 (B := (12, [some (.ref 45), some (.int (Int32.ofInt x1)), some (.int (Int32.ofInt 0)), none], [], zw X s1)) rfl ?_
  exact gx_fg [true, true, true, false] (h hZ d hd)
theorem w_113_12_i {X : zX} {x1 x2 : Int} {s : zS} {Q : Int → zS → Prop} (h : ((-2147483648 ≤ x2 ∧ x2 ≤ 2147483647) ∧ (8 ≤ x2 → (∀ s1 : zS, s1 = zu s 45 30 0 → (∀ s2 : zS, s2 = zu s1 45 33 0 → (∀ s3 : zS, s3 = zu s2 45 27 0 → (0 ≤ x1 ∧ x1 < 6) ∧ (w_114 X 0 (s3 51 x1) s3 (fun _ s4 => w_113_80 X x1 s4 Q)))))) ∧ (¬ 8 ≤ x2 → (0 ≤ x1 ∧ x1 < 6) ∧ (((-2147483648 ≤ x2 ∧ x2 ≤ 2147483647) ∧ (-2147483648 ≤ (s 49 x1) ∧ (s 49 x1) ≤ 2147483647)) ∧ ((s 49 x1) ≤ x2 → w_113_47 X x1 x2 x2 (-1) s Q) ∧ (¬ (s 49 x1) ≤ x2 → (0 ≤ ((3 * x1) + x2) ∧ ((3 * x1) + x2) < 18) ∧ w_113_47 X x1 x2 x2 (s 50 ((3 * x1) + x2)) s Q))))) : w_113_12 X x1 x2 s Q := by
  intro hZ d hd
  have hM : xi_ml[113]? = some xm_113 := rfl
  refine gx_r hM hZ 1 (B := (13, [some (.ref 45), some (.int (Int32.ofInt x1)), some (.int (Int32.ofInt x2)), none], [.int (Int32.ofInt x2)], zw X s)) rfl ?_
  refine gi_bip hM hZ rfl rfl ?_
  refine gi_if2 hM hZ (fun x y => decide (y ≤ x)) (p := 8 ≤ x2) rfl rfl (zc_ge h.1 (by decide)) ?_ ?_
  · intro hp
    replace h := h.2.1 hp
    refine gx_r hM hZ 2 (B := (56, [some (.ref 45), some (.int (Int32.ofInt x1)), some (.int (Int32.ofInt x2)), none], [.int (Int32.ofInt 0), .ref 45], zw X s)) rfl ?_
    obtain ⟨s1, e1⟩ : ∃ q : zS, q = zu s 45 30 0 := ⟨_, rfl⟩
    refine gj_put hM hZ rfl rfl rfl (Nat.le_of_ble_eq_true rfl) rfl rfl zq_45_30 e1 ?_
    replace h := h _ e1
    refine gx_r hM hZ 2 (B := (61, [some (.ref 45), some (.int (Int32.ofInt x1)), some (.int (Int32.ofInt x2)), none], [.int (Int32.ofInt 0), .ref 45], zw X s1)) rfl ?_
    obtain ⟨s2, e2⟩ : ∃ q : zS, q = zu s1 45 33 0 := ⟨_, rfl⟩
    refine gj_put hM hZ rfl rfl rfl (Nat.le_of_ble_eq_true rfl) rfl rfl zq_45_33 e2 ?_
    replace h := h _ e2
    refine gx_r hM hZ 2 (B := (66, [some (.ref 45), some (.int (Int32.ofInt x1)), some (.int (Int32.ofInt x2)), none], [.int (Int32.ofInt 0), .ref 45], zw X s2)) rfl ?_
    obtain ⟨s3, e3⟩ : ∃ q : zS, q = zu s2 45 27 0 := ⟨_, rfl⟩
    refine gj_put hM hZ rfl rfl rfl (Nat.le_of_ble_eq_true rfl) rfl rfl zq_45_27 e3 ?_
    replace h := h _ e3
    refine gx_r hM hZ 5 (B := (76, [some (.ref 45), some (.int (Int32.ofInt x1)), some (.int (Int32.ofInt x2)), none], [.int (Int32.ofInt x1), .ref 51, .int (Int32.ofInt 0), .ref 45], zw X s3)) rfl ?_
    refine gi_iald hM hZ (s := s3) (len := 6) rfl rfl (Nat.le_of_ble_eq_true rfl) h.1 ?_
    replace h := h.2
    refine gi_call hM (s := s3) (hj := 0) hZ rfl rfl (by omega) h ?_
    intro _ s4 h
    exact gx_fg [true, true, false, false] (h hZ d hd)
  · intro hp
    replace h := h.2.2 hp
    refine gx_r hM hZ 7 (B := (29, [some (.ref 45), some (.int (Int32.ofInt x1)), some (.int (Int32.ofInt x2)), none], [.int (Int32.ofInt x1), .ref 49, .int (Int32.ofInt x2), .int (Int32.ofInt x2), .ref 70], zw X s)) rfl ?_
    refine gi_iald hM hZ (s := s) (len := 6) rfl rfl (Nat.le_of_ble_eq_true rfl) h.1 ?_
    replace h := h.2
    refine gi_if2 hM hZ (fun x y => decide (y ≤ x)) (p := (s 49 x1) ≤ x2) rfl rfl (zc_ge h.1.1 h.1.2) ?_ ?_
    · intro hp
      replace h := h.2.1 hp
      refine gx_r hM hZ 1 (B := (47, [some (.ref 45), some (.int (Int32.ofInt x1)), some (.int (Int32.ofInt x2)), none], [.int (Int32.ofInt (-1)), .int (Int32.ofInt x2), .ref 70], zw X s)) rfl ?_
      exact gx_fg [true, true, true, false] (h hZ d hd)
    · intro hp
      replace h := h.2.2 hp
      refine gx_r hM hZ 4 (B := (39, [some (.ref 45), some (.int (Int32.ofInt x1)), some (.int (Int32.ofInt x2)), none], [.int (Int32.ofInt x1), .int (Int32.ofInt 3), .ref 50, .int (Int32.ofInt x2), .ref 70], zw X s)) rfl ?_
      refine gi_mul hM hZ rfl ?_
      refine gx_r hM hZ 1 (B := (41, [some (.ref 45), some (.int (Int32.ofInt x1)), some (.int (Int32.ofInt x2)), none], [.int (Int32.ofInt x2), .int (Int32.ofInt (3 * x1)), .ref 50, .int (Int32.ofInt x2), .ref 70], zw X s)) rfl ?_
      refine gi_add hM hZ rfl ?_
      refine gi_iald hM hZ (s := s) (len := 18) rfl rfl (Nat.le_of_ble_eq_true rfl) h.1 ?_
      replace h := h.2
      refine gx_r hM hZ 1 (B := (47, [some (.ref 45), some (.int (Int32.ofInt x1)), some (.int (Int32.ofInt x2)), none], [.int (Int32.ofInt (s 50 ((3 * x1) + x2))), .int (Int32.ofInt x2), .ref 70], zw X s)) rfl ?_
      exact gx_fg [true, true, true, false] (h hZ d hd)
theorem w_113_47_i {X : zX} {x1 x2 t1 t2 : Int} {s : zS} {Q : Int → zS → Prop} (h : (0 ≤ t1 ∧ t1 < 8) ∧ (∀ s1 : zS, s1 = zu s 70 t1 t2 → w_113_12 X x1 (x2 + 1) s1 Q)) : w_113_47 X x1 x2 t1 t2 s Q := by
  intro hZ d hd
  have hM : xi_ml[113]? = some xm_113 := rfl
  obtain ⟨s1, e1⟩ : ∃ q : zS, q = zu s 70 t1 t2 := ⟨_, rfl⟩
  refine gj_iast hM hZ (len := 8) rfl rfl (Nat.le_of_ble_eq_true rfl) zp_70 h.1 e1 ?_
  replace h := h.2 _ e1
  refine gi_inc hM hZ (x := x2) (m := 1) rfl rfl ?_
  refine gx_r hM hZ 0 (B := (51, [some (.ref 45), some (.int (Int32.ofInt x1)), some (.int (Int32.ofInt (x2 + 1))), none], [], zw X s1)) rfl ?_
  refine gx_r hM hZ 1 (B := (12, [some (.ref 45), some (.int (Int32.ofInt x1)), some (.int (Int32.ofInt (x2 + 1))), none], [], zw X s1)) rfl ?_
  exact gx_fg [true, true, true, false] (h hZ d hd)
theorem w_113_80_i {X : zX} {x1 : Int} {s : zS} {Q : Int → zS → Prop} (h : ((-2147483648 ≤ (s 45 27) ∧ (s 45 27) ≤ 2147483647) ∧ ((s 45 27) ≤ 0 → (w_122 X s (fun v1 s1 => (0 ≤ x1 ∧ x1 < 6) ∧ (((-2147483648 ≤ v1 ∧ v1 ≤ 2147483647) ∧ (-2147483648 ≤ (s1 48 x1) ∧ (s1 48 x1) ≤ 2147483647)) ∧ (¬ v1 = (s1 48 x1) → w_113_221 X 0 s1 Q) ∧ (¬ ¬ v1 = (s1 48 x1) → w_113_221 X 1 s1 Q))))) ∧ (¬ (s 45 27) ≤ 0 → (∀ s2 : zS, s2 = zu s 45 27 ((s 45 27) - 1) → (0 ≤ (s2 45 27) ∧ (s2 45 27) < 1200) ∧ (0 ≤ (s2 45 27) ∧ (s2 45 27) < 1200) ∧ ((-2147483648 ≤ (s2 67 (s2 45 27)) ∧ (s2 67 (s2 45 27)) ≤ 2147483647) ∧ (¬ (s2 67 (s2 45 27)) = 0 → ((-2147483648 ≤ (s2 67 (s2 45 27)) ∧ (s2 67 (s2 45 27)) ≤ 2147483647) ∧ (¬ (s2 67 (s2 45 27)) = 1 → ((-2147483648 ≤ (s2 67 (s2 45 27)) ∧ (s2 67 (s2 45 27)) ≤ 2147483647) ∧ (¬ (s2 67 (s2 45 27)) = 2 → ((-2147483648 ≤ (s2 67 (s2 45 27)) ∧ (s2 67 (s2 45 27)) ≤ 2147483647) ∧ (¬ (s2 67 (s2 45 27)) = 3 → (w_126 X (s2 68 (s2 45 27)) s2 (fun _ s3 => w_113_199 X x1 s3 Q))) ∧ (¬ ¬ (s2 67 (s2 45 27)) = 3 → (w_125 X (s2 68 (s2 45 27)) s2 (fun _ s4 => w_113_199 X x1 s4 Q))))) ∧ (¬ ¬ (s2 67 (s2 45 27)) = 2 → (w_119 X (s2 68 (s2 45 27)) s2 (fun _ s5 => w_113_199 X x1 s5 Q))))) ∧ (¬ ¬ (s2 67 (s2 45 27)) = 1 → (0 ≤ (s2 68 (s2 45 27)) ∧ (s2 68 (s2 45 27)) < 150) ∧ ((-2147483648 ≤ (s2 54 (s2 68 (s2 45 27))) ∧ (s2 54 (s2 68 (s2 45 27))) ≤ 2147483647) ∧ ((s2 54 (s2 68 (s2 45 27))) < 0 → w_113_154 X x1 (s2 68 (s2 45 27)) s2 Q) ∧ (¬ (s2 54 (s2 68 (s2 45 27))) < 0 → (0 ≤ (s2 68 (s2 45 27)) ∧ (s2 68 (s2 45 27)) < 150) ∧ (w_114 X 1 (s2 54 (s2 68 (s2 45 27))) s2 (fun _ s6 => w_113_154 X x1 (s2 68 (s2 45 27)) s6 Q))))))) ∧ (¬ ¬ (s2 67 (s2 45 27)) = 0 → (w_115 X (s2 68 (s2 45 27)) s2 (fun _ s7 => w_113_199 X x1 s7 Q)))))))) : w_113_80 X x1 s Q := by
  intro hZ d hd
  have hM : xi_ml[113]? = some xm_113 := rfl
  refine gx_r hM hZ 2 (B := (84, [some (.ref 45), some (.int (Int32.ofInt x1)), none, none], [.int (Int32.ofInt (s 45 27))], zw X s)) rfl ?_
  refine gi_if1 hM hZ (fun x => decide (x ≤ 0)) (p := (s 45 27) ≤ 0) rfl rfl (zd_le h.1) ?_ ?_
  · intro hp
    replace h := h.2.1 hp
    refine gx_r hM hZ 2 (B := (204, [some (.ref 45), some (.int (Int32.ofInt x1)), none, none], [.ref 45, .ref 45], zw X s)) rfl ?_
    refine gi_call hM (s := s) (hj := 0) hZ rfl rfl (by omega) h ?_
    intro v1 s1 h
    refine gx_r hM hZ 3 (B := (212, [some (.ref 45), some (.int (Int32.ofInt x1)), none, none], [.int (Int32.ofInt x1), .ref 48, .int (Int32.ofInt v1), .ref 45], zw X s1)) rfl ?_
    refine gi_iald hM hZ (s := s1) (len := 6) rfl rfl (Nat.le_of_ble_eq_true rfl) h.1 ?_
    replace h := h.2
    refine gi_if2 hM hZ (fun x y => decide (¬ x = y)) (p := ¬ v1 = (s1 48 x1)) rfl rfl (zc_ne h.1.1 h.1.2) ?_ ?_
    · intro hp
      replace h := h.2.1 hp
      refine gx_r hM hZ 1 (B := (221, [some (.ref 45), some (.int (Int32.ofInt x1)), none, none], [.int (Int32.ofInt 0), .ref 45], zw X s1)) rfl ?_
      exact gx_fg [true, false, false, false] (h hZ d hd)
    · intro hp
      replace h := h.2.2 hp
      refine gx_r hM hZ 2 (B := (221, [some (.ref 45), some (.int (Int32.ofInt x1)), none, none], [.int (Int32.ofInt 1), .ref 45], zw X s1)) rfl ?_
      exact gx_fg [true, false, false, false] (h hZ d hd)
  · intro hp
    replace h := h.2.2 hp
    refine gx_r hM hZ 4 (B := (93, [some (.ref 45), some (.int (Int32.ofInt x1)), none, none], [.int (Int32.ofInt 1), .int (Int32.ofInt (s 45 27)), .ref 45], zw X s)) rfl ?_
    refine gi_sub hM hZ rfl ?_
    obtain ⟨s2, e2⟩ : ∃ q : zS, q = zu s 45 27 ((s 45 27) - 1) := ⟨_, rfl⟩
    refine gj_put hM hZ rfl rfl rfl (Nat.le_of_ble_eq_true rfl) rfl rfl zq_45_27 e2 ?_
    replace h := h _ e2
    refine gx_r hM hZ 4 (B := (105, [some (.ref 45), some (.int (Int32.ofInt x1)), none, none], [.int (Int32.ofInt (s2 45 27)), .ref 67], zw X s2)) rfl ?_
    refine gi_iald hM hZ (s := s2) (len := 1200) rfl rfl (Nat.le_of_ble_eq_true rfl) h.1 ?_
    replace h := h.2
    refine gx_r hM hZ 5 (B := (115, [some (.ref 45), some (.int (Int32.ofInt x1)), some (.int (Int32.ofInt (s2 67 (s2 45 27)))), none], [.int (Int32.ofInt (s2 45 27)), .ref 68], zw X s2)) rfl ?_
    refine gi_iald hM hZ (s := s2) (len := 1200) rfl rfl (Nat.le_of_ble_eq_true rfl) h.1 ?_
    replace h := h.2
    refine gx_r hM hZ 2 (B := (118, [some (.ref 45), some (.int (Int32.ofInt x1)), some (.int (Int32.ofInt (s2 67 (s2 45 27)))), some (.int (Int32.ofInt (s2 68 (s2 45 27))))], [.int (Int32.ofInt (s2 67 (s2 45 27)))], zw X s2)) rfl ?_
    refine gi_if1 hM hZ (fun x => decide (¬ x = 0)) (p := ¬ (s2 67 (s2 45 27)) = 0) rfl rfl (zd_ne h.1) ?_ ?_
    · intro hp
      replace h := h.2.1 hp
      refine gx_r hM hZ 2 (B := (131, [some (.ref 45), some (.int (Int32.ofInt x1)), some (.int (Int32.ofInt (s2 67 (s2 45 27)))), some (.int (Int32.ofInt (s2 68 (s2 45 27))))], [.int (Int32.ofInt 1), .int (Int32.ofInt (s2 67 (s2 45 27)))], zw X s2)) rfl ?_
      refine gi_if2 hM hZ (fun x y => decide (¬ x = y)) (p := ¬ (s2 67 (s2 45 27)) = 1) rfl rfl (zc_ne h.1 (by decide)) ?_ ?_
      · intro hp
        replace h := h.2.1 hp
        refine gx_r hM hZ 2 (B := (170, [some (.ref 45), some (.int (Int32.ofInt x1)), some (.int (Int32.ofInt (s2 67 (s2 45 27)))), some (.int (Int32.ofInt (s2 68 (s2 45 27))))], [.int (Int32.ofInt 2), .int (Int32.ofInt (s2 67 (s2 45 27)))], zw X s2)) rfl ?_
        refine gi_if2 hM hZ (fun x y => decide (¬ x = y)) (p := ¬ (s2 67 (s2 45 27)) = 2) rfl rfl (zc_ne h.1 (by decide)) ?_ ?_
        · intro hp
          replace h := h.2.1 hp
          refine gx_r hM hZ 2 (B := (183, [some (.ref 45), some (.int (Int32.ofInt x1)), some (.int (Int32.ofInt (s2 67 (s2 45 27)))), some (.int (Int32.ofInt (s2 68 (s2 45 27))))], [.int (Int32.ofInt 3), .int (Int32.ofInt (s2 67 (s2 45 27)))], zw X s2)) rfl ?_
          refine gi_if2 hM hZ (fun x y => decide (¬ x = y)) (p := ¬ (s2 67 (s2 45 27)) = 3) rfl rfl (zc_ne h.1 (by decide)) ?_ ?_
          · intro hp
            replace h := h.2.1 hp
            refine gx_r hM hZ 2 (B := (196, [some (.ref 45), some (.int (Int32.ofInt x1)), some (.int (Int32.ofInt (s2 67 (s2 45 27)))), some (.int (Int32.ofInt (s2 68 (s2 45 27))))], [.int (Int32.ofInt (s2 68 (s2 45 27))), .ref 45], zw X s2)) rfl ?_
            refine gi_call hM (s := s2) (hj := 1) hZ rfl rfl (by omega) h ?_
            intro _ s3 h
            exact gx_fg [true, true, false, false] (h hZ d hd)
          · intro hp
            replace h := h.2.2 hp
            refine gx_r hM hZ 2 (B := (188, [some (.ref 45), some (.int (Int32.ofInt x1)), some (.int (Int32.ofInt (s2 67 (s2 45 27)))), some (.int (Int32.ofInt (s2 68 (s2 45 27))))], [.int (Int32.ofInt (s2 68 (s2 45 27))), .ref 45], zw X s2)) rfl ?_
            refine gi_call hM (s := s2) (hj := 1) hZ rfl rfl (by omega) h ?_
            intro _ s4 h
            refine gx_r hM hZ 1 (B := (199, [some (.ref 45), some (.int (Int32.ofInt x1)), some (.int (Int32.ofInt (s2 67 (s2 45 27)))), some (.int (Int32.ofInt (s2 68 (s2 45 27))))], [], zw X s4)) rfl ?_
            exact gx_fg [true, true, false, false] (h hZ d hd)
        · intro hp
          replace h := h.2.2 hp
          refine gx_r hM hZ 2 (B := (175, [some (.ref 45), some (.int (Int32.ofInt x1)), some (.int (Int32.ofInt (s2 67 (s2 45 27)))), some (.int (Int32.ofInt (s2 68 (s2 45 27))))], [.int (Int32.ofInt (s2 68 (s2 45 27))), .ref 45], zw X s2)) rfl ?_
          refine gi_call hM (s := s2) (hj := 3) hZ rfl rfl (by omega) h ?_
          intro _ s5 h
          refine gx_r hM hZ 1 (B := (199, [some (.ref 45), some (.int (Int32.ofInt x1)), some (.int (Int32.ofInt (s2 67 (s2 45 27)))), some (.int (Int32.ofInt (s2 68 (s2 45 27))))], [], zw X s5)) rfl ?_
          exact gx_fg [true, true, false, false] (h hZ d hd)
      · intro hp
        replace h := h.2.2 hp
        refine gx_r hM hZ 3 (B := (139, [some (.ref 45), some (.int (Int32.ofInt x1)), some (.int (Int32.ofInt (s2 67 (s2 45 27)))), some (.int (Int32.ofInt (s2 68 (s2 45 27))))], [.int (Int32.ofInt (s2 68 (s2 45 27))), .ref 54], zw X s2)) rfl ?_
        refine gi_iald hM hZ (s := s2) (len := 150) rfl rfl (Nat.le_of_ble_eq_true rfl) h.1 ?_
        replace h := h.2
        refine gi_if1 hM hZ (fun x => decide (x < 0)) (p := (s2 54 (s2 68 (s2 45 27))) < 0) rfl rfl (zd_lt h.1) ?_ ?_
        · intro hp
          replace h := h.2.1 hp
          exact gx_fg [true, true, false, true] (h hZ d hd)
        · intro hp
          replace h := h.2.2 hp
          refine gx_r hM hZ 5 (B := (150, [some (.ref 45), some (.int (Int32.ofInt x1)), some (.int (Int32.ofInt (s2 67 (s2 45 27)))), some (.int (Int32.ofInt (s2 68 (s2 45 27))))], [.int (Int32.ofInt (s2 68 (s2 45 27))), .ref 54, .int (Int32.ofInt 1), .ref 45], zw X s2)) rfl ?_
          refine gi_iald hM hZ (s := s2) (len := 150) rfl rfl (Nat.le_of_ble_eq_true rfl) h.1 ?_
          replace h := h.2
          refine gi_call hM (s := s2) (hj := 0) hZ rfl rfl (by omega) h ?_
          intro _ s6 h
          exact gx_fg [true, true, false, true] (h hZ d hd)
    · intro hp
      replace h := h.2.2 hp
      refine gx_r hM hZ 2 (B := (123, [some (.ref 45), some (.int (Int32.ofInt x1)), some (.int (Int32.ofInt (s2 67 (s2 45 27)))), some (.int (Int32.ofInt (s2 68 (s2 45 27))))], [.int (Int32.ofInt (s2 68 (s2 45 27))), .ref 45], zw X s2)) rfl ?_
      refine gi_call hM (s := s2) (hj := 1) hZ rfl rfl (by omega) h ?_
      intro _ s7 h
      refine gx_r hM hZ 1 (B := (199, [some (.ref 45), some (.int (Int32.ofInt x1)), some (.int (Int32.ofInt (s2 67 (s2 45 27)))), some (.int (Int32.ofInt (s2 68 (s2 45 27))))], [], zw X s7)) rfl ?_
      exact gx_fg [true, true, false, false] (h hZ d hd)
theorem w_113_154_i {X : zX} {x1 x3 : Int} {s : zS} {Q : Int → zS → Prop} (h : (0 ≤ x3 ∧ x3 < 150) ∧ (w_114 X 0 (s 53 x3) s (fun _ s1 => w_113_199 X x1 s1 Q))) : w_113_154 X x1 x3 s Q := by
  intro hZ d hd
  have hM : xi_ml[113]? = some xm_113 := rfl
  refine gx_r hM hZ 5 (B := (161, [some (.ref 45), some (.int (Int32.ofInt x1)), none, some (.int (Int32.ofInt x3))], [.int (Int32.ofInt x3), .ref 53, .int (Int32.ofInt 0), .ref 45], zw X s)) rfl ?_
  refine gi_iald hM hZ (s := s) (len := 150) rfl rfl (Nat.le_of_ble_eq_true rfl) h.1 ?_
  replace h := h.2
  refine gi_call hM (s := s) (hj := 0) hZ rfl rfl (by omega) h ?_
  intro _ s1 h
  refine gx_r hM hZ 1 (B := (199, [some (.ref 45), some (.int (Int32.ofInt x1)), none, some (.int (Int32.ofInt x3))], [], zw X s1)) rfl ?_
  exact gx_fg [true, true, false, false] (h hZ d hd)
theorem w_113_199_i {X : zX} {x1 : Int} {s : zS} {Q : Int → zS → Prop} (h : w_113_80 X x1 s Q) : w_113_199 X x1 s Q := by
  intro hZ d hd
  have hM : xi_ml[113]? = some xm_113 := rfl
  refine gx_r hM hZ 1 (B := (80, [some (.ref 45), some (.int (Int32.ofInt x1)), none, none], [], zw X s)) rfl ?_
  exact gx_fg [true, true, false, false] (h hZ d hd)
theorem w_113_221_i {X : zX} {t1 : Int} {s : zS} {Q : Int → zS → Prop} (h : (w_118 X t1 s (fun _ s1 => (w_116 X 14 0 s1 (fun _ s2 => Q 0 s2))))) : w_113_221 X t1 s Q := by
  intro hZ d hd
  have hM : xi_ml[113]? = some xm_113 := rfl
  refine gi_call hM (s := s) (hj := 0) hZ rfl rfl (by omega) h ?_
  intro _ s1 h
  refine gx_r hM hZ 1 (B := (225, [some (.ref 45), none, none, none], [.ref 45], zw X s1)) rfl ?_
  refine gi_bip hM hZ rfl rfl ?_
  refine gx_r hM hZ 1 (B := (228, [some (.ref 45), none, none, none], [.int (Int32.ofInt 0), .int (Int32.ofInt 14), .ref 45], zw X s1)) rfl ?_
  refine gi_call hM (s := s1) (hj := 0) hZ rfl rfl (by omega) h ?_
  intro _ s2 h
  exact ⟨_, xi_To.rf _ _ _ _, 0, s2, rfl, h⟩
-- RootLoomModel.perform
def w_146 (X : zX) (x1 x2 : Int) (s : zS) (Q : Int → zS → Prop) : Prop := wW X 146 xm_146 4 (0, [some (.ref 45), some (.int (Int32.ofInt x1)), some (.int (Int32.ofInt x2)), none], [], zw X s) Q
def w_146_166 (X : zX) (x3 t1 : Int) (s : zS) (Q : Int → zS → Prop) : Prop := wW X 146 xm_146 4 (166, [some (.ref 45), none, none, some (.int (Int32.ofInt x3))], [.int (Int32.ofInt t1), .ref 45], zw X s) Q
def w_146_184 (X : zX) (t0 : Int) (s : zS) (Q : Int → zS → Prop) : Prop := wW X 146 xm_146 4 (184, [some (.ref 45), none, none, none], [.int (Int32.ofInt t0)], zw X s) Q
def w_146_234 (X : zX) (x3 : Int) (s : zS) (Q : Int → zS → Prop) : Prop := wW X 146 xm_146 4 (234, [some (.ref 45), none, none, some (.int (Int32.ofInt x3))], [], zw X s) Q
theorem w_146_i {X : zX} {x1 x2 : Int} {s : zS} {Q : Int → zS → Prop} (h : ((-2147483648 ≤ x1 ∧ x1 ≤ 2147483647) ∧ ((¬ x1 = 0 ∧ ¬ x1 = 1 ∧ ¬ x1 = 2 ∧ ¬ x1 = 3 ∧ ¬ x1 = 4 ∧ ¬ x1 = 5 ∧ ¬ x1 = 6 ∧ ¬ x1 = 9 ∧ ¬ x1 = 10 ∧ ¬ x1 = 11 ∧ ¬ x1 = 12 ∧ ¬ x1 = 17 ∧ ¬ x1 = 18) → (w_151 X x1 s (fun _ s1 => w_146_234 X ((s 45 57) + 1) s1 Q))) ∧ ((x1 = 0) → (w_145 X x2 s (fun _ s2 => w_146_234 X ((s 45 57) + 1) s2 Q))) ∧ ((x1 = 1) → (w_145 X (-1) s (fun _ s3 => w_146_234 X ((s 45 57) + 1) s3 Q))) ∧ ((x1 = 2) → (0 ≤ ((8 * (s 45 56)) + x2) ∧ ((8 * (s 45 56)) + x2) < 192) ∧ (w_145 X (s 82 ((8 * (s 45 56)) + x2)) s (fun _ s4 => w_146_234 X ((s 45 57) + 1) s4 Q))) ∧ ((x1 = 3 ∨ x1 = 4 ∨ x1 = 5) → (w_147 X x1 s (fun _ s5 => w_146_234 X ((s 45 57) + 1) s5 Q))) ∧ ((x1 = 6) → (w_148 X x2 s (fun _ s8 => w_146_234 X ((s 45 57) + 1) s8 Q))) ∧ ((x1 = 9) → (w_144 X s (fun v11 s11 => ((-2147483648 ≤ v11 ∧ v11 ≤ 2147483647) ∧ (0 ≤ v11 → w_146_166 X ((s 45 57) + 1) 0 s11 Q) ∧ (¬ 0 ≤ v11 → w_146_166 X ((s 45 57) + 1) 1 s11 Q))))) ∧ ((x1 = 10) → (w_144 X s (fun v12 s12 => ((-2147483648 ≤ v12 ∧ v12 ≤ 2147483647) ∧ (¬ v12 = 0 → w_146_184 X ((s 45 57) + 1) s12 Q) ∧ (¬ ¬ v12 = 0 → w_146_184 X x2 s12 Q))))) ∧ ((x1 = 11) → w_146_234 X x2 s Q) ∧ ((x1 = 12) → (w_144 X s (fun v13 s13 => (0 ≤ ((8 * (s 45 56)) + x2) ∧ ((8 * (s 45 56)) + x2) < 192) ∧ (∀ s14 : zS, s14 = zu s13 82 ((8 * (s 45 56)) + x2) v13 → w_146_234 X ((s 45 57) + 1) s14 Q)))) ∧ ((x1 = 17) → (w_150 X s (fun _ s19 => w_146_234 X ((s 45 57) + 1) s19 Q))) ∧ ((x1 = 18) → (w_144 X s (fun v20 s20 => w_146_234 X ((s 45 57) + 1) s20 Q))))) : w_146 X x1 x2 s Q := by
  intro hZ d hd
  have hM : xi_ml[146]? = some xm_146 := rfl
  refine gx_r hM hZ 3 (B := (5, [some (.ref 45), some (.int (Int32.ofInt x1)), some (.int (Int32.ofInt x2)), none], [.int (Int32.ofInt 1), .int (Int32.ofInt (s 45 57))], zw X s)) rfl ?_
  refine gi_add hM hZ rfl ?_
  refine gx_r hM hZ 2 (B := (8, [some (.ref 45), some (.int (Int32.ofInt x1)), some (.int (Int32.ofInt x2)), some (.int (Int32.ofInt ((s 45 57) + 1)))], [.int (Int32.ofInt x1)], zw X s)) rfl ?_
  by_cases hq0 : (x1 = 0)
  · refine gi_tab hM hZ (x := x1) (o := 92) rfl h.1 ?_ (by decide) ?_
    · rw [hq0]; rfl
    · replace h := h.2.2.1 hq0
      refine gx_r hM hZ 2 (B := (102, [some (.ref 45), some (.int (Int32.ofInt x1)), some (.int (Int32.ofInt x2)), some (.int (Int32.ofInt ((s 45 57) + 1)))], [.int (Int32.ofInt x2), .ref 45], zw X s)) rfl ?_
      refine gi_call hM (s := s) (hj := 0) hZ rfl rfl (by omega) h ?_
      intro _ s2 h
      refine gx_r hM hZ 1 (B := (234, [some (.ref 45), some (.int (Int32.ofInt x1)), some (.int (Int32.ofInt x2)), some (.int (Int32.ofInt ((s 45 57) + 1)))], [], zw X s2)) rfl ?_
      exact gx_fg [true, false, false, true] (h hZ d hd)
  · by_cases hq1 : (x1 = 1)
    · refine gi_tab hM hZ (x := x1) (o := 100) rfl h.1 ?_ (by decide) ?_
      · rw [hq1]; rfl
      · replace h := h.2.2.2.1 hq1
        refine gx_r hM hZ 2 (B := (110, [some (.ref 45), some (.int (Int32.ofInt x1)), some (.int (Int32.ofInt x2)), some (.int (Int32.ofInt ((s 45 57) + 1)))], [.int (Int32.ofInt (-1)), .ref 45], zw X s)) rfl ?_
        refine gi_call hM (s := s) (hj := 0) hZ rfl rfl (by omega) h ?_
        intro _ s3 h
        refine gx_r hM hZ 1 (B := (234, [some (.ref 45), some (.int (Int32.ofInt x1)), some (.int (Int32.ofInt x2)), some (.int (Int32.ofInt ((s 45 57) + 1)))], [], zw X s3)) rfl ?_
        exact gx_fg [true, false, false, true] (h hZ d hd)
    · by_cases hq2 : (x1 = 2)
      · refine gi_tab hM hZ (x := x1) (o := 108) rfl h.1 ?_ (by decide) ?_
        · rw [hq2]; rfl
        · replace h := h.2.2.2.2.1 hq2
          refine gx_r hM hZ 3 (B := (121, [some (.ref 45), some (.int (Int32.ofInt x1)), some (.int (Int32.ofInt x2)), some (.int (Int32.ofInt ((s 45 57) + 1)))], [.ref 82, .ref 45], zw X s)) rfl ?_
          refine gi_bip hM hZ rfl rfl ?_
          refine gx_r hM hZ 2 (B := (127, [some (.ref 45), some (.int (Int32.ofInt x1)), some (.int (Int32.ofInt x2)), some (.int (Int32.ofInt ((s 45 57) + 1)))], [.int (Int32.ofInt (s 45 56)), .int (Int32.ofInt 8), .ref 82, .ref 45], zw X s)) rfl ?_
          refine gi_mul hM hZ rfl ?_
          refine gx_r hM hZ 1 (B := (129, [some (.ref 45), some (.int (Int32.ofInt x1)), some (.int (Int32.ofInt x2)), some (.int (Int32.ofInt ((s 45 57) + 1)))], [.int (Int32.ofInt x2), .int (Int32.ofInt (8 * (s 45 56))), .ref 82, .ref 45], zw X s)) rfl ?_
          refine gi_add hM hZ rfl ?_
          refine gi_iald hM hZ (s := s) (len := 192) rfl rfl (Nat.le_of_ble_eq_true rfl) h.1 ?_
          replace h := h.2
          refine gi_call hM (s := s) (hj := 0) hZ rfl rfl (by omega) h ?_
          intro _ s4 h
          refine gx_r hM hZ 1 (B := (234, [some (.ref 45), some (.int (Int32.ofInt x1)), some (.int (Int32.ofInt x2)), some (.int (Int32.ofInt ((s 45 57) + 1)))], [], zw X s4)) rfl ?_
          exact gx_fg [true, false, false, true] (h hZ d hd)
      · by_cases hq3 : (x1 = 3 ∨ x1 = 4 ∨ x1 = 5)
        · refine gi_tab hM hZ (x := x1) (o := 129) rfl h.1 ?_ (by decide) ?_
          · rcases hq3 with e | e | e <;> (rw [e]; rfl)
          · replace h := h.2.2.2.2.2.1 hq3
            refine gx_r hM hZ 2 (B := (139, [some (.ref 45), some (.int (Int32.ofInt x1)), some (.int (Int32.ofInt x2)), some (.int (Int32.ofInt ((s 45 57) + 1)))], [.int (Int32.ofInt x1), .ref 45], zw X s)) rfl ?_
            refine gi_call hM (s := s) (hj := 1) hZ rfl rfl (by omega) h ?_
            intro _ s5 h
            refine gx_r hM hZ 1 (B := (234, [some (.ref 45), some (.int (Int32.ofInt x1)), some (.int (Int32.ofInt x2)), some (.int (Int32.ofInt ((s 45 57) + 1)))], [], zw X s5)) rfl ?_
            exact gx_fg [true, false, false, true] (h hZ d hd)
        · by_cases hq4 : (x1 = 6)
          · refine gi_tab hM hZ (x := x1) (o := 137) rfl h.1 ?_ (by decide) ?_
            · rw [hq4]; rfl
            · replace h := h.2.2.2.2.2.2.1 hq4
              refine gx_r hM hZ 2 (B := (147, [some (.ref 45), some (.int (Int32.ofInt x1)), some (.int (Int32.ofInt x2)), some (.int (Int32.ofInt ((s 45 57) + 1)))], [.int (Int32.ofInt x2), .ref 45], zw X s)) rfl ?_
              refine gi_call hM (s := s) (hj := 3) hZ rfl rfl (by omega) h ?_
              intro _ s8 h
              refine gx_r hM hZ 1 (B := (234, [some (.ref 45), some (.int (Int32.ofInt x1)), some (.int (Int32.ofInt x2)), some (.int (Int32.ofInt ((s 45 57) + 1)))], [], zw X s8)) rfl ?_
              exact gx_fg [true, false, false, true] (h hZ d hd)
          · by_cases hq5 : (x1 = 9)
            · refine gi_tab hM hZ (x := x1) (o := 145) rfl h.1 ?_ (by decide) ?_
              · rw [hq5]; rfl
              · replace h := h.2.2.2.2.2.2.2.1 hq5
                refine gx_r hM hZ 2 (B := (155, [some (.ref 45), some (.int (Int32.ofInt x1)), some (.int (Int32.ofInt x2)), some (.int (Int32.ofInt ((s 45 57) + 1)))], [.ref 45, .ref 45], zw X s)) rfl ?_
                refine gi_call hM (s := s) (hj := 0) hZ rfl rfl (by omega) h ?_
                intro v11 s11 h
                refine gi_if1 hM hZ (fun x => decide (0 ≤ x)) (p := 0 ≤ v11) rfl rfl (zd_ge h.1) ?_ ?_
                · intro hp
                  replace h := h.2.1 hp
                  refine gx_r hM hZ 1 (B := (166, [some (.ref 45), some (.int (Int32.ofInt x1)), some (.int (Int32.ofInt x2)), some (.int (Int32.ofInt ((s 45 57) + 1)))], [.int (Int32.ofInt 0), .ref 45], zw X s11)) rfl ?_
                  exact gx_fg [true, false, false, true] (h hZ d hd)
                · intro hp
                  replace h := h.2.2 hp
                  refine gx_r hM hZ 2 (B := (166, [some (.ref 45), some (.int (Int32.ofInt x1)), some (.int (Int32.ofInt x2)), some (.int (Int32.ofInt ((s 45 57) + 1)))], [.int (Int32.ofInt 1), .ref 45], zw X s11)) rfl ?_
                  exact gx_fg [true, false, false, true] (h hZ d hd)
            · by_cases hq6 : (x1 = 10)
              · refine gi_tab hM hZ (x := x1) (o := 164) rfl h.1 ?_ (by decide) ?_
                · rw [hq6]; rfl
                · replace h := h.2.2.2.2.2.2.2.2.1 hq6
                  refine gx_r hM hZ 1 (B := (173, [some (.ref 45), some (.int (Int32.ofInt x1)), some (.int (Int32.ofInt x2)), some (.int (Int32.ofInt ((s 45 57) + 1)))], [.ref 45], zw X s)) rfl ?_
                  refine gi_call hM (s := s) (hj := 0) hZ rfl rfl (by omega) h ?_
                  intro v12 s12 h
                  refine gi_if1 hM hZ (fun x => decide (¬ x = 0)) (p := ¬ v12 = 0) rfl rfl (zd_ne h.1) ?_ ?_
                  · intro hp
                    replace h := h.2.1 hp
                    refine gx_r hM hZ 1 (B := (184, [some (.ref 45), some (.int (Int32.ofInt x1)), some (.int (Int32.ofInt x2)), some (.int (Int32.ofInt ((s 45 57) + 1)))], [.int (Int32.ofInt ((s 45 57) + 1))], zw X s12)) rfl ?_
                    exact gx_fg [true, false, false, false] (h hZ d hd)
                  · intro hp
                    replace h := h.2.2 hp
                    refine gx_r hM hZ 2 (B := (184, [some (.ref 45), some (.int (Int32.ofInt x1)), some (.int (Int32.ofInt x2)), some (.int (Int32.ofInt ((s 45 57) + 1)))], [.int (Int32.ofInt x2)], zw X s12)) rfl ?_
                    exact gx_fg [true, false, false, false] (h hZ d hd)
              · by_cases hq7 : (x1 = 11)
                · refine gi_tab hM hZ (x := x1) (o := 180) rfl h.1 ?_ (by decide) ?_
                  · rw [hq7]; rfl
                  · replace h := h.2.2.2.2.2.2.2.2.2.1 hq7
                    refine gx_r hM hZ 3 (B := (234, [some (.ref 45), some (.int (Int32.ofInt x1)), some (.int (Int32.ofInt x2)), some (.int (Int32.ofInt x2))], [], zw X s)) rfl ?_
                    exact gx_fg [true, false, false, true] (h hZ d hd)
                · by_cases hq8 : (x1 = 12)
                  · refine gi_tab hM hZ (x := x1) (o := 185) rfl h.1 ?_ (by decide) ?_
                    · rw [hq8]; rfl
                    · replace h := h.2.2.2.2.2.2.2.2.2.2.1 hq8
                      refine gx_r hM hZ 2 (B := (197, [some (.ref 45), some (.int (Int32.ofInt x1)), some (.int (Int32.ofInt x2)), some (.int (Int32.ofInt ((s 45 57) + 1)))], [.ref 82], zw X s)) rfl ?_
                      refine gi_bip hM hZ rfl rfl ?_
                      refine gx_r hM hZ 2 (B := (203, [some (.ref 45), some (.int (Int32.ofInt x1)), some (.int (Int32.ofInt x2)), some (.int (Int32.ofInt ((s 45 57) + 1)))], [.int (Int32.ofInt (s 45 56)), .int (Int32.ofInt 8), .ref 82], zw X s)) rfl ?_
                      refine gi_mul hM hZ rfl ?_
                      refine gx_r hM hZ 1 (B := (205, [some (.ref 45), some (.int (Int32.ofInt x1)), some (.int (Int32.ofInt x2)), some (.int (Int32.ofInt ((s 45 57) + 1)))], [.int (Int32.ofInt x2), .int (Int32.ofInt (8 * (s 45 56))), .ref 82], zw X s)) rfl ?_
                      refine gi_add hM hZ rfl ?_
                      refine gx_r hM hZ 1 (B := (207, [some (.ref 45), some (.int (Int32.ofInt x1)), some (.int (Int32.ofInt x2)), some (.int (Int32.ofInt ((s 45 57) + 1)))], [.ref 45, .int (Int32.ofInt ((8 * (s 45 56)) + x2)), .ref 82], zw X s)) rfl ?_
                      refine gi_call hM (s := s) (hj := 0) hZ rfl rfl (by omega) h ?_
                      intro v13 s13 h
                      obtain ⟨s14, e14⟩ : ∃ q : zS, q = zu s13 82 ((8 * (s 45 56)) + x2) v13 := ⟨_, rfl⟩
                      refine gj_iast hM hZ (len := 192) rfl rfl (Nat.le_of_ble_eq_true rfl) zp_82 h.1 e14 ?_
                      replace h := h.2 _ e14
                      refine gx_r hM hZ 1 (B := (234, [some (.ref 45), some (.int (Int32.ofInt x1)), some (.int (Int32.ofInt x2)), some (.int (Int32.ofInt ((s 45 57) + 1)))], [], zw X s14)) rfl ?_
                      exact gx_fg [true, false, false, true] (h hZ d hd)
                  · by_cases hq9 : (x1 = 17)
                    · refine gi_tab hM hZ (x := x1) (o := 206) rfl h.1 ?_ (by decide) ?_
                      · rw [hq9]; rfl
                      · replace h := h.2.2.2.2.2.2.2.2.2.2.2.1 hq9
                        refine gx_r hM hZ 1 (B := (215, [some (.ref 45), some (.int (Int32.ofInt x1)), some (.int (Int32.ofInt x2)), some (.int (Int32.ofInt ((s 45 57) + 1)))], [.ref 45], zw X s)) rfl ?_
                        refine gi_call hM (s := s) (hj := 1) hZ rfl rfl (by omega) h ?_
                        intro _ s19 h
                        refine gx_r hM hZ 1 (B := (234, [some (.ref 45), some (.int (Int32.ofInt x1)), some (.int (Int32.ofInt x2)), some (.int (Int32.ofInt ((s 45 57) + 1)))], [], zw X s19)) rfl ?_
                        exact gx_fg [true, false, false, true] (h hZ d hd)
                    · by_cases hq10 : (x1 = 18)
                      · refine gi_tab hM hZ (x := x1) (o := 213) rfl h.1 ?_ (by decide) ?_
                        · rw [hq10]; rfl
                        · replace h := h.2.2.2.2.2.2.2.2.2.2.2.2 hq10
                          refine gx_r hM hZ 1 (B := (222, [some (.ref 45), some (.int (Int32.ofInt x1)), some (.int (Int32.ofInt x2)), some (.int (Int32.ofInt ((s 45 57) + 1)))], [.ref 45], zw X s)) rfl ?_
                          refine gi_call hM (s := s) (hj := 0) hZ rfl rfl (by omega) h ?_
                          intro v20 s20 h
                          refine gx_r hM hZ 2 (B := (234, [some (.ref 45), some (.int (Int32.ofInt x1)), some (.int (Int32.ofInt v20)), some (.int (Int32.ofInt ((s 45 57) + 1)))], [], zw X s20)) rfl ?_
                          exact gx_fg [true, false, false, true] (h hZ d hd)
                      · refine gi_tab hM hZ (x := x1) (o := 221) rfl h.1 ?_ (by decide) ?_
                        · by_cases hr : x1 < 0 ∨ 18 < x1
                          · exact if_pos hr
                          · have e : x1 = 7 ∨ x1 = 8 ∨ x1 = 13 ∨ x1 = 14 ∨ x1 = 15 ∨ x1 = 16 := by omega
                            rcases e with e | e | e | e | e | e <;> (rw [e]; rfl)
                        · replace h := h.2.1 (by omega)
                          refine gx_r hM hZ 2 (B := (231, [some (.ref 45), some (.int (Int32.ofInt x1)), some (.int (Int32.ofInt x2)), some (.int (Int32.ofInt ((s 45 57) + 1)))], [.int (Int32.ofInt x1), .ref 45], zw X s)) rfl ?_
                          refine gi_call hM (s := s) (hj := 1) hZ rfl rfl (by omega) h ?_
                          intro _ s1 h
                          exact gx_fg [true, false, false, true] (h hZ d hd)
theorem w_146_166_i {X : zX} {x3 t1 : Int} {s : zS} {Q : Int → zS → Prop} (h : (w_145 X t1 s (fun _ s1 => w_146_234 X x3 s1 Q))) : w_146_166 X x3 t1 s Q := by
  intro hZ d hd
  have hM : xi_ml[146]? = some xm_146 := rfl
  refine gi_call hM (s := s) (hj := 0) hZ rfl rfl (by omega) h ?_
  intro _ s1 h
  refine gx_r hM hZ 1 (B := (234, [some (.ref 45), none, none, some (.int (Int32.ofInt x3))], [], zw X s1)) rfl ?_
  exact gx_fg [true, false, false, true] (h hZ d hd)
theorem w_146_184_i {X : zX} {t0 : Int} {s : zS} {Q : Int → zS → Prop} (h : w_146_234 X t0 s Q) : w_146_184 X t0 s Q := by
  intro hZ d hd
  have hM : xi_ml[146]? = some xm_146 := rfl
  refine gx_r hM hZ 2 (B := (234, [some (.ref 45), none, none, some (.int (Int32.ofInt t0))], [], zw X s)) rfl ?_
  exact gx_fg [true, false, false, true] (h hZ d hd)
theorem w_146_234_i {X : zX} {x3 : Int} {s : zS} {Q : Int → zS → Prop} (h : (∀ s1 : zS, s1 = zu s 45 57 x3 → Q 0 s1)) : w_146_234 X x3 s Q := by
  intro hZ d hd
  have hM : xi_ml[146]? = some xm_146 := rfl
  refine gx_r hM hZ 2 (B := (236, [some (.ref 45), none, none, some (.int (Int32.ofInt x3))], [.int (Int32.ofInt x3), .ref 45], zw X s)) rfl ?_
  obtain ⟨s1, e1⟩ : ∃ q : zS, q = zu s 45 57 x3 := ⟨_, rfl⟩
  refine gj_put hM hZ rfl rfl rfl (Nat.le_of_ble_eq_true rfl) rfl rfl zq_45_57 e1 ?_
  replace h := h _ e1
  exact ⟨_, xi_To.rf _ _ _ _, 0, s1, rfl, h⟩
-- RootLoom$Weaver.weave
def w_45 (X : zX) (s : zS) (Q : Int → zS → Prop) : Prop := wW X 45 xm_45 5 (0, [some (.ref 22), none, none, none, none], [], zw X s) Q
def w_45_13 (X : zX) (x1 x2 x3 : Int) (s : zS) (Q : Int → zS → Prop) : Prop := wW X 45 xm_45 5 (13, [some (.ref 22), some (.int (Int32.ofInt x1)), some (.int (Int32.ofInt x2)), some (.int (Int32.ofInt x3)), none], [], zw X s) Q
def w_45_71 (X : zX) (x1 x2 x3 : Int) (s : zS) (Q : Int → zS → Prop) : Prop := wW X 45 xm_45 5 (71, [some (.ref 22), some (.int (Int32.ofInt x1)), some (.int (Int32.ofInt x2)), some (.int (Int32.ofInt x3)), none], [], zw X s) Q
def w_45_90 (X : zX) (s : zS) (Q : Int → zS → Prop) : Prop := wW X 45 xm_45 5 (90, [none, none, none, none, none], [], zw X s) Q
def w_45_95 (X : zX) (x2 x3 : Int) (s : zS) (Q : Int → zS → Prop) : Prop := wW X 45 xm_45 5 (95, [some (.ref 22), none, some (.int (Int32.ofInt x2)), some (.int (Int32.ofInt x3)), none], [], zw X s) Q
def w_45_130 (X : zX) (x2 x3 : Int) (s : zS) (Q : Int → zS → Prop) : Prop := wW X 45 xm_45 5 (130, [some (.ref 22), none, some (.int (Int32.ofInt x2)), some (.int (Int32.ofInt x3)), none], [], zw X s) Q
theorem w_45_i {X : zX} {s : zS} {Q : Int → zS → Prop} (h : (w_38 X s (fun _ s1 => w_45_13 X 0 0 0 s1 Q))) : w_45 X s Q := by
  intro hZ d hd
  have hM : xi_ml[45]? = some xm_45 := rfl
  refine gx_r hM hZ 2 (B := (4, [some (.ref 22), none, none, none, none], [.ref 14], zw X s)) rfl ?_
  refine gi_call hM (s := s) (hj := 0) hZ rfl rfl (by omega) h ?_
  intro _ s1 h
  refine gx_r hM hZ 6 (B := (13, [some (.ref 22), some (.int (Int32.ofInt 0)), some (.int (Int32.ofInt 0)), some (.int (Int32.ofInt 0)), none], [], zw X s1)) rfl ?_
  exact gx_fg [true, true, true, true, false] (h hZ d hd)
theorem w_45_13_i {X : zX} {x1 x2 x3 : Int} {s : zS} {Q : Int → zS → Prop} (h : (((-2147483648 ≤ x3 ∧ x3 ≤ 2147483647) ∧ (-2147483648 ≤ (s 3 6) ∧ (s 3 6) ≤ 2147483647)) ∧ ((s 3 6) ≤ x3 → ((-2147483648 ≤ x1 ∧ x1 ≤ 2147483647) ∧ (400 < x1 → w_45_90 X s Q) ∧ (¬ 400 < x1 → ((-2147483648 ≤ x2 ∧ x2 ≤ 2147483647) ∧ (x2 ≤ 16 → w_45_95 X x2 0 s Q) ∧ (¬ x2 ≤ 16 → w_45_90 X s Q))))) ∧ (¬ (s 3 6) ≤ x3 → (0 ≤ x3 ∧ x3 < 6) ∧ ((-2147483648 ≤ (s 9 x3) ∧ (s 9 x3) ≤ 2147483647) ∧ ((s 9 x3) = (-1) → w_45_71 X x1 x2 x3 s Q) ∧ (¬ (s 9 x3) = (-1) → (0 ≤ (s 9 x3) ∧ (s 9 x3) < 150) ∧ (0 ≤ (s 9 x3) ∧ (s 9 x3) < 150) ∧ (w_157 X x2 (s 13 (s 9 x3)) s (fun v1 s1 => w_45_71 X (x1 + ((s 12 (s 9 x3)) + 1)) v1 x3 s1 Q))))))) : w_45_13 X x1 x2 x3 s Q := by
  intro hZ d hd
  have hM : xi_ml[45]? = some xm_45 := rfl
  refine gx_r hM hZ 4 (B := (21, [some (.ref 22), some (.int (Int32.ofInt x1)), some (.int (Int32.ofInt x2)), some (.int (Int32.ofInt x3)), none], [.int (Int32.ofInt (s 3 6)), .int (Int32.ofInt x3)], zw X s)) rfl ?_
  refine gi_if2 hM hZ (fun x y => decide (y ≤ x)) (p := (s 3 6) ≤ x3) rfl rfl (zc_ge h.1.1 h.1.2) ?_ ?_
  · intro hp
    replace h := h.2.1 hp
    refine gx_r hM hZ 1 (B := (78, [some (.ref 22), some (.int (Int32.ofInt x1)), some (.int (Int32.ofInt x2)), some (.int (Int32.ofInt x3)), none], [.int (Int32.ofInt x1)], zw X s)) rfl ?_
    refine gi_sip hM hZ rfl rfl ?_
    refine gi_if2 hM hZ (fun x y => decide (y < x)) (p := 400 < x1) rfl rfl (zc_gt h.1 (by decide)) ?_ ?_
    · intro hp
      replace h := h.2.1 hp
      exact gx_fg [false, false, false, false, false] (h hZ d hd)
    · intro hp
      replace h := h.2.2 hp
      refine gx_r hM hZ 1 (B := (85, [some (.ref 22), some (.int (Int32.ofInt x1)), some (.int (Int32.ofInt x2)), some (.int (Int32.ofInt x3)), none], [.int (Int32.ofInt x2)], zw X s)) rfl ?_
      refine gi_bip hM hZ rfl rfl ?_
      refine gi_if2 hM hZ (fun x y => decide (x ≤ y)) (p := x2 ≤ 16) rfl rfl (zc_le h.1 (by decide)) ?_ ?_
      · intro hp
        replace h := h.2.1 hp
        refine gx_r hM hZ 2 (B := (95, [some (.ref 22), some (.int (Int32.ofInt x1)), some (.int (Int32.ofInt x2)), some (.int (Int32.ofInt 0)), none], [], zw X s)) rfl ?_
        exact gx_fg [true, false, true, true, false] (h hZ d hd)
      · intro hp
        replace h := h.2.2 hp
        exact gx_fg [false, false, false, false, false] (h hZ d hd)
  · intro hp
    replace h := h.2.2 hp
    refine gx_r hM hZ 4 (B := (32, [some (.ref 22), some (.int (Int32.ofInt x1)), some (.int (Int32.ofInt x2)), some (.int (Int32.ofInt x3)), none], [.int (Int32.ofInt x3), .ref 9], zw X s)) rfl ?_
    refine gi_iald hM hZ (s := s) (len := 6) rfl rfl (Nat.le_of_ble_eq_true rfl) h.1 ?_
    replace h := h.2
    refine gx_r hM hZ 3 (B := (38, [some (.ref 22), some (.int (Int32.ofInt x1)), some (.int (Int32.ofInt x2)), some (.int (Int32.ofInt x3)), some (.int (Int32.ofInt (s 9 x3)))], [.int (Int32.ofInt (-1)), .int (Int32.ofInt (s 9 x3))], zw X s)) rfl ?_
    refine gi_if2 hM hZ (fun x y => decide (x = y)) (p := (s 9 x3) = (-1)) rfl rfl (zc_eq h.1 (by decide)) ?_ ?_
    · intro hp
      replace h := h.2.1 hp
      exact gx_fg [true, true, true, true, false] (h hZ d hd)
    · intro hp
      replace h := h.2.2 hp
      refine gx_r hM hZ 5 (B := (51, [some (.ref 22), some (.int (Int32.ofInt x1)), some (.int (Int32.ofInt x2)), some (.int (Int32.ofInt x3)), some (.int (Int32.ofInt (s 9 x3)))], [.int (Int32.ofInt (s 9 x3)), .ref 12, .int (Int32.ofInt x1)], zw X s)) rfl ?_
      refine gi_iald hM hZ (s := s) (len := 150) rfl rfl (Nat.le_of_ble_eq_true rfl) h.1 ?_
      replace h := h.2
      refine gx_r hM hZ 1 (B := (53, [some (.ref 22), some (.int (Int32.ofInt x1)), some (.int (Int32.ofInt x2)), some (.int (Int32.ofInt x3)), some (.int (Int32.ofInt (s 9 x3)))], [.int (Int32.ofInt 1), .int (Int32.ofInt (s 12 (s 9 x3))), .int (Int32.ofInt x1)], zw X s)) rfl ?_
      refine gi_add hM hZ rfl ?_
      refine gi_add hM hZ rfl ?_
      refine gx_r hM hZ 6 (B := (66, [some (.ref 22), some (.int (Int32.ofInt (x1 + ((s 12 (s 9 x3)) + 1)))), some (.int (Int32.ofInt x2)), some (.int (Int32.ofInt x3)), some (.int (Int32.ofInt (s 9 x3)))], [.int (Int32.ofInt (s 9 x3)), .ref 13, .int (Int32.ofInt x2)], zw X s)) rfl ?_
      refine gi_iald hM hZ (s := s) (len := 150) rfl rfl (Nat.le_of_ble_eq_true rfl) h.1 ?_
      replace h := h.2
      refine gi_call hM (s := s) (hj := 0) hZ rfl rfl (by omega) h ?_
      intro v1 s1 h
      refine gx_r hM hZ 1 (B := (71, [some (.ref 22), some (.int (Int32.ofInt (x1 + ((s 12 (s 9 x3)) + 1)))), some (.int (Int32.ofInt v1)), some (.int (Int32.ofInt x3)), some (.int (Int32.ofInt (s 9 x3)))], [], zw X s1)) rfl ?_
      exact gx_fg [true, true, true, true, false] (h hZ d hd)
theorem w_45_71_i {X : zX} {x1 x2 x3 : Int} {s : zS} {Q : Int → zS → Prop} (h : w_45_13 X x1 x2 (x3 + 1) s Q) : w_45_71 X x1 x2 x3 s Q := by
  intro hZ d hd
  have hM : xi_ml[45]? = some xm_45 := rfl
  refine gi_inc hM hZ (x := x3) (m := 1) rfl rfl ?_
  refine gx_r hM hZ 0 (B := (74, [some (.ref 22), some (.int (Int32.ofInt x1)), some (.int (Int32.ofInt x2)), some (.int (Int32.ofInt (x3 + 1))), none], [], zw X s)) rfl ?_
  refine gx_r hM hZ 1 (B := (13, [some (.ref 22), some (.int (Int32.ofInt x1)), some (.int (Int32.ofInt x2)), some (.int (Int32.ofInt (x3 + 1))), none], [], zw X s)) rfl ?_
  exact gx_fg [true, true, true, true, false] (h hZ d hd)
theorem w_45_90_i {X : zX} {s : zS} {Q : Int → zS → Prop} (h : Q (-2) s) : w_45_90 X s Q := by
  intro hZ d hd
  have hM : xi_ml[45]? = some xm_45 := rfl
  refine gi_bip hM hZ rfl rfl ?_
  exact ⟨_, xi_To.rf _ _ _ _, (-2), s, rfl, h⟩
theorem w_45_95_i {X : zX} {x2 x3 : Int} {s : zS} {Q : Int → zS → Prop} (h : (((-2147483648 ≤ x3 ∧ x3 ≤ 2147483647) ∧ (-2147483648 ≤ (s 3 6) ∧ (s 3 6) ≤ 2147483647)) ∧ ((s 3 6) ≤ x3 → (w_64 X s (fun _ s1 => (w_41_3 X s1 (fun _ s2 => (∀ s3 : zS, s3 = zu s2 14 3 x2 → (∀ s4 : zS, s4 = zu s3 14 0 1 → Q (s4 14 1) s4))))))) ∧ (¬ (s 3 6) ≤ x3 → (0 ≤ x3 ∧ x3 < 6) ∧ ((-2147483648 ≤ (s 9 x3) ∧ (s 9 x3) ≤ 2147483647) ∧ ((s 9 x3) = (-1) → w_45_130 X x2 x3 s Q) ∧ (¬ (s 9 x3) = (-1) → (w_46 X x3 s (fun v5 s5 => ((-2147483648 ≤ v5 ∧ v5 ≤ 2147483647) ∧ (¬ v5 = 0 → w_45_130 X x2 x3 s5 Q) ∧ (¬ ¬ v5 = 0 → Q (-3) s5))))))))) : w_45_95 X x2 x3 s Q := by
  intro hZ d hd
  have hM : xi_ml[45]? = some xm_45 := rfl
  refine gx_r hM hZ 4 (B := (103, [some (.ref 22), none, some (.int (Int32.ofInt x2)), some (.int (Int32.ofInt x3)), none], [.int (Int32.ofInt (s 3 6)), .int (Int32.ofInt x3)], zw X s)) rfl ?_
  refine gi_if2 hM hZ (fun x y => decide (y ≤ x)) (p := (s 3 6) ≤ x3) rfl rfl (zc_ge h.1.1 h.1.2) ?_ ?_
  · intro hp
    replace h := h.2.1 hp
    refine gx_r hM hZ 1 (B := (137, [some (.ref 22), none, some (.int (Int32.ofInt x2)), some (.int (Int32.ofInt x3)), none], [.ref 22], zw X s)) rfl ?_
    refine gi_call hM (s := s) (hj := 1) hZ rfl rfl (by omega) h ?_
    intro _ s1 h
    refine gx_r hM hZ 4 (B := (148, [some (.ref 22), none, some (.int (Int32.ofInt x2)), some (.int (Int32.ofInt x3)), none], [.ref 3, .ref 14], zw X s1)) rfl ?_
    refine gi_call hM (s := s1) (hj := 0) hZ rfl rfl (by omega) h ?_
    intro _ s2 h
    refine gx_r hM hZ 3 (B := (156, [some (.ref 22), none, some (.int (Int32.ofInt x2)), some (.int (Int32.ofInt x3)), none], [.int (Int32.ofInt x2), .ref 14], zw X s2)) rfl ?_
    obtain ⟨s3, e3⟩ : ∃ q : zS, q = zu s2 14 3 x2 := ⟨_, rfl⟩
    refine gj_put hM hZ rfl rfl rfl (Nat.le_of_ble_eq_true rfl) rfl rfl zq_14_3 e3 ?_
    replace h := h _ e3
    refine gx_r hM hZ 3 (B := (164, [some (.ref 22), none, some (.int (Int32.ofInt x2)), some (.int (Int32.ofInt x3)), none], [.int (Int32.ofInt 1), .ref 14], zw X s3)) rfl ?_
    obtain ⟨s4, e4⟩ : ∃ q : zS, q = zu s3 14 0 1 := ⟨_, rfl⟩
    refine gj_put hM hZ rfl rfl rfl (Nat.le_of_ble_eq_true rfl) rfl rfl zq_14_0 e4 ?_
    replace h := h _ e4
    refine gx_r hM hZ 3 (B := (174, [some (.ref 22), none, some (.int (Int32.ofInt x2)), some (.int (Int32.ofInt x3)), none], [.int (Int32.ofInt (s4 14 1))], zw X s4)) rfl ?_
    exact ⟨_, xi_To.rf _ _ _ _, (s4 14 1), s4, rfl, h⟩
  · intro hp
    replace h := h.2.2 hp
    refine gx_r hM hZ 4 (B := (114, [some (.ref 22), none, some (.int (Int32.ofInt x2)), some (.int (Int32.ofInt x3)), none], [.int (Int32.ofInt x3), .ref 9], zw X s)) rfl ?_
    refine gi_iald hM hZ (s := s) (len := 6) rfl rfl (Nat.le_of_ble_eq_true rfl) h.1 ?_
    replace h := h.2
    refine gx_r hM hZ 1 (B := (116, [some (.ref 22), none, some (.int (Int32.ofInt x2)), some (.int (Int32.ofInt x3)), none], [.int (Int32.ofInt (-1)), .int (Int32.ofInt (s 9 x3))], zw X s)) rfl ?_
    refine gi_if2 hM hZ (fun x y => decide (x = y)) (p := (s 9 x3) = (-1)) rfl rfl (zc_eq h.1 (by decide)) ?_ ?_
    · intro hp
      replace h := h.2.1 hp
      exact gx_fg [true, false, true, true, false] (h hZ d hd)
    · intro hp
      replace h := h.2.2 hp
      refine gx_r hM hZ 2 (B := (121, [some (.ref 22), none, some (.int (Int32.ofInt x2)), some (.int (Int32.ofInt x3)), none], [.int (Int32.ofInt x3), .ref 22], zw X s)) rfl ?_
      refine gi_call hM (s := s) (hj := 4) hZ rfl rfl (by omega) h ?_
      intro v5 s5 h
      refine gi_if1 hM hZ (fun x => decide (¬ x = 0)) (p := ¬ v5 = 0) rfl rfl (zd_ne h.1) ?_ ?_
      · intro hp
        replace h := h.2.1 hp
        exact gx_fg [true, false, true, true, false] (h hZ d hd)
      · intro hp
        replace h := h.2.2 hp
        refine gi_bip hM hZ rfl rfl ?_
        exact ⟨_, xi_To.rf _ _ _ _, (-3), s5, rfl, h⟩
theorem w_45_130_i {X : zX} {x2 x3 : Int} {s : zS} {Q : Int → zS → Prop} (h : w_45_95 X x2 (x3 + 1) s Q) : w_45_130 X x2 x3 s Q := by
  intro hZ d hd
  have hM : xi_ml[45]? = some xm_45 := rfl
  refine gi_inc hM hZ (x := x3) (m := 1) rfl rfl ?_
  refine gx_r hM hZ 0 (B := (133, [some (.ref 22), none, some (.int (Int32.ofInt x2)), some (.int (Int32.ofInt (x3 + 1))), none], [], zw X s)) rfl ?_
  refine gx_r hM hZ 1 (B := (95, [some (.ref 22), none, some (.int (Int32.ofInt x2)), some (.int (Int32.ofInt (x3 + 1))), none], [], zw X s)) rfl ?_
  exact gx_fg [true, false, true, true, false] (h hZ d hd)
-- RootLoom$Machine.perform
def w_68 (X : zX) (x1 x2 x3 x4 : Int) (s : zS) (Q : Int → zS → Prop) : Prop := wW X 68 xm_68 5 (0, [some (.ref 31), some (.int (Int32.ofInt x1)), some (.int (Int32.ofInt x2)), some (.int (Int32.ofInt x3)), some (.int (Int32.ofInt x4))], [], zw X s) Q
def w_68_78 (X : zX) (s : zS) (Q : Int → zS → Prop) : Prop := wW X 68 xm_68 5 (78, [some (.ref 31), none, none, none, none], [], zw X s) Q
def w_68_112 (X : zX) (s : zS) (Q : Int → zS → Prop) : Prop := wW X 68 xm_68 5 (112, [some (.ref 31), none, none, none, none], [], zw X s) Q
def w_68_124 (X : zX) (s : zS) (Q : Int → zS → Prop) : Prop := wW X 68 xm_68 5 (124, [some (.ref 31), none, none, none, none], [], zw X s) Q
theorem w_68_i {X : zX} {x1 x2 x3 x4 : Int} {s : zS} {Q : Int → zS → Prop} (h : (w_85 X s (fun _ s1 => (w_92 X x2 x3 x4 s1 (fun _ s2 => (w_42 X x1 s2 (fun v3 s3 => (∀ s4 : zS, s4 = zu s3 31 6 v3 → (∀ s5 : zS, s5 = zu s4 31 7 0 → (∀ s6 : zS, s6 = zu s5 31 8 0 → (∀ s7 : zS, s7 = zu s6 31 9 0 → (∀ s8 : zS, s8 = zu s7 31 10 0 → (∀ s9 : zS, s9 = zu s8 31 11 0 → (∀ s10 : zS, s10 = zu s9 31 12 1 → (∀ s11 : zS, s11 = zu s10 31 14 0 → (0 ≤ x1 ∧ x1 < 6) ∧ (∀ s12 : zS, s12 = zu s11 31 16 (s11 6 x1) → w_68_78 X s12 Q)))))))))))))))) : w_68 X x1 x2 x3 x4 s Q := by
  intro hZ d hd
  have hM : xi_ml[68]? = some xm_68 := rfl
  refine gx_r hM hZ 2 (B := (4, [some (.ref 31), some (.int (Int32.ofInt x1)), some (.int (Int32.ofInt x2)), some (.int (Int32.ofInt x3)), some (.int (Int32.ofInt x4))], [.ref 32], zw X s)) rfl ?_
  refine gi_call hM (s := s) (hj := 0) hZ rfl rfl (by omega) h ?_
  intro _ s1 h
  refine gx_r hM hZ 5 (B := (15, [some (.ref 31), some (.int (Int32.ofInt x1)), some (.int (Int32.ofInt x2)), some (.int (Int32.ofInt x3)), some (.int (Int32.ofInt x4))], [.int (Int32.ofInt x4), .int (Int32.ofInt x3), .int (Int32.ofInt x2), .ref 39], zw X s1)) rfl ?_
  refine gi_call hM (s := s1) (hj := 0) hZ rfl rfl (by omega) h ?_
  intro _ s2 h
  refine gx_r hM hZ 4 (B := (24, [some (.ref 31), some (.int (Int32.ofInt x1)), some (.int (Int32.ofInt x2)), some (.int (Int32.ofInt x3)), some (.int (Int32.ofInt x4))], [.int (Int32.ofInt x1), .ref 14, .ref 31], zw X s2)) rfl ?_
  refine gi_call hM (s := s2) (hj := 0) hZ rfl rfl (by omega) h ?_
  intro v3 s3 h
  obtain ⟨s4, e4⟩ : ∃ q : zS, q = zu s3 31 6 v3 := ⟨_, rfl⟩
  refine gj_put hM hZ rfl rfl rfl (Nat.le_of_ble_eq_true rfl) rfl rfl zq_31_6 e4 ?_
  replace h := h _ e4
  refine gx_r hM hZ 2 (B := (32, [some (.ref 31), some (.int (Int32.ofInt x1)), some (.int (Int32.ofInt x2)), some (.int (Int32.ofInt x3)), some (.int (Int32.ofInt x4))], [.int (Int32.ofInt 0), .ref 31], zw X s4)) rfl ?_
  obtain ⟨s5, e5⟩ : ∃ q : zS, q = zu s4 31 7 0 := ⟨_, rfl⟩
  refine gj_put hM hZ rfl rfl rfl (Nat.le_of_ble_eq_true rfl) rfl rfl zq_31_7 e5 ?_
  replace h := h _ e5
  refine gx_r hM hZ 2 (B := (37, [some (.ref 31), some (.int (Int32.ofInt x1)), some (.int (Int32.ofInt x2)), some (.int (Int32.ofInt x3)), some (.int (Int32.ofInt x4))], [.int (Int32.ofInt 0), .ref 31], zw X s5)) rfl ?_
  obtain ⟨s6, e6⟩ : ∃ q : zS, q = zu s5 31 8 0 := ⟨_, rfl⟩
  refine gj_put hM hZ rfl rfl rfl (Nat.le_of_ble_eq_true rfl) rfl rfl zq_31_8 e6 ?_
  replace h := h _ e6
  refine gx_r hM hZ 2 (B := (42, [some (.ref 31), some (.int (Int32.ofInt x1)), some (.int (Int32.ofInt x2)), some (.int (Int32.ofInt x3)), some (.int (Int32.ofInt x4))], [.int (Int32.ofInt 0), .ref 31], zw X s6)) rfl ?_
  obtain ⟨s7, e7⟩ : ∃ q : zS, q = zu s6 31 9 0 := ⟨_, rfl⟩
  refine gj_put hM hZ rfl rfl rfl (Nat.le_of_ble_eq_true rfl) rfl rfl zq_31_9 e7 ?_
  replace h := h _ e7
  refine gx_r hM hZ 2 (B := (47, [some (.ref 31), some (.int (Int32.ofInt x1)), some (.int (Int32.ofInt x2)), some (.int (Int32.ofInt x3)), some (.int (Int32.ofInt x4))], [.int (Int32.ofInt 0), .ref 31], zw X s7)) rfl ?_
  obtain ⟨s8, e8⟩ : ∃ q : zS, q = zu s7 31 10 0 := ⟨_, rfl⟩
  refine gj_put hM hZ rfl rfl rfl (Nat.le_of_ble_eq_true rfl) rfl rfl zq_31_10 e8 ?_
  replace h := h _ e8
  refine gx_r hM hZ 2 (B := (52, [some (.ref 31), some (.int (Int32.ofInt x1)), some (.int (Int32.ofInt x2)), some (.int (Int32.ofInt x3)), some (.int (Int32.ofInt x4))], [.int (Int32.ofInt 0), .ref 31], zw X s8)) rfl ?_
  obtain ⟨s9, e9⟩ : ∃ q : zS, q = zu s8 31 11 0 := ⟨_, rfl⟩
  refine gj_put hM hZ rfl rfl rfl (Nat.le_of_ble_eq_true rfl) rfl rfl zq_31_11 e9 ?_
  replace h := h _ e9
  refine gx_r hM hZ 2 (B := (57, [some (.ref 31), some (.int (Int32.ofInt x1)), some (.int (Int32.ofInt x2)), some (.int (Int32.ofInt x3)), some (.int (Int32.ofInt x4))], [.int (Int32.ofInt 1), .ref 31], zw X s9)) rfl ?_
  obtain ⟨s10, e10⟩ : ∃ q : zS, q = zu s9 31 12 1 := ⟨_, rfl⟩
  refine gj_put hM hZ rfl rfl rfl (Nat.le_of_ble_eq_true rfl) rfl rfl zq_31_12 e10 ?_
  replace h := h _ e10
  refine gx_r hM hZ 2 (B := (62, [some (.ref 31), some (.int (Int32.ofInt x1)), some (.int (Int32.ofInt x2)), some (.int (Int32.ofInt x3)), some (.int (Int32.ofInt x4))], [.int (Int32.ofInt 0), .ref 31], zw X s10)) rfl ?_
  obtain ⟨s11, e11⟩ : ∃ q : zS, q = zu s10 31 14 0 := ⟨_, rfl⟩
  refine gj_put hM hZ rfl rfl rfl (Nat.le_of_ble_eq_true rfl) rfl rfl zq_31_14 e11 ?_
  replace h := h _ e11
  refine gx_r hM hZ 5 (B := (74, [some (.ref 31), some (.int (Int32.ofInt x1)), some (.int (Int32.ofInt x2)), some (.int (Int32.ofInt x3)), some (.int (Int32.ofInt x4))], [.int (Int32.ofInt x1), .ref 6, .ref 31], zw X s11)) rfl ?_
  refine gi_iald hM hZ (s := s11) (len := 6) rfl rfl (Nat.le_of_ble_eq_true rfl) h.1 ?_
  replace h := h.2
  obtain ⟨s12, e12⟩ : ∃ q : zS, q = zu s11 31 16 (s11 6 x1) := ⟨_, rfl⟩
  refine gj_put hM hZ rfl rfl rfl (Nat.le_of_ble_eq_true rfl) rfl rfl zq_31_16 e12 ?_
  replace h := h _ e12
  exact gx_fg [true, false, false, false, false] (h hZ d hd)
theorem w_68_78_i {X : zX} {s : zS} {Q : Int → zS → Prop} (h : ((-2147483648 ≤ (s 31 8) ∧ (s 31 8) ≤ 2147483647) ∧ (¬ (s 31 8) = 0 → w_68_112 X s Q) ∧ (¬ ¬ (s 31 8) = 0 → ((-2147483648 ≤ (s 31 9) ∧ (s 31 9) ≤ 2147483647) ∧ (6000 ≤ (s 31 9) → w_68_112 X s Q) ∧ (¬ 6000 ≤ (s 31 9) → (∀ s1 : zS, s1 = zu s 31 9 ((s 31 9) + 1) → (w_69 X s1 (fun _ s2 => w_68_78 X s2 Q)))))))) : w_68_78 X s Q := by
  intro hZ d hd
  have hM : xi_ml[68]? = some xm_68 := rfl
  refine gx_r hM hZ 2 (B := (82, [some (.ref 31), none, none, none, none], [.int (Int32.ofInt (s 31 8))], zw X s)) rfl ?_
  refine gi_if1 hM hZ (fun x => decide (¬ x = 0)) (p := ¬ (s 31 8) = 0) rfl rfl (zd_ne h.1) ?_ ?_
  · intro hp
    replace h := h.2.1 hp
    exact gx_fg [true, false, false, false, false] (h hZ d hd)
  · intro hp
    replace h := h.2.2 hp
    refine gx_r hM hZ 2 (B := (89, [some (.ref 31), none, none, none, none], [.int (Int32.ofInt (s 31 9))], zw X s)) rfl ?_
    refine gi_sip hM hZ rfl rfl ?_
    refine gi_if2 hM hZ (fun x y => decide (y ≤ x)) (p := 6000 ≤ (s 31 9)) rfl rfl (zc_ge h.1 (by decide)) ?_ ?_
    · intro hp
      replace h := h.2.1 hp
      exact gx_fg [true, false, false, false, false] (h hZ d hd)
    · intro hp
      replace h := h.2.2 hp
      refine gx_r hM hZ 4 (B := (101, [some (.ref 31), none, none, none, none], [.int (Int32.ofInt 1), .int (Int32.ofInt (s 31 9)), .ref 31], zw X s)) rfl ?_
      refine gi_add hM hZ rfl ?_
      obtain ⟨s1, e1⟩ : ∃ q : zS, q = zu s 31 9 ((s 31 9) + 1) := ⟨_, rfl⟩
      refine gj_put hM hZ rfl rfl rfl (Nat.le_of_ble_eq_true rfl) rfl rfl zq_31_9 e1 ?_
      replace h := h _ e1
      refine gx_r hM hZ 1 (B := (106, [some (.ref 31), none, none, none, none], [.ref 31], zw X s1)) rfl ?_
      refine gi_call hM (s := s1) (hj := 4) hZ rfl rfl (by omega) h ?_
      intro _ s2 h
      refine gx_r hM hZ 1 (B := (78, [some (.ref 31), none, none, none, none], [], zw X s2)) rfl ?_
      exact gx_fg [true, false, false, false, false] (h hZ d hd)
theorem w_68_112_i {X : zX} {s : zS} {Q : Int → zS → Prop} (h : ((-2147483648 ≤ (s 31 8) ∧ (s 31 8) ≤ 2147483647) ∧ (¬ (s 31 8) = 0 → w_68_124 X s Q) ∧ (¬ ¬ (s 31 8) = 0 → (∀ s1 : zS, s1 = zu s 31 8 5 → w_68_124 X s1 Q)))) : w_68_112 X s Q := by
  intro hZ d hd
  have hM : xi_ml[68]? = some xm_68 := rfl
  refine gx_r hM hZ 2 (B := (116, [some (.ref 31), none, none, none, none], [.int (Int32.ofInt (s 31 8))], zw X s)) rfl ?_
  refine gi_if1 hM hZ (fun x => decide (¬ x = 0)) (p := ¬ (s 31 8) = 0) rfl rfl (zd_ne h.1) ?_ ?_
  · intro hp
    replace h := h.2.1 hp
    exact gx_fg [true, false, false, false, false] (h hZ d hd)
  · intro hp
    replace h := h.2.2 hp
    refine gx_r hM hZ 2 (B := (121, [some (.ref 31), none, none, none, none], [.int (Int32.ofInt 5), .ref 31], zw X s)) rfl ?_
    obtain ⟨s1, e1⟩ : ∃ q : zS, q = zu s 31 8 5 := ⟨_, rfl⟩
    refine gj_put hM hZ rfl rfl rfl (Nat.le_of_ble_eq_true rfl) rfl rfl zq_31_8 e1 ?_
    replace h := h _ e1
    exact gx_fg [true, false, false, false, false] (h hZ d hd)
theorem w_68_124_i {X : zX} {s : zS} {Q : Int → zS → Prop} (h : Q (s 31 8) s) : w_68_124 X s Q := by
  intro hZ d hd
  have hM : xi_ml[68]? = some xm_68 := rfl
  refine gx_r hM hZ 2 (B := (128, [some (.ref 31), none, none, none, none], [.int (Int32.ofInt (s 31 8))], zw X s)) rfl ?_
  exact ⟨_, xi_To.rf _ _ _ _, (s 31 8), s, rfl, h⟩
-- RootLoomModel.lay
def w_108 (X : zX) (s : zS) (Q : Int → zS → Prop) : Prop := wW X 108 xm_108 5 (0, [some (.ref 45), none], [], zw X s) Q
def w_108_37 (X : zX) (x1 : Int) (s : zS) (Q : Int → zS → Prop) : Prop := wW X 108 xm_108 5 (37, [some (.ref 45), some (.int (Int32.ofInt x1))], [], zw X s) Q
def w_108_72 (X : zX) (x1 : Int) (s : zS) (Q : Int → zS → Prop) : Prop := wW X 108 xm_108 5 (72, [some (.ref 45), some (.int (Int32.ofInt x1))], [], zw X s) Q
def w_108_95 (X : zX) (x1 : Int) (s : zS) (Q : Int → zS → Prop) : Prop := wW X 108 xm_108 5 (95, [some (.ref 45), some (.int (Int32.ofInt x1))], [], zw X s) Q
theorem w_108_i {X : zX} {s : zS} {Q : Int → zS → Prop} (h : (∀ s1 : zS, s1 = zu s 45 0 0 → (∀ s2 : zS, s2 = zu s1 45 39 0 → (∀ s3 : zS, s3 = zu s2 45 15 0 → (∀ s4 : zS, s4 = zu s3 45 16 0 → (w_109 X s4 (fun v5 s5 => ((-2147483648 ≤ v5 ∧ v5 ≤ 2147483647) ∧ (v5 = 0 → (∀ s6 : zS, s6 = zu s5 45 36 0 → w_108_37 X 0 s6 Q)) ∧ (¬ v5 = 0 → Q (-2) s5))))))))) : w_108 X s Q := by
  intro hZ d hd
  have hM : xi_ml[108]? = some xm_108 := rfl
  refine gx_r hM hZ 2 (B := (2, [some (.ref 45), none], [.int (Int32.ofInt 0), .ref 45], zw X s)) rfl ?_
  obtain ⟨s1, e1⟩ : ∃ q : zS, q = zu s 45 0 0 := ⟨_, rfl⟩
  refine gj_put hM hZ rfl rfl rfl (Nat.le_of_ble_eq_true rfl) rfl rfl zq_45_0 e1 ?_
  replace h := h _ e1
  refine gx_r hM hZ 2 (B := (7, [some (.ref 45), none], [.int (Int32.ofInt 0), .ref 45], zw X s1)) rfl ?_
  obtain ⟨s2, e2⟩ : ∃ q : zS, q = zu s1 45 39 0 := ⟨_, rfl⟩
  refine gj_put hM hZ rfl rfl rfl (Nat.le_of_ble_eq_true rfl) rfl rfl zq_45_39 e2 ?_
  replace h := h _ e2
  refine gx_r hM hZ 2 (B := (12, [some (.ref 45), none], [.int (Int32.ofInt 0), .ref 45], zw X s2)) rfl ?_
  obtain ⟨s3, e3⟩ : ∃ q : zS, q = zu s2 45 15 0 := ⟨_, rfl⟩
  refine gj_put hM hZ rfl rfl rfl (Nat.le_of_ble_eq_true rfl) rfl rfl zq_45_15 e3 ?_
  replace h := h _ e3
  refine gx_r hM hZ 2 (B := (17, [some (.ref 45), none], [.int (Int32.ofInt 0), .ref 45], zw X s3)) rfl ?_
  obtain ⟨s4, e4⟩ : ∃ q : zS, q = zu s3 45 16 0 := ⟨_, rfl⟩
  refine gj_put hM hZ rfl rfl rfl (Nat.le_of_ble_eq_true rfl) rfl rfl zq_45_16 e4 ?_
  replace h := h _ e4
  refine gx_r hM hZ 1 (B := (21, [some (.ref 45), none], [.ref 45], zw X s4)) rfl ?_
  refine gi_call hM (s := s4) (hj := 2) hZ rfl rfl (by omega) h ?_
  intro v5 s5 h
  refine gi_if1 hM hZ (fun x => decide (x = 0)) (p := v5 = 0) rfl rfl (zd_eq h.1) ?_ ?_
  · intro hp
    replace h := h.2.1 hp
    refine gx_r hM hZ 2 (B := (32, [some (.ref 45), none], [.int (Int32.ofInt 0), .ref 45], zw X s5)) rfl ?_
    obtain ⟨s6, e6⟩ : ∃ q : zS, q = zu s5 45 36 0 := ⟨_, rfl⟩
    refine gj_put hM hZ rfl rfl rfl (Nat.le_of_ble_eq_true rfl) rfl rfl zq_45_36 e6 ?_
    replace h := h _ e6
    refine gx_r hM hZ 2 (B := (37, [some (.ref 45), some (.int (Int32.ofInt 0))], [], zw X s6)) rfl ?_
    exact gx_fg [true, true] (h hZ d hd)
  · intro hp
    replace h := h.2.2 hp
    refine gi_bip hM hZ rfl rfl ?_
    exact ⟨_, xi_To.rf _ _ _ _, (-2), s5, rfl, h⟩
theorem w_108_37_i {X : zX} {x1 : Int} {s : zS} {Q : Int → zS → Prop} (h : ((-2147483648 ≤ x1 ∧ x1 ≤ 2147483647) ∧ (6 ≤ x1 → ((-2147483648 ≤ (s 45 36) ∧ (s 45 36) ≤ 2147483647) ∧ ((s 45 36) = 0 → (∀ s1 : zS, s1 = zu s 45 15 1 → w_108_95 X 0 s1 Q)) ∧ (¬ (s 45 36) = 0 → Q (-3) s))) ∧ (¬ 6 ≤ x1 → (0 ≤ x1 ∧ x1 < 6) ∧ (∀ s2 : zS, s2 = zu s 64 x1 (-1) → (((-2147483648 ≤ x1 ∧ x1 ≤ 2147483647) ∧ (-2147483648 ≤ (s2 45 3) ∧ (s2 45 3) ≤ 2147483647)) ∧ ((s2 45 3) ≤ x1 → w_108_72 X x1 s2 Q) ∧ (¬ (s2 45 3) ≤ x1 → (0 ≤ x1 ∧ x1 < 6) ∧ ((-2147483648 ≤ (s2 51 x1) ∧ (s2 51 x1) ≤ 2147483647) ∧ ((s2 51 x1) < 0 → w_108_72 X x1 s2 Q) ∧ (¬ (s2 51 x1) < 0 → (w_113 X x1 s2 (fun _ s3 => w_108_72 X x1 s3 Q)))))))))) : w_108_37 X x1 s Q := by
  intro hZ d hd
  have hM : xi_ml[108]? = some xm_108 := rfl
  refine gx_r hM hZ 1 (B := (38, [some (.ref 45), some (.int (Int32.ofInt x1))], [.int (Int32.ofInt x1)], zw X s)) rfl ?_
  refine gi_bip hM hZ rfl rfl ?_
  refine gi_if2 hM hZ (fun x y => decide (y ≤ x)) (p := 6 ≤ x1) rfl rfl (zc_ge h.1 (by decide)) ?_ ?_
  · intro hp
    replace h := h.2.1 hp
    refine gx_r hM hZ 2 (B := (82, [some (.ref 45), some (.int (Int32.ofInt x1))], [.int (Int32.ofInt (s 45 36))], zw X s)) rfl ?_
    refine gi_if1 hM hZ (fun x => decide (x = 0)) (p := (s 45 36) = 0) rfl rfl (zd_eq h.1) ?_ ?_
    · intro hp
      replace h := h.2.1 hp
      refine gx_r hM hZ 2 (B := (90, [some (.ref 45), some (.int (Int32.ofInt x1))], [.int (Int32.ofInt 1), .ref 45], zw X s)) rfl ?_
      obtain ⟨s1, e1⟩ : ∃ q : zS, q = zu s 45 15 1 := ⟨_, rfl⟩
      refine gj_put hM hZ rfl rfl rfl (Nat.le_of_ble_eq_true rfl) rfl rfl zq_45_15 e1 ?_
      replace h := h _ e1
      refine gx_r hM hZ 2 (B := (95, [some (.ref 45), some (.int (Int32.ofInt 0))], [], zw X s1)) rfl ?_
      exact gx_fg [true, true] (h hZ d hd)
    · intro hp
      replace h := h.2.2 hp
      refine gi_bip hM hZ rfl rfl ?_
      exact ⟨_, xi_To.rf _ _ _ _, (-3), s, rfl, h⟩
  · intro hp
    replace h := h.2.2 hp
    refine gx_r hM hZ 4 (B := (49, [some (.ref 45), some (.int (Int32.ofInt x1))], [.int (Int32.ofInt (-1)), .int (Int32.ofInt x1), .ref 64], zw X s)) rfl ?_
    obtain ⟨s2, e2⟩ : ∃ q : zS, q = zu s 64 x1 (-1) := ⟨_, rfl⟩
    refine gj_iast hM hZ (len := 6) rfl rfl (Nat.le_of_ble_eq_true rfl) zp_64 h.1 e2 ?_
    replace h := h.2 _ e2
    refine gx_r hM hZ 3 (B := (55, [some (.ref 45), some (.int (Int32.ofInt x1))], [.int (Int32.ofInt (s2 45 3)), .int (Int32.ofInt x1)], zw X s2)) rfl ?_
    refine gi_if2 hM hZ (fun x y => decide (y ≤ x)) (p := (s2 45 3) ≤ x1) rfl rfl (zc_ge h.1.1 h.1.2) ?_ ?_
    · intro hp
      replace h := h.2.1 hp
      exact gx_fg [true, true] (h hZ d hd)
    · intro hp
      replace h := h.2.2 hp
      refine gx_r hM hZ 3 (B := (63, [some (.ref 45), some (.int (Int32.ofInt x1))], [.int (Int32.ofInt x1), .ref 51], zw X s2)) rfl ?_
      refine gi_iald hM hZ (s := s2) (len := 6) rfl rfl (Nat.le_of_ble_eq_true rfl) h.1 ?_
      replace h := h.2
      refine gi_if1 hM hZ (fun x => decide (x < 0)) (p := (s2 51 x1) < 0) rfl rfl (zd_lt h.1) ?_ ?_
      · intro hp
        replace h := h.2.1 hp
        exact gx_fg [true, true] (h hZ d hd)
      · intro hp
        replace h := h.2.2 hp
        refine gx_r hM hZ 2 (B := (69, [some (.ref 45), some (.int (Int32.ofInt x1))], [.int (Int32.ofInt x1), .ref 45], zw X s2)) rfl ?_
        refine gi_call hM (s := s2) (hj := 4) hZ rfl rfl (by omega) h ?_
        intro _ s3 h
        exact gx_fg [true, true] (h hZ d hd)
theorem w_108_72_i {X : zX} {x1 : Int} {s : zS} {Q : Int → zS → Prop} (h : w_108_37 X (x1 + 1) s Q) : w_108_72 X x1 s Q := by
  intro hZ d hd
  have hM : xi_ml[108]? = some xm_108 := rfl
  refine gi_inc hM hZ (x := x1) (m := 1) rfl rfl ?_
  refine gx_r hM hZ 0 (B := (75, [some (.ref 45), some (.int (Int32.ofInt (x1 + 1)))], [], zw X s)) rfl ?_
  refine gx_r hM hZ 1 (B := (37, [some (.ref 45), some (.int (Int32.ofInt (x1 + 1)))], [], zw X s)) rfl ?_
  exact gx_fg [true, true] (h hZ d hd)
theorem w_108_95_i {X : zX} {x1 : Int} {s : zS} {Q : Int → zS → Prop} (h : ((-2147483648 ≤ x1 ∧ x1 ≤ 2147483647) ∧ (8 ≤ x1 → (w_127 X s (fun _ s1 => Q (s1 45 16) s1))) ∧ (¬ 8 ≤ x1 → (0 ≤ x1 ∧ x1 < 8) ∧ (0 ≤ x1 ∧ x1 < 8) ∧ (∀ s2 : zS, s2 = zu s 65 x1 (s 46 x1) → (0 ≤ x1 ∧ x1 < 8) ∧ (0 ≤ x1 ∧ x1 < 8) ∧ (∀ s3 : zS, s3 = zu s2 66 x1 (s2 47 x1) → w_108_95 X (x1 + 1) s3 Q))))) : w_108_95 X x1 s Q := by
  intro hZ d hd
  have hM : xi_ml[108]? = some xm_108 := rfl
  refine gx_r hM hZ 1 (B := (96, [some (.ref 45), some (.int (Int32.ofInt x1))], [.int (Int32.ofInt x1)], zw X s)) rfl ?_
  refine gi_bip hM hZ rfl rfl ?_
  refine gi_if2 hM hZ (fun x y => decide (y ≤ x)) (p := 8 ≤ x1) rfl rfl (zc_ge h.1 (by decide)) ?_ ?_
  · intro hp
    replace h := h.2.1 hp
    refine gx_r hM hZ 1 (B := (132, [some (.ref 45), some (.int (Int32.ofInt x1))], [.ref 45], zw X s)) rfl ?_
    refine gi_call hM (s := s) (hj := 0) hZ rfl rfl (by omega) h ?_
    intro _ s1 h
    refine gx_r hM hZ 2 (B := (139, [some (.ref 45), some (.int (Int32.ofInt x1))], [.int (Int32.ofInt (s1 45 16))], zw X s1)) rfl ?_
    exact ⟨_, xi_To.rf _ _ _ _, (s1 45 16), s1, rfl, h⟩
  · intro hp
    replace h := h.2.2 hp
    refine gx_r hM hZ 6 (B := (111, [some (.ref 45), some (.int (Int32.ofInt x1))], [.int (Int32.ofInt x1), .ref 46, .int (Int32.ofInt x1), .ref 65], zw X s)) rfl ?_
    refine gi_iald hM hZ (s := s) (len := 8) rfl rfl (Nat.le_of_ble_eq_true rfl) h.1 ?_
    replace h := h.2
    obtain ⟨s2, e2⟩ : ∃ q : zS, q = zu s 65 x1 (s 46 x1) := ⟨_, rfl⟩
    refine gj_iast hM hZ (len := 8) rfl rfl (Nat.le_of_ble_eq_true rfl) zp_65 h.1 e2 ?_
    replace h := h.2 _ e2
    refine gx_r hM hZ 6 (B := (123, [some (.ref 45), some (.int (Int32.ofInt x1))], [.int (Int32.ofInt x1), .ref 47, .int (Int32.ofInt x1), .ref 66], zw X s2)) rfl ?_
    refine gi_iald hM hZ (s := s2) (len := 8) rfl rfl (Nat.le_of_ble_eq_true rfl) h.1 ?_
    replace h := h.2
    obtain ⟨s3, e3⟩ : ∃ q : zS, q = zu s2 66 x1 (s2 47 x1) := ⟨_, rfl⟩
    refine gj_iast hM hZ (len := 8) rfl rfl (Nat.le_of_ble_eq_true rfl) zp_66 h.1 e3 ?_
    replace h := h.2 _ e3
    refine gi_inc hM hZ (x := x1) (m := 1) rfl rfl ?_
    refine gx_r hM hZ 0 (B := (128, [some (.ref 45), some (.int (Int32.ofInt (x1 + 1)))], [], zw X s3)) rfl ?_
    refine gx_r hM hZ 1 (B := (95, [some (.ref 45), some (.int (Int32.ofInt (x1 + 1)))], [], zw X s3)) rfl ?_
    exact gx_fg [true, true] (h hZ d hd)
-- RootLoomModel.go
def w_137 (X : zX) (s : zS) (Q : Int → zS → Prop) : Prop := wW X 137 xm_137 5 (0, [some (.ref 45)], [], zw X s) Q
theorem w_137_i {X : zX} {s : zS} {Q : Int → zS → Prop} (h : ((-2147483648 ≤ (s 45 39) ∧ (s 45 39) ≤ 2147483647) ∧ (¬ (s 45 39) = 0 → Q 0 s) ∧ (¬ ¬ (s 45 39) = 0 → ((-2147483648 ≤ (s 45 40) ∧ (s 45 40) ≤ 2147483647) ∧ (¬ (s 45 40) = 6000 → (∀ s1 : zS, s1 = zu s 45 40 ((s 45 40) + 1) → (0 ≤ (s1 45 57) ∧ (s1 45 57) < 400) ∧ ((-2147483648 ≤ (s1 58 (s1 45 57)) ∧ (s1 58 (s1 45 57)) ≤ 2147483647) ∧ (¬ (s1 58 (s1 45 57)) = 13 → (0 ≤ (s1 45 57) ∧ (s1 45 57) < 400) ∧ ((-2147483648 ≤ (s1 58 (s1 45 57)) ∧ (s1 58 (s1 45 57)) ≤ 2147483647) ∧ (¬ (s1 58 (s1 45 57)) = 14 → (0 ≤ (s1 45 57) ∧ (s1 45 57) < 400) ∧ (0 ≤ (s1 45 57) ∧ (s1 45 57) < 400) ∧ (w_146 X (s1 58 (s1 45 57)) (s1 59 (s1 45 57)) s1 (fun _ s2 => w_137 X s2 Q))) ∧ (¬ ¬ (s1 58 (s1 45 57)) = 14 → (w_143 X s1 (fun _ s3 => w_137 X s3 Q))))) ∧ (¬ ¬ (s1 58 (s1 45 57)) = 13 → (0 ≤ (s1 45 57) ∧ (s1 45 57) < 400) ∧ (0 ≤ (s1 45 57) ∧ (s1 45 57) < 400) ∧ (w_138 X (s1 59 (s1 45 57)) (s1 60 (s1 45 57)) s1 (fun _ s4 => w_137 X s4 Q)))))) ∧ (¬ ¬ (s 45 40) = 6000 → (∀ s5 : zS, s5 = zu s 45 39 5 → Q 0 s5)))))) : w_137 X s Q := by
  intro hZ d hd
  have hM : xi_ml[137]? = some xm_137 := rfl
  refine gx_r hM hZ 2 (B := (4, [some (.ref 45)], [.int (Int32.ofInt (s 45 39))], zw X s)) rfl ?_
  refine gi_if1 hM hZ (fun x => decide (¬ x = 0)) (p := ¬ (s 45 39) = 0) rfl rfl (zd_ne h.1) ?_ ?_
  · intro hp
    replace h := h.2.1 hp
    exact ⟨_, xi_To.rf _ _ _ _, 0, s, rfl, h⟩
  · intro hp
    replace h := h.2.2 hp
    refine gx_r hM hZ 2 (B := (11, [some (.ref 45)], [.int (Int32.ofInt (s 45 40))], zw X s)) rfl ?_
    refine gi_sip hM hZ rfl rfl ?_
    refine gi_if2 hM hZ (fun x y => decide (¬ x = y)) (p := ¬ (s 45 40) = 6000) rfl rfl (zc_ne h.1 (by decide)) ?_ ?_
    · intro hp
      replace h := h.2.1 hp
      refine gx_r hM hZ 4 (B := (29, [some (.ref 45)], [.int (Int32.ofInt 1), .int (Int32.ofInt (s 45 40)), .ref 45], zw X s)) rfl ?_
      refine gi_add hM hZ rfl ?_
      obtain ⟨s1, e1⟩ : ∃ q : zS, q = zu s 45 40 ((s 45 40) + 1) := ⟨_, rfl⟩
      refine gj_put hM hZ rfl rfl rfl (Nat.le_of_ble_eq_true rfl) rfl rfl zq_45_40 e1 ?_
      replace h := h _ e1
      refine gx_r hM hZ 4 (B := (41, [some (.ref 45)], [.int (Int32.ofInt (s1 45 57)), .ref 58], zw X s1)) rfl ?_
      refine gi_iald hM hZ (s := s1) (len := 400) rfl rfl (Nat.le_of_ble_eq_true rfl) h.1 ?_
      replace h := h.2
      refine gi_bip hM hZ rfl rfl ?_
      refine gi_if2 hM hZ (fun x y => decide (¬ x = y)) (p := ¬ (s1 58 (s1 45 57)) = 13) rfl rfl (zc_ne h.1 (by decide)) ?_ ?_
      · intro hp
        replace h := h.2.1 hp
        refine gx_r hM hZ 4 (B := (80, [some (.ref 45)], [.int (Int32.ofInt (s1 45 57)), .ref 58], zw X s1)) rfl ?_
        refine gi_iald hM hZ (s := s1) (len := 400) rfl rfl (Nat.le_of_ble_eq_true rfl) h.1 ?_
        replace h := h.2
        refine gi_bip hM hZ rfl rfl ?_
        refine gi_if2 hM hZ (fun x y => decide (¬ x = y)) (p := ¬ (s1 58 (s1 45 57)) = 14) rfl rfl (zc_ne h.1 (by decide)) ?_ ?_
        · intro hp
          replace h := h.2.1 hp
          refine gx_r hM hZ 5 (B := (102, [some (.ref 45)], [.int (Int32.ofInt (s1 45 57)), .ref 58, .ref 45], zw X s1)) rfl ?_
          refine gi_iald hM hZ (s := s1) (len := 400) rfl rfl (Nat.le_of_ble_eq_true rfl) h.1 ?_
          replace h := h.2
          refine gx_r hM hZ 4 (B := (111, [some (.ref 45)], [.int (Int32.ofInt (s1 45 57)), .ref 59, .int (Int32.ofInt (s1 58 (s1 45 57))), .ref 45], zw X s1)) rfl ?_
          refine gi_iald hM hZ (s := s1) (len := 400) rfl rfl (Nat.le_of_ble_eq_true rfl) h.1 ?_
          replace h := h.2
          refine gi_call hM (s := s1) (hj := 4) hZ rfl rfl (by omega) h ?_
          intro _ s2 h
          refine gx_r hM hZ 1 (B := (0, [some (.ref 45)], [], zw X s2)) rfl ?_
          exact gx_fg [true] (h hZ d hd)
        · intro hp
          replace h := h.2.2 hp
          refine gx_r hM hZ 1 (B := (87, [some (.ref 45)], [.ref 45], zw X s1)) rfl ?_
          refine gi_call hM (s := s1) (hj := 1) hZ rfl rfl (by omega) h ?_
          intro _ s3 h
          refine gx_r hM hZ 1 (B := (0, [some (.ref 45)], [], zw X s3)) rfl ?_
          exact gx_fg [true] (h hZ d hd)
      · intro hp
        replace h := h.2.2 hp
        refine gx_r hM hZ 5 (B := (56, [some (.ref 45)], [.int (Int32.ofInt (s1 45 57)), .ref 59, .ref 45], zw X s1)) rfl ?_
        refine gi_iald hM hZ (s := s1) (len := 400) rfl rfl (Nat.le_of_ble_eq_true rfl) h.1 ?_
        replace h := h.2
        refine gx_r hM hZ 4 (B := (65, [some (.ref 45)], [.int (Int32.ofInt (s1 45 57)), .ref 60, .int (Int32.ofInt (s1 59 (s1 45 57))), .ref 45], zw X s1)) rfl ?_
        refine gi_iald hM hZ (s := s1) (len := 400) rfl rfl (Nat.le_of_ble_eq_true rfl) h.1 ?_
        replace h := h.2
        refine gi_call hM (s := s1) (hj := 3) hZ rfl rfl (by omega) h ?_
        intro _ s4 h
        refine gx_r hM hZ 1 (B := (0, [some (.ref 45)], [], zw X s4)) rfl ?_
        exact gx_fg [true] (h hZ d hd)
    · intro hp
      replace h := h.2.2 hp
      refine gx_r hM hZ 2 (B := (19, [some (.ref 45)], [.int (Int32.ofInt 5), .ref 45], zw X s)) rfl ?_
      obtain ⟨s5, e5⟩ : ∃ q : zS, q = zu s 45 39 5 := ⟨_, rfl⟩
      refine gj_put hM hZ rfl rfl rfl (Nat.le_of_ble_eq_true rfl) rfl rfl zq_45_39 e5 ?_
      replace h := h _ e5
      exact ⟨_, xi_To.rf _ _ _ _, 0, s5, rfl, h⟩
-- RootLoom.lay
def w_6 (X : zX) (s : zS) (Q : Int → zS → Prop) : Prop := wW X 6 xm_6 6 (0, [some (.ref 2)], [], zw X s) Q
theorem w_6_i {X : zX} {s : zS} {Q : Int → zS → Prop} (h : (w_67 X s (fun _ s1 => (w_45 X s1 (fun v2 s2 => Q v2 s2))))) : w_6 X s Q := by
  intro hZ d hd
  have hM : xi_ml[6]? = some xm_6 := rfl
  refine gx_r hM hZ 2 (B := (4, [some (.ref 2)], [.ref 31], zw X s)) rfl ?_
  refine gi_call hM (s := s) (hj := 0) hZ rfl rfl (by omega) h ?_
  intro _ s1 h
  refine gx_r hM hZ 2 (B := (11, [some (.ref 2)], [.ref 22], zw X s1)) rfl ?_
  refine gi_call hM (s := s1) (hj := 5) hZ rfl rfl (by omega) h ?_
  intro v2 s2 h
  exact ⟨_, xi_To.rf _ _ _ _, v2, s2, rfl, h⟩
-- RootLoom.run
def w_12 (X : zX) (x1 x2 x3 x4 : Int) (s : zS) (Q : Int → zS → Prop) : Prop := wW X 12 xm_12 6 (0, [some (.ref 2), some (.int (Int32.ofInt x1)), some (.int (Int32.ofInt x2)), some (.int (Int32.ofInt x3)), some (.int (Int32.ofInt x4))], [], zw X s) Q
def w_12_23 (X : zX) (s : zS) (Q : Int → zS → Prop) : Prop := wW X 12 xm_12 6 (23, [none, none, none, none, none], [], zw X s) Q
theorem w_12_i {X : zX} {x1 x2 x3 x4 : Int} {s : zS} {Q : Int → zS → Prop} (h : (w_42 X x1 s (fun v1 s1 => ((-2147483648 ≤ v1 ∧ v1 ≤ 2147483647) ∧ (v1 = (-1) → w_12_23 X s1 Q) ∧ (¬ v1 = (-1) → (w_36 X x1 s1 (fun v2 s2 => ((-2147483648 ≤ v2 ∧ v2 ≤ 2147483647) ∧ (¬ v2 = 0 → (w_68 X x1 x2 x3 x4 s2 (fun v3 s3 => Q v3 s3))) ∧ (¬ ¬ v2 = 0 → w_12_23 X s2 Q))))))))) : w_12 X x1 x2 x3 x4 s Q := by
  intro hZ d hd
  have hM : xi_ml[12]? = some xm_12 := rfl
  refine gx_r hM hZ 3 (B := (5, [some (.ref 2), some (.int (Int32.ofInt x1)), some (.int (Int32.ofInt x2)), some (.int (Int32.ofInt x3)), some (.int (Int32.ofInt x4))], [.int (Int32.ofInt x1), .ref 14], zw X s)) rfl ?_
  refine gi_call hM (s := s) (hj := 0) hZ rfl rfl (by omega) h ?_
  intro v1 s1 h
  refine gx_r hM hZ 1 (B := (9, [some (.ref 2), some (.int (Int32.ofInt x1)), some (.int (Int32.ofInt x2)), some (.int (Int32.ofInt x3)), some (.int (Int32.ofInt x4))], [.int (Int32.ofInt (-1)), .int (Int32.ofInt v1)], zw X s1)) rfl ?_
  refine gi_if2 hM hZ (fun x y => decide (x = y)) (p := v1 = (-1)) rfl rfl (zc_eq h.1 (by decide)) ?_ ?_
  · intro hp
    replace h := h.2.1 hp
    exact gx_fg [false, false, false, false, false] (h hZ d hd)
  · intro hp
    replace h := h.2.2 hp
    refine gx_r hM hZ 3 (B := (17, [some (.ref 2), some (.int (Int32.ofInt x1)), some (.int (Int32.ofInt x2)), some (.int (Int32.ofInt x3)), some (.int (Int32.ofInt x4))], [.int (Int32.ofInt x1), .ref 3], zw X s1)) rfl ?_
    refine gi_call hM (s := s1) (hj := 1) hZ rfl rfl (by omega) h ?_
    intro v2 s2 h
    refine gi_if1 hM hZ (fun x => decide (¬ x = 0)) (p := ¬ v2 = 0) rfl rfl (zd_ne h.1) ?_ ?_
    · intro hp
      replace h := h.2.1 hp
      refine gx_r hM hZ 6 (B := (34, [some (.ref 2), some (.int (Int32.ofInt x1)), some (.int (Int32.ofInt x2)), some (.int (Int32.ofInt x3)), some (.int (Int32.ofInt x4))], [.int (Int32.ofInt x4), .int (Int32.ofInt x3), .int (Int32.ofInt x2), .int (Int32.ofInt x1), .ref 31], zw X s2)) rfl ?_
      refine gi_call hM (s := s2) (hj := 5) hZ rfl rfl (by omega) h ?_
      intro v3 s3 h
      exact ⟨_, xi_To.rf _ _ _ _, v3, s3, rfl, h⟩
    · intro hp
      replace h := h.2.2 hp
      exact gx_fg [false, false, false, false, false] (h hZ d hd)
theorem w_12_23_i {X : zX} {s : zS} {Q : Int → zS → Prop} (h : Q (-1) s) : w_12_23 X s Q := by
  intro hZ d hd
  have hM : xi_ml[12]? = some xm_12 := rfl
  refine gx_r hM hZ 1 (B := (24, [none, none, none, none, none], [.int (Int32.ofInt (-1))], zw X s)) rfl ?_
  exact ⟨_, xi_To.rf _ _ _ _, (-1), s, rfl, h⟩
-- RootLoomModel.run
def w_136 (X : zX) (x1 x2 x3 x4 : Int) (s : zS) (Q : Int → zS → Prop) : Prop := wW X 136 xm_136 6 (0, [some (.ref 45), some (.int (Int32.ofInt x1)), some (.int (Int32.ofInt x2)), some (.int (Int32.ofInt x3)), some (.int (Int32.ofInt x4)), none, none], [], zw X s) Q
def w_136_34 (X : zX) (x1 x2 x3 x4 : Int) (s : zS) (Q : Int → zS → Prop) : Prop := wW X 136 xm_136 6 (34, [some (.ref 45), some (.int (Int32.ofInt x1)), some (.int (Int32.ofInt x2)), some (.int (Int32.ofInt x3)), some (.int (Int32.ofInt x4)), none, none], [], zw X s) Q
def w_136_35 (X : zX) (x1 x2 x3 x4 t0 : Int) (s : zS) (Q : Int → zS → Prop) : Prop := wW X 136 xm_136 6 (35, [some (.ref 45), some (.int (Int32.ofInt x1)), some (.int (Int32.ofInt x2)), some (.int (Int32.ofInt x3)), some (.int (Int32.ofInt x4)), none, none], [.int (Int32.ofInt t0)], zw X s) Q
def w_136_40 (X : zX) (x1 x2 x3 x4 x5 x6 : Int) (s : zS) (Q : Int → zS → Prop) : Prop := wW X 136 xm_136 6 (40, [some (.ref 45), some (.int (Int32.ofInt x1)), some (.int (Int32.ofInt x2)), some (.int (Int32.ofInt x3)), some (.int (Int32.ofInt x4)), some (.int (Int32.ofInt x5)), some (.int (Int32.ofInt x6))], [], zw X s) Q
def w_136_75 (X : zX) (x1 x2 x3 x4 x6 t0 : Int) (s : zS) (Q : Int → zS → Prop) : Prop := wW X 136 xm_136 6 (75, [some (.ref 45), some (.int (Int32.ofInt x1)), some (.int (Int32.ofInt x2)), some (.int (Int32.ofInt x3)), some (.int (Int32.ofInt x4)), none, some (.int (Int32.ofInt x6))], [.int (Int32.ofInt t0)], zw X s) Q
def w_136_83 (X : zX) (x1 x2 x3 x4 x5 : Int) (s : zS) (Q : Int → zS → Prop) : Prop := wW X 136 xm_136 6 (83, [some (.ref 45), some (.int (Int32.ofInt x1)), some (.int (Int32.ofInt x2)), some (.int (Int32.ofInt x3)), some (.int (Int32.ofInt x4)), some (.int (Int32.ofInt x5)), none], [], zw X s) Q
def w_136_123 (X : zX) (x1 x2 x3 x4 x6 : Int) (s : zS) (Q : Int → zS → Prop) : Prop := wW X 136 xm_136 6 (123, [some (.ref 45), some (.int (Int32.ofInt x1)), some (.int (Int32.ofInt x2)), some (.int (Int32.ofInt x3)), some (.int (Int32.ofInt x4)), none, some (.int (Int32.ofInt x6))], [], zw X s) Q
def w_136_170 (X : zX) (x1 x2 x3 x4 x6 : Int) (s : zS) (Q : Int → zS → Prop) : Prop := wW X 136 xm_136 6 (170, [some (.ref 45), some (.int (Int32.ofInt x1)), some (.int (Int32.ofInt x2)), some (.int (Int32.ofInt x3)), some (.int (Int32.ofInt x4)), none, some (.int (Int32.ofInt x6))], [], zw X s) Q
theorem w_136_i {X : zX} {x1 x2 x3 x4 : Int} {s : zS} {Q : Int → zS → Prop} (h : (∀ s1 : zS, s1 = zu s 45 0 0 → ((-2147483648 ≤ (s1 45 15) ∧ (s1 45 15) ≤ 2147483647) ∧ ((s1 45 15) = 0 → w_136_34 X x1 x2 x3 x4 s1 Q) ∧ (¬ (s1 45 15) = 0 → (w_101 X x1 0 5 s1 (fun v2 s2 => ((-2147483648 ≤ v2 ∧ v2 ≤ 2147483647) ∧ (v2 = 0 → w_136_34 X x1 x2 x3 x4 s2 Q) ∧ (¬ v2 = 0 → (0 ≤ x1 ∧ x1 < 6) ∧ ((-2147483648 ≤ (s2 64 x1) ∧ (s2 64 x1) ≤ 2147483647) ∧ ((s2 64 x1) < 0 → w_136_34 X x1 x2 x3 x4 s2 Q) ∧ (¬ (s2 64 x1) < 0 → w_136_35 X x1 x2 x3 x4 1 s2 Q)))))))))) : w_136 X x1 x2 x3 x4 s Q := by
  intro hZ d hd
  have hM : xi_ml[136]? = some xm_136 := rfl
  refine gx_r hM hZ 2 (B := (2, [some (.ref 45), some (.int (Int32.ofInt x1)), some (.int (Int32.ofInt x2)), some (.int (Int32.ofInt x3)), some (.int (Int32.ofInt x4)), none, none], [.int (Int32.ofInt 0), .ref 45], zw X s)) rfl ?_
  obtain ⟨s1, e1⟩ : ∃ q : zS, q = zu s 45 0 0 := ⟨_, rfl⟩
  refine gj_put hM hZ rfl rfl rfl (Nat.le_of_ble_eq_true rfl) rfl rfl zq_45_0 e1 ?_
  replace h := h _ e1
  refine gx_r hM hZ 2 (B := (9, [some (.ref 45), some (.int (Int32.ofInt x1)), some (.int (Int32.ofInt x2)), some (.int (Int32.ofInt x3)), some (.int (Int32.ofInt x4)), none, none], [.int (Int32.ofInt (s1 45 15))], zw X s1)) rfl ?_
  refine gi_if1 hM hZ (fun x => decide (x = 0)) (p := (s1 45 15) = 0) rfl rfl (zd_eq h.1) ?_ ?_
  · intro hp
    replace h := h.2.1 hp
    exact gx_fg [true, true, true, true, true, false, false] (h hZ d hd)
  · intro hp
    replace h := h.2.2 hp
    refine gx_r hM hZ 3 (B := (15, [some (.ref 45), some (.int (Int32.ofInt x1)), some (.int (Int32.ofInt x2)), some (.int (Int32.ofInt x3)), some (.int (Int32.ofInt x4)), none, none], [.int (Int32.ofInt 5), .int (Int32.ofInt 0), .int (Int32.ofInt x1)], zw X s1)) rfl ?_
    refine gi_call hM (s := s1) (hj := 0) hZ rfl rfl (by omega) h ?_
    intro v2 s2 h
    refine gi_if1 hM hZ (fun x => decide (x = 0)) (p := v2 = 0) rfl rfl (zd_eq h.1) ?_ ?_
    · intro hp
      replace h := h.2.1 hp
      exact gx_fg [true, true, true, true, true, false, false] (h hZ d hd)
    · intro hp
      replace h := h.2.2 hp
      refine gx_r hM hZ 3 (B := (26, [some (.ref 45), some (.int (Int32.ofInt x1)), some (.int (Int32.ofInt x2)), some (.int (Int32.ofInt x3)), some (.int (Int32.ofInt x4)), none, none], [.int (Int32.ofInt x1), .ref 64], zw X s2)) rfl ?_
      refine gi_iald hM hZ (s := s2) (len := 6) rfl rfl (Nat.le_of_ble_eq_true rfl) h.1 ?_
      replace h := h.2
      refine gi_if1 hM hZ (fun x => decide (x < 0)) (p := (s2 64 x1) < 0) rfl rfl (zd_lt h.1) ?_ ?_
      · intro hp
        replace h := h.2.1 hp
        exact gx_fg [true, true, true, true, true, false, false] (h hZ d hd)
      · intro hp
        replace h := h.2.2 hp
        refine gx_r hM hZ 2 (B := (35, [some (.ref 45), some (.int (Int32.ofInt x1)), some (.int (Int32.ofInt x2)), some (.int (Int32.ofInt x3)), some (.int (Int32.ofInt x4)), none, none], [.int (Int32.ofInt 1)], zw X s2)) rfl ?_
        exact gx_fg [true, true, true, true, true, false, false] (h hZ d hd)
theorem w_136_34_i {X : zX} {x1 x2 x3 x4 : Int} {s : zS} {Q : Int → zS → Prop} (h : w_136_35 X x1 x2 x3 x4 0 s Q) : w_136_34 X x1 x2 x3 x4 s Q := by
  intro hZ d hd
  have hM : xi_ml[136]? = some xm_136 := rfl
  refine gx_r hM hZ 1 (B := (35, [some (.ref 45), some (.int (Int32.ofInt x1)), some (.int (Int32.ofInt x2)), some (.int (Int32.ofInt x3)), some (.int (Int32.ofInt x4)), none, none], [.int (Int32.ofInt 0)], zw X s)) rfl ?_
  exact gx_fg [true, true, true, true, true, false, false] (h hZ d hd)
theorem w_136_35_i {X : zX} {x1 x2 x3 x4 t0 : Int} {s : zS} {Q : Int → zS → Prop} (h : w_136_40 X x1 x2 x3 x4 t0 0 s Q) : w_136_35 X x1 x2 x3 x4 t0 s Q := by
  intro hZ d hd
  have hM : xi_ml[136]? = some xm_136 := rfl
  refine gx_r hM hZ 3 (B := (40, [some (.ref 45), some (.int (Int32.ofInt x1)), some (.int (Int32.ofInt x2)), some (.int (Int32.ofInt x3)), some (.int (Int32.ofInt x4)), some (.int (Int32.ofInt t0)), some (.int (Int32.ofInt 0))], [], zw X s)) rfl ?_
  exact gx_fg [true, true, true, true, true, true, true] (h hZ d hd)
theorem w_136_40_i {X : zX} {x1 x2 x3 x4 x5 x6 : Int} {s : zS} {Q : Int → zS → Prop} (h : ((-2147483648 ≤ x5 ∧ x5 ≤ 2147483647) ∧ (x5 = 0 → w_136_83 X x1 x2 x3 x4 x5 s Q) ∧ (¬ x5 = 0 → (0 ≤ x1 ∧ x1 < 6) ∧ (((-2147483648 ≤ x6 ∧ x6 ≤ 2147483647) ∧ (-2147483648 ≤ (s 49 x1) ∧ (s 49 x1) ≤ 2147483647)) ∧ ((s 49 x1) ≤ x6 → w_136_83 X x1 x2 x3 x4 x5 s Q) ∧ (¬ (s 49 x1) ≤ x6 → (0 ≤ ((3 * x1) + x6) ∧ ((3 * x1) + x6) < 18) ∧ ((-2147483648 ≤ (s 50 ((3 * x1) + x6)) ∧ (s 50 ((3 * x1) + x6)) ≤ 2147483647) ∧ (¬ (s 50 ((3 * x1) + x6)) = 0 → w_136_75 X x1 x2 x3 x4 x6 0 s Q) ∧ (¬ ¬ (s 50 ((3 * x1) + x6)) = 0 → w_136_75 X x1 x2 x3 x4 x6 1 s Q))))))) : w_136_40 X x1 x2 x3 x4 x5 x6 s Q := by
  intro hZ d hd
  have hM : xi_ml[136]? = some xm_136 := rfl
  refine gx_r hM hZ 1 (B := (42, [some (.ref 45), some (.int (Int32.ofInt x1)), some (.int (Int32.ofInt x2)), some (.int (Int32.ofInt x3)), some (.int (Int32.ofInt x4)), some (.int (Int32.ofInt x5)), some (.int (Int32.ofInt x6))], [.int (Int32.ofInt x5)], zw X s)) rfl ?_
  refine gi_if1 hM hZ (fun x => decide (x = 0)) (p := x5 = 0) rfl rfl (zd_eq h.1) ?_ ?_
  · intro hp
    replace h := h.2.1 hp
    exact gx_fg [true, true, true, true, true, true, false] (h hZ d hd)
  · intro hp
    replace h := h.2.2 hp
    refine gx_r hM hZ 4 (B := (52, [some (.ref 45), some (.int (Int32.ofInt x1)), some (.int (Int32.ofInt x2)), some (.int (Int32.ofInt x3)), some (.int (Int32.ofInt x4)), some (.int (Int32.ofInt x5)), some (.int (Int32.ofInt x6))], [.int (Int32.ofInt x1), .ref 49, .int (Int32.ofInt x6)], zw X s)) rfl ?_
    refine gi_iald hM hZ (s := s) (len := 6) rfl rfl (Nat.le_of_ble_eq_true rfl) h.1 ?_
    replace h := h.2
    refine gi_if2 hM hZ (fun x y => decide (y ≤ x)) (p := (s 49 x1) ≤ x6) rfl rfl (zc_ge h.1.1 h.1.2) ?_ ?_
    · intro hp
      replace h := h.2.1 hp
      exact gx_fg [true, true, true, true, true, true, false] (h hZ d hd)
    · intro hp
      replace h := h.2.2 hp
      refine gx_r hM hZ 4 (B := (62, [some (.ref 45), some (.int (Int32.ofInt x1)), some (.int (Int32.ofInt x2)), some (.int (Int32.ofInt x3)), some (.int (Int32.ofInt x4)), some (.int (Int32.ofInt x5)), some (.int (Int32.ofInt x6))], [.int (Int32.ofInt x1), .int (Int32.ofInt 3), .ref 50], zw X s)) rfl ?_
      refine gi_mul hM hZ rfl ?_
      refine gx_r hM hZ 1 (B := (65, [some (.ref 45), some (.int (Int32.ofInt x1)), some (.int (Int32.ofInt x2)), some (.int (Int32.ofInt x3)), some (.int (Int32.ofInt x4)), some (.int (Int32.ofInt x5)), some (.int (Int32.ofInt x6))], [.int (Int32.ofInt x6), .int (Int32.ofInt (3 * x1)), .ref 50], zw X s)) rfl ?_
      refine gi_add hM hZ rfl ?_
      refine gi_iald hM hZ (s := s) (len := 18) rfl rfl (Nat.le_of_ble_eq_true rfl) h.1 ?_
      replace h := h.2
      refine gi_if1 hM hZ (fun x => decide (¬ x = 0)) (p := ¬ (s 50 ((3 * x1) + x6)) = 0) rfl rfl (zd_ne h.1) ?_ ?_
      · intro hp
        replace h := h.2.1 hp
        refine gx_r hM hZ 1 (B := (75, [some (.ref 45), some (.int (Int32.ofInt x1)), some (.int (Int32.ofInt x2)), some (.int (Int32.ofInt x3)), some (.int (Int32.ofInt x4)), some (.int (Int32.ofInt x5)), some (.int (Int32.ofInt x6))], [.int (Int32.ofInt 0)], zw X s)) rfl ?_
        exact gx_fg [true, true, true, true, true, false, true] (h hZ d hd)
      · intro hp
        replace h := h.2.2 hp
        refine gx_r hM hZ 2 (B := (75, [some (.ref 45), some (.int (Int32.ofInt x1)), some (.int (Int32.ofInt x2)), some (.int (Int32.ofInt x3)), some (.int (Int32.ofInt x4)), some (.int (Int32.ofInt x5)), some (.int (Int32.ofInt x6))], [.int (Int32.ofInt 1)], zw X s)) rfl ?_
        exact gx_fg [true, true, true, true, true, false, true] (h hZ d hd)
theorem w_136_75_i {X : zX} {x1 x2 x3 x4 x6 t0 : Int} {s : zS} {Q : Int → zS → Prop} (h : w_136_40 X x1 x2 x3 x4 t0 (x6 + 1) s Q) : w_136_75 X x1 x2 x3 x4 x6 t0 s Q := by
  intro hZ d hd
  have hM : xi_ml[136]? = some xm_136 := rfl
  refine gx_r hM hZ 1 (B := (77, [some (.ref 45), some (.int (Int32.ofInt x1)), some (.int (Int32.ofInt x2)), some (.int (Int32.ofInt x3)), some (.int (Int32.ofInt x4)), some (.int (Int32.ofInt t0)), some (.int (Int32.ofInt x6))], [], zw X s)) rfl ?_
  refine gi_inc hM hZ (x := x6) (m := 1) rfl rfl ?_
  refine gx_r hM hZ 0 (B := (80, [some (.ref 45), some (.int (Int32.ofInt x1)), some (.int (Int32.ofInt x2)), some (.int (Int32.ofInt x3)), some (.int (Int32.ofInt x4)), some (.int (Int32.ofInt t0)), some (.int (Int32.ofInt (x6 + 1)))], [], zw X s)) rfl ?_
  refine gx_r hM hZ 1 (B := (40, [some (.ref 45), some (.int (Int32.ofInt x1)), some (.int (Int32.ofInt x2)), some (.int (Int32.ofInt x3)), some (.int (Int32.ofInt x4)), some (.int (Int32.ofInt t0)), some (.int (Int32.ofInt (x6 + 1)))], [], zw X s)) rfl ?_
  exact gx_fg [true, true, true, true, true, true, true] (h hZ d hd)
theorem w_136_83_i {X : zX} {x1 x2 x3 x4 x5 : Int} {s : zS} {Q : Int → zS → Prop} (h : ((-2147483648 ≤ x5 ∧ x5 ≤ 2147483647) ∧ (¬ x5 = 0 → (∀ s1 : zS, s1 = zu s 45 39 0 → (∀ s2 : zS, s2 = zu s1 45 40 0 → (∀ s3 : zS, s3 = zu s2 45 41 0 → (∀ s4 : zS, s4 = zu s3 45 42 0 → (∀ s5 : zS, s5 = zu s4 45 44 0 → (∀ s6 : zS, s6 = zu s5 45 48 0 → w_136_123 X x1 x2 x3 x4 0 s6 Q))))))) ∧ (¬ ¬ x5 = 0 → Q (-1) s))) : w_136_83 X x1 x2 x3 x4 x5 s Q := by
  intro hZ d hd
  have hM : xi_ml[136]? = some xm_136 := rfl
  refine gx_r hM hZ 1 (B := (85, [some (.ref 45), some (.int (Int32.ofInt x1)), some (.int (Int32.ofInt x2)), some (.int (Int32.ofInt x3)), some (.int (Int32.ofInt x4)), some (.int (Int32.ofInt x5)), none], [.int (Int32.ofInt x5)], zw X s)) rfl ?_
  refine gi_if1 hM hZ (fun x => decide (¬ x = 0)) (p := ¬ x5 = 0) rfl rfl (zd_ne h.1) ?_ ?_
  · intro hp
    replace h := h.2.1 hp
    refine gx_r hM hZ 2 (B := (92, [some (.ref 45), some (.int (Int32.ofInt x1)), some (.int (Int32.ofInt x2)), some (.int (Int32.ofInt x3)), some (.int (Int32.ofInt x4)), some (.int (Int32.ofInt x5)), none], [.int (Int32.ofInt 0), .ref 45], zw X s)) rfl ?_
    obtain ⟨s1, e1⟩ : ∃ q : zS, q = zu s 45 39 0 := ⟨_, rfl⟩
    refine gj_put hM hZ rfl rfl rfl (Nat.le_of_ble_eq_true rfl) rfl rfl zq_45_39 e1 ?_
    replace h := h _ e1
    refine gx_r hM hZ 2 (B := (97, [some (.ref 45), some (.int (Int32.ofInt x1)), some (.int (Int32.ofInt x2)), some (.int (Int32.ofInt x3)), some (.int (Int32.ofInt x4)), some (.int (Int32.ofInt x5)), none], [.int (Int32.ofInt 0), .ref 45], zw X s1)) rfl ?_
    obtain ⟨s2, e2⟩ : ∃ q : zS, q = zu s1 45 40 0 := ⟨_, rfl⟩
    refine gj_put hM hZ rfl rfl rfl (Nat.le_of_ble_eq_true rfl) rfl rfl zq_45_40 e2 ?_
    replace h := h _ e2
    refine gx_r hM hZ 2 (B := (102, [some (.ref 45), some (.int (Int32.ofInt x1)), some (.int (Int32.ofInt x2)), some (.int (Int32.ofInt x3)), some (.int (Int32.ofInt x4)), some (.int (Int32.ofInt x5)), none], [.int (Int32.ofInt 0), .ref 45], zw X s2)) rfl ?_
    obtain ⟨s3, e3⟩ : ∃ q : zS, q = zu s2 45 41 0 := ⟨_, rfl⟩
    refine gj_put hM hZ rfl rfl rfl (Nat.le_of_ble_eq_true rfl) rfl rfl zq_45_41 e3 ?_
    replace h := h _ e3
    refine gx_r hM hZ 2 (B := (107, [some (.ref 45), some (.int (Int32.ofInt x1)), some (.int (Int32.ofInt x2)), some (.int (Int32.ofInt x3)), some (.int (Int32.ofInt x4)), some (.int (Int32.ofInt x5)), none], [.int (Int32.ofInt 0), .ref 45], zw X s3)) rfl ?_
    obtain ⟨s4, e4⟩ : ∃ q : zS, q = zu s3 45 42 0 := ⟨_, rfl⟩
    refine gj_put hM hZ rfl rfl rfl (Nat.le_of_ble_eq_true rfl) rfl rfl zq_45_42 e4 ?_
    replace h := h _ e4
    refine gx_r hM hZ 2 (B := (112, [some (.ref 45), some (.int (Int32.ofInt x1)), some (.int (Int32.ofInt x2)), some (.int (Int32.ofInt x3)), some (.int (Int32.ofInt x4)), some (.int (Int32.ofInt x5)), none], [.int (Int32.ofInt 0), .ref 45], zw X s4)) rfl ?_
    obtain ⟨s5, e5⟩ : ∃ q : zS, q = zu s4 45 44 0 := ⟨_, rfl⟩
    refine gj_put hM hZ rfl rfl rfl (Nat.le_of_ble_eq_true rfl) rfl rfl zq_45_44 e5 ?_
    replace h := h _ e5
    refine gx_r hM hZ 2 (B := (117, [some (.ref 45), some (.int (Int32.ofInt x1)), some (.int (Int32.ofInt x2)), some (.int (Int32.ofInt x3)), some (.int (Int32.ofInt x4)), some (.int (Int32.ofInt x5)), none], [.int (Int32.ofInt 0), .ref 45], zw X s5)) rfl ?_
    obtain ⟨s6, e6⟩ : ∃ q : zS, q = zu s5 45 48 0 := ⟨_, rfl⟩
    refine gj_put hM hZ rfl rfl rfl (Nat.le_of_ble_eq_true rfl) rfl rfl zq_45_48 e6 ?_
    replace h := h _ e6
    refine gx_r hM hZ 2 (B := (123, [some (.ref 45), some (.int (Int32.ofInt x1)), some (.int (Int32.ofInt x2)), some (.int (Int32.ofInt x3)), some (.int (Int32.ofInt x4)), some (.int (Int32.ofInt x5)), some (.int (Int32.ofInt 0))], [], zw X s6)) rfl ?_
    exact gx_fg [true, true, true, true, true, false, true] (h hZ d hd)
  · intro hp
    replace h := h.2.2 hp
    refine gx_r hM hZ 1 (B := (89, [some (.ref 45), some (.int (Int32.ofInt x1)), some (.int (Int32.ofInt x2)), some (.int (Int32.ofInt x3)), some (.int (Int32.ofInt x4)), some (.int (Int32.ofInt x5)), none], [.int (Int32.ofInt (-1))], zw X s)) rfl ?_
    exact ⟨_, xi_To.rf _ _ _ _, (-1), s, rfl, h⟩
theorem w_136_123_i {X : zX} {x1 x2 x3 x4 x6 : Int} {s : zS} {Q : Int → zS → Prop} (h : ((-2147483648 ≤ x6 ∧ x6 ≤ 2147483647) ∧ (200 ≤ x6 → (∀ s1 : zS, s1 = zu s 45 56 0 → (∀ s2 : zS, s2 = zu s1 45 43 1 → (∀ s3 : zS, s3 = zu s2 45 58 0 → (∀ s4 : zS, s4 = zu s3 81 0 0 → w_136_170 X x1 x2 x3 x4 0 s4 Q))))) ∧ (¬ 200 ≤ x6 → (0 ≤ x6 ∧ x6 < 200) ∧ (∀ s5 : zS, s5 = zu s 74 x6 0 → w_136_123 X x1 x2 x3 x4 (x6 + 1) s5 Q)))) : w_136_123 X x1 x2 x3 x4 x6 s Q := by
  intro hZ d hd
  have hM : xi_ml[136]? = some xm_136 := rfl
  refine gx_r hM hZ 1 (B := (125, [some (.ref 45), some (.int (Int32.ofInt x1)), some (.int (Int32.ofInt x2)), some (.int (Int32.ofInt x3)), some (.int (Int32.ofInt x4)), none, some (.int (Int32.ofInt x6))], [.int (Int32.ofInt x6)], zw X s)) rfl ?_
  refine gi_sip hM hZ rfl rfl ?_
  refine gi_if2 hM hZ (fun x y => decide (y ≤ x)) (p := 200 ≤ x6) rfl rfl (zc_ge h.1 (by decide)) ?_ ?_
  · intro hp
    replace h := h.2.1 hp
    refine gx_r hM hZ 2 (B := (147, [some (.ref 45), some (.int (Int32.ofInt x1)), some (.int (Int32.ofInt x2)), some (.int (Int32.ofInt x3)), some (.int (Int32.ofInt x4)), none, some (.int (Int32.ofInt x6))], [.int (Int32.ofInt 0), .ref 45], zw X s)) rfl ?_
    obtain ⟨s1, e1⟩ : ∃ q : zS, q = zu s 45 56 0 := ⟨_, rfl⟩
    refine gj_put hM hZ rfl rfl rfl (Nat.le_of_ble_eq_true rfl) rfl rfl zq_45_56 e1 ?_
    replace h := h _ e1
    refine gx_r hM hZ 2 (B := (152, [some (.ref 45), some (.int (Int32.ofInt x1)), some (.int (Int32.ofInt x2)), some (.int (Int32.ofInt x3)), some (.int (Int32.ofInt x4)), none, some (.int (Int32.ofInt x6))], [.int (Int32.ofInt 1), .ref 45], zw X s1)) rfl ?_
    obtain ⟨s2, e2⟩ : ∃ q : zS, q = zu s1 45 43 1 := ⟨_, rfl⟩
    refine gj_put hM hZ rfl rfl rfl (Nat.le_of_ble_eq_true rfl) rfl rfl zq_45_43 e2 ?_
    replace h := h _ e2
    refine gx_r hM hZ 2 (B := (157, [some (.ref 45), some (.int (Int32.ofInt x1)), some (.int (Int32.ofInt x2)), some (.int (Int32.ofInt x3)), some (.int (Int32.ofInt x4)), none, some (.int (Int32.ofInt x6))], [.int (Int32.ofInt 0), .ref 45], zw X s2)) rfl ?_
    obtain ⟨s3, e3⟩ : ∃ q : zS, q = zu s2 45 58 0 := ⟨_, rfl⟩
    refine gj_put hM hZ rfl rfl rfl (Nat.le_of_ble_eq_true rfl) rfl rfl zq_45_58 e3 ?_
    replace h := h _ e3
    refine gx_r hM hZ 4 (B := (166, [some (.ref 45), some (.int (Int32.ofInt x1)), some (.int (Int32.ofInt x2)), some (.int (Int32.ofInt x3)), some (.int (Int32.ofInt x4)), none, some (.int (Int32.ofInt x6))], [.int (Int32.ofInt 0), .int (Int32.ofInt 0), .ref 81], zw X s3)) rfl ?_
    obtain ⟨s4, e4⟩ : ∃ q : zS, q = zu s3 81 0 0 := ⟨_, rfl⟩
    refine gj_iast hM hZ (len := 24) rfl rfl (Nat.le_of_ble_eq_true rfl) zp_81 (by decide) e4 ?_
    replace h := h _ e4
    refine gx_r hM hZ 2 (B := (170, [some (.ref 45), some (.int (Int32.ofInt x1)), some (.int (Int32.ofInt x2)), some (.int (Int32.ofInt x3)), some (.int (Int32.ofInt x4)), none, some (.int (Int32.ofInt 0))], [], zw X s4)) rfl ?_
    exact gx_fg [true, true, true, true, true, false, true] (h hZ d hd)
  · intro hp
    replace h := h.2.2 hp
    refine gx_r hM hZ 4 (B := (138, [some (.ref 45), some (.int (Int32.ofInt x1)), some (.int (Int32.ofInt x2)), some (.int (Int32.ofInt x3)), some (.int (Int32.ofInt x4)), none, some (.int (Int32.ofInt x6))], [.int (Int32.ofInt 0), .int (Int32.ofInt x6), .ref 74], zw X s)) rfl ?_
    obtain ⟨s5, e5⟩ : ∃ q : zS, q = zu s 74 x6 0 := ⟨_, rfl⟩
    refine gj_zast hM hZ (len := 200) rfl rfl (Nat.le_of_ble_eq_true rfl) zp_74 h.1 (.inl rfl) e5 ?_
    replace h := h.2 _ e5
    refine gi_inc hM hZ (x := x6) (m := 1) rfl rfl ?_
    refine gx_r hM hZ 0 (B := (142, [some (.ref 45), some (.int (Int32.ofInt x1)), some (.int (Int32.ofInt x2)), some (.int (Int32.ofInt x3)), some (.int (Int32.ofInt x4)), none, some (.int (Int32.ofInt (x6 + 1)))], [], zw X s5)) rfl ?_
    refine gx_r hM hZ 1 (B := (123, [some (.ref 45), some (.int (Int32.ofInt x1)), some (.int (Int32.ofInt x2)), some (.int (Int32.ofInt x3)), some (.int (Int32.ofInt x4)), none, some (.int (Int32.ofInt (x6 + 1)))], [], zw X s5)) rfl ?_
    exact gx_fg [true, true, true, true, true, false, true] (h hZ d hd)
theorem w_136_170_i {X : zX} {x1 x2 x3 x4 x6 : Int} {s : zS} {Q : Int → zS → Prop} (h : ((-2147483648 ≤ x6 ∧ x6 ≤ 2147483647) ∧ (8 ≤ x6 → (∀ s1 : zS, s1 = zu s 82 0 x2 → (∀ s2 : zS, s2 = zu s1 82 1 x3 → (∀ s3 : zS, s3 = zu s2 82 2 x4 → (0 ≤ x1 ∧ x1 < 6) ∧ (∀ s4 : zS, s4 = zu s3 45 47 (s3 48 x1) → (0 ≤ x1 ∧ x1 < 6) ∧ (∀ s5 : zS, s5 = zu s4 45 57 (s4 64 x1) → (w_137 X s5 (fun _ s6 => Q (s6 45 39) s6)))))))) ∧ (¬ 8 ≤ x6 → (0 ≤ x6 ∧ x6 < 192) ∧ (∀ s7 : zS, s7 = zu s 82 x6 0 → w_136_170 X x1 x2 x3 x4 (x6 + 1) s7 Q)))) : w_136_170 X x1 x2 x3 x4 x6 s Q := by
  intro hZ d hd
  have hM : xi_ml[136]? = some xm_136 := rfl
  refine gx_r hM hZ 1 (B := (172, [some (.ref 45), some (.int (Int32.ofInt x1)), some (.int (Int32.ofInt x2)), some (.int (Int32.ofInt x3)), some (.int (Int32.ofInt x4)), none, some (.int (Int32.ofInt x6))], [.int (Int32.ofInt x6)], zw X s)) rfl ?_
  refine gi_bip hM hZ rfl rfl ?_
  refine gi_if2 hM hZ (fun x y => decide (y ≤ x)) (p := 8 ≤ x6) rfl rfl (zc_ge h.1 (by decide)) ?_ ?_
  · intro hp
    replace h := h.2.1 hp
    refine gx_r hM hZ 4 (B := (197, [some (.ref 45), some (.int (Int32.ofInt x1)), some (.int (Int32.ofInt x2)), some (.int (Int32.ofInt x3)), some (.int (Int32.ofInt x4)), none, some (.int (Int32.ofInt x6))], [.int (Int32.ofInt x2), .int (Int32.ofInt 0), .ref 82], zw X s)) rfl ?_
    obtain ⟨s1, e1⟩ : ∃ q : zS, q = zu s 82 0 x2 := ⟨_, rfl⟩
    refine gj_iast hM hZ (len := 192) rfl rfl (Nat.le_of_ble_eq_true rfl) zp_82 (by decide) e1 ?_
    replace h := h _ e1
    refine gx_r hM hZ 4 (B := (204, [some (.ref 45), some (.int (Int32.ofInt x1)), some (.int (Int32.ofInt x2)), some (.int (Int32.ofInt x3)), some (.int (Int32.ofInt x4)), none, some (.int (Int32.ofInt x6))], [.int (Int32.ofInt x3), .int (Int32.ofInt 1), .ref 82], zw X s1)) rfl ?_
    obtain ⟨s2, e2⟩ : ∃ q : zS, q = zu s1 82 1 x3 := ⟨_, rfl⟩
    refine gj_iast hM hZ (len := 192) rfl rfl (Nat.le_of_ble_eq_true rfl) zp_82 (by decide) e2 ?_
    replace h := h _ e2
    refine gx_r hM hZ 4 (B := (212, [some (.ref 45), some (.int (Int32.ofInt x1)), some (.int (Int32.ofInt x2)), some (.int (Int32.ofInt x3)), some (.int (Int32.ofInt x4)), none, some (.int (Int32.ofInt x6))], [.int (Int32.ofInt x4), .int (Int32.ofInt 2), .ref 82], zw X s2)) rfl ?_
    obtain ⟨s3, e3⟩ : ∃ q : zS, q = zu s2 82 2 x4 := ⟨_, rfl⟩
    refine gj_iast hM hZ (len := 192) rfl rfl (Nat.le_of_ble_eq_true rfl) zp_82 (by decide) e3 ?_
    replace h := h _ e3
    refine gx_r hM hZ 4 (B := (219, [some (.ref 45), some (.int (Int32.ofInt x1)), some (.int (Int32.ofInt x2)), some (.int (Int32.ofInt x3)), some (.int (Int32.ofInt x4)), none, some (.int (Int32.ofInt x6))], [.int (Int32.ofInt x1), .ref 48, .ref 45], zw X s3)) rfl ?_
    refine gi_iald hM hZ (s := s3) (len := 6) rfl rfl (Nat.le_of_ble_eq_true rfl) h.1 ?_
    replace h := h.2
    obtain ⟨s4, e4⟩ : ∃ q : zS, q = zu s3 45 47 (s3 48 x1) := ⟨_, rfl⟩
    refine gj_put hM hZ rfl rfl rfl (Nat.le_of_ble_eq_true rfl) rfl rfl zq_45_47 e4 ?_
    replace h := h _ e4
    refine gx_r hM hZ 4 (B := (229, [some (.ref 45), some (.int (Int32.ofInt x1)), some (.int (Int32.ofInt x2)), some (.int (Int32.ofInt x3)), some (.int (Int32.ofInt x4)), none, some (.int (Int32.ofInt x6))], [.int (Int32.ofInt x1), .ref 64, .ref 45], zw X s4)) rfl ?_
    refine gi_iald hM hZ (s := s4) (len := 6) rfl rfl (Nat.le_of_ble_eq_true rfl) h.1 ?_
    replace h := h.2
    obtain ⟨s5, e5⟩ : ∃ q : zS, q = zu s4 45 57 (s4 64 x1) := ⟨_, rfl⟩
    refine gj_put hM hZ rfl rfl rfl (Nat.le_of_ble_eq_true rfl) rfl rfl zq_45_57 e5 ?_
    replace h := h _ e5
    refine gx_r hM hZ 1 (B := (234, [some (.ref 45), some (.int (Int32.ofInt x1)), some (.int (Int32.ofInt x2)), some (.int (Int32.ofInt x3)), some (.int (Int32.ofInt x4)), none, some (.int (Int32.ofInt x6))], [.ref 45], zw X s5)) rfl ?_
    refine gi_call hM (s := s5) (hj := 5) hZ rfl rfl (by omega) h ?_
    intro _ s6 h
    refine gx_r hM hZ 2 (B := (241, [some (.ref 45), some (.int (Int32.ofInt x1)), some (.int (Int32.ofInt x2)), some (.int (Int32.ofInt x3)), some (.int (Int32.ofInt x4)), none, some (.int (Int32.ofInt x6))], [.int (Int32.ofInt (s6 45 39))], zw X s6)) rfl ?_
    exact ⟨_, xi_To.rf _ _ _ _, (s6 45 39), s6, rfl, h⟩
  · intro hp
    replace h := h.2.2 hp
    refine gx_r hM hZ 4 (B := (184, [some (.ref 45), some (.int (Int32.ofInt x1)), some (.int (Int32.ofInt x2)), some (.int (Int32.ofInt x3)), some (.int (Int32.ofInt x4)), none, some (.int (Int32.ofInt x6))], [.int (Int32.ofInt 0), .int (Int32.ofInt x6), .ref 82], zw X s)) rfl ?_
    obtain ⟨s7, e7⟩ : ∃ q : zS, q = zu s 82 x6 0 := ⟨_, rfl⟩
    refine gj_iast hM hZ (len := 192) rfl rfl (Nat.le_of_ble_eq_true rfl) zp_82 h.1 e7 ?_
    replace h := h.2 _ e7
    refine gi_inc hM hZ (x := x6) (m := 1) rfl rfl ?_
    refine gx_r hM hZ 0 (B := (188, [some (.ref 45), some (.int (Int32.ofInt x1)), some (.int (Int32.ofInt x2)), some (.int (Int32.ofInt x3)), some (.int (Int32.ofInt x4)), none, some (.int (Int32.ofInt (x6 + 1)))], [], zw X s7)) rfl ?_
    refine gx_r hM hZ 1 (B := (170, [some (.ref 45), some (.int (Int32.ofInt x1)), some (.int (Int32.ofInt x2)), some (.int (Int32.ofInt x3)), some (.int (Int32.ofInt x4)), none, some (.int (Int32.ofInt (x6 + 1)))], [], zw X s7)) rfl ?_
    exact gx_fg [true, true, true, true, true, false, true] (h hZ d hd)
