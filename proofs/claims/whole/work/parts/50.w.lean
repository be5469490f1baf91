/-! What each method asks before it, and where it leads; printed by a program. -/
-- RootLoom.laid
def w_7 (X : zX) (x1 : Int) (s : zS) (Q : Int → zS → Prop) : Prop := wW X 7 xm_7 0 (0, [some (.ref 2), some (.int (Int32.ofInt x1))], [], zw X s) Q
theorem w_7_i {X : zX} {x1 : Int} {s : zS} {Q : Int → zS → Prop} (h : ((-2147483648 ≤ (s 14 0) ∧ (s 14 0) ≤ 2147483647) ∧ (¬ (s 14 0) = 0 → ((-2147483648 ≤ x1 ∧ x1 ≤ 2147483647) ∧ ((x1 < 0 ∨ 2 < x1) → Q (-1) s) ∧ ((x1 = 0) → Q (s 14 1) s) ∧ ((x1 = 1) → Q (s 14 2) s) ∧ ((x1 = 2) → Q (s 14 3) s))) ∧ (¬ ¬ (s 14 0) = 0 → Q (-1) s))) : w_7 X x1 s Q := by
  intro hZ d hd
  have hM : xi_ml[7]? = some xm_7 := rfl
  refine gx_r hM hZ 3 (B := (7, [some (.ref 2), some (.int (Int32.ofInt x1))], [.int (Int32.ofInt (s 14 0))], zw X s)) rfl ?_
  refine gi_if1 hM hZ (fun x => decide (¬ x = 0)) (p := ¬ (s 14 0) = 0) rfl rfl (zd_ne h.1) ?_ ?_
  · intro hp
    replace h := h.2.1 hp
    refine gx_r hM hZ 1 (B := (13, [some (.ref 2), some (.int (Int32.ofInt x1))], [.int (Int32.ofInt x1)], zw X s)) rfl ?_
    by_cases hq0 : (x1 = 0)
    · refine gi_tab hM hZ (x := x1) (o := 27) rfl h.1 ?_ (by decide) ?_
      · rw [hq0]; rfl
      · replace h := h.2.2.1 hq0
        refine gx_r hM hZ 3 (B := (47, [some (.ref 2), some (.int (Int32.ofInt x1))], [.int (Int32.ofInt (s 14 1))], zw X s)) rfl ?_
        exact ⟨_, xi_To.rf _ _ _ _, (s 14 1), s, rfl, h⟩
    · by_cases hq1 : (x1 = 1)
      · refine gi_tab hM hZ (x := x1) (o := 35) rfl h.1 ?_ (by decide) ?_
        · rw [hq1]; rfl
        · replace h := h.2.2.2.1 hq1
          refine gx_r hM hZ 3 (B := (55, [some (.ref 2), some (.int (Int32.ofInt x1))], [.int (Int32.ofInt (s 14 2))], zw X s)) rfl ?_
          exact ⟨_, xi_To.rf _ _ _ _, (s 14 2), s, rfl, h⟩
      · by_cases hq2 : (x1 = 2)
        · refine gi_tab hM hZ (x := x1) (o := 43) rfl h.1 ?_ (by decide) ?_
          · rw [hq2]; rfl
          · replace h := h.2.2.2.2 hq2
            refine gx_r hM hZ 3 (B := (63, [some (.ref 2), some (.int (Int32.ofInt x1))], [.int (Int32.ofInt (s 14 3))], zw X s)) rfl ?_
            exact ⟨_, xi_To.rf _ _ _ _, (s 14 3), s, rfl, h⟩
        · refine gi_tab hM hZ (x := x1) (o := 51) rfl h.1 ?_ (by decide) ?_
          · exact if_pos (by omega)
          · replace h := h.2.1 (by omega)
            refine gx_r hM hZ 1 (B := (65, [some (.ref 2), some (.int (Int32.ofInt x1))], [.int (Int32.ofInt (-1))], zw X s)) rfl ?_
            exact ⟨_, xi_To.rf _ _ _ _, (-1), s, rfl, h⟩
  · intro hp
    replace h := h.2.2 hp
    refine gx_r hM hZ 1 (B := (11, [some (.ref 2), some (.int (Int32.ofInt x1))], [.int (Int32.ofInt (-1))], zw X s)) rfl ?_
    exact ⟨_, xi_To.rf _ _ _ _, (-1), s, rfl, h⟩
-- RootLoom$Source.isPairType
def w_20 (X : zX) (x0 : Int) (s : zS) (Q : Int → zS → Prop) : Prop := wW X 20 xm_20 0 (0, [some (.int (Int32.ofInt x0))], [], zw X s) Q
def w_20_14 (X : zX) (s : zS) (Q : Int → zS → Prop) : Prop := wW X 20 xm_20 0 (14, [none], [], zw X s) Q
theorem w_20_i {X : zX} {x0 : Int} {s : zS} {Q : Int → zS → Prop} (h : ((-2147483648 ≤ x0 ∧ x0 ≤ 2147483647) ∧ (x0 ≤ 0 → w_20_14 X s Q) ∧ (¬ x0 ≤ 0 → ((-2147483648 ≤ x0 ∧ x0 ≤ 2147483647) ∧ (8 ≤ x0 → w_20_14 X s Q) ∧ (¬ 8 ≤ x0 → Q 1 s))))) : w_20 X x0 s Q := by
  intro hZ d hd
  have hM : xi_ml[20]? = some xm_20 := rfl
  refine gx_r hM hZ 1 (B := (1, [some (.int (Int32.ofInt x0))], [.int (Int32.ofInt x0)], zw X s)) rfl ?_
  refine gi_if1 hM hZ (fun x => decide (x ≤ 0)) (p := x0 ≤ 0) rfl rfl (zd_le h.1) ?_ ?_
  · intro hp
    replace h := h.2.1 hp
    exact gx_fg [false] (h hZ d hd)
  · intro hp
    replace h := h.2.2 hp
    refine gx_r hM hZ 1 (B := (5, [some (.int (Int32.ofInt x0))], [.int (Int32.ofInt x0)], zw X s)) rfl ?_
    refine gi_bip hM hZ rfl rfl ?_
    refine gi_if2 hM hZ (fun x y => decide (y ≤ x)) (p := 8 ≤ x0) rfl rfl (zc_ge h.1 (by decide)) ?_ ?_
    · intro hp
      replace h := h.2.1 hp
      exact gx_fg [false] (h hZ d hd)
    · intro hp
      replace h := h.2.2 hp
      refine gx_r hM hZ 2 (B := (15, [some (.int (Int32.ofInt x0))], [.int (Int32.ofInt 1)], zw X s)) rfl ?_
      exact ⟨_, xi_To.rf _ _ _ _, 1, s, rfl, h⟩
theorem w_20_14_i {X : zX} {s : zS} {Q : Int → zS → Prop} (h : Q 0 s) : w_20_14 X s Q := by
  intro hZ d hd
  have hM : xi_ml[20]? = some xm_20 := rfl
  refine gx_r hM hZ 1 (B := (15, [none], [.int (Int32.ofInt 0)], zw X s)) rfl ?_
  exact ⟨_, xi_To.rf _ _ _ _, 0, s, rfl, h⟩
-- RootLoom$Source.isType
def w_21 (X : zX) (x0 : Int) (s : zS) (Q : Int → zS → Prop) : Prop := wW X 21 xm_21 0 (0, [some (.int (Int32.ofInt x0))], [], zw X s) Q
def w_21_14 (X : zX) (s : zS) (Q : Int → zS → Prop) : Prop := wW X 21 xm_21 0 (14, [none], [], zw X s) Q
theorem w_21_i {X : zX} {x0 : Int} {s : zS} {Q : Int → zS → Prop} (h : ((-2147483648 ≤ x0 ∧ x0 ≤ 2147483647) ∧ (x0 < 0 → w_21_14 X s Q) ∧ (¬ x0 < 0 → ((-2147483648 ≤ x0 ∧ x0 ≤ 2147483647) ∧ (8 ≤ x0 → w_21_14 X s Q) ∧ (¬ 8 ≤ x0 → Q 1 s))))) : w_21 X x0 s Q := by
  intro hZ d hd
  have hM : xi_ml[21]? = some xm_21 := rfl
  refine gx_r hM hZ 1 (B := (1, [some (.int (Int32.ofInt x0))], [.int (Int32.ofInt x0)], zw X s)) rfl ?_
  refine gi_if1 hM hZ (fun x => decide (x < 0)) (p := x0 < 0) rfl rfl (zd_lt h.1) ?_ ?_
  · intro hp
    replace h := h.2.1 hp
    exact gx_fg [false] (h hZ d hd)
  · intro hp
    replace h := h.2.2 hp
    refine gx_r hM hZ 1 (B := (5, [some (.int (Int32.ofInt x0))], [.int (Int32.ofInt x0)], zw X s)) rfl ?_
    refine gi_bip hM hZ rfl rfl ?_
    refine gi_if2 hM hZ (fun x y => decide (y ≤ x)) (p := 8 ≤ x0) rfl rfl (zc_ge h.1 (by decide)) ?_ ?_
    · intro hp
      replace h := h.2.1 hp
      exact gx_fg [false] (h hZ d hd)
    · intro hp
      replace h := h.2.2 hp
      refine gx_r hM hZ 2 (B := (15, [some (.int (Int32.ofInt x0))], [.int (Int32.ofInt 1)], zw X s)) rfl ?_
      exact ⟨_, xi_To.rf _ _ _ _, 1, s, rfl, h⟩
theorem w_21_14_i {X : zX} {s : zS} {Q : Int → zS → Prop} (h : Q 0 s) : w_21_14 X s Q := by
  intro hZ d hd
  have hM : xi_ml[21]? = some xm_21 := rfl
  refine gx_r hM hZ 1 (B := (15, [none], [.int (Int32.ofInt 0)], zw X s)) rfl ?_
  exact ⟨_, xi_To.rf _ _ _ _, 0, s, rfl, h⟩
-- RootLoom$Source.ownInstructions
def w_29 (X : zX) (x0 : Int) (s : zS) (Q : Int → zS → Prop) : Prop := wW X 29 xm_29 0 (0, [some (.int (Int32.ofInt x0))], [], zw X s) Q
theorem w_29_i {X : zX} {x0 : Int} {s : zS} {Q : Int → zS → Prop} (h : ((-2147483648 ≤ x0 ∧ x0 ≤ 2147483647) ∧ ((¬ x0 = 10 ∧ ¬ x0 = 13) → Q 1 s) ∧ ((x0 = 10) → Q 2 s) ∧ ((x0 = 13) → Q 0 s))) : w_29 X x0 s Q := by
  intro hZ d hd
  have hM : xi_ml[29]? = some xm_29 := rfl
  refine gx_r hM hZ 1 (B := (1, [some (.int (Int32.ofInt x0))], [.int (Int32.ofInt x0)], zw X s)) rfl ?_
  by_cases hq0 : (x0 = 10)
  · refine gi_lok hM hZ (x := x0) (o := 29) rfl rfl h.1 ?_ (by decide) ?_
    · rw [hq0]; rfl
    · replace h := h.2.2.1 hq0
      refine gx_r hM hZ 1 (B := (31, [some (.int (Int32.ofInt x0))], [.int (Int32.ofInt 2)], zw X s)) rfl ?_
      exact ⟨_, xi_To.rf _ _ _ _, 2, s, rfl, h⟩
  · by_cases hq1 : (x0 = 13)
    · refine gi_lok hM hZ (x := x0) (o := 27) rfl rfl h.1 ?_ (by decide) ?_
      · rw [hq1]; rfl
      · replace h := h.2.2.2 hq1
        refine gx_r hM hZ 1 (B := (29, [some (.int (Int32.ofInt x0))], [.int (Int32.ofInt 0)], zw X s)) rfl ?_
        exact ⟨_, xi_To.rf _ _ _ _, 0, s, rfl, h⟩
    · refine gi_lok hM hZ (x := x0) (o := 31) rfl rfl h.1 ?_ (by decide) ?_
      · simp only [Op.lookupswitch.offset]
        rw [if_neg (by omega)]
        rw [if_neg (by omega)]
      · replace h := h.2.1 (by omega)
        refine gx_r hM hZ 1 (B := (33, [some (.int (Int32.ofInt x0))], [.int (Int32.ofInt 1)], zw X s)) rfl ?_
        exact ⟨_, xi_To.rf _ _ _ _, 1, s, rfl, h⟩
-- RootLoom$Source.waitingAt
def w_32 (X : zX) (x0 x1 : Int) (s : zS) (Q : Int → zS → Prop) : Prop := wW X 32 xm_32 0 (0, [some (.int (Int32.ofInt x0)), some (.int (Int32.ofInt x1))], [], zw X s) Q
theorem w_32_i {X : zX} {x0 x1 : Int} {s : zS} {Q : Int → zS → Prop} (h : ((-2147483648 ≤ x0 ∧ x0 ≤ 2147483647) ∧ ((¬ x0 = 3 ∧ ¬ x0 = 4 ∧ ¬ x0 = 5 ∧ ¬ x0 = 13 ∧ ¬ x0 = 14 ∧ ¬ x0 = 15 ∧ ¬ x0 = 6) → Q 0 s) ∧ ((x0 = 3 ∨ x0 = 4 ∨ x0 = 5 ∨ x0 = 13 ∨ x0 = 14 ∨ x0 = 15) → ((-2147483648 ≤ x1 ∧ x1 ≤ 2147483647) ∧ (¬ x1 = 1 → Q 0 s) ∧ (¬ ¬ x1 = 1 → Q 1 s))) ∧ ((x0 = 6) → ((-2147483648 ≤ x1 ∧ x1 ≤ 2147483647) ∧ (¬ x1 = 2 → Q 0 s) ∧ (¬ ¬ x1 = 2 → Q 1 s))))) : w_32 X x0 x1 s Q := by
  intro hZ d hd
  have hM : xi_ml[32]? = some xm_32 := rfl
  refine gx_r hM hZ 1 (B := (1, [some (.int (Int32.ofInt x0)), some (.int (Int32.ofInt x1))], [.int (Int32.ofInt x0)], zw X s)) rfl ?_
  by_cases hq0 : (x0 = 3 ∨ x0 = 4 ∨ x0 = 5 ∨ x0 = 13 ∨ x0 = 14 ∨ x0 = 15)
  · refine gi_tab hM hZ (x := x0) (o := 67) rfl h.1 ?_ (by decide) ?_
    · rcases hq0 with e | e | e | e | e | e <;> (rw [e]; rfl)
    · replace h := h.2.2.1 hq0
      refine gx_r hM hZ 2 (B := (70, [some (.int (Int32.ofInt x0)), some (.int (Int32.ofInt x1))], [.int (Int32.ofInt 1), .int (Int32.ofInt x1)], zw X s)) rfl ?_
      refine gi_if2 hM hZ (fun x y => decide (¬ x = y)) (p := ¬ x1 = 1) rfl rfl (zc_ne h.1 (by decide)) ?_ ?_
      · intro hp
        replace h := h.2.1 hp
        refine gx_r hM hZ 1 (B := (78, [some (.int (Int32.ofInt x0)), some (.int (Int32.ofInt x1))], [.int (Int32.ofInt 0)], zw X s)) rfl ?_
        exact ⟨_, xi_To.rf _ _ _ _, 0, s, rfl, h⟩
      · intro hp
        replace h := h.2.2 hp
        refine gx_r hM hZ 2 (B := (78, [some (.int (Int32.ofInt x0)), some (.int (Int32.ofInt x1))], [.int (Int32.ofInt 1)], zw X s)) rfl ?_
        exact ⟨_, xi_To.rf _ _ _ _, 1, s, rfl, h⟩
  · by_cases hq1 : (x0 = 6)
    · refine gi_tab hM hZ (x := x0) (o := 78) rfl h.1 ?_ (by decide) ?_
      · rw [hq1]; rfl
      · replace h := h.2.2.2 hq1
        refine gx_r hM hZ 2 (B := (81, [some (.int (Int32.ofInt x0)), some (.int (Int32.ofInt x1))], [.int (Int32.ofInt 2), .int (Int32.ofInt x1)], zw X s)) rfl ?_
        refine gi_if2 hM hZ (fun x y => decide (¬ x = y)) (p := ¬ x1 = 2) rfl rfl (zc_ne h.1 (by decide)) ?_ ?_
        · intro hp
          replace h := h.2.1 hp
          refine gx_r hM hZ 1 (B := (89, [some (.int (Int32.ofInt x0)), some (.int (Int32.ofInt x1))], [.int (Int32.ofInt 0)], zw X s)) rfl ?_
          exact ⟨_, xi_To.rf _ _ _ _, 0, s, rfl, h⟩
        · intro hp
          replace h := h.2.2 hp
          refine gx_r hM hZ 2 (B := (89, [some (.int (Int32.ofInt x0)), some (.int (Int32.ofInt x1))], [.int (Int32.ofInt 1)], zw X s)) rfl ?_
          exact ⟨_, xi_To.rf _ _ _ _, 1, s, rfl, h⟩
    · refine gi_tab hM hZ (x := x0) (o := 89) rfl h.1 ?_ (by decide) ?_
      · by_cases hr : x0 < 3 ∨ 15 < x0
        · exact if_pos hr
        · have e : x0 = 7 ∨ x0 = 8 ∨ x0 = 9 ∨ x0 = 10 ∨ x0 = 11 ∨ x0 = 12 := by omega
          rcases e with e | e | e | e | e | e <;> (rw [e]; rfl)
      · replace h := h.2.1 (by omega)
        refine gx_r hM hZ 1 (B := (91, [some (.int (Int32.ofInt x0)), some (.int (Int32.ofInt x1))], [.int (Int32.ofInt 0)], zw X s)) rfl ?_
        exact ⟨_, xi_To.rf _ _ _ _, 0, s, rfl, h⟩
-- RootLoom$Code.has
def w_43 (X : zX) (x1 : Int) (s : zS) (Q : Int → zS → Prop) : Prop := wW X 43 xm_43 0 (0, [some (.ref 14), some (.int (Int32.ofInt x1))], [], zw X s) Q
def w_43_23 (X : zX) (s : zS) (Q : Int → zS → Prop) : Prop := wW X 43 xm_43 0 (23, [none, none], [], zw X s) Q
theorem w_43_i {X : zX} {x1 : Int} {s : zS} {Q : Int → zS → Prop} (h : ((-2147483648 ≤ (s 14 0) ∧ (s 14 0) ≤ 2147483647) ∧ ((s 14 0) = 0 → w_43_23 X s Q) ∧ (¬ (s 14 0) = 0 → ((-2147483648 ≤ x1 ∧ x1 ≤ 2147483647) ∧ (x1 < 0 → w_43_23 X s Q) ∧ (¬ x1 < 0 → (((-2147483648 ≤ x1 ∧ x1 ≤ 2147483647) ∧ (-2147483648 ≤ (s 14 1) ∧ (s 14 1) ≤ 2147483647)) ∧ ((s 14 1) ≤ x1 → w_43_23 X s Q) ∧ (¬ (s 14 1) ≤ x1 → Q 1 s))))))) : w_43 X x1 s Q := by
  intro hZ d hd
  have hM : xi_ml[43]? = some xm_43 := rfl
  refine gx_r hM hZ 2 (B := (4, [some (.ref 14), some (.int (Int32.ofInt x1))], [.int (Int32.ofInt (s 14 0))], zw X s)) rfl ?_
  refine gi_if1 hM hZ (fun x => decide (x = 0)) (p := (s 14 0) = 0) rfl rfl (zd_eq h.1) ?_ ?_
  · intro hp
    replace h := h.2.1 hp
    exact gx_fg [false, false] (h hZ d hd)
  · intro hp
    replace h := h.2.2 hp
    refine gx_r hM hZ 1 (B := (8, [some (.ref 14), some (.int (Int32.ofInt x1))], [.int (Int32.ofInt x1)], zw X s)) rfl ?_
    refine gi_if1 hM hZ (fun x => decide (x < 0)) (p := x1 < 0) rfl rfl (zd_lt h.1) ?_ ?_
    · intro hp
      replace h := h.2.1 hp
      exact gx_fg [false, false] (h hZ d hd)
    · intro hp
      replace h := h.2.2 hp
      refine gx_r hM hZ 3 (B := (16, [some (.ref 14), some (.int (Int32.ofInt x1))], [.int (Int32.ofInt (s 14 1)), .int (Int32.ofInt x1)], zw X s)) rfl ?_
      refine gi_if2 hM hZ (fun x y => decide (y ≤ x)) (p := (s 14 1) ≤ x1) rfl rfl (zc_ge h.1.1 h.1.2) ?_ ?_
      · intro hp
        replace h := h.2.1 hp
        exact gx_fg [false, false] (h hZ d hd)
      · intro hp
        replace h := h.2.2 hp
        refine gx_r hM hZ 2 (B := (24, [some (.ref 14), some (.int (Int32.ofInt x1))], [.int (Int32.ofInt 1)], zw X s)) rfl ?_
        exact ⟨_, xi_To.rf _ _ _ _, 1, s, rfl, h⟩
theorem w_43_23_i {X : zX} {s : zS} {Q : Int → zS → Prop} (h : Q 0 s) : w_43_23 X s Q := by
  intro hZ d hd
  have hM : xi_ml[43]? = some xm_43 := rfl
  refine gx_r hM hZ 1 (B := (24, [none, none], [.int (Int32.ofInt 0)], zw X s)) rfl ?_
  exact ⟨_, xi_To.rf _ _ _ _, 0, s, rfl, h⟩
-- RootLoom$Machine.isForced
def w_72 (X : zX) (s : zS) (Q : Int → zS → Prop) : Prop := wW X 72 xm_72 0 (0, [some (.ref 31)], [], zw X s) Q
def w_72_33 (X : zX) (s : zS) (Q : Int → zS → Prop) : Prop := wW X 72 xm_72 0 (33, [none], [], zw X s) Q
theorem w_72_i {X : zX} {s : zS} {Q : Int → zS → Prop} (h : (∀ s1 : zS, s1 = zu s 31 7 ((s 31 7) + 1) → ((-2147483648 ≤ (s1 31 5) ∧ (s1 31 5) ≤ 2147483647) ∧ ((s1 31 5) ≤ 0 → w_72_33 X s1 Q) ∧ (¬ (s1 31 5) ≤ 0 → ((-2147483648 ≤ (s1 31 5) ∧ (s1 31 5) ≤ 2147483647) ∧ ¬ (s1 31 5) = 0) ∧ ((-2147483648 ≤ (zM (s1 31 7) (s1 31 5)) ∧ (zM (s1 31 7) (s1 31 5)) ≤ 2147483647) ∧ (¬ (zM (s1 31 7) (s1 31 5)) = 0 → w_72_33 X s1 Q) ∧ (¬ ¬ (zM (s1 31 7) (s1 31 5)) = 0 → Q 1 s1)))))) : w_72 X s Q := by
  intro hZ d hd
  have hM : xi_ml[72]? = some xm_72 := rfl
  refine gx_r hM hZ 4 (B := (6, [some (.ref 31)], [.int (Int32.ofInt 1), .int (Int32.ofInt (s 31 7)), .ref 31], zw X s)) rfl ?_
  refine gi_add hM hZ rfl ?_
  obtain ⟨s1, e1⟩ : ∃ q : zS, q = zu s 31 7 ((s 31 7) + 1) := ⟨_, rfl⟩
  refine gj_put hM hZ rfl rfl rfl (Nat.le_of_ble_eq_true rfl) rfl rfl zq_31_7 e1 ?_
  replace h := h _ e1
  refine gx_r hM hZ 2 (B := (14, [some (.ref 31)], [.int (Int32.ofInt (s1 31 5))], zw X s1)) rfl ?_
  refine gi_if1 hM hZ (fun x => decide (x ≤ 0)) (p := (s1 31 5) ≤ 0) rfl rfl (zd_le h.1) ?_ ?_
  · intro hp
    replace h := h.2.1 hp
    exact gx_fg [false] (h hZ d hd)
  · intro hp
    replace h := h.2.2 hp
    refine gx_r hM hZ 4 (B := (25, [some (.ref 31)], [.int (Int32.ofInt (s1 31 5)), .int (Int32.ofInt (s1 31 7))], zw X s1)) rfl ?_
    refine gi_rem hM hZ rfl h.1.1 h.1.2 ?_
    replace h := h.2
    refine gi_if1 hM hZ (fun x => decide (¬ x = 0)) (p := ¬ (zM (s1 31 7) (s1 31 5)) = 0) rfl rfl (zd_ne h.1) ?_ ?_
    · intro hp
      replace h := h.2.1 hp
      exact gx_fg [false] (h hZ d hd)
    · intro hp
      replace h := h.2.2 hp
      refine gx_r hM hZ 2 (B := (34, [some (.ref 31)], [.int (Int32.ofInt 1)], zw X s1)) rfl ?_
      exact ⟨_, xi_To.rf _ _ _ _, 1, s1, rfl, h⟩
theorem w_72_33_i {X : zX} {s : zS} {Q : Int → zS → Prop} (h : Q 0 s) : w_72_33 X s Q := by
  intro hZ d hd
  have hM : xi_ml[72]? = some xm_72 := rfl
  refine gx_r hM hZ 1 (B := (34, [none], [.int (Int32.ofInt 0)], zw X s)) rfl ?_
  exact ⟨_, xi_To.rf _ _ _ _, 0, s, rfl, h⟩
-- RootLoom$Pairs.keep
def w_88 (X : zX) (x1 : Int) (s : zS) (Q : Int → zS → Prop) : Prop := wW X 88 xm_88 0 (0, [some (.ref 32), some (.int (Int32.ofInt x1))], [], zw X s) Q
theorem w_88_i {X : zX} {x1 : Int} {s : zS} {Q : Int → zS → Prop} (h : ((-2147483648 ≤ x1 ∧ x1 ≤ 2147483647) ∧ (x1 = 0 → Q 0 s) ∧ (¬ x1 = 0 → (0 ≤ x1 ∧ x1 < 201) ∧ (((-2147483648 ≤ (s 37 x1) ∧ (s 37 x1) ≤ 2147483647) ∧ (-2147483648 ≤ (s 32 6) ∧ (s 32 6) ≤ 2147483647)) ∧ ((s 37 x1) = (s 32 6) → Q 0 s) ∧ (¬ (s 37 x1) = (s 32 6) → (0 ≤ x1 ∧ x1 < 201) ∧ (∀ s1 : zS, s1 = zu s 37 x1 (s 32 6) → (0 ≤ (s1 32 8) ∧ (s1 32 8) < 200) ∧ (∀ s2 : zS, s2 = zu s1 38 (s1 32 8) x1 → (∀ s3 : zS, s3 = zu s2 32 8 ((s2 32 8) + 1) → Q 0 s3)))))))) : w_88 X x1 s Q := by
  intro hZ d hd
  have hM : xi_ml[88]? = some xm_88 := rfl
  refine gx_r hM hZ 1 (B := (1, [some (.ref 32), some (.int (Int32.ofInt x1))], [.int (Int32.ofInt x1)], zw X s)) rfl ?_
  refine gi_if1 hM hZ (fun x => decide (x = 0)) (p := x1 = 0) rfl rfl (zd_eq h.1) ?_ ?_
  · intro hp
    replace h := h.2.1 hp
    exact ⟨_, xi_To.rf _ _ _ _, 0, s, rfl, h⟩
  · intro hp
    replace h := h.2.2 hp
    refine gx_r hM hZ 3 (B := (9, [some (.ref 32), some (.int (Int32.ofInt x1))], [.int (Int32.ofInt x1), .ref 37], zw X s)) rfl ?_
    refine gi_iald hM hZ (s := s) (len := 201) rfl rfl (Nat.le_of_ble_eq_true rfl) h.1 ?_
    replace h := h.2
    refine gx_r hM hZ 2 (B := (14, [some (.ref 32), some (.int (Int32.ofInt x1))], [.int (Int32.ofInt (s 32 6)), .int (Int32.ofInt (s 37 x1))], zw X s)) rfl ?_
    refine gi_if2 hM hZ (fun x y => decide (x = y)) (p := (s 37 x1) = (s 32 6)) rfl rfl (zc_eq h.1.1 h.1.2) ?_ ?_
    · intro hp
      replace h := h.2.1 hp
      exact ⟨_, xi_To.rf _ _ _ _, 0, s, rfl, h⟩
    · intro hp
      replace h := h.2.2 hp
      refine gx_r hM hZ 5 (B := (26, [some (.ref 32), some (.int (Int32.ofInt x1))], [.int (Int32.ofInt (s 32 6)), .int (Int32.ofInt x1), .ref 37], zw X s)) rfl ?_
      obtain ⟨s1, e1⟩ : ∃ q : zS, q = zu s 37 x1 (s 32 6) := ⟨_, rfl⟩
      refine gj_iast hM hZ (len := 201) rfl rfl (Nat.le_of_ble_eq_true rfl) zp_37 h.1 e1 ?_
      replace h := h.2 _ e1
      refine gx_r hM hZ 5 (B := (36, [some (.ref 32), some (.int (Int32.ofInt x1))], [.int (Int32.ofInt x1), .int (Int32.ofInt (s1 32 8)), .ref 38], zw X s1)) rfl ?_
      obtain ⟨s2, e2⟩ : ∃ q : zS, q = zu s1 38 (s1 32 8) x1 := ⟨_, rfl⟩
      refine gj_iast hM hZ (len := 200) rfl rfl (Nat.le_of_ble_eq_true rfl) zp_38 h.1 e2 ?_
      replace h := h.2 _ e2
      refine gx_r hM hZ 4 (B := (43, [some (.ref 32), some (.int (Int32.ofInt x1))], [.int (Int32.ofInt 1), .int (Int32.ofInt (s2 32 8)), .ref 32], zw X s2)) rfl ?_
      refine gi_add hM hZ rfl ?_
      obtain ⟨s3, e3⟩ : ∃ q : zS, q = zu s2 32 8 ((s2 32 8) + 1) := ⟨_, rfl⟩
      refine gj_put hM hZ rfl rfl rfl (Nat.le_of_ble_eq_true rfl) rfl rfl zq_32_8 e3 ?_
      replace h := h _ e3
      exact ⟨_, xi_To.rf _ _ _ _, 0, s3, rfl, h⟩
-- RootLoom$Frames.push
def w_93 (X : zX) (x1 : Int) (s : zS) (Q : Int → zS → Prop) : Prop := wW X 93 xm_93 0 (0, [some (.ref 39), some (.int (Int32.ofInt x1))], [], zw X s) Q
theorem w_93_i {X : zX} {x1 : Int} {s : zS} {Q : Int → zS → Prop} (h : (0 ≤ (s 39 4) ∧ (s 39 4) < 24) ∧ (0 ≤ (((s 39 4) * 16) + (s 42 (s 39 4))) ∧ (((s 39 4) * 16) + (s 42 (s 39 4))) < 384) ∧ (∀ s1 : zS, s1 = zu s 41 (((s 39 4) * 16) + (s 42 (s 39 4))) x1 → (0 ≤ (s1 39 4) ∧ (s1 39 4) < 24) ∧ (0 ≤ (s1 39 4) ∧ (s1 39 4) < 24) ∧ (∀ s2 : zS, s2 = zu s1 42 (s1 39 4) ((s1 42 (s1 39 4)) + 1) → Q 0 s2))) : w_93 X x1 s Q := by
  intro hZ d hd
  have hM : xi_ml[93]? = some xm_93 := rfl
  refine gx_r hM hZ 4 (B := (8, [some (.ref 39), some (.int (Int32.ofInt x1))], [.int (Int32.ofInt (s 39 4)), .ref 41], zw X s)) rfl ?_
  refine gi_bip hM hZ rfl rfl ?_
  refine gi_mul hM hZ rfl ?_
  refine gx_r hM hZ 4 (B := (19, [some (.ref 39), some (.int (Int32.ofInt x1))], [.int (Int32.ofInt (s 39 4)), .ref 42, .int (Int32.ofInt ((s 39 4) * 16)), .ref 41], zw X s)) rfl ?_
  refine gi_iald hM hZ (s := s) (len := 24) rfl rfl (Nat.le_of_ble_eq_true rfl) h.1 ?_
  replace h := h.2
  refine gi_add hM hZ rfl ?_
  refine gx_r hM hZ 1 (B := (22, [some (.ref 39), some (.int (Int32.ofInt x1))], [.int (Int32.ofInt x1), .int (Int32.ofInt (((s 39 4) * 16) + (s 42 (s 39 4)))), .ref 41], zw X s)) rfl ?_
  obtain ⟨s1, e1⟩ : ∃ q : zS, q = zu s 41 (((s 39 4) * 16) + (s 42 (s 39 4))) x1 := ⟨_, rfl⟩
  refine gj_iast hM hZ (len := 384) rfl rfl (Nat.le_of_ble_eq_true rfl) zp_41 h.1 e1 ?_
  replace h := h.2 _ e1
  refine gx_r hM hZ 5 (B := (32, [some (.ref 39), some (.int (Int32.ofInt x1))], [.int (Int32.ofInt (s1 39 4)), .ref 42, .int (Int32.ofInt (s1 39 4)), .ref 42], zw X s1)) rfl ?_
  refine gi_iald hM hZ (s := s1) (len := 24) rfl rfl (Nat.le_of_ble_eq_true rfl) h.1 ?_
  replace h := h.2
  refine gx_r hM hZ 1 (B := (34, [some (.ref 39), some (.int (Int32.ofInt x1))], [.int (Int32.ofInt 1), .int (Int32.ofInt (s1 42 (s1 39 4))), .int (Int32.ofInt (s1 39 4)), .ref 42], zw X s1)) rfl ?_
  refine gi_add hM hZ rfl ?_
  obtain ⟨s2, e2⟩ : ∃ q : zS, q = zu s1 42 (s1 39 4) ((s1 42 (s1 39 4)) + 1) := ⟨_, rfl⟩
  refine gj_iast hM hZ (len := 24) rfl rfl (Nat.le_of_ble_eq_true rfl) zp_42 h.1 e2 ?_
  replace h := h.2 _ e2
  exact ⟨_, xi_To.rf _ _ _ _, 0, s2, rfl, h⟩
-- RootLoom$Frames.pop
def w_95 (X : zX) (s : zS) (Q : Int → zS → Prop) : Prop := wW X 95 xm_95 0 (0, [some (.ref 39)], [], zw X s) Q
theorem w_95_i {X : zX} {s : zS} {Q : Int → zS → Prop} (h : (0 ≤ (s 39 4) ∧ (s 39 4) < 24) ∧ (0 ≤ (s 39 4) ∧ (s 39 4) < 24) ∧ (∀ s1 : zS, s1 = zu s 42 (s 39 4) ((s 42 (s 39 4)) - 1) → (0 ≤ (s1 39 4) ∧ (s1 39 4) < 24) ∧ (0 ≤ (((s1 39 4) * 16) + (s1 42 (s1 39 4))) ∧ (((s1 39 4) * 16) + (s1 42 (s1 39 4))) < 384) ∧ Q (s1 41 (((s1 39 4) * 16) + (s1 42 (s1 39 4)))) s1)) : w_95 X s Q := by
  intro hZ d hd
  have hM : xi_ml[95]? = some xm_95 := rfl
  refine gx_r hM hZ 5 (B := (9, [some (.ref 39)], [.int (Int32.ofInt (s 39 4)), .ref 42, .int (Int32.ofInt (s 39 4)), .ref 42], zw X s)) rfl ?_
  refine gi_iald hM hZ (s := s) (len := 24) rfl rfl (Nat.le_of_ble_eq_true rfl) h.1 ?_
  replace h := h.2
  refine gx_r hM hZ 1 (B := (11, [some (.ref 39)], [.int (Int32.ofInt 1), .int (Int32.ofInt (s 42 (s 39 4))), .int (Int32.ofInt (s 39 4)), .ref 42], zw X s)) rfl ?_
  refine gi_sub hM hZ rfl ?_
  obtain ⟨s1, e1⟩ : ∃ q : zS, q = zu s 42 (s 39 4) ((s 42 (s 39 4)) - 1) := ⟨_, rfl⟩
  refine gj_iast hM hZ (len := 24) rfl rfl (Nat.le_of_ble_eq_true rfl) zp_42 h.1 e1 ?_
  replace h := h.2 _ e1
  refine gx_r hM hZ 4 (B := (21, [some (.ref 39)], [.int (Int32.ofInt (s1 39 4)), .ref 41], zw X s1)) rfl ?_
  refine gi_bip hM hZ rfl rfl ?_
  refine gi_mul hM hZ rfl ?_
  refine gx_r hM hZ 4 (B := (32, [some (.ref 39)], [.int (Int32.ofInt (s1 39 4)), .ref 42, .int (Int32.ofInt ((s1 39 4) * 16)), .ref 41], zw X s1)) rfl ?_
  refine gi_iald hM hZ (s := s1) (len := 24) rfl rfl (Nat.le_of_ble_eq_true rfl) h.1 ?_
  replace h := h.2
  refine gi_add hM hZ rfl ?_
  refine gi_iald hM hZ (s := s1) (len := 384) rfl rfl (Nat.le_of_ble_eq_true rfl) h.1 ?_
  replace h := h.2
  exact ⟨_, xi_To.rf _ _ _ _, (s1 41 (((s1 39 4) * 16) + (s1 42 (s1 39 4)))), s1, rfl, h⟩
-- java/lang/Math.min
def w_158 (X : zX) (x0 x1 : Int) (s : zS) (Q : Int → zS → Prop) : Prop := wW X 158 xm_158 0 (0, [some (.int (Int32.ofInt x0)), some (.int (Int32.ofInt x1))], [], zw X s) Q
theorem w_158_i {X : zX} {x0 x1 : Int} {s : zS} {Q : Int → zS → Prop} (h : (((-2147483648 ≤ x0 ∧ x0 ≤ 2147483647) ∧ (-2147483648 ≤ x1 ∧ x1 ≤ 2147483647)) ∧ (x1 < x0 → Q x1 s) ∧ (¬ x1 < x0 → Q x0 s))) : w_158 X x0 x1 s Q := by
  intro hZ d hd
  have hM : xi_ml[158]? = some xm_158 := rfl
  refine gx_r hM hZ 2 (B := (2, [some (.int (Int32.ofInt x0)), some (.int (Int32.ofInt x1))], [.int (Int32.ofInt x1), .int (Int32.ofInt x0)], zw X s)) rfl ?_
  refine gi_if2 hM hZ (fun x y => decide (y < x)) (p := x1 < x0) rfl rfl (zc_gt h.1.1 h.1.2) ?_ ?_
  · intro hp
    replace h := h.2.1 hp
    refine gx_r hM hZ 1 (B := (10, [some (.int (Int32.ofInt x0)), some (.int (Int32.ofInt x1))], [.int (Int32.ofInt x1)], zw X s)) rfl ?_
    exact ⟨_, xi_To.rf _ _ _ _, x1, s, rfl, h⟩
  · intro hp
    replace h := h.2.2 hp
    refine gx_r hM hZ 2 (B := (10, [some (.int (Int32.ofInt x0)), some (.int (Int32.ofInt x1))], [.int (Int32.ofInt x0)], zw X s)) rfl ?_
    exact ⟨_, xi_To.rf _ _ _ _, x0, s, rfl, h⟩
-- RootLoom$Source.setType
def w_19 (X : zX) (x1 x2 x3 : Int) (s : zS) (Q : Int → zS → Prop) : Prop := wW X 19 xm_19 1 (0, [some (.ref 3), some (.int (Int32.ofInt x1)), some (.int (Int32.ofInt x2)), some (.int (Int32.ofInt x3))], [], zw X s) Q
def w_19_21 (X : zX) (s : zS) (Q : Int → zS → Prop) : Prop := wW X 19 xm_19 1 (21, [none, none, none, none], [], zw X s) Q
theorem w_19_i {X : zX} {x1 x2 x3 : Int} {s : zS} {Q : Int → zS → Prop} (h : (w_20 X x1 s (fun v1 s1 => ((-2147483648 ≤ v1 ∧ v1 ≤ 2147483647) ∧ (v1 = 0 → w_19_21 X s1 Q) ∧ (¬ v1 = 0 → (w_21 X x2 s1 (fun v2 s2 => ((-2147483648 ≤ v2 ∧ v2 ≤ 2147483647) ∧ (v2 = 0 → w_19_21 X s2 Q) ∧ (¬ v2 = 0 → (w_21 X x3 s2 (fun v3 s3 => ((-2147483648 ≤ v3 ∧ v3 ≤ 2147483647) ∧ (¬ v3 = 0 → (0 ≤ x1 ∧ x1 < 8) ∧ (∀ s4 : zS, s4 = zu s3 4 x1 x2 → (0 ≤ x1 ∧ x1 < 8) ∧ (∀ s5 : zS, s5 = zu s4 5 x1 x3 → Q 1 s5))) ∧ (¬ ¬ v3 = 0 → w_19_21 X s3 Q))))))))))))) : w_19 X x1 x2 x3 s Q := by
  intro hZ d hd
  have hM : xi_ml[19]? = some xm_19 := rfl
  refine gx_r hM hZ 1 (B := (1, [some (.ref 3), some (.int (Int32.ofInt x1)), some (.int (Int32.ofInt x2)), some (.int (Int32.ofInt x3))], [.int (Int32.ofInt x1)], zw X s)) rfl ?_
  refine gi_call hM (s := s) (hj := 0) hZ rfl rfl (by omega) h ?_
  intro v1 s1 h
  refine gi_if1 hM hZ (fun x => decide (x = 0)) (p := v1 = 0) rfl rfl (zd_eq h.1) ?_ ?_
  · intro hp
    replace h := h.2.1 hp
    exact gx_fg [false, false, false, false] (h hZ d hd)
  · intro hp
    replace h := h.2.2 hp
    refine gx_r hM hZ 1 (B := (8, [some (.ref 3), some (.int (Int32.ofInt x1)), some (.int (Int32.ofInt x2)), some (.int (Int32.ofInt x3))], [.int (Int32.ofInt x2)], zw X s1)) rfl ?_
    refine gi_call hM (s := s1) (hj := 0) hZ rfl rfl (by omega) h ?_
    intro v2 s2 h
    refine gi_if1 hM hZ (fun x => decide (x = 0)) (p := v2 = 0) rfl rfl (zd_eq h.1) ?_ ?_
    · intro hp
      replace h := h.2.1 hp
      exact gx_fg [false, false, false, false] (h hZ d hd)
    · intro hp
      replace h := h.2.2 hp
      refine gx_r hM hZ 1 (B := (15, [some (.ref 3), some (.int (Int32.ofInt x1)), some (.int (Int32.ofInt x2)), some (.int (Int32.ofInt x3))], [.int (Int32.ofInt x3)], zw X s2)) rfl ?_
      refine gi_call hM (s := s2) (hj := 0) hZ rfl rfl (by omega) h ?_
      intro v3 s3 h
      refine gi_if1 hM hZ (fun x => decide (¬ x = 0)) (p := ¬ v3 = 0) rfl rfl (zd_ne h.1) ?_ ?_
      · intro hp
        replace h := h.2.1 hp
        refine gx_r hM hZ 4 (B := (29, [some (.ref 3), some (.int (Int32.ofInt x1)), some (.int (Int32.ofInt x2)), some (.int (Int32.ofInt x3))], [.int (Int32.ofInt x2), .int (Int32.ofInt x1), .ref 4], zw X s3)) rfl ?_
        obtain ⟨s4, e4⟩ : ∃ q : zS, q = zu s3 4 x1 x2 := ⟨_, rfl⟩
        refine gj_iast hM hZ (len := 8) rfl rfl (Nat.le_of_ble_eq_true rfl) zp_4 h.1 e4 ?_
        replace h := h.2 _ e4
        refine gx_r hM hZ 4 (B := (36, [some (.ref 3), some (.int (Int32.ofInt x1)), some (.int (Int32.ofInt x2)), some (.int (Int32.ofInt x3))], [.int (Int32.ofInt x3), .int (Int32.ofInt x1), .ref 5], zw X s4)) rfl ?_
        obtain ⟨s5, e5⟩ : ∃ q : zS, q = zu s4 5 x1 x3 := ⟨_, rfl⟩
        refine gj_iast hM hZ (len := 8) rfl rfl (Nat.le_of_ble_eq_true rfl) zp_5 h.1 e5 ?_
        replace h := h.2 _ e5
        refine gx_r hM hZ 1 (B := (38, [some (.ref 3), some (.int (Int32.ofInt x1)), some (.int (Int32.ofInt x2)), some (.int (Int32.ofInt x3))], [.int (Int32.ofInt 1)], zw X s5)) rfl ?_
        exact ⟨_, xi_To.rf _ _ _ _, 1, s5, rfl, h⟩
      · intro hp
        replace h := h.2.2 hp
        exact gx_fg [false, false, false, false] (h hZ d hd)
theorem w_19_21_i {X : zX} {s : zS} {Q : Int → zS → Prop} (h : Q 0 s) : w_19_21 X s Q := by
  intro hZ d hd
  have hM : xi_ml[19]? = some xm_19 := rfl
  refine gx_r hM hZ 1 (B := (22, [none, none, none, none], [.int (Int32.ofInt 0)], zw X s)) rfl ?_
  exact ⟨_, xi_To.rf _ _ _ _, 0, s, rfl, h⟩
