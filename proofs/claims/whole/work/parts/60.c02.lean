/-! What one emission does: of the program (EC), of the reference (EM). -/
def EC (s s' : zS) (N o v pm M pl H t lx lt J : Int) : Prop :=
  (∀ j, s' 15 j = if j = N then o else s 15 j) ∧ (∀ j, s' 16 j = if j = N then v else s 16 j) ∧
  (∀ j, s' 18 j = if j = N then pm else s 18 j) ∧ (∀ j, s' 29 j = if j = N then pl else s 29 j) ∧
  s' 14 1 = N + 1 ∧ s' 14 2 = M ∧ s' 14 0 = s 14 0 ∧ s' 22 8 = H ∧ s' 22 10 = J ∧ s' 22 6 = s 22 6 ∧
  (∀ k, 0 ≤ k → s' 27 k = if k = H - 1 then t else s 27 k) ∧ (∀ k, s' 28 k = if k = lx then lt else s 28 k) ∧
  (∀ k, k < 14 ∨ k = 17 ∨ 19 ≤ k ∧ k ≤ 21 ∨ 23 ≤ k ∧ k ≤ 26 ∨ 30 ≤ k → s' k = s k)
def EM (m m' : zS) (N o v tk lm pm H t lx lt J : Int) : Prop :=
  (∀ j, m' 58 j = if j = N then o else m 58 j) ∧ (∀ j, m' 59 j = if j = N then v else m 59 j) ∧
  (∀ j, m' 60 j = if j = N then tk else m 60 j) ∧ (∀ j, m' 61 j = if j = N then lm else m 61 j) ∧
  (∀ j, m' 62 j = if j = N then pm else m 62 j) ∧
  m' 45 16 = N + 1 ∧ m' 45 30 = H ∧ m' 45 36 = J ∧ (∀ j, ¬ j = 16 → ¬ j = 30 → ¬ j = 36 → m' 45 j = m 45 j) ∧
  (∀ k, m' 69 k = if k = H - 1 then t else m 69 k) ∧ (∀ k, m' 70 k = if k = lx then lt else m 70 k) ∧
  (∀ k, k < 45 ∨ 46 ≤ k ∧ k ≤ 57 ∨ 63 ≤ k ∧ k ≤ 68 ∨ 71 ≤ k → m' k = m k)
def tI (x : Int) : Prop := 0 ≤ x ∧ x ≤ 7
theorem zO_z {x : Int} (h : -2147483648 ≤ x ∧ x ≤ 2147483647) : zO x 0 = x := by
  have e : Int32.ofInt 0 = 0 := rfl
  unfold zO
  rw [e, Int32.or_zero]
  exact Int32.toInt_ofInt_of_le (by omega) (by omega)
theorem zO_r {x y : Int} : -2147483648 ≤ zO x y ∧ zO x y ≤ 2147483647 := by
  unfold zO
  have := Int32.le_toInt (Int32.ofInt x ||| Int32.ofInt y)
  have := Int32.toInt_lt (Int32.ofInt x ||| Int32.ofInt y)
  omega
def bm (f : Int → Int) : Nat → Int
  | 0 => 0
  | k + 1 => if f k ≤ 0 then bm f k else zO (bm f k) (zL 1 k)
theorem bm_r {f : Int → Int} (n : Nat) : -2147483648 ≤ bm f n ∧ bm f n ≤ 2147483647 := by
  induction n with
  | zero => simp [bm]
  | succ k ih => simp only [bm]; split; exact ih; exact zO_r
theorem bm_c {f g : Int → Int} (n : Nat) (h : ∀ k : Int, 0 ≤ k → k < n → f k = g k) : bm f n = bm g n := by
  induction n with
  | zero => rfl
  | succ k ih => simp only [bm]; rw [h k (by omega) (by omega), ih (fun j a b => h j a (by omega))]
section
variable {X : zX} {s m : zS} {Q : Int → zS → Prop} {x0 x1 x2 x3 n y N H J M t t1 t2 : Int}
theorem p_56l (eH : s 22 8 = H) (eM : s 14 2 = M) (hH : 0 ≤ H ∧ H ≤ 16) (hN : 0 ≤ N ∧ N < 400) (hr : ∀ k, 0 ≤ k → k < H → tI (s 27 k))
    (k : Q 0 (zu (zu s 18 N (bm (s 27) H.toNat)) 14 2 (M + 1))) (d : Nat) : ∀ j : Nat, (j : Int) + d = H → w_56_16 X N (bm (s 27) j) j s Q := by
  induction d with
  | zero =>
    intro j hj
    refine w_56_16_i ⟨by omega, fun _ => ⟨hN, ?_⟩, fun a => by omega⟩
    rintro _ rfl _ rfl
    rw [show j = H.toNat by omega]
    simpa [zu, eM] using k
  | succ d ih =>
    intro j hj
    have r := hr j (by omega) (by omega)
    unfold tI at r
    have g := ih (j + 1) (by omega)
    refine w_56_16_i ⟨by omega, fun a => by omega, fun _ => ⟨by omega, by omega, fun a => w_56_44_i ?_, fun a => w_56_44_i ?_⟩⟩
    · simp only [bm] at g; rw [if_pos a] at g; simpa using g
    · simp only [bm] at g; rw [if_neg a] at g; simpa using g
theorem p_56 (eN : s 14 1 = N) (eH : s 22 8 = H) (eM : s 14 2 = M) (hH : 0 ≤ H ∧ H ≤ 16) (hN : 0 ≤ N ∧ N < 400) (hr : ∀ k, 0 ≤ k → k < H → tI (s 27 k))
    (k : Q 0 (zu (zu (zu (zu (zu s 15 N x1) 16 N x2) 14 1 (N + 1)) 18 N (bm (s 27) H.toNat)) 14 2 (M + 1))) : w_56 X x1 x2 s Q := by
  refine w_56_i (p_39 N eN hN ?_)
  have e : zu (zu (zu s 15 N x1) 16 N x2) 14 1 (N + 1) 27 = s 27 := by (repeat rw [zu_f (by omega)])
  have := p_56l (X := X) (s := zu (zu (zu s 15 N x1) 16 N x2) 14 1 (N + 1)) (Q := Q) (N := N) (H := H) (M := M) (by simp [zu, *]) (by simp [zu, *]) hH hN (by rw [e]; exact hr) (by rw [e]; exact k) H.toNat 0 (by omega)
  simpa [bm] using this
theorem p_121p (N : Int) (H : Int) (eN : m 45 16 = N + 1) (eH : m 45 30 = H) (hH : 0 ≤ H ∧ H ≤ 16) (hN : 0 ≤ N ∧ N < 400) (hr : ∀ k, 0 ≤ k → k < H → tI (m 69 k))
    (k : Q 0 (zu m 62 N (bm (m 69) H.toNat))) (d : Nat) : ∀ j : Nat, (j : Int) + d = H → w_121_69 X j (zu m 62 N (bm (m 69) j)) Q := by
  induction d with
  | zero =>
    intro j hj
    refine w_121_69_i ⟨by simp [zu, eH]; omega, fun _ => ?_, fun a => by simp [zu, eH] at a; omega⟩
    rw [show j = H.toNat by omega]
    exact k
  | succ d ih =>
    intro j hj
    have r := hr j (by omega) (by omega)
    unfold tI at r
    have g := ih (j + 1) (by omega)
    have rb := bm_r (f := m 69) j
    have e1 : zu m 62 N (bm (m 69) j) 69 = m 69 := by rw [zu_f (by omega)]
    have e2 : zu m 62 N (bm (m 69) j) 45 = m 45 := by rw [zu_f (by omega)]
    have e3 : N + 1 - 1 = N := by omega
    refine w_121_69_i ?_
    rw [e1, e2, eN, eH, e3, zu_s]
    refine ⟨by omega, fun a => by omega, fun _ => ⟨hN, by omega, by omega, fun a => w_121_108_i ⟨hN, ?_⟩, fun a => w_121_108_i ⟨hN, ?_⟩⟩⟩
    · rintro _ rfl
      simp only [bm] at g; rw [if_pos a] at g
      rw [zO_z rb, zu_id zu_s]
      simpa using g
    · rintro _ rfl
      simp only [bm] at g; rw [if_neg a] at g
      have e4 : ∀ w, zu (zu m 62 N (bm (m 69) j)) 62 N w = zu m 62 N w := by
        intro w; funext a b; simp only [zu]; split <;> rfl
      rw [e4]
      simpa using g
theorem p_121l (N : Int) (eN : m 45 16 = N + 1) (hN : 0 ≤ N ∧ N < 400) (hr : ∀ k, 0 ≤ k → k < 8 → -1 ≤ m 70 k ∧ m 70 k ≤ 7)
    (k : w_121_69 X 0 (zu m 61 N (bm (m 70) 8)) Q) (d : Nat) : ∀ j : Nat, (j : Int) + d = 8 → w_121_21 X j (zu m 61 N (bm (m 70) j)) Q := by
  induction d with
  | zero =>
    intro j hj
    refine w_121_21_i ⟨by omega, fun _ => ?_, fun a => by omega⟩
    rw [show j = 8 by omega]
    exact k
  | succ d ih =>
    intro j hj
    have r := hr j (by omega) (by omega)
    have g := ih (j + 1) (by omega)
    have rb := bm_r (f := m 70) j
    have e1 : zu m 61 N (bm (m 70) j) 70 = m 70 := by rw [zu_f (by omega)]
    have e2 : zu m 61 N (bm (m 70) j) 45 = m 45 := by rw [zu_f (by omega)]
    have e3 : N + 1 - 1 = N := by omega
    refine w_121_21_i ?_
    rw [e1, e2, eN, e3, zu_s]
    refine ⟨by omega, fun a => by omega, fun _ => ⟨hN, by omega, by omega, fun a => w_121_58_i ⟨hN, ?_⟩, fun a => w_121_58_i ⟨hN, ?_⟩⟩⟩
    · rintro _ rfl
      simp only [bm] at g; rw [if_pos a] at g
      rw [zO_z rb, zu_id zu_s]
      simpa using g
    · rintro _ rfl
      simp only [bm] at g; rw [if_neg a] at g
      have e4 : ∀ w, zu (zu m 61 N (bm (m 70) j)) 61 N w = zu m 61 N w := by
        intro w; funext a b; simp only [zu]; split <;> rfl
      rw [e4]
      simpa using g
theorem p_121 (eN : m 45 16 = N) (eH : m 45 30 = H) (hH : 0 ≤ H ∧ H ≤ 16) (hN : 0 ≤ N ∧ N < 400) (hr : ∀ k, 0 ≤ k → k < H → tI (m 69 k)) (hl : ∀ k, 0 ≤ k → k < 8 → -1 ≤ m 70 k ∧ m 70 k ≤ 7)
    (k : Q 0 (zu (zu (zu (zu (zu (zu m 58 N x1) 59 N x2) 60 N x3) 61 N (bm (m 70) 8)) 62 N (bm (m 69) H.toNat)) 45 16 (N + 1))) : w_121 X x1 x2 x3 m Q := by
  refine w_121_i (p_116 N eN hN ?_)
  refine ⟨by simp [zu]; omega, ?_⟩
  rintro _ rfl
  have e : zu (zu (zu (zu (zu (zu (zu m 58 N x1) 59 N x2) 60 N 0) 61 N 0) 62 N 0) 45 16 (N + 1)) 60 (zu (zu (zu (zu (zu (zu m 58 N x1) 59 N x2) 60 N 0) 61 N 0) 62 N 0) 45 16 (N + 1) 45 16 - 1) x3 = zu (zu (zu (zu (zu (zu m 58 N x1) 59 N x2) 60 N x3) 62 N 0) 45 16 (N + 1)) 61 N 0 := by
    rw [zu_s, show N + 1 - 1 = N by omega]
    funext a b; simp only [zu]; repeat' split
    all_goals first | rfl | omega
  rw [e]
  have := p_121l (X := X) (Q := Q) (m := (zu (zu (zu (zu (zu m 58 N x1) 59 N x2) 60 N x3) 62 N 0) 45 16 (N + 1))) N (by simp [zu, *]) hN (by intro k; simp [zu]; exact hl k) ?_ 8 0 rfl
  · simpa [bm] using this
  · have e2 : (zu (zu (zu (zu (zu m 58 N x1) 59 N x2) 60 N x3) 62 N 0) 45 16 (N + 1)) 70 = m 70 := by (repeat rw [zu_f (by omega)])
    rw [e2]
    have e3 : zu (zu (zu (zu (zu (zu m 58 N x1) 59 N x2) 60 N x3) 62 N 0) 45 16 (N + 1)) 61 N (bm (m 70) 8) = zu (zu (zu (zu (zu (zu m 58 N x1) 59 N x2) 60 N x3) 45 16 (N + 1)) 61 N (bm (m 70) 8)) 62 N 0 := by
      funext a b; simp only [zu]; repeat' split
      all_goals first | rfl | omega
    rw [e3]
    have := p_121p (X := X) (Q := Q) (m := (zu (zu (zu (zu (zu m 58 N x1) 59 N x2) 60 N x3) 45 16 (N + 1)) 61 N (bm (m 70) 8))) N H (by simp [zu, *]) (by simp [zu, *]) hH hN (by intro k; simp [zu]; exact hr k) ?_ H.toNat 0 (by omega)
    · simpa [bm] using this
    · have e2 : (zu (zu (zu (zu (zu m 58 N x1) 59 N x2) 60 N x3) 45 16 (N + 1)) 61 N (bm (m 70) 8)) 69 = m 69 := by (repeat rw [zu_f (by omega)])
      rw [e2]
      have e4 : zu (zu (zu (zu (zu (zu m 58 N x1) 59 N x2) 60 N x3) 45 16 (N + 1)) 61 N (bm (m 70) 8)) 62 N (bm (m 69) H.toNat) = (zu (zu (zu (zu (zu (zu m 58 N x1) 59 N x2) 60 N x3) 61 N (bm (m 70) 8)) 62 N (bm (m 69) H.toNat)) 45 16 (N + 1)) := by
        funext a b; simp only [zu]; repeat' split
        all_goals first | rfl | omega
      rw [e4]
      exact k
end
