section
variable {G : Int → Nat → Int → Int} {z r s m s' s1 m1 m0 s2 m2 s3 m3 e : zS} {f0 i j F N o v tk p q t T H a b n f x1 x2 x3 x4 c c' : Int} {U U' : Int → Int → Prop} {φ φ' : Int → Int} {X : zX} {Q : Int → zS → Prop} {D : Prop}
-- the program's start of a run
def CS (s c0 : zS) (x1 x2 x3 x4 : Int) : Prop :=
  (∀ k, ¬ (k = 31 ∨ k = 32 ∨ k = 39 ∨ k = 40 ∨ k = 42) → c0 k = s k) ∧ (c0 32 4 = 0 ∧ ∀ j, ¬ j = 4 → c0 32 j = s 32 j) ∧ (c0 39 4 = 0 ∧ c0 42 0 = 0 ∧ c0 40 0 = x2 ∧ c0 40 1 = x3 ∧ c0 40 2 = x4) ∧
  (c0 31 6 = s 19 x1 ∧ c0 31 7 = 0 ∧ c0 31 8 = 0 ∧ c0 31 9 = 0 ∧ c0 31 10 = 0 ∧ c0 31 11 = 0 ∧ c0 31 12 = 1 ∧ c0 31 14 = 0 ∧ c0 31 16 = s 6 x1) ∧ (c0 31 4 = s 31 4 ∧ c0 31 5 = s 31 5)
theorem p_42y (e14 : s 14 0 = 1) (h : 0 ≤ x1 ∧ x1 < 6) (k : Q (s 19 x1) s) : w_42 X x1 s Q := by
  refine w_42_i ?_
  rw [e14]
  exact ⟨by omega, fun q => by omega, fun _ => ⟨by omega, fun q => by omega, fun _ => ⟨by omega, fun q => by omega, fun _ => ⟨h, k⟩⟩⟩⟩
theorem c_start (e14 : s 14 0 = 1) (h : 0 ≤ x1 ∧ x1 < 6) (k : ∀ c0, CS s c0 x1 x2 x3 x4 → w_68_78 X c0 Q) : w_68 X x1 x2 x3 x4 s Q := by
  refine w_68_i (w_85_i ?_)
  rintro _ rfl
  refine w_92_i ?_
  rintro _ rfl _ rfl _ rfl _ rfl _ rfl
  refine p_42y (by simp [zu]; exact e14) h ?_
  rintro _ rfl _ rfl _ rfl _ rfl _ rfl _ rfl _ rfl _ rfl
  refine ⟨h, ?_⟩
  rintro _ rfl
  refine k _ ⟨fun k hk => by (repeat rw [zu_f (by omega)]), ⟨by simp [zu], fun j hj => by simp [zu, hj]⟩, ⟨by simp [zu], by simp [zu], by simp [zu], by simp [zu], by simp [zu]⟩, ⟨by simp [zu], by simp [zu], by simp [zu], by simp [zu], by simp [zu], by simp [zu], by simp [zu], by simp [zu], by simp [zu]⟩, ⟨by simp [zu], by simp [zu]⟩⟩
-- the reference's
def MS (e m : zS) (x1 x2 x3 x4 : Int) : Prop :=
  (∀ k, ¬ (k = 45 ∨ k = 74 ∨ k = 81 ∨ k = 82) → m k = e k) ∧ (∀ j, ¬ (37 < j) → m 45 j = e 45 j) ∧ m 45 38 = e 45 38 ∧
  (m 45 39 = 0 ∧ m 45 40 = 0 ∧ m 45 41 = 0 ∧ m 45 42 = 0 ∧ m 45 43 = 1 ∧ m 45 44 = 0 ∧ m 45 47 = e 48 x1 ∧ m 45 48 = 0 ∧ m 45 56 = 0 ∧ m 45 57 = e 64 x1 ∧ m 45 58 = 0) ∧
  (∀ p, 0 ≤ p → p < 200 → m 74 p = 0) ∧ m 81 0 = 0 ∧ m 82 0 = x2 ∧ m 82 1 = x3 ∧ m 82 2 = x4
theorem m_start (h : 0 ≤ x1 ∧ x1 < 6) (k : ∀ m, MS e m x1 x2 x3 x4 → w_137 X m (fun _ s6 => Q (s6 45 39) s6)) : w_136_83 X x1 x2 x3 x4 1 e Q := by
  refine w_136_83_i ⟨by omega, fun _ => ?_, fun q => by omega⟩
  rintro _ rfl _ rfl _ rfl _ rfl _ rfl _ rfl
  have loop2 : ∀ d : Nat, ∀ (j : Int) (m : zS), 0 ≤ j → j + d = 8 → ((∀ k, ¬ (k = 45 ∨ k = 74 ∨ k = 81 ∨ k = 82) → m k = e k) ∧ (∀ j, ¬ (37 < j) → m 45 j = e 45 j) ∧ m 45 38 = e 45 38 ∧
      (m 45 39 = 0 ∧ m 45 40 = 0 ∧ m 45 41 = 0 ∧ m 45 42 = 0 ∧ m 45 43 = 1 ∧ m 45 44 = 0 ∧ m 45 48 = 0 ∧ m 45 56 = 0 ∧ m 45 58 = 0) ∧ (∀ p, 0 ≤ p → p < 200 → m 74 p = 0) ∧ m 81 0 = 0) → w_136_170 X x1 x2 x3 x4 j m Q := by
    intro d
    induction d with
    | zero =>
      rintro j m h0 hj ⟨f1, f2, f3, ⟨g1, g2, g3, g4, g5, g6, g7, g8, g9⟩, f5, f6⟩
      refine w_136_170_i ⟨by omega, fun _ => ?_, fun q => by omega⟩
      rintro _ rfl _ rfl _ rfl
      refine ⟨h, ?_⟩
      rintro _ rfl
      refine ⟨h, ?_⟩
      rintro _ rfl
      refine k _ ⟨fun k hk => by rw [zu_f (by omega), zu_f (by omega), zu_f (by omega), zu_f (by omega), zu_f (by omega)]; exact f1 k hk, fun j hj => by simp [zu, show ¬ j = 47 by omega, show ¬ j = 57 by omega]; exact f2 j hj, by simp [zu]; exact f3, ⟨by simp [zu]; exact g1, by simp [zu]; exact g2, by simp [zu]; exact g3, by simp [zu]; exact g4, by simp [zu]; exact g5, by simp [zu]; exact g6, by simp [zu]; rw [f1 48 (by omega)], by simp [zu]; exact g7, by simp [zu]; exact g8, by simp [zu]; rw [f1 64 (by omega)], by simp [zu]; exact g9⟩, fun p q1 q2 => by simp [zu]; exact f5 p q1 q2, by simp [zu]; exact f6, by simp [zu], by simp [zu], by simp [zu]⟩
    | succ d ih =>
      rintro j m h0 hj ⟨f1, f2, f3, ⟨g1, g2, g3, g4, g5, g6, g7, g8, g9⟩, f5, f6⟩
      refine w_136_170_i ⟨by omega, fun q => by omega, fun _ => ⟨by omega, ?_⟩⟩
      rintro _ rfl
      refine ih (j + 1) _ (by omega) (by omega) ⟨fun k hk => by rw [zu_f (by omega)]; exact f1 k hk, fun j hj => by rw [zu_g (by decide)]; exact f2 j hj, by rw [zu_g (by decide)]; exact f3, ?_, fun p q1 q2 => by rw [zu_g (by decide)]; exact f5 p q1 q2, by rw [zu_g (by decide)]; exact f6⟩
      rw [zu_f (by decide)]
      exact ⟨g1, g2, g3, g4, g5, g6, g7, g8, g9⟩
  have loop1 : ∀ d : Nat, ∀ (j : Int) (m : zS), 0 ≤ j → j + d = 200 → ((∀ k, ¬ (k = 45 ∨ k = 74 ∨ k = 81 ∨ k = 82) → m k = e k) ∧ (∀ j, ¬ (37 < j) → m 45 j = e 45 j) ∧ m 45 38 = e 45 38 ∧
      (m 45 39 = 0 ∧ m 45 40 = 0 ∧ m 45 41 = 0 ∧ m 45 42 = 0 ∧ m 45 44 = 0 ∧ m 45 48 = 0) ∧ (∀ p, 0 ≤ p → p < j → m 74 p = 0)) → w_136_123 X x1 x2 x3 x4 j m Q := by
    intro d
    induction d with
    | zero =>
      rintro j m h0 hj ⟨f1, f2, f3, ⟨g1, g2, g3, g4, g6, g7⟩, f5⟩
      refine w_136_123_i ⟨by omega, fun _ => ?_, fun q => by omega⟩
      rintro _ rfl _ rfl _ rfl _ rfl
      refine loop2 8 0 _ (by omega) rfl ⟨fun k hk => by rw [zu_f (by omega), zu_f (by omega), zu_f (by omega), zu_f (by omega)]; exact f1 k hk, fun j hj => by simp [zu, show ¬ j = 56 by omega, show ¬ j = 43 by omega, show ¬ j = 58 by omega]; exact f2 j hj, by simp [zu]; exact f3, ⟨by simp [zu]; exact g1, by simp [zu]; exact g2, by simp [zu]; exact g3, by simp [zu]; exact g4, by simp [zu], by simp [zu]; exact g6, by simp [zu]; exact g7, by simp [zu], by simp [zu]⟩, fun p q1 q2 => by simp [zu]; exact f5 p q1 (by omega), by simp [zu]⟩
    | succ d ih =>
      rintro j m h0 hj ⟨f1, f2, f3, g, f5⟩
      refine w_136_123_i ⟨by omega, fun q => by omega, fun _ => ⟨by omega, ?_⟩⟩
      rintro _ rfl
      refine ih (j + 1) _ (by omega) (by omega) ⟨fun k hk => by rw [zu_f (by omega)]; exact f1 k hk, fun j hj => by rw [zu_g (by decide)]; exact f2 j hj, by rw [zu_g (by decide)]; exact f3, by rw [zu_f (by decide)]; exact g, fun p q1 q2 => ?_⟩
      by_cases q : p = j
      · rw [q, zu_s]
      · rw [zu_n q]; exact f5 p q1 (by omega)
  exact loop1 200 0 _ (by omega) rfl ⟨fun k hk => by (repeat rw [zu_f (by omega)]), fun j hj => by simp [zu, show ¬ j = 39 by omega, show ¬ j = 40 by omega, show ¬ j = 41 by omega, show ¬ j = 42 by omega, show ¬ j = 44 by omega, show ¬ j = 48 by omega], by simp [zu], ⟨by simp [zu], by simp [zu], by simp [zu], by simp [zu], by simp [zu], by simp [zu]⟩, fun p q1 q2 => by omega⟩
-- there is such a state
theorem ms_ex (e : zS) (x1 x2 x3 x4 : Int) : ∃ m, MS e m x1 x2 x3 x4 := by
  refine ⟨zu (zu (zu (zu (zu (zu (zu (zu (zu (zu (zu (zu (zu (zu (zu (fun k j => if k = 74 then 0 else e k j) 45 39 0) 45 40 0) 45 41 0) 45 42 0) 45 43 1) 45 44 0) 45 47 (e 48 x1)) 45 48 0) 45 56 0) 45 57 (e 64 x1)) 45 58 0) 81 0 0) 82 0 x2) 82 1 x3) 82 2 x4, fun k hk => ?_, fun j hj => ?_, by simp [zu], ⟨by simp [zu], by simp [zu], by simp [zu], by simp [zu], by simp [zu], by simp [zu], by simp [zu], by simp [zu], by simp [zu], by simp [zu], by simp [zu]⟩, fun p _ _ => by simp [zu], by simp [zu], by simp [zu], by simp [zu], by simp [zu]⟩
  · funext j
    simp [zu, show ¬ k = 45 by omega, show ¬ k = 74 by omega, show ¬ k = 81 by omega, show ¬ k = 82 by omega]
  · simp [zu, show ¬ j = 39 by omega, show ¬ j = 40 by omega, show ¬ j = 41 by omega, show ¬ j = 42 by omega, show ¬ j = 43 by omega, show ¬ j = 44 by omega, show ¬ j = 47 by omega, show ¬ j = 48 by omega, show ¬ j = 56 by omega, show ¬ j = 57 by omega, show ¬ j = 58 by omega]
-- only whole numbers are taken
def onlyI (s : zS) (f : Int) : Prop := ∀ k, 0 ≤ k → k < s 7 f → s 8 (f * 3 + k) = 0
theorem p_36 (h : 0 ≤ f ∧ f < 6) (h7 : 0 ≤ s 7 f ∧ s 7 f ≤ 3) (h8 : ∀ k, 0 ≤ k → k < 3 → iI (s 8 (f * 3 + k))) (k1 : onlyI s f → Q 1 s) (k0 : ¬ onlyI s f → Q 0 s) : w_36 X f s Q := by
  have loop : ∀ d : Nat, ∀ j : Int, 0 ≤ j → j + d = s 7 f → (∀ k, 0 ≤ k → k < j → s 8 (f * 3 + k) = 0) → w_36_2 X f j s Q := by
    intro d
    induction d with
    | zero => intro j h0 hj f1; exact w_36_2_i ⟨h, by omega, fun _ => k1 (fun k q1 q2 => f1 k q1 (by omega)), fun q => by omega⟩
    | succ d ih =>
      intro j h0 hj f1
      have r8 := h8 j h0 (by omega)
      unfold iI at r8
      refine w_36_2_i ⟨h, by omega, fun q => by omega, fun _ => w_34_i ⟨by omega, by omega, fun q => ih (j + 1) (by omega) (by omega) (fun k q1 q2 => ?_), fun q => k0 (fun w => q (w j h0 (by omega)))⟩⟩
      by_cases w : k = j
      · rw [w]; exact q
      · exact f1 k q1 (by omega)
  exact w_36_i (loop (s 7 f).toNat 0 (by omega) (by omega) (fun k q1 q2 => by omega))
theorem m_only (h : 0 ≤ x1 ∧ x1 < 6) (h7 : 0 ≤ m 49 x1 ∧ m 49 x1 ≤ 3) (h8 : ∀ k, 0 ≤ k → k < 3 → iI (m 50 (3 * x1 + k))) (k1 : (∀ k, 0 ≤ k → k < m 49 x1 → m 50 (3 * x1 + k) = 0) → w_136_83 X x1 x2 x3 x4 1 m Q) (k0 : ¬ (∀ k, 0 ≤ k → k < m 49 x1 → m 50 (3 * x1 + k) = 0) → w_136_83 X x1 x2 x3 x4 0 m Q) : w_136_40 X x1 x2 x3 x4 1 0 m Q := by
  have loop : ∀ d : Nat, ∀ j : Int, 0 ≤ j → j + d = m 49 x1 → (∀ k, 0 ≤ k → k < j → m 50 (3 * x1 + k) = 0) → w_136_40 X x1 x2 x3 x4 1 j m Q := by
    intro d
    induction d with
    | zero => intro j h0 hj f1; exact w_136_40_i ⟨by omega, fun q => by omega, fun _ => ⟨h, by omega, fun _ => k1 (fun k q1 q2 => f1 k q1 (by omega)), fun q => by omega⟩⟩
    | succ d ih =>
      intro j h0 hj f1
      have r8 := h8 j h0 (by omega)
      unfold iI at r8
      refine w_136_40_i ⟨by omega, fun q => by omega, fun _ => ⟨h, by omega, fun q => by omega, fun _ => ⟨by omega, by omega, fun q => w_136_75_i (w_136_40_i ⟨by omega, fun _ => k0 (fun w => q (w j h0 (by omega))), fun q => by omega⟩), fun q => w_136_75_i (ih (j + 1) (by omega) (by omega) (fun k q1 q2 => ?_))⟩⟩⟩
      by_cases w : k = j
      · rw [w]; exact Classical.not_not.mp q
      · exact f1 k q1 (by omega)
  exact loop (m 49 x1).toNat 0 (by omega) (by omega) (fun k q1 q2 => by omega)
end
