section
variable {W : Int → Prop} {s0 s : zS} {X : zX} {Q : Int → zS → Prop} {v g a n F x1 : Int}
-- the program's rows of pairs: all numbers once
def nums (s : zS) : Prop := (∀ j, 0 ≤ j → j < 200 → 1 ≤ s 36 j ∧ s 36 j ≤ 200) ∧ (∀ i j, 0 ≤ i → i < 200 → 0 ≤ j → j < 200 → s 36 i = s 36 j → i = j)
def used (s : zS) (v : Int) : Prop := ∃ j, 0 ≤ j ∧ j < s 32 4 ∧ s 36 j = v
-- those that stay come to the front
theorem k_82 (hn : nums s0) (hc : 0 ≤ s0 32 4 ∧ s0 32 4 ≤ 200) (h6 : 0 ≤ s0 32 6 ∧ s0 32 6 ≤ 2000000000) (h37 : ∀ p, 1 ≤ p → p ≤ 200 → 0 ≤ s0 37 p ∧ s0 37 p ≤ s0 32 6)
    (k : ∀ s', (∀ c, ¬ (c = 32 ∨ c = 36) → s' c = s0 c) → (∀ j, ¬ j = 4 → s' 32 j = s0 32 j) → nums s' → (0 ≤ s' 32 4 ∧ s' 32 4 ≤ s0 32 4) → (∀ v, used s' v ↔ used s0 v ∧ s0 37 v = s0 32 6) → Q 0 s') (d : Nat) :
    ∀ (st j : Int) (s' : zS), j + d = s0 32 4 → 0 ≤ st → st ≤ j → (∀ c, ¬ c = 36 → s' c = s0 c) → nums s' → (∀ x, j ≤ x → x < 200 → s' 36 x = s0 36 x) → (∀ x, 0 ≤ x → x < st → s0 37 (s' 36 x) = s0 32 6) → (∀ x, st ≤ x → x < j → ¬ s0 37 (s' 36 x) = s0 32 6) → (∀ v, (∃ x, 0 ≤ x ∧ x < j ∧ s' 36 x = v) ↔ ∃ x, 0 ≤ x ∧ x < j ∧ s0 36 x = v) → w_89_20_21_82 X st j s' Q := by
  induction d with
  | zero =>
    intro st j s' hj h0 h1 m1 m2 m3 m4 m5 m6
    have e32 : s' 32 = s0 32 := m1 32 (by omega)
    refine w_89_20_21_82_i ⟨by rw [e32]; omega, fun _ => ?_, fun q => by rw [e32] at q; omega⟩
    rintro _ rfl
    have e4 : zu s' 32 4 st 32 4 = st := zu_s
    have e36 : zu s' 32 4 st 36 = s' 36 := zu_f (by decide)
    refine k _ (fun c hc => by rw [zu_f (by omega), m1 c (by omega)]) (fun j hj => by rw [zu_n hj, e32]) (by unfold nums; rw [e36]; exact m2) (by rw [e4]; omega) (fun v => ?_)
    unfold used
    rw [e4, e36]
    constructor
    · rintro ⟨x, p1, p2, p3⟩
      obtain ⟨y, q1, q2, q3⟩ := (m6 v).mp ⟨x, p1, by omega, p3⟩
      exact ⟨⟨y, q1, by omega, q3⟩, by rw [← p3]; exact m4 x p1 p2⟩
    · rintro ⟨⟨y, q1, q2, q3⟩, q4⟩
      obtain ⟨x, p1, p2, p3⟩ := (m6 v).mpr ⟨y, q1, by omega, q3⟩
      refine ⟨x, p1, ?_, p3⟩
      by_cases e : x < st
      · exact e
      · exact absurd (by rw [p3]; exact q4) (m5 x (by omega) p2)
  | succ d ih =>
    intro st j s' hj h0 h1 m1 m2 m3 m4 m5 m6
    have e32 : s' 32 = s0 32 := m1 32 (by omega)
    have e37 : s' 37 = s0 37 := m1 37 (by omega)
    have rj := m2.1 j (by omega) (by omega)
    have r37 := h37 _ rj.1 rj.2
    have ej : s' 36 j = s0 36 j := m3 j (by omega) (by omega)
    refine w_89_20_21_82_i ⟨by rw [e32]; omega, fun q => by rw [e32] at q; omega, fun _ => ⟨by omega, by omega, by rw [e37, e32]; omega, fun q => w_89_20_21_138_i ?_, fun q => ⟨by omega, by omega, ?_⟩⟩⟩
    · rw [e37, e32] at q
      refine ih st (j + 1) s' (by omega) h0 (by omega) m1 m2 (fun x p1 p2 => m3 x (by omega) p2) m4 (fun x p1 p2 => ?_) (fun v => ?_)
      · by_cases e : x = j
        · rw [e]; exact q
        · exact m5 x p1 (by omega)
      · constructor
        · rintro ⟨x, p1, p2, p3⟩
          by_cases e : x = j
          · exact ⟨j, by omega, by omega, by rw [← ej, ← e]; exact p3⟩
          · obtain ⟨y, q1, q2, q3⟩ := (m6 v).mp ⟨x, p1, by omega, p3⟩
            exact ⟨y, q1, by omega, q3⟩
        · rintro ⟨x, p1, p2, p3⟩
          by_cases e : x = j
          · exact ⟨j, by omega, by omega, by rw [ej, ← e]; exact p3⟩
          · obtain ⟨y, q1, q2, q3⟩ := (m6 v).mpr ⟨x, p1, by omega, p3⟩
            exact ⟨y, q1, by omega, q3⟩
    · rw [e37, e32] at q
      have q := Classical.not_not.mp q
      rintro _ rfl
      refine ⟨by omega, ?_⟩
      rintro _ rfl
      generalize es : zu (zu s' 36 j (s' 36 st)) 36 st (s' 36 j) = s2
      have f1 : ∀ c, ¬ c = 36 → s2 c = s' c := fun c hc => by rw [← es, zu_f hc, zu_f hc]
      have f2 : ∀ x, s2 36 x = if x = st then s' 36 j else if x = j then s' 36 st else s' 36 x := fun x => by rw [← es]; simp [zu]
      -- a swap
      have sw : ∀ x, 0 ≤ x → x < 200 → ∃ y, 0 ≤ y ∧ y < 200 ∧ s2 36 x = s' 36 y ∧ (x = st ∧ y = j ∨ x = j ∧ y = st ∨ ¬ x = st ∧ ¬ x = j ∧ y = x) := by
        intro x p1 p2
        by_cases e1 : x = st
        · exact ⟨j, by omega, by omega, by rw [f2, if_pos e1], Or.inl ⟨e1, rfl⟩⟩
        · by_cases e2 : x = j
          · exact ⟨st, by omega, by omega, by rw [f2, if_neg e1, if_pos e2], Or.inr (Or.inl ⟨e2, rfl⟩)⟩
          · exact ⟨x, p1, p2, by rw [f2, if_neg e1, if_neg e2], Or.inr (Or.inr ⟨e1, e2, rfl⟩)⟩
      have n2 : nums s2 := by
        refine ⟨fun x p1 p2 => ?_, fun x y p1 p2 p3 p4 p5 => ?_⟩
        · obtain ⟨y, q1, q2, q3, -⟩ := sw x p1 p2
          rw [q3]; exact m2.1 y q1 q2
        · obtain ⟨x', q1, q2, q3, q4⟩ := sw x p1 p2
          obtain ⟨y', r1, r2, r3, r4⟩ := sw y p3 p4
          rw [q3, r3] at p5
          have := m2.2 x' y' q1 q2 r1 r2 p5
          omega
      refine w_89_20_21_138_i (ih (st + 1) (j + 1) s2 (by omega) (by omega) (by omega) (fun c hc => by rw [f1 c hc, m1 c hc]) n2 (fun x p1 p2 => ?_) (fun x p1 p2 => ?_) (fun x p1 p2 => ?_) (fun v => ?_))
      · rw [f2, if_neg (by omega), if_neg (by omega)]; exact m3 x (by omega) p2
      · rw [f2]
        by_cases e : x = st
        · rw [if_pos e]; exact q
        · rw [if_neg e, if_neg (by omega)]; exact m4 x p1 (by omega)
      · rw [f2, if_neg (by omega)]
        by_cases e : x = j
        · rw [if_pos e]
          exact m5 st (by omega) (by omega)
        · rw [if_neg e]; exact m5 x (by omega) (by omega)
      · have k1 : (∃ x, 0 ≤ x ∧ x < j + 1 ∧ s2 36 x = v) ↔ ∃ x, 0 ≤ x ∧ x < j + 1 ∧ s' 36 x = v := by
          constructor
          · rintro ⟨x, p1, p2, p3⟩
            obtain ⟨y, q1, q2, q3, q4⟩ := sw x p1 (by omega)
            exact ⟨y, q1, by omega, by rw [← q3]; exact p3⟩
          · rintro ⟨x, p1, p2, p3⟩
            by_cases e1 : x = st
            · by_cases e3 : j = st
              · exact ⟨st, by omega, by omega, by rw [f2, if_pos rfl, e3, ← e1]; exact p3⟩
              · exact ⟨j, by omega, by omega, by rw [f2, if_neg e3, if_pos rfl, ← e1]; exact p3⟩
            · by_cases e2 : x = j
              · exact ⟨st, by omega, by omega, by rw [f2, if_pos rfl, ← e2]; exact p3⟩
              · exact ⟨x, p1, p2, by rw [f2, if_neg e1, if_neg e2]; exact p3⟩
        rw [k1]
        constructor
        · rintro ⟨x, p1, p2, p3⟩
          by_cases e : x = j
          · exact ⟨j, by omega, by omega, by rw [← ej, ← e]; exact p3⟩
          · obtain ⟨y, q1, q2, q3⟩ := (m6 v).mp ⟨x, p1, by omega, p3⟩
            exact ⟨y, q1, by omega, q3⟩
        · rintro ⟨x, p1, p2, p3⟩
          by_cases e : x = j
          · exact ⟨j, by omega, by omega, by rw [ej, ← e]; exact p3⟩
          · obtain ⟨y, q1, q2, q3⟩ := (m6 v).mpr ⟨x, p1, by omega, p3⟩
            exact ⟨y, q1, by omega, q3⟩
-- what is led to
def shut (s : zS) (P : Int → Prop) (v : Int) : Prop := (¬ s 20 (s 35 v) = 0 → s 33 v = 0 ∨ 1 ≤ s 33 v ∧ s 33 v ≤ 200 ∧ P (s 33 v)) ∧ (¬ s 21 (s 35 v) = 0 → s 34 v = 0 ∨ 1 ≤ s 34 v ∧ s 34 v ≤ 200 ∧ P (s 34 v))
theorem k_2 (h6 : 0 ≤ s0 32 6 ∧ s0 32 6 ≤ 2000000000) (hW : ∀ v, 1 ≤ v → v ≤ 200 → W v → tI (s0 35 v) ∧ tI (s0 20 (s0 35 v)) ∧ tI (s0 21 (s0 35 v)) ∧ shut s0 W v)
    (k : ∀ s', MI W s0 s' → ML s s' → (∀ v, 1 ≤ v → v ≤ 200 → s' 37 v = s' 32 6 → shut s0 (fun u => s' 37 u = s' 32 6) v) → w_89_20_21_77 X s' Q) (d : Nat) :
    ∀ (j : Int) (s' : zS), 0 ≤ j → j ≤ 200 → j + d = 200 → MI W s0 s' → ML s s' → (∀ x, 0 ≤ x → x < j → x < s' 32 8 → shut s0 (fun u => s' 37 u = s' 32 6) (s' 38 x)) → w_89_20_21_2 X j s' Q := by
  have fin : ∀ (j : Int) (s' : zS), s' 32 8 ≤ j → MI W s0 s' → ML s s' → (∀ x, 0 ≤ x → x < j → x < s' 32 8 → shut s0 (fun u => s' 37 u = s' 32 6) (s' 38 x)) → w_89_20_21_77 X s' Q := by
    intro j s' hj m1 m2 m3
    refine k s' m1 m2 (fun v p1 p2 p3 => ?_)
    obtain ⟨x, q1, q2, q3⟩ := m1.2.2.2.2.1 v p1 p2 p3
    rw [← q3]; exact m3 x q1 (by omega) q2
  induction d with
  | zero =>
    intro j s' h0 h1 hj m1 m2 m3
    have hc := m1.c
    refine w_89_20_21_2_i ⟨by omega, fun q => fin j s' q m1 m2 m3, fun q => ⟨by omega, fun _ => fin j s' (by omega) m1 m2 m3, fun q' => by omega⟩⟩
  | succ d ih =>
    intro j s' h0 h1 hj m1 m2 m3
    have hc := m1.c
    have e6 : s' 32 6 = s0 32 6 := m1.1.2 6 (by omega)
    have ek : ∀ k, ¬ (k = 32 ∨ k = 37 ∨ k = 38) → s' k = s0 k := m1.1.1
    refine w_89_20_21_2_i ⟨by omega, fun q => fin j s' q m1 m2 m3, fun q => ⟨by omega, fun q' => by omega, fun _ => ?_⟩⟩
    obtain ⟨⟨b1, b2⟩, b3⟩ := m1.2.2.2.1 j h0 (by omega)
    generalize ev : s' 38 j = v at *
    have wv := m1.2.2.2.2.2 v b1 b2 b3
    obtain ⟨t1, t2, t3, t4, t5⟩ := hW v b1 b2 wv
    unfold tI at t1 t2 t3
    rw [ek 35 (by omega), ek 20 (by omega), ek 33 (by omega)]
    -- behind the right half
    have last : ∀ s2, MI W s0 s2 → ML s' s2 → ((¬ s0 20 (s0 35 v) = 0 → s0 33 v = 0 ∨ 1 ≤ s0 33 v ∧ s0 33 v ≤ 200 ∧ s2 37 (s0 33 v) = s2 32 6)) → w_89_20_21_48 X j v s2 Q := by
      intro s2 n1 n2 n3
      have ek2 : ∀ k, ¬ (k = 32 ∨ k = 37 ∨ k = 38) → s2 k = s0 k := n1.1.1
      have e62 : s2 32 6 = s0 32 6 := n1.1.2 6 (by omega)
      have nxt : ∀ s3, MI W s0 s3 → ML s2 s3 → (¬ s0 21 (s0 35 v) = 0 → s0 34 v = 0 ∨ 1 ≤ s0 34 v ∧ s0 34 v ≤ 200 ∧ s3 37 (s0 34 v) = s3 32 6) → w_89_20_21_71 X j s3 Q := by
        intro s3 p1 p2 p3
        refine w_89_20_21_71_i (ih (j + 1) s3 (by omega) (by omega) (by omega) p1 (m2.tr (n2.tr p2)) (fun x q1 q2 q3 => ?_))
        have up := n2.tr p2
        by_cases e : x = j
        · subst e
          rw [up.2.2 x q1 (by omega), ev]
          refine ⟨fun w => ?_, p3⟩
          rcases n3 w with w | w
          · exact Or.inl w
          · exact Or.inr ⟨w.1, w.2.1, p2.1 _ w.1 w.2.1 w.2.2⟩
        · have := m3 x q1 (by omega) (by omega)
          rw [up.2.2 x q1 (by omega)]
          refine ⟨fun w => ?_, fun w => ?_⟩
          · rcases this.1 w with w | w
            · exact Or.inl w
            · exact Or.inr ⟨w.1, w.2.1, up.1 _ w.1 w.2.1 w.2.2⟩
          · rcases this.2 w with w | w
            · exact Or.inl w
            · exact Or.inr ⟨w.1, w.2.1, up.1 _ w.1 w.2.1 w.2.2⟩
      refine w_89_20_21_48_i ⟨by omega, ?_⟩
      rw [ek2 35 (by omega), ek2 21 (by omega), ek2 34 (by omega)]
      refine ⟨by omega, by omega, fun w => nxt s2 n1 ML.rf (fun w' => absurd w w'), fun w => ⟨by omega, k_88 n1 (by omega) (t5 w) (fun s3 p1 p2 p3 => nxt s3 p1 p2 (fun _ => ?_))⟩⟩
      rcases t5 w with c | c
      · exact Or.inl c
      · exact Or.inr ⟨c.1, c.2.1, p3 (by omega)⟩
    refine ⟨by omega, by omega, by omega, by omega, fun w => last s' m1 ML.rf (fun w' => absurd w w'), fun w => ⟨by omega, k_88 m1 (by omega) (t4 w) (fun s2 n1 n2 n3 => last s2 n1 n2 (fun _ => ?_))⟩⟩
    rcases t4 w with c | c
    · exact Or.inl c
    · exact Or.inr ⟨c.1, c.2.1, n3 (by omega)⟩
end
