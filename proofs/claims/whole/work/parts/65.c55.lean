theorem cnt_bij (n : Nat) : ∀ (f e : Int → Int), (∀ p, 0 ≤ p → p < 200 → f p = 0 ∨ f p = 1) → (∀ j : Int, 0 ≤ j → j < n → (0 ≤ e j ∧ e j < 200) ∧ f (e j) = 1) → (∀ i j : Int, 0 ≤ i → i < n → 0 ≤ j → j < n → e i = e j → i = j) → (∀ p, 0 ≤ p → p < 200 → f p = 1 → ∃ j : Int, 0 ≤ j ∧ j < n ∧ e j = p) → cn f 200 = n := by
  induction n with
  | zero =>
    intro f e h1 h2 h3 h4
    rw [cn_c (f := f) (g := fun _ => 0) 200 (fun k p q => ?_)]
    · have : ∀ n : Nat, cn (fun _ => (0 : Int)) n = 0 := by
        intro n; induction n with
        | zero => rfl
        | succ k ih => simp only [cn]; rw [ih]; rfl
      rw [this]; rfl
    · rcases h1 k p (by omega) with w | w
      · exact w
      · obtain ⟨j, c1, c2, -⟩ := h4 k p (by omega) w
        omega
  | succ n ih =>
    intro f e h1 h2 h3 h4
    obtain ⟨b1, b2⟩ := h2 n (by omega) (by omega)
    have := ih (fun p => if p = e n then 0 else f p) e (fun p q1 q2 => by
        show (if p = e n then 0 else f p) = 0 ∨ (if p = e n then 0 else f p) = 1
        split
        · exact Or.inl rfl
        · exact h1 p q1 q2) (fun j q1 q2 => ⟨(h2 j q1 (by omega)).1, by
        show (if e j = e n then 0 else f (e j)) = 1
        rw [if_neg (fun w => by have := h3 j n q1 (by omega) (by omega) (by omega) w; omega)]
        exact (h2 j q1 (by omega)).2⟩) (fun i j a b c d => h3 i j a (by omega) c (by omega)) (fun p q1 q2 q3 => by
        have q3 : (if p = e n then 0 else f p) = 1 := q3
        split at q3
        · omega
        · next w =>
          obtain ⟨j, c1, c2, c3⟩ := h4 p q1 q2 q3
          refine ⟨j, c1, ?_, c3⟩
          by_cases ee : j = n
          · rw [ee] at c3; exact absurd c3.symm w
          · omega)
    have up := cn_up (f := f) (g := fun p => if p = e n then 0 else f p) 200 (a := e n) (by omega) (fun k _ _ w => by
      show (if k = e n then 0 else f k) = f k
      rw [if_neg w])
    rw [this] at up
    rw [if_pos rfl, b2] at up
    omega
section
variable {G : Int → Nat → Int → Int} {z r s m : zS} {U : Int → Int → Prop} {φ : Int → Int} {x1 : Int} {A Hh : Int → Int}
def fam (U : Int → Int → Prop) (φ : Int → Int) (G : Int → Nat → Int → Int) (r s m : zS) (x1 : Int) (A Hh : Int → Int) : Prop :=
  ∀ g, 0 ≤ g → g ≤ s 39 4 → atC s x1 g = A g ∧ atM m g = A g ∧ (0 ≤ A g ∧ A g < r 45 16) ∧ (r 58 (A g) = 6 ∨ r 58 (A g) = 13) ∧ Hh g ≤ G (A g) 0 0 ∧ fr U φ G s m g (A g) (Hh g) (r 63 (A g + 1))
-- the bits of the maps
theorem bits (C : CodeOK z r G) {i : Int} (hi : 0 ≤ i ∧ i < r 45 16) (ho : r 58 i = 6 ∨ r 58 i = 13) : (∀ k : Nat, k < 8 → (tb (r 61 i) k = true ↔ 0 < G i 2 k ∧ tb (r 63 (i + 1)) k = true)) ∧ (∀ k : Nat, (k : Int) < G i 0 0 → (tb (r 62 i) k = true ↔ 0 < G i 1 k)) ∧ (r 17 i = r 61 i ∧ r 18 i = r 62 i) ∧ r 63 i = r 63 (i + 1) ∧ G i 0 0 ≤ 16 := by
  obtain ⟨c1, c2, c3, c4, c5, c6, c7, c8, c9⟩ := C
  obtain ⟨-, -, h3⟩ := c3 i hi.1 hi.2
  obtain ⟨h4, h5, h6, h7⟩ := h3 ho
  have hE : 0 ≤ G i 0 0 ∧ G i 0 0 ≤ 16 := by
    obtain ⟨-, -, -, -, -, -, -, -, -, -, -, -, -, -, -, -, -, -, w, -⟩ := (c6 i hi.1 hi.2).1
    exact w
  refine ⟨fun k hk => ?_, fun k hk => ?_, ⟨h5, h4⟩, ?_, hE.2⟩
  · rw [h7, tb_A, tb_bm (by omega) 8 (by omega)]
    simp [hk]
  · rw [h6, tb_bm (by omega) _ (by omega)]
    simp
    omega
  · rw [(c9 i hi.1 hi.2).1, afM, if_neg (by omega), if_neg (by omega), bhM, if_neg (by omega), if_neg (by omega), if_neg (by omega)]
theorem tie (C : CodeOK z r G) (hz : ∀ t, tI t → tI (z 4 t) ∧ tI (z 5 t)) (hh : hp U φ r s m) (hs : ∀ k, k ≤ 30 → s k = r k) (hmr : ∀ k, 46 ≤ k → k ≤ 72 → m k = r k) (e56 : m 45 56 = s 39 4) (F : fam U φ G r s m x1 A Hh) :
    (goodC s (fun v => ∃ t, U v t) ∧ (∀ u, rootC s x1 u → ∃ t, U u t)) ∧ (goodM m (fun p => ∃ v t, U v t ∧ φ v = p) ∧ (∀ u, rootM m u → ∃ v t, U v t ∧ φ v = u)) ∧
    (∀ g, 0 ≤ g → g ≤ m 45 56 → (∀ k : Nat, k < 8 → tb (m 61 (atM m g)) k = true → -1 ≤ m 82 (8 * g + k)) ∧ (∀ k : Nat, (k : Int) < m 81 g → tb (m 62 (atM m g)) k = true → -1 ≤ m 83 (16 * g + k))) ∧
    (∀ v t, U v t → (reachC s x1 v ↔ reachM m (φ v))) := by
  have hUr := hpU hh
  obtain ⟨h1, h2, h3, h4, h5, h6⟩ := id hh
  have C' := C
  obtain ⟨c1, c2, c3, c4, c5, c6, c7, c8, c9⟩ := C'
  -- laid types
  have ty : ∀ t, 1 ≤ t ∧ t ≤ 7 → (r 65 t = r 20 t ∧ r 66 t = r 21 t) := fun t ht => by
    obtain ⟨w1, w2, w3, w4⟩ := c8 t ⟨by omega, by omega⟩
    exact ⟨by rw [w1, w3], by rw [w2, w4]⟩
  have tz : ∀ t, 1 ≤ t ∧ t ≤ 7 → tI (r 20 t) ∧ tI (r 21 t) := fun t ht => by
    obtain ⟨w1, w2, -, -⟩ := c8 t ⟨by omega, by omega⟩
    rw [w1, w2]; exact hz t ⟨by omega, by omega⟩
  have s17 : s 17 = r 17 := hs 17 (by omega)
  have s18 : s 18 = r 18 := hs 18 (by omega)
  have s20 : s 20 = r 20 := hs 20 (by omega)
  have s21 : s 21 = r 21 := hs 21 (by omega)
  have m61 : m 61 = r 61 := hmr 61 (by omega) (by omega)
  have m62 : m 62 = r 62 := hmr 62 (by omega) (by omega)
  have m65 : m 65 = r 65 := hmr 65 (by omega) (by omega)
  have m66 : m 66 = r 66 := hmr 66 (by omega) (by omega)
  -- a root is the same thing on both sides
  have slotR : ∀ g, 0 ≤ g → g ≤ s 39 4 → ∀ k : Nat, k < 8 → tb (r 61 (A g)) k = true → (s 40 (g * 8 + k) = 0 ∧ m 82 (8 * g + k) = -1) ∨ ∃ t, U (s 40 (g * 8 + k)) t ∧ φ (s 40 (g * 8 + k)) = m 82 (8 * g + k) := by
    intro g q1 q2 k q3 q4
    obtain ⟨-, -, a3, a4, a5, f1, f2, f3⟩ := F g q1 q2
    obtain ⟨b1, -⟩ := bits C a3 a4
    obtain ⟨w1, w2⟩ := (b1 k q3).mp q4
    rcases (f3 k q3 w2).2 w1 with w | w
    · exact Or.inl w
    · exact Or.inr ⟨_, w⟩
  have pileR : ∀ g, 0 ≤ g → g ≤ s 39 4 → ∀ k : Nat, (k : Int) < Hh g → tb (r 62 (A g)) k = true → (s 41 (g * 16 + k) = 0 ∧ m 83 (16 * g + k) = -1) ∨ ∃ t, U (s 41 (g * 16 + k)) t ∧ φ (s 41 (g * 16 + k)) = m 83 (16 * g + k) := by
    intro g q1 q2 k q3 q4
    obtain ⟨-, -, a3, a4, a5, f1, f2, f3⟩ := F g q1 q2
    obtain ⟨-, b2, -⟩ := bits C a3 a4
    have w1 := (b2 k (by omega)).mp q4
    rcases (f2 k (by omega) q3).2 w1 with w | w
    · exact Or.inl w
    · exact Or.inr ⟨_, w⟩
  have hgt : ∀ g, 0 ≤ g → g ≤ s 39 4 → s 42 g = Hh g ∧ m 81 g = Hh g := fun g q1 q2 => by
    obtain ⟨-, -, -, -, -, f1, -⟩ := F g q1 q2
    exact ⟨f1.1, f1.2.1⟩
  have map17 : ∀ g, 0 ≤ g → g ≤ s 39 4 → s 17 (atC s x1 g) = r 61 (A g) ∧ s 18 (atC s x1 g) = r 62 (A g) ∧ m 61 (atM m g) = r 61 (A g) ∧ m 62 (atM m g) = r 62 (A g) := fun g q1 q2 => by
    obtain ⟨a1, a2, a3, a4, -⟩ := F g q1 q2
    obtain ⟨-, -, b3, -⟩ := bits C a3 a4
    rw [a1, a2, s17, s18, m61, m62]
    exact ⟨b3.1, b3.2, rfl, rfl⟩
  have rtC : ∀ u, rootC s x1 u → ∃ t, U u t ∧ rootM m (φ u) := by
    rintro u ⟨nz, g, q1, q2, q3⟩
    obtain ⟨e1, e2, e3, e4⟩ := map17 g q1 q2
    rcases q3 with ⟨k, r1, r2, r3⟩ | ⟨k, r1, r2, r3⟩
    · rw [e1] at r2
      rcases slotR g q1 q2 k r1 r2 with w | ⟨t, w1, w2⟩
      · rw [r3] at w; exact absurd w.1 nz
      · rw [r3] at w1 w2
        have := hUr _ _ w1
        exact ⟨t, w1, by omega, g, q1, by omega, Or.inl ⟨k, r1, by rw [e3]; exact r2, w2.symm⟩⟩
    · rw [e2] at r2
      rw [(hgt g q1 q2).1] at r1
      rcases pileR g q1 q2 k r1 r2 with w | ⟨t, w1, w2⟩
      · rw [r3] at w; exact absurd w.1 nz
      · rw [r3] at w1 w2
        have := hUr _ _ w1
        exact ⟨t, w1, by omega, g, q1, by omega, Or.inr ⟨k, by rw [(hgt g q1 q2).2]; exact r1, by rw [e4]; exact r2, w2.symm⟩⟩
  have rtM : ∀ p, rootM m p → ∃ v t, U v t ∧ φ v = p ∧ rootC s x1 v := by
    rintro p ⟨nn, g, q1, q2, q3⟩
    rw [e56] at q2
    obtain ⟨e1, e2, e3, e4⟩ := map17 g q1 q2
    rcases q3 with ⟨k, r1, r2, r3⟩ | ⟨k, r1, r2, r3⟩
    · rw [e3] at r2
      rcases slotR g q1 q2 k r1 r2 with w | ⟨t, w1, w2⟩
      · omega
      · have := hUr _ _ w1
        exact ⟨_, t, w1, by rw [w2, r3], by omega, g, q1, q2, Or.inl ⟨k, r1, by rw [e1]; exact r2, rfl⟩⟩
    · rw [e4] at r2
      rw [(hgt g q1 q2).2] at r1
      rcases pileR g q1 q2 k r1 r2 with w | ⟨t, w1, w2⟩
      · omega
      · have := hUr _ _ w1
        exact ⟨_, t, w1, by rw [w2, r3], by omega, g, q1, q2, Or.inr ⟨k, by rw [(hgt g q1 q2).1]; exact r1, by rw [e2]; exact r2, rfl⟩⟩
  -- a half leads to the same pair on both sides
  have half : ∀ v t, U v t → (1 ≤ t ∧ t ≤ 7) ∧ s 35 v = t ∧ m 75 (φ v) = t ∧ (0 < r 20 t → (s 33 v = 0 ∧ m 76 (φ v) = -1) ∨ ∃ u, U (s 33 v) u ∧ φ (s 33 v) = m 76 (φ v)) ∧ (0 < r 21 t → (s 34 v = 0 ∧ m 77 (φ v) = -1) ∨ ∃ u, U (s 34 v) u ∧ φ (s 34 v) = m 77 (φ v)) := by
    intro v t hv
    obtain ⟨a1, a2, a3, a4, a5⟩ := h2 v t hv
    refine ⟨a2, ((h1 v t).mp hv).2, a3, fun w => ?_, fun w => ?_⟩
    · rcases a4.2 w with c | c
      · exact Or.inl c
      · exact Or.inr ⟨_, c⟩
    · rcases a5.2 w with c | c
      · exact Or.inl c
      · exact Or.inr ⟨_, c⟩
  refine ⟨⟨?_, fun u hu => by obtain ⟨t, w, -⟩ := rtC u hu; exact ⟨t, w⟩⟩, ⟨?_, fun p hp' => by obtain ⟨v, t, w1, w2, -⟩ := rtM p hp'; exact ⟨v, t, w1, w2⟩⟩, ?_, ?_⟩
  · rintro u ⟨t, hu⟩
    obtain ⟨a1, a2, a3, a4, a5⟩ := half u t hu
    have := hUr _ _ hu
    obtain ⟨t1, t2⟩ := tz t a1
    rw [s20, s21, a2]
    have t1' := t1
    have t2' := t2
    unfold tI at t1' t2'
    refine ⟨by omega, ⟨by omega, by omega⟩, t1, t2, fun w => ?_, fun w => ?_⟩
    · rcases a4 (by omega) with c | ⟨x, c, -⟩
      · exact Or.inl c.1
      · exact Or.inr ⟨x, c⟩
    · rcases a5 (by omega) with c | ⟨x, c, -⟩
      · exact Or.inl c.1
      · exact Or.inr ⟨x, c⟩
  · rintro p ⟨v, t, hv, rfl⟩
    obtain ⟨a1, a2, a3, a4, a5⟩ := half v t hv
    have := hUr _ _ hv
    obtain ⟨t1, t2⟩ := tz t a1
    obtain ⟨y1, y2⟩ := ty t a1
    rw [m65, m66, a3, y1, y2]
    refine ⟨by omega, ⟨by omega, by omega⟩, t1, t2, fun w => ?_, fun w => ?_⟩
    · rcases a4 w with c | ⟨x, c1, c2⟩
      · exact Or.inl c.2
      · exact Or.inr ⟨_, x, c1, c2⟩
    · rcases a5 w with c | ⟨x, c1, c2⟩
      · exact Or.inl c.2
      · exact Or.inr ⟨_, x, c1, c2⟩
  · intro g q1 q2
    rw [e56] at q2
    obtain ⟨e1, e2, e3, e4⟩ := map17 g q1 q2
    rw [e3, e4]
    refine ⟨fun k r1 r2 => ?_, fun k r1 r2 => ?_⟩
    · rcases slotR g q1 q2 k r1 r2 with w | ⟨t, w1, w2⟩
      · omega
      · have := hUr _ _ w1; omega
    · rw [(hgt g q1 q2).2] at r1
      rcases pileR g q1 q2 k r1 r2 with w | ⟨t, w1, w2⟩
      · omega
      · have := hUr _ _ w1; omega
  · intro v t hv
    constructor
    · intro w
      have := w (fun u => (∃ t, U u t) ∧ reachM m (φ u)) (fun u hu => ?_) (fun u p q hu => ?_)
      · exact this.2
      · obtain ⟨t, c1, c2⟩ := rtC u hu
        exact ⟨⟨t, c1⟩, fun P p1 p2 => p1 _ c2⟩
      · obtain ⟨⟨t, c1⟩, c2⟩ := hu
        obtain ⟨a1, a2, a3, a4, a5⟩ := half u t c1
        have rg := hUr _ _ c1
        obtain ⟨y1, y2⟩ := ty t a1
        obtain ⟨t1, t2⟩ := tz t a1
        unfold tI at t1 t2
        rw [s20, s21, a2]
        refine ⟨fun d1 d2 => ?_, fun d1 d2 => ?_⟩
        · rcases a4 (by omega) with c | ⟨x, k1, k2⟩
          · exact absurd c.1 d2
          · refine ⟨⟨x, k1⟩, fun P p1 p2 => ?_⟩
            have rg2 := hUr _ _ k1
            have := (p2 (φ u) (by omega) (by omega) (c2 P p1 p2)).1
            rw [m65, a3, y1] at this
            rw [k2]; exact this (by omega) (by omega)
        · rcases a5 (by omega) with c | ⟨x, k1, k2⟩
          · exact absurd c.1 d2
          · refine ⟨⟨x, k1⟩, fun P p1 p2 => ?_⟩
            have rg2 := hUr _ _ k1
            have := (p2 (φ u) (by omega) (by omega) (c2 P p1 p2)).2
            rw [m66, a3, y2] at this
            rw [k2]; exact this (by omega) (by omega)
    · intro w
      obtain ⟨v', t', c1, c2, c3⟩ := w (fun p => ∃ v t, U v t ∧ φ v = p ∧ reachC s x1 v) (fun p hp' => by
        obtain ⟨v, t, d1, d2, d3⟩ := rtM p hp'
        exact ⟨v, t, d1, d2, fun P p1 p2 => p1 _ d3⟩) (fun p q1 q2 hp' => by
        obtain ⟨u, t, d1, d2, d3⟩ := hp'
        obtain ⟨a1, a2, a3, a4, a5⟩ := half u t d1
        have rg := hUr _ _ d1
        obtain ⟨y1, y2⟩ := ty t a1
        rw [← d2, m65, m66, a3, y1, y2]
        refine ⟨fun e1 e2 => ?_, fun e1 e2 => ?_⟩
        · rcases a4 e1 with c | ⟨x, k1, k2⟩
          · omega
          · have rg2 := hUr _ _ k1
            refine ⟨_, x, k1, k2, fun P p1 p2 => ?_⟩
            have := (p2 u (by omega) (by omega) (d3 P p1 p2)).1
            rw [s20, a2] at this
            exact this (by omega) (by omega)
        · rcases a5 e1 with c | ⟨x, k1, k2⟩
          · omega
          · have rg2 := hUr _ _ k1
            refine ⟨_, x, k1, k2, fun P p1 p2 => ?_⟩
            have := (p2 u (by omega) (by omega) (d3 P p1 p2)).2
            rw [s21, a2] at this
            exact this (by omega) (by omega))
      rw [← h3 v' v t' t c1 hv c2]; exact c3
end
