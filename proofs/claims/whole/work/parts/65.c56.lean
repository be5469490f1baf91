section
variable {G : Int → Nat → Int → Int} {z r s m s' m' : zS} {U : Int → Int → Prop} {φ : Int → Int} {x1 : Int} {A Hh : Int → Int}
-- what the two collections leave
def KC (s s' : zS) (x1 : Int) : Prop := (∀ c, ¬ (c = 31 ∨ c = 32 ∨ c = 36 ∨ c = 37 ∨ c = 38) → s' c = s c) ∧ (∀ j, ¬ (j = 10 ∨ j = 11) → s' 31 j = s 31 j) ∧ s' 31 10 = s 31 10 + 1 ∧ s' 31 11 = s' 32 4 * 3 ∧ s' 32 6 = s 32 6 + 1 ∧ (∀ p, 1 ≤ p → p ≤ 200 → 0 ≤ s' 37 p ∧ s' 37 p ≤ s' 32 6) ∧ nums s' ∧ (0 ≤ s' 32 4 ∧ s' 32 4 ≤ s 32 4) ∧ (∀ v, used s' v ↔ used s v ∧ reachC s x1 v)
def KM (m m' : zS) : Prop := (∀ c, ¬ (c = 45 ∨ c = 74 ∨ c = 78 ∨ c = 79) → m' c = m c) ∧ (∀ j, ¬ (j = 41 ∨ j = 42 ∨ j = 48 ∨ j = 54) → m' 45 j = m 45 j) ∧ m' 45 41 = m 45 41 + 1 ∧ m' 45 42 = 3 * m' 45 48 ∧ m' 45 48 = cn (m' 74) 200 ∧ (∀ p, 0 ≤ p → p < 200 → m' 74 p = 0 ∨ m' 74 p = 1) ∧ (∀ p, 0 ≤ p → p < 200 → (m' 74 p = 1 ↔ m 74 p = 1 ∧ reachM m p))
theorem col_hp (C : CodeOK z r G) (hz : ∀ t, tI t → tI (z 4 t) ∧ tI (z 5 t)) (hh : hp U φ r s m) (hs : ∀ k, k ≤ 30 → s k = r k) (hmr : ∀ k, 46 ≤ k → k ≤ 72 → m k = r k) (e56 : m 45 56 = s 39 4) (F : fam U φ G r s m x1 A Hh) (kc : KC s s' x1) (km : KM m m') :
    hp (fun v t => U v t ∧ reachC s x1 v) φ r s' m' ∧ (∀ g, 0 ≤ g → g ≤ s 39 4 → fr (fun v t => U v t ∧ reachC s x1 v) φ G s' m' g (A g) (Hh g) (r 63 (A g + 1))) := by
  obtain ⟨⟨gC, rC⟩, ⟨gM, rM⟩, lo, tie'⟩ := tie C hz hh hs hmr e56 F
  have hUr := hpU hh
  obtain ⟨h1, h2, h3, h4, h5, h6⟩ := id hh
  obtain ⟨k1, k2, k3, k4, k5, k6, k7, k8, k9⟩ := kc
  obtain ⟨n1, n2, n3, n4, n5, n6, n7⟩ := km
  -- a value of a pair type that is a root, or is led to, stays
  have keep : ∀ t a b, 0 ≤ t → rl U φ t a b → (0 < t → ¬ a = 0 → reachC s x1 a) → rl (fun v t => U v t ∧ reachC s x1 v) φ t a b := by
    intro t a b ht h w
    refine ⟨h.1, fun q => ?_⟩
    rcases h.2 q with c | ⟨c1, c2⟩
    · exact Or.inl c
    · have := hUr _ _ c1
      exact Or.inr ⟨⟨c1, w q (by omega)⟩, c2⟩
  have s20 : s 20 = r 20 := hs 20 (by omega)
  have s21 : s 21 = r 21 := hs 21 (by omega)
  have tz : ∀ t, 1 ≤ t ∧ t ≤ 7 → tI (r 20 t) ∧ tI (r 21 t) := fun t ht => by
    obtain ⟨w1, w2, -, -⟩ := C.2.2.2.2.2.2.2.1 t ⟨by omega, by omega⟩
    rw [w1, w2]; exact hz t ⟨by omega, by omega⟩
  have hp1 : ∀ v t, (U v t ∧ reachC s x1 v) ↔ (∃ j, 0 ≤ j ∧ j < s' 32 4 ∧ s' 36 j = v) ∧ s' 35 v = t := by
    intro v t
    have e35 : s' 35 = s 35 := k1 35 (by omega)
    rw [e35, h1 v t]
    have := k9 v
    unfold used at this
    rw [this]
    constructor
    · rintro ⟨⟨a, b⟩, c⟩; exact ⟨⟨a, c⟩, b⟩
    · rintro ⟨⟨a, c⟩, b⟩; exact ⟨⟨a, b⟩, c⟩
  have hp2 : ∀ v t, (U v t ∧ reachC s x1 v) → (0 ≤ φ v ∧ φ v < 200 ∧ m' 74 (φ v) = 1) := by
    rintro v t ⟨hv, hw⟩
    obtain ⟨⟨a1, a2, a3⟩, -⟩ := h2 v t hv
    exact ⟨a1, a2, (n7 _ a1 a2).mpr ⟨a3, (tie' v t hv).mp hw⟩⟩
  have hp4 : ∀ p, 0 ≤ p → p < 200 → m' 74 p = 1 → ∃ v t, (U v t ∧ reachC s x1 v) ∧ φ v = p := by
    intro p q1 q2 q3
    obtain ⟨w1, w2⟩ := (n7 p q1 q2).mp q3
    obtain ⟨v, t, c1, c2⟩ := h4 p q1 q2 w1
    exact ⟨v, t, ⟨c1, (tie' v t c1).mpr (by rw [c2]; exact w2)⟩, c2⟩
  have inj : ∀ v w t u, (U v t ∧ reachC s x1 v) → (U w u ∧ reachC s x1 w) → φ v = φ w → v = w := fun v w t u a b c => h3 v w t u a.1 b.1 c
  have cnt : cn (m' 74) 200 = s' 32 4 := by
    have := cnt_bij (s' 32 4).toNat (m' 74) (fun j => φ (s' 36 j)) n6 (fun j q1 q2 => ?_) (fun i j a b c d e => ?_) (fun p q1 q2 q3 => ?_)
    · rw [this]; omega
    · have := (hp1 (s' 36 j) (s' 35 (s' 36 j))).mpr ⟨⟨j, q1, by omega, rfl⟩, rfl⟩
      have := hp2 _ _ this
      exact ⟨⟨this.1, this.2.1⟩, this.2.2⟩
    · have u1 := (hp1 (s' 36 i) (s' 35 (s' 36 i))).mpr ⟨⟨i, a, by omega, rfl⟩, rfl⟩
      have u2 := (hp1 (s' 36 j) (s' 35 (s' 36 j))).mpr ⟨⟨j, c, by omega, rfl⟩, rfl⟩
      exact k7.2 i j a (by omega) c (by omega) (inj _ _ _ _ u1 u2 e)
    · obtain ⟨v, t, c1, c2⟩ := hp4 p q1 q2 q3
      obtain ⟨⟨j, d1, d2, d3⟩, -⟩ := (hp1 v t).mp c1
      exact ⟨j, d1, by omega, by show φ (s' 36 j) = p; rw [d3, c2]⟩
  refine ⟨⟨hp1, fun v t hv => ?_, inj, hp4, k7, ⟨by omega, by rw [n5, cnt], n5, n6⟩⟩, fun g q1 q2 => ?_⟩
  · obtain ⟨hu, hw⟩ := hv
    obtain ⟨a1, a2, a3, a4, a5⟩ := h2 v t hu
    obtain ⟨t1, t2⟩ := tz t a2
    have e35 := ((h1 v t).mp hu).2
    have rg := hUr _ _ hu
    have lead : (¬ s 20 (s 35 v) = 0 → ¬ s 33 v = 0 → reachC s x1 (s 33 v)) ∧ (¬ s 21 (s 35 v) = 0 → ¬ s 34 v = 0 → reachC s x1 (s 34 v)) :=
      ⟨fun w1 w2 P p1 p2 => (p2 v (by omega) (by omega) (hw P p1 p2)).1 w1 w2, fun w1 w2 P p1 p2 => (p2 v (by omega) (by omega) (hw P p1 p2)).2 w1 w2⟩
    rw [s20, s21, e35] at lead
    refine ⟨hp2 v t ⟨hu, hw⟩, a2, by rw [n1 75 (by omega)]; exact a3, ?_, ?_⟩
    · rw [k1 33 (by omega), n1 76 (by omega)]
      exact keep _ _ _ t1.1 a4 (fun w1 w2 => lead.1 (by omega) w2)
    · rw [k1 34 (by omega), n1 77 (by omega)]
      exact keep _ _ _ t2.1 a5 (fun w1 w2 => lead.2 (by omega) w2)
  · obtain ⟨a1, a2, a3, a4, a5, f1, f2, f3⟩ := F g q1 q2
    obtain ⟨b1, b2, b3, b4, b5⟩ := bits C a3 a4
    have okA := (C.2.2.2.2.2.1 (A g) a3.1 a3.2).1
    obtain ⟨-, -, -, -, -, -, -, -, -, -, -, -, -, -, -, -, -, -, w0, w1, w2⟩ := okA
    refine ⟨by rw [k1 42 (by omega), n1 81 (by omega)]; exact f1, fun k r1 r2 => ?_, fun k r1 r2 => ?_⟩
    · rw [k1 41 (by omega), n1 83 (by omega)]
      have tt := w1 k r1 (by omega)
      refine keep _ _ _ tt.1 (f2 k r1 r2) (fun c1 c2 P p1 p2 => p1 _ ⟨c2, g, q1, q2, Or.inr ⟨k.toNat, ?_, ?_, ?_⟩⟩)
      · rw [f1.1]; omega
      · rw [a1, hs 18 (by omega), b3.2]
        refine (b2 k.toNat (by omega)).mpr ?_
        rw [show ((k.toNat : Nat) : Int) = k by omega]; exact c1
      · rw [show ((k.toNat : Nat) : Int) = k by omega]
    · rw [k1 40 (by omega), n1 82 (by omega)]
      have lk := (C.2.2.2.2.2.2.2.2 (A g + 1) (by omega) ((C.2.2.2.2.2.1 (A g) a3.1 a3.2).2.2 (by omega))).2 k (by omega) r2
      have g0 : 0 ≤ G (A g) 2 k := by
        by_cases c : 0 ≤ G (A g) 2 k
        · exact c
        · have := w2 k (by omega) (by omega)
          obtain ⟨p, q, t, hn⟩ := okI_nx (C.2.2.2.2.2.1 (A g) a3.1 a3.2).1 (by omega) (by omega) (by omega)
          rcases hn.2.2.2.2.1 k (by omega) (by omega) with w | w
          · have w' : G (A g + 1) 2 k = (if r 58 (A g) = 12 ∧ (k : Int) = r 59 (A g) then top (G (A g)) 1 else G (A g) 2 k) := w
            rw [if_neg (by omega)] at w'; omega
          · omega
      refine keep _ _ _ g0 (f3 k r1 r2) (fun c1 c2 P p1 p2 => p1 _ ⟨c2, g, q1, q2, Or.inl ⟨k, r1, ?_, rfl⟩⟩)
      rw [a1, hs 17 (by omega), b3.1]
      exact (b1 k r1).mpr ⟨c1, r2⟩
end
