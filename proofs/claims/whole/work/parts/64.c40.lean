/-! The run: the two machines side by side. -/
def rl (U : Int → Int → Prop) (φ : Int → Int) (t a b : Int) : Prop := (t = 0 → a = b ∧ iI a) ∧ (0 < t → a = 0 ∧ b = -1 ∨ U a t ∧ φ a = b)
-- how many of the first n are 1
def cn (f : Int → Int) : Nat → Int
  | 0 => 0
  | k + 1 => cn f k + f k
def hp (U : Int → Int → Prop) (φ : Int → Int) (r s m : zS) : Prop :=
  (∀ v t, U v t ↔ (∃ j, 0 ≤ j ∧ j < s 32 4 ∧ s 36 j = v) ∧ s 35 v = t) ∧
  (∀ v t, U v t → (0 ≤ φ v ∧ φ v < 200 ∧ m 74 (φ v) = 1) ∧ (1 ≤ t ∧ t ≤ 7) ∧ m 75 (φ v) = t ∧ rl U φ (r 20 t) (s 33 v) (m 76 (φ v)) ∧ rl U φ (r 21 t) (s 34 v) (m 77 (φ v))) ∧
  (∀ v w t u, U v t → U w u → φ v = φ w → v = w) ∧ (∀ p, 0 ≤ p → p < 200 → m 74 p = 1 → ∃ v t, U v t ∧ φ v = p) ∧
  ((∀ j, 0 ≤ j → j < 200 → 1 ≤ s 36 j ∧ s 36 j ≤ 200) ∧ (∀ i j, 0 ≤ i → i < 200 → 0 ≤ j → j < 200 → s 36 i = s 36 j → i = j)) ∧
  ((0 ≤ s 32 4 ∧ s 32 4 ≤ 200) ∧ m 45 48 = s 32 4 ∧ m 45 48 = cn (m 74) 200 ∧ (∀ p, 0 ≤ p → p < 200 → m 74 p = 0 ∨ m 74 p = 1))
def fr (U : Int → Int → Prop) (φ : Int → Int) (G : Int → Nat → Int → Int) (s m : zS) (g at' H L : Int) : Prop :=
  (s 42 g = H ∧ m 81 g = H ∧ 0 ≤ H ∧ H ≤ 16) ∧ (∀ k, 0 ≤ k → k < H → rl U φ (G at' 1 k) (s 41 (g * 16 + k)) (m 83 (16 * g + k))) ∧
  (∀ k : Nat, k < 8 → tb L k = true → rl U φ (G at' 2 k) (s 40 (g * 8 + k)) (m 82 (8 * g + k)))
-- where frame g stands
def pl (s : zS) (g : Int) : Int := if g = s 39 4 then s 31 6 else s 43 g
def frs (U : Int → Int → Prop) (φ : Int → Int) (G : Int → Nat → Int → Int) (r s m : zS) (f0 : Int) : Prop :=
  (0 ≤ s 39 4 ∧ s 39 4 < 24 ∧ m 45 56 = s 39 4) ∧ (0 ≤ s 31 6 ∧ s 31 6 < r 45 16 ∧ m 45 57 = s 31 6) ∧
  fr U φ G s m (s 39 4) (s 31 6) (G (s 31 6) 0 0) (r 63 (s 31 6)) ∧
  (∀ g, 0 ≤ g → g < s 39 4 → (0 ≤ s 43 g ∧ s 43 g < r 45 16 ∧ r 58 (s 43 g) = 13 ∧ m 80 (g + 1) = s 43 g + 1) ∧ G (pl s (g + 1)) 3 0 = r 59 (s 43 g) ∧ fr U φ G s m g (s 43 g) (G (s 43 g) 0 0 - r 60 (s 43 g)) (r 63 (s 43 g + 1))) ∧
  G (pl s 0) 3 0 = f0
-- what does not change in a run, and the counters
def glo (r s m : zS) : Prop :=
  (∀ k, k ≤ 30 → s k = r k) ∧ (∀ k, 46 ≤ k → k ≤ 72 → m k = r k) ∧
  (s 31 4 = r 31 4 ∧ s 31 5 = r 31 5 ∧ s 31 16 = r 31 16 ∧ m 45 37 = r 31 4 ∧ m 45 38 = r 31 5 ∧ m 45 47 = r 31 16) ∧
  (s 31 7 = m 45 58 ∧ 0 ≤ m 45 58 ∧ m 45 58 ≤ m 45 40) ∧ (s 31 9 = m 45 40 ∧ 0 ≤ m 45 40 ∧ m 45 40 ≤ 6000) ∧ (s 31 10 = m 45 41 ∧ 0 ≤ m 45 41 ∧ m 45 41 ≤ m 45 40) ∧ (s 31 11 = m 45 42) ∧ (s 31 12 = m 45 43 ∧ 1 ≤ m 45 43 ∧ m 45 43 ≤ 24) ∧
  (s 31 14 = m 45 44 ∧ 0 ≤ m 45 44 ∧ m 45 44 ≤ 64 ∧ ∀ i, 0 ≤ i → i < m 45 44 → s 44 i = m 73 i) ∧
  (∀ p, 1 ≤ p → p ≤ 200 → 0 ≤ s 37 p ∧ s 37 p ≤ s 32 6) ∧ (0 ≤ s 32 6 ∧ s 32 6 ≤ r 32 6 + m 45 40)
def MR (G : Int → Nat → Int → Int) (r : zS) (f0 : Int) (s m : zS) : Prop := ∃ U φ, hp U φ r s m ∧ frs U φ G r s m f0 ∧ glo r s m ∧ s 31 8 = 0 ∧ m 45 39 = 0
section
variable {X : zX} {s m : zS} {Q : Int → zS → Prop} {F H v x : Int}
-- the small methods of the frames
theorem c_push (eF : s 39 4 = F) (eH : s 42 F = H) (hF : 0 ≤ F ∧ F < 24) (hH : 0 ≤ H ∧ H < 16) (k : Q 0 (zu (zu s 41 (F * 16 + H) v) 42 F (H + 1))) : w_93 X v s Q := by
  refine w_93_i ?_
  rw [eF, eH]
  refine ⟨hF, by omega, ?_⟩
  rintro _ rfl
  have e1 : zu s 41 (F * 16 + H) v 39 4 = F := by rw [zu_g (by decide)]; exact eF
  rw [e1]
  refine ⟨hF, hF, ?_⟩
  rw [zu_g (by decide), eH]
  rintro _ rfl
  exact k
theorem c_pop (eF : s 39 4 = F) (eH : s 42 F = H) (ev : s 41 (F * 16 + (H - 1)) = v) (hF : 0 ≤ F ∧ F < 24) (hH : 1 ≤ H ∧ H ≤ 16) (k : Q v (zu s 42 F (H - 1))) : w_95 X s Q := by
  refine w_95_i ?_
  rw [eF, eH]
  refine ⟨hF, hF, ?_⟩
  rintro _ rfl
  have e1 : zu s 42 F (H - 1) 39 4 = F := by rw [zu_g (by decide)]; exact eF
  rw [e1, zu_s, zu_g (by decide), ev]
  exact ⟨hF, by omega, k⟩
theorem m_push (eF : m 45 56 = F) (eH : m 81 F = H) (hF : 0 ≤ F ∧ F < 24) (hH : 0 ≤ H ∧ H < 16) (k : Q 0 (zu (zu m 83 (16 * F + H) v) 81 F (H + 1))) : w_145 X v m Q := by
  refine w_145_i ?_
  rw [eF, eH]
  refine ⟨hF, by omega, ?_⟩
  rintro _ rfl
  have e1 : zu m 83 (16 * F + H) v 45 56 = F := by rw [zu_g (by decide)]; exact eF
  rw [e1]
  refine ⟨hF, hF, ?_⟩
  rw [zu_g (by decide), eH]
  rintro _ rfl
  exact k
theorem m_pop (eF : m 45 56 = F) (eH : m 81 F = H) (ev : m 83 (16 * F + (H - 1)) = v) (hF : 0 ≤ F ∧ F < 24) (hH : 1 ≤ H ∧ H ≤ 16) (k : Q v (zu m 81 F (H - 1))) : w_144 X m Q := by
  refine w_144_i ?_
  rw [eF, eH]
  refine ⟨hF, hF, ?_⟩
  rintro _ rfl
  have e1 : zu m 81 F (H - 1) 45 56 = F := by rw [zu_g (by decide)]; exact eF
  rw [e1, zu_s, zu_g (by decide), ev]
  exact ⟨hF, by omega, k⟩
end
