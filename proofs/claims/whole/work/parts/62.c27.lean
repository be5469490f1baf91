section
variable {z s m s' m' : zS} {G G' : Int → Nat → Int → Int} {f N i o v tk n : Int} {X : zX} {Q : Int → zS → Prop}
-- the types of the slots as a function begins
def lt (z : zS) (f k : Int) : Int := if k < z 7 f then z 8 (f * 3 + k) else -1
theorem p_46l (hf : 0 ≤ f ∧ f < 6) (h7 : 0 ≤ z 7 f ∧ z 7 f ≤ 3) (e : ∀ k, 3 ≤ k → k ≤ 13 → s k = z k)
    (g : ∀ s', (∀ c, ¬ c = 28 → s' c = s c) → (∀ k, 0 ≤ k → k < 8 → s' 28 k = lt z f k) → w_46_18 X f 8 s' Q) (d : Nat) :
    ∀ (j : Int) (s' : zS), 0 ≤ j → j + d = 8 → (∀ c, ¬ c = 28 → s' c = s c) → (∀ k, 0 ≤ k → k < j → s' 28 k = lt z f k) → w_46_18 X f j s' Q := by
  induction d with
  | zero =>
    intro j s' h0 hj h1 h2
    rw [show j = 8 by omega]
    exact g s' h1 (fun k a b => h2 k a (by omega))
  | succ d ih =>
    intro j s' h0 hj h1 h2
    have e7 : s' 7 = z 7 := by rw [h1 7 (by decide), e 7 (by omega) (by omega)]
    have e8 : s' 8 = z 8 := by rw [h1 8 (by decide), e 8 (by omega) (by omega)]
    have nxt : ∀ v, v = lt z f j → w_46_65 X f j j v s' Q := by
      intro v hv
      refine w_46_65_i ⟨by omega, ?_⟩
      rintro _ rfl
      refine ih (j + 1) _ (by omega) (by omega) (fun c hc => by rw [zu_f hc, h1 c hc]) (fun k a b => ?_)
      by_cases q : k = j
      · rw [q, zu_s, hv]
      · rw [zu_n q, h2 k a (by omega)]
    refine w_46_18_i ⟨by omega, fun q => by omega, fun _ => ⟨hf, by rw [e7]; omega, fun q => ?_, fun q => ?_⟩⟩
    · rw [e7] at q
      exact w_46_42_i ⟨by omega, fun _ => nxt _ (by rw [lt, if_neg (by omega)]), fun q' => by omega⟩
    · rw [e7] at q
      refine w_46_42_i ⟨by omega, fun q' => by omega, fun _ => p_34 hf (by omega) (nxt _ ?_)⟩
      rw [lt, if_pos (by omega), e8]
theorem p_113l (hf : 0 ≤ f ∧ f < 6) (h7 : 0 ≤ z 7 f ∧ z 7 f ≤ 3) (e49 : m 49 f = z 7 f) (e50 : ∀ k, 0 ≤ k → k < 3 → m 50 (3 * f + k) = z 8 (f * 3 + k)) (d : Nat) :
    ∀ (j : Int) (m' : zS), 0 ≤ j → j + d = 8 → (∀ c, ¬ c = 70 → m' c = m c) → (∀ k, k < 0 ∨ 8 ≤ k → m' 70 k = m 70 k) → (∀ k, 0 ≤ k → k < j → m' 70 k = lt z f k) → ∃ m'', ((∀ c, ¬ c = 70 → m'' c = m c) ∧ (∀ k, k < 0 ∨ 8 ≤ k → m'' 70 k = m 70 k) ∧ (∀ k, 0 ≤ k → k < 8 → m'' 70 k = lt z f k)) ∧ ∀ X Q, w_113_12 X f 8 m'' Q → w_113_12 X f j m' Q := by
  induction d with
  | zero =>
    intro j m' h0 hj h1 h3 h2
    obtain rfl : j = 8 := by omega
    exact ⟨m', ⟨h1, h3, h2⟩, fun _ _ h => h⟩
  | succ d ih =>
    intro j m' h0 hj h1 h3 h2
    obtain ⟨m'', hm, g⟩ := ih (j + 1) (zu m' 70 j (lt z f j)) (by omega) (by omega) (fun c hc => by rw [zu_f hc, h1 c hc]) (fun k hk => by rw [zu_n (by omega)]; exact h3 k hk) (fun k a b => by
      by_cases q : k = j
      · rw [q, zu_s]
      · rw [zu_n q, h2 k a (by omega)])
    refine ⟨m'', hm, fun X Q h => ?_⟩
    have nxt : w_113_47 X f j j (lt z f j) m' Q := by
      refine w_113_47_i ⟨by omega, ?_⟩
      rintro _ rfl
      exact g X Q h
    refine w_113_12_i ⟨by omega, fun q => by omega, fun _ => ⟨hf, ?_⟩⟩
    rw [h1 49 (by decide), h1 50 (by decide), e49]
    refine ⟨by omega, fun q => ?_, fun q => ⟨by omega, ?_⟩⟩
    · rw [lt, if_neg (by omega)] at nxt; exact nxt
    · rw [lt, if_pos (by omega)] at nxt; rw [e50 j h0 (by omega)]; exact nxt
def fseg (z m : zS) (G : Int → Nat → Int → Int) (N : Int) : Prop := ∀ i, 0 ≤ i → i < N → okI z G i (m 58 i) (m 59 i) (m 60 i) ∧ (m 58 i = 10 ∨ m 58 i = 11 → m 59 i < N) ∧ (¬ m 58 i = 14 → i + 1 < N)
theorem okI.r (h : okI z G i 14 v tk) (e : G' i = G i) : okI z G' i 14 v tk := by
  obtain ⟨h0, h1, h2, h3, h4, h5, h6, h7, h8, h9, h10, h11, h12, h13, h14, h15, h16, h17, hE1, hE2, hE3⟩ := h
  rw [okI, e]
  refine ⟨?_, ?_, ?_, ?_, ?_, ?_, ?_, ?_, ?_, ?_, ?_, ?_, h12, ?_, ?_, ?_, ?_, h17, hE1, hE2, hE3⟩ <;> (intro h; exfalso; omega)
theorem fseg.c (h : fseg z m G N) (e : ∀ i, 0 ≤ i → i < N → m' 58 i = m 58 i ∧ m' 59 i = m 59 i ∧ m' 60 i = m 60 i) (e1 : ∀ i, 0 ≤ i → i < N → G' i = G i) : fseg z m' G' N := by
  intro i a b
  obtain ⟨h1, h2, h3⟩ := h i a b
  obtain ⟨q1, q2, q3⟩ := e i a b
  rw [q1, q2, q3]
  refine ⟨?_, h2, h3⟩
  by_cases q : m 58 i = 14
  · rw [q] at h1 ⊢
    exact h1.r (e1 i a b)
  · refine h1.c (e1 i a b) (low.of (e1 _ (by omega) (by have := h3 q; omega))) (fun q' => low.of (e1 _ ?_ (h2 q')))
    obtain ⟨-, -, -, -, -, -, -, -, h8, h9, -⟩ := h1
    rcases q' with q' | q'
    · have := (h8 q').2.2.1; omega
    · have := (h9 q').1; omega
def sm (z : zS) : Nat → Int
  | 0 => 0
  | k + 1 => sm z k + (if z 9 k = -1 then 0 else z 12 (z 9 k) + 1)
theorem sm_pos (S : Src z) (n : Nat) (h : (n : Int) ≤ z 3 6) : 0 ≤ sm z n := by
  induction n with
  | zero => simp [sm]
  | succ k ih =>
    simp only [sm]
    have := ih (by omega)
    obtain ⟨-, -, -, -, -, h9, -⟩ := S.2.2.2.1 k (by omega) (by omega)
    split
    · omega
    · have := (S.2.2.2.2.2 (z 9 k) (by omega) (by omega)).2.2.2.2.2.2.2.2.2.2.2.2.2.2.2.2.2.2.2
      omega
theorem sm_mono (S : Src z) (d n : Nat) (h : ((n + d : Nat) : Int) ≤ z 3 6) : sm z n ≤ sm z (n + d) := by
  induction d with
  | zero => simp
  | succ d ih =>
    have := ih (by omega)
    rw [show n + (d + 1) = n + d + 1 by omega]
    simp only [sm]
    obtain ⟨-, -, -, -, -, h9, -⟩ := S.2.2.2.1 ((n + d : Nat) : Int) (by omega) (by omega)
    split
    · omega
    · have := (S.2.2.2.2.2 (z 9 ((n + d : Nat) : Int)) (by omega) (by omega)).2.2.2.2.2.2.2.2.2.2.2.2.2.2.2.2.2.2.2
      omega
-- a function's first place
def ent (z m : zS) (G : Int → Nat → Int → Int) (g : Int) : Prop :=
  (z 9 g = -1 ∧ m 64 g = -1) ∨ (0 ≤ z 9 g ∧ (0 ≤ m 64 g ∧ m 64 g < m 45 16) ∧ G (m 64 g) 0 0 = 0 ∧ G (m 64 g) 3 0 = g ∧ ∀ k, 0 ≤ k → k < 8 → G (m 64 g) 2 k = lt z g k)
def FW (z s m : zS) (G : Int → Nat → Int → Int) (n : Int) : Prop :=
  s 14 1 = m 45 16 ∧
  (∀ i, 0 ≤ i → i < m 45 16 → s 15 i = m 58 i ∧ s 16 i = m 59 i ∧ (m 58 i = 6 ∨ m 58 i = 13 → s 18 i = m 62 i ∧ m 61 i = bm (G i 2) 8 ∧ m 62 i = bm (G i 1) (G i 0 0).toNat) ∧ (m 58 i = 2 → s 29 i = if G i 2 (m 59 i) ≤ 0 then 0 else zL 1 (m 59 i))) ∧
  s 14 2 = cm (m 58) (m 45 16).toNat ∧ fseg z m G (m 45 16) ∧ (∀ g, 0 ≤ g → g < n → ent z m G g ∧ s 19 g = m 64 g) ∧ (∀ g, n ≤ g → g < 6 → s 19 g = -1)
def FR (z s m : zS) (G : Int → Nat → Int → Int) (n : Int) : Prop :=
  (∀ k, 3 ≤ k → k ≤ 13 → s k = z k) ∧ (∀ k, 46 ≤ k → k ≤ 55 → m k = z k) ∧ m 45 16 = sm z n.toNat ∧ (m 45 36 = 0 → FW z s m G n)
-- what a function's laying leaves as it was
def Fm (m m' : zS) : Prop := (∀ j, ¬ j = 16 → ¬ j = 27 → ¬ j = 30 → ¬ j = 33 → ¬ j = 36 → m' 45 j = m 45 j) ∧ (∀ k, k < 45 ∨ 46 ≤ k ∧ k ≤ 57 ∨ k = 63 ∨ 65 ≤ k ∧ k ≤ 66 ∨ 73 ≤ k → m' k = m k)
theorem Fm.tr {a b c : zS} (h : Fm a b) (k : Fm b c) : Fm a c := ⟨fun j q1 q2 q3 q4 q5 => by rw [k.1 j q1 q2 q3 q4 q5, h.1 j q1 q2 q3 q4 q5], fun j hj => by rw [k.2 j hj, h.2 j hj]⟩
end
