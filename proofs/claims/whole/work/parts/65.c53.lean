-- marking, on the other side
def NI (W : Int → Prop) (m0 m : zS) : Prop :=
  ((∀ k, ¬ (k = 45 ∨ k = 78 ∨ k = 79) → m k = m0 k) ∧ (∀ j, ¬ j = 54 → m 45 j = m0 45 j)) ∧ (∀ p, 0 ≤ p → p < 200 → m 78 p = 0 ∨ m 78 p = 1) ∧ (0 ≤ m 45 54 ∧ m 45 54 ≤ cn (m 78) 200) ∧
  (∀ j, 0 ≤ j → j < m 45 54 → (0 ≤ m 79 j ∧ m 79 j < 200) ∧ m 78 (m 79 j) = 1) ∧ (∀ p, 0 ≤ p → p < 200 → m 78 p = 1 → W p)
def NL (m m' : zS) : Prop := (∀ p, 0 ≤ p → p < 200 → m 78 p = 1 → m' 78 p = 1) ∧ m 45 54 ≤ m' 45 54 ∧ (∀ j, 0 ≤ j → j < m 45 54 → m' 79 j = m 79 j) ∧ (∀ p, 0 ≤ p → p < 200 → m' 78 p = 1 → m 78 p = 1 ∨ ∃ j, 0 ≤ j ∧ m 45 54 ≤ j ∧ j < m' 45 54 ∧ m' 79 j = p) ∧ 2 * cn (m 78) 200 - m 45 54 ≤ 2 * cn (m' 78) 200 - m' 45 54
theorem NL.rf {m : zS} : NL m m := ⟨fun _ _ _ h => h, by omega, fun _ _ _ => rfl, fun _ _ _ h => Or.inl h, by omega⟩
theorem NL.tr {a b c : zS} (h : NL a b) (k : NL b c) : NL a c := by
  obtain ⟨h1, h2, h3, h4, h5⟩ := h
  obtain ⟨k1, k2, k3, k4, k5⟩ := k
  refine ⟨fun p q1 q2 r => k1 p q1 q2 (h1 p q1 q2 r), by omega, fun j p q => by rw [k3 j p (by omega), h3 j p q], fun p q1 q2 r => ?_, by omega⟩
  rcases k4 p q1 q2 r with w | ⟨j, w0, w1, w2, w3⟩
  · rcases h4 p q1 q2 w with w' | ⟨j, w0, w1, w2, w3⟩
    · exact Or.inl w'
    · exact Or.inr ⟨j, w0, w1, by omega, by rw [k3 j w0 w2]; exact w3⟩
  · exact Or.inr ⟨j, w0, by omega, w2, w3⟩
section
variable {W : Int → Prop} {m0 m : zS} {X : zX} {Q : Int → zS → Prop} {v g a b n : Int}
theorem NI.c (h : NI W m0 m) : 0 ≤ m 45 54 ∧ m 45 54 ≤ 200 ∧ cn (m 78) 200 ≤ 200 := by
  have := cn_le (f := m 78) 200 (fun k p q => by have := h.2.1 k p (by omega); omega)
  have := h.2.2.1
  omega
theorem k_142 (h : NI W m0 m) (hv : v = -1 ∨ 0 ≤ v ∧ v < 200 ∧ W v) (k : ∀ m', NI W m0 m' → NL m m' → (0 ≤ v → m' 78 v = 1) → Q 0 m') : w_142 X v m Q := by
  have hc := h.c
  obtain ⟨⟨m1, m2⟩, m3, m4, m5, m6⟩ := id h
  refine w_142_i ⟨by omega, fun q => k m h NL.rf (fun w => by omega), fun q => ?_⟩
  have hv : 0 ≤ v ∧ v < 200 ∧ W v := by
    rcases hv with w | w
    · omega
    · exact w
  have r78 := m3 v hv.1 hv.2.1
  refine ⟨by omega, by omega, fun q' => ⟨by omega, ?_⟩, fun q' => k m h NL.rf (fun _ => by omega)⟩
  rintro _ rfl
  have up := cn_up (f := m 78) (g := zu m 78 v 1 78) 200 (a := v) (by omega) (fun k _ _ e => zu_n e)
  have le := cn_le (f := zu m 78 v 1 78) 200 (fun k p q => by
    by_cases e : k = v
    · rw [e, zu_s]; omega
    · rw [zu_n e]; have := m3 k p (by omega); omega)
  rw [zu_s, q'] at up
  have e8 : zu m 78 v 1 45 54 = m 45 54 := zu_g (by decide)
  rw [e8]
  refine ⟨by omega, ?_⟩
  rintro _ rfl
  have e8' : zu (zu m 78 v 1) 79 (m 45 54) v 45 54 = m 45 54 := by rw [zu_g (by decide)]; exact e8
  rw [e8']
  rintro _ rfl
  generalize es : zu (zu (zu m 78 v 1) 79 (m 45 54) v) 45 54 (m 45 54 + 1) = m'
  have f1 : ∀ k, ¬ (k = 45 ∨ k = 78 ∨ k = 79) → m' k = m k := fun k hk => by rw [← es]; (repeat rw [zu_f (by omega)])
  have f2 : ∀ j, ¬ j = 54 → m' 45 j = m 45 j := fun j hj => by rw [← es, zu_n hj, zu_g (by decide), zu_g (by decide)]
  have f3 : m' 45 54 = m 45 54 + 1 := by rw [← es, zu_s]
  have f4' : m' 78 = zu m 78 v 1 78 := by rw [← es, zu_f (by decide), zu_f (by decide)]
  have f4 : ∀ x, m' 78 x = if x = v then 1 else m 78 x := fun x => by rw [← es]; simp [zu]
  have f5 : ∀ x, m' 79 x = if x = m 45 54 then v else m 79 x := fun x => by rw [← es]; simp [zu]
  refine k m' ⟨⟨fun k hk => by rw [f1 k hk, m1 k hk], fun j hj => by rw [f2 j hj, m2 j hj]⟩, fun p q1 q2 => ?_, ?_, fun j q1 q2 => ?_, fun u q1 q2 q3 => ?_⟩ ⟨fun u q1 q2 q3 => ?_, by omega, fun j q1 q2 => ?_, fun u q1 q2 q3 => ?_, ?_⟩ (fun _ => by rw [f4, if_pos rfl])
  · rw [f4]; split
    · exact Or.inr rfl
    · exact m3 p q1 q2
  · rw [f3, f4', up]; omega
  · rw [f5]
    by_cases e : j = m 45 54
    · rw [if_pos e, f4, if_pos rfl]; exact ⟨⟨hv.1, hv.2.1⟩, rfl⟩
    · rw [if_neg e, f4]
      have := m5 j q1 (by omega)
      refine ⟨this.1, ?_⟩
      split
      · rfl
      · exact this.2
  · rw [f4] at q3
    by_cases e : u = v
    · rw [e]; exact hv.2.2
    · rw [if_neg e] at q3
      exact m6 u q1 q2 q3
  · rw [f4]; split
    · rfl
    · exact q3
  · rw [f5, if_neg (by omega)]
  · rw [f4] at q3
    by_cases e : u = v
    · exact Or.inr ⟨m 45 54, by omega, by omega, by omega, by rw [f5, if_pos rfl, e]⟩
    · rw [if_neg e] at q3
      exact Or.inl q3
  · rw [f3, f4', up]; omega
theorem k_141 (hg : 0 ≤ g ∧ g < 24) (hH : 0 ≤ m0 81 g ∧ m0 81 g ≤ 16)
    (hl : ∀ k : Nat, k < 8 → tb a k = true → m0 82 (8 * g + k) = -1 ∨ 0 ≤ m0 82 (8 * g + k) ∧ m0 82 (8 * g + k) < 200 ∧ W (m0 82 (8 * g + k)))
    (hp : ∀ k : Nat, (k : Int) < m0 81 g → tb b k = true → m0 83 (16 * g + k) = -1 ∨ 0 ≤ m0 83 (16 * g + k) ∧ m0 83 (16 * g + k) < 200 ∧ W (m0 83 (16 * g + k)))
    (h : NI W m0 m)
    (k : ∀ m', NI W m0 m' → NL m m' → (∀ k : Nat, k < 8 → tb a k = true → 0 ≤ m0 82 (8 * g + k) → m' 78 (m0 82 (8 * g + k)) = 1) → (∀ k : Nat, (k : Int) < m0 81 g → tb b k = true → 0 ≤ m0 83 (16 * g + k) → m' 78 (m0 83 (16 * g + k)) = 1) → Q 0 m') : w_141 X g a b m Q := by
  have second : ∀ d : Nat, ∀ (j : Nat) (m' : zS), (j : Int) + d = m0 81 g → NI W m0 m' → NL m m' → (∀ k : Nat, k < 8 → tb a k = true → 0 ≤ m0 82 (8 * g + k) → m' 78 (m0 82 (8 * g + k)) = 1) → (∀ k : Nat, k < j → tb b k = true → 0 ≤ m0 83 (16 * g + k) → m' 78 (m0 83 (16 * g + k)) = 1) → w_141_45 X g b j m' Q := by
    intro d
    induction d with
    | zero =>
      intro j m' hj m1 m2 m3 m4
      have e81 : m' 81 = m0 81 := m1.1.1 81 (by omega)
      exact w_141_45_i ⟨hg, by rw [e81]; omega, fun _ => k m' m1 m2 m3 (fun x q1 => m4 x (by omega)), fun q => by rw [e81] at q; omega⟩
    | succ d ih =>
      intro j m' hj m1 m2 m3 m4
      have e81 : m' 81 = m0 81 := m1.1.1 81 (by omega)
      have e83 : m' 83 = m0 83 := m1.1.1 83 (by omega)
      refine w_141_45_i ⟨hg, by rw [e81]; omega, fun q => by rw [e81] at q; omega, fun _ => ⟨zA_r, fun q => w_141_82_i ?_, fun q => ⟨by omega, ?_⟩⟩⟩
      · refine ih (j + 1) m' (by omega) m1 m2 m3 (fun x q1 q2 => ?_)
        by_cases e : x = j
        · subst e; exact absurd ((tb_R (by omega)).mpr q2) q
        · exact m4 x (by omega) q2
      · have tb1 := (tb_R (by omega)).mp (Classical.not_not.mp q)
        rw [e83]
        refine k_142 m1 (hp j (by omega) tb1) (fun m2' n1 n2 n3 => w_141_82_i (ih (j + 1) m2' (by omega) n1 (m2.tr n2) (fun x q1 q2 q3 => ?_) (fun x q1 q2 q3 => ?_)))
        · rcases hl x q1 q2 with w | w
          · omega
          · exact n2.1 _ w.1 w.2.1 (m3 x q1 q2 q3)
        · by_cases e : x = j
          · subst e; exact n3 q3
          · rcases hp x (by omega) q2 with w | w
            · omega
            · exact n2.1 _ w.1 w.2.1 (m4 x (by omega) q2 q3)
  have first : ∀ d : Nat, ∀ (j : Nat) (m' : zS), j + d = 8 → NI W m0 m' → NL m m' → (∀ k : Nat, k < j → tb a k = true → 0 ≤ m0 82 (8 * g + k) → m' 78 (m0 82 (8 * g + k)) = 1) → w_141_3 X g a b j m' Q := by
    intro d
    induction d with
    | zero =>
      intro j m' hj m1 m2 m3
      refine w_141_3_i ⟨by omega, fun _ => ?_, fun q => by omega⟩
      exact second (m0 81 g).toNat 0 m' (by omega) m1 m2 (fun x q1 => m3 x (by omega)) (fun x q1 => by omega)
    | succ d ih =>
      intro j m' hj m1 m2 m3
      have e82 : m' 82 = m0 82 := m1.1.1 82 (by omega)
      refine w_141_3_i ⟨by omega, fun q => by omega, fun _ => ⟨zA_r, fun q => w_141_36_i ?_, fun q => ⟨by omega, ?_⟩⟩⟩
      · refine ih (j + 1) m' (by omega) m1 m2 (fun x q1 q2 => ?_)
        by_cases e : x = j
        · subst e; exact absurd ((tb_R (by omega)).mpr q2) q
        · exact m3 x (by omega) q2
      · have tb1 := (tb_R (by omega)).mp (Classical.not_not.mp q)
        rw [e82]
        refine k_142 m1 (hl j (by omega) tb1) (fun m2' n1 n2 n3 => w_141_36_i (ih (j + 1) m2' (by omega) n1 (m2.tr n2) (fun x q1 q2 q3 => ?_)))
        by_cases e : x = j
        · subst e; exact n3 q3
        · rcases hl x (by omega) q2 with w | w
          · omega
          · exact n2.1 _ w.1 w.2.1 (m3 x (by omega) q2 q3)
  exact w_141_i (first 8 0 m rfl h NL.rf (fun x q => by omega))
end
