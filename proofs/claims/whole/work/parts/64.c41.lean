section
variable {G : Int → Nat → Int → Int} {z r s m s1 m1 : zS} {f0 i j F N k o v tk p q t : Int} {U : Int → Int → Prop} {φ : Int → Int} {X : zX} {Q : Int → zS → Prop}
-- what matters behind an instruction matters before it, but for what it stores
theorem lv_edge (h : r 63 i = afM r i (bhM r i)) (hj : (¬ r 58 i = 14 ∧ ¬ r 58 i = 11 ∧ j = i + 1) ∨ ((r 58 i = 10 ∨ r 58 i = 11) ∧ j = r 59 i)) (hv : r 58 i = 12 ∨ r 58 i = 2 → 0 ≤ r 59 i ∧ r 59 i < 16) (k : Nat) (hk : k < 32) (ht : tb (r 63 j) k = true) (hn : ¬ (r 58 i = 12 ∧ (k : Int) = r 59 i)) : tb (r 63 i) k = true := by
  have b : tb (bhM r i) k = true := by
    rw [bhM]
    rcases hj with ⟨h1, h2, rfl⟩ | ⟨h1, rfl⟩
    · rw [if_neg h1, if_neg h2]
      split
      · rw [tb_O, ht, Bool.true_or]
      · exact ht
    · rw [if_neg (by omega)]
      split
      · exact ht
      · rw [if_pos (by omega), tb_O, ht, Bool.or_true]
  rw [h, afM]
  split
  · rw [tb_O, b, Bool.true_or]
  · split
    · next q1 q2 =>
      rw [tb_cl (hv (Or.inl q2)) hk, b, decide_eq_false (fun e => hn ⟨q2, e⟩)]; rfl
    · exact b
theorem fr_next (E : nx (G i) (G j) (G i 2) p q t) (lv : ∀ k : Nat, k < 8 → tb (r 63 j) k = true → tb (r 63 i) k = true) (lk : lvk r G j)
    (h : fr U φ G s m F i (G i 0 0) (r 63 i)) (hp0 : 0 ≤ p) (hH : 0 ≤ G j 0 0 ∧ G j 0 0 ≤ 16) (hq : q = 0 ∨ q = 1) (e1 : s1 42 F = G j 0 0) (e2 : m1 81 F = G j 0 0)
    (e3 : ∀ k, 0 ≤ k → k < G i 0 0 - p → s1 41 (F * 16 + k) = s 41 (F * 16 + k) ∧ m1 83 (16 * F + k) = m 83 (16 * F + k))
    (e4 : q = 1 → rl U φ t (s1 41 (F * 16 + (G i 0 0 - p))) (m1 83 (16 * F + (G i 0 0 - p))))
    (e5 : ∀ k, 0 ≤ k → k < 8 → s1 40 (F * 8 + k) = s 40 (F * 8 + k) ∧ m1 82 (8 * F + k) = m 82 (8 * F + k)) :
    fr U φ G s1 m1 F j (G j 0 0) (r 63 j) := by
  obtain ⟨⟨h1, h2, h3, h4⟩, h5, h6⟩ := h
  obtain ⟨n1, n2, n3, n4, n5, n6⟩ := E
  refine ⟨⟨e1, e2, hH⟩, fun k a b => ?_, fun k a b => ?_⟩
  · by_cases c : k < G i 0 0 - p
    · rw [n3 k a c, (e3 k a c).1, (e3 k a c).2]
      exact h5 k a (by omega)
    · have c1 : q = 1 ∧ k = G i 0 0 - p := by omega
      rw [c1.2, n4 c1.1]
      exact e4 c1.1
  · have := h6 k a (lv k a b)
    rw [(e5 k (by omega) (by omega)).1, (e5 k (by omega) (by omega)).2]
    have g0 := (lk k (by omega) b).2
    rcases n5 k (by omega) (by omega) with e | e
    · rw [e]; exact this
    · omega
-- only the top frame, the place and the steps change
theorem top_only (h1 : hp U φ r s m) (h2 : frs U φ G r s m f0) (h3 : glo r s m) (eF : s 39 4 = F) (ei : s 31 6 = i)
    (a1 : ∀ k, ¬ (k = 31 ∨ k = 40 ∨ k = 41 ∨ k = 42) → s1 k = s k) (a2 : ∀ j, ¬ (j = 6 ∨ j = 9) → s1 31 j = s 31 j) (a3 : ∀ g, g < F → s1 42 g = s 42 g) (a4 : ∀ g, g < F * 16 → s1 41 g = s 41 g) (a5 : ∀ g, g < F * 8 → s1 40 g = s 40 g)
    (b1 : ∀ k, ¬ (k = 45 ∨ k = 81 ∨ k = 82 ∨ k = 83) → m1 k = m k) (b2 : ∀ j, ¬ (j = 57 ∨ j = 40) → m1 45 j = m 45 j) (b3 : ∀ g, g < F → m1 81 g = m 81 g) (b4 : ∀ g, g < F * 16 → m1 83 g = m 83 g) (b5 : ∀ g, g < F * 8 → m1 82 g = m 82 g)
    (c1 : s1 31 6 = j) (c2 : m1 45 57 = j) (c3 : 0 ≤ j ∧ j < r 45 16) (c4 : s1 31 9 = s 31 9 + 1) (c5 : m1 45 40 = m 45 40 + 1) (c6 : m 45 40 < 6000) (c7 : G j 3 0 = G i 3 0)
    (t : fr U φ G s1 m1 F j (G j 0 0) (r 63 j)) : hp U φ r s1 m1 ∧ frs U φ G r s1 m1 f0 ∧ glo r s1 m1 := by
  refine ⟨?_, ?_, ?_⟩
  · unfold hp
    rw [a1 32 (by omega), a1 33 (by omega), a1 34 (by omega), a1 35 (by omega), a1 36 (by omega), b1 74 (by omega), b1 75 (by omega), b1 76 (by omega), b1 77 (by omega), b2 48 (by omega)]
    exact h1
  · obtain ⟨f1, f2, f3, f4, f5⟩ := h2
    have e39 : s1 39 = s 39 := a1 39 (by omega)
    have e43 : s1 43 = s 43 := a1 43 (by omega)
    have e80 : m1 80 = m 80 := b1 80 (by omega)
    have epl : ∀ g, G (pl s1 g) 3 0 = G (pl s g) 3 0 := by
      intro g
      simp only [pl, e39, e43]
      by_cases q : g = s 39 4
      · rw [if_pos q, if_pos q, c1, c7, ei]
      · rw [if_neg q, if_neg q]
    refine ⟨by rw [e39, b2 56 (by omega)]; exact f1, by rw [c1, c2]; exact ⟨c3.1, c3.2, rfl⟩, by rw [e39, eF, c1]; exact t, fun g p q => ?_, by rw [epl]; exact f5⟩
    rw [e39] at q
    rw [e43, e80, epl]
    obtain ⟨g1, g2, ⟨g3, g4, g5⟩⟩ := f4 g p q
    rw [eF] at q
    refine ⟨g1, g2, ⟨by rw [a3 g q, b3 g q]; exact g3, fun k a b => ?_, fun k a b => ?_⟩⟩
    · rw [a4 _ (by omega), b4 _ (by omega)]; exact g4 k a b
    · rw [a5 _ (by omega), b5 _ (by omega)]; exact g5 k a b
  · obtain ⟨g1, g2, g3, g4, g5, g6, g7, g8, g9, g10, g11⟩ := h3
    refine ⟨fun k hk => by rw [a1 k (by omega)]; exact g1 k hk, fun k p q => by rw [b1 k (by omega)]; exact g2 k p q, ?_, ?_, ?_, ?_, ?_, ?_, ?_, ?_, ?_⟩
    · rw [a2 4 (by omega), a2 5 (by omega), a2 16 (by omega), b2 37 (by omega), b2 38 (by omega), b2 47 (by omega)]; exact g3
    · rw [a2 7 (by omega), b2 58 (by omega), c5]; exact ⟨g4.1, g4.2.1, by omega⟩
    · rw [c4, c5]; omega
    · rw [a2 10 (by omega), b2 41 (by omega), c5]; exact ⟨g6.1, g6.2.1, by omega⟩
    · rw [a2 11 (by omega), b2 42 (by omega)]; exact g7
    · rw [a2 12 (by omega), b2 43 (by omega)]; exact g8
    · rw [a2 14 (by omega), b2 44 (by omega), a1 44 (by omega), b1 73 (by omega)]; exact g9
    · rw [a1 37 (by omega), a1 32 (by omega)]; exact g10
    · rw [a1 32 (by omega), c5]; omega
end
