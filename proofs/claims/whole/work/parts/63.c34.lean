def ms (m z : zS) (x : Int) : Prop := min (m 56 x) 401 = z 12 x ∧ (1 ≤ m 56 x ∧ m 56 x ≤ 1000) ∧ m 57 x = z 13 x
section
variable {s m z : zS} {N n A B : Int} {X : zX} {Q : Int → zS → Prop} {G : Int → Nat → Int → Int}
theorem p_112 {x : Int} (h : -2147483648 ≤ x ∧ x ≤ 2147483647) (k : Q (min x 1000) s) : w_112 X x s Q := by
  refine w_112_i ⟨h, fun q => ?_, fun q => ?_⟩
  · rw [show min x 1000 = x by omega] at k; exact k
  · rw [show min x 1000 = 1000 by omega] at k; exact k
theorem p_520 (hn : 0 ≤ n ∧ n < 150) (hA : 1 ≤ A ∧ A ≤ 3002) (hB : 1 ≤ B ∧ B ≤ 151) {m0 : zS}
    (g : ∀ m', (∀ k, ¬ (k = 56 ∨ k = 57) → m' k = m0 k) → (∀ j, ¬ j = n → m' 56 j = m0 56 j ∧ m' 57 j = m0 57 j) → m' 56 n = min A 1000 → m' 57 n = B → Q 0 m') : w_110_520 X n (zu (zu m0 56 n A) 57 n B) Q := by
  refine w_110_520_i ⟨hn, ?_⟩
  rw [zu_g (by decide), zu_s]
  refine p_112 (by omega) ⟨hn, ?_⟩
  rintro _ rfl
  refine ⟨hn, ?_⟩
  rw [zu_g (by decide), zu_s]
  refine p_112 (by omega) ⟨hn, ?_⟩
  rintro _ rfl
  refine g _ (fun k hk => ?_) (fun j hj => ⟨?_, ?_⟩) ?_ ?_
  · rw [zu_f (by omega), zu_f (by omega), zu_f (by omega), zu_f (by omega)]
  · rw [zu_g (by decide), zu_n hj, zu_g (by decide), zu_n hj]
  · rw [zu_n hj, zu_g (by decide), zu_n hj, zu_g (by decide)]
  · rw [zu_g (by decide), zu_s]
  · rw [zu_s]; omega
set_option maxHeartbeats 1000000 in
theorem p_110 (S : Src z) (hn : 0 ≤ n ∧ n < z 3 11) (sm : ∀ k, 46 ≤ k → k ≤ 55 → m k = z k) (hk : ∀ x, 0 ≤ x → x < n → ms m z x)
    (g : ∀ m', (∀ k, ¬ (k = 56 ∨ k = 57) → m' k = m k) → (∀ j, ¬ j = n → m' 56 j = m 56 j ∧ m' 57 j = m 57 j) → ms m' z n → Q 0 m') : w_110 X n m Q := by
  obtain ⟨S1, S2, S3, S4, S5, S6⟩ := S
  obtain ⟨k1, k2, k3, k4, k5, -, -, -, nd⟩ := S6 n hn.1 hn.2
  have e52 : m 52 n = z 10 n := by rw [sm 52 (by omega) (by omega), k1]
  have e53 : m 53 n = z 11 (n * 3 + 0) := by rw [sm 53 (by omega) (by omega), k3]
  have e54 : m 54 n = z 11 (n * 3 + 1) := by rw [sm 54 (by omega) (by omega), k4]
  have e55 : m 55 n = z 11 (n * 3 + 2) := by rw [sm 55 (by omega) (by omega), k5]
  have kid : ∀ x, 0 ≤ x → x < n → (1 ≤ m 56 x ∧ m 56 x ≤ 1000) ∧ min (m 56 x) 401 = z 12 x ∧ m 57 x = z 13 x ∧ (1 ≤ m 57 x ∧ m 57 x ≤ 150) := by
    intro x a b
    obtain ⟨q1, q2, q3⟩ := hk x a b
    have := (S6 x a (by omega)).2.2.2.2.2.2.2.2.2.2.2.2.2.2.2.2.2.2.2
    exact ⟨q2, q1, q3, by omega⟩
  have fin : ∀ A B, (1 ≤ A ∧ A ≤ 3002) → (1 ≤ B ∧ B ≤ 151) → min (min A 1000) 401 = z 12 n → B = z 13 n → w_110_520 X n (zu (zu m 56 n A) 57 n B) Q := by
    intro A B hA hB h1 h2
    exact p_520 (by omega) hA hB (fun m' a b c d => g m' a b ⟨by rw [c]; exact h1, by rw [c]; omega, by rw [d]; exact h2⟩)
  refine w_110_i ?_
  rw [e52, e53, e54, e55]
  generalize z 11 (n * 3 + 0) = a at *
  generalize z 11 (n * 3 + 1) = b at *
  generalize z 11 (n * 3 + 2) = c at *
  generalize z 10 n = K at *
  obtain ⟨d0, d1, d2, d3, d4, d5, d6, d7, d8, d9, d10, d11, d12⟩ := nd
  refine ⟨by omega, by omega, by omega, by omega, by omega, ?_, ?_, ?_, ?_, ?_, ?_, ?_, ?_, ?_⟩
  · intro q
    obtain ⟨⟨x1, x2, -⟩, ⟨x3, x4, -⟩, x5, x6⟩ := d3 (by clear d0 d1 d2 d3 d4 d5 d6 d7 d8 d9 d10; omega)
    have ka := kid a x1 x2
    have kb := kid b x3 x4
    refine ⟨by omega, by omega, by omega, ?_⟩
    rintro _ rfl
    refine ⟨by omega, by omega, ?_⟩
    rw [zu_g (by decide), zu_g (by decide)]
    refine p_111 (by omega) (by omega) ⟨by omega, ?_⟩
    rintro _ rfl
    exact fin _ _ (by omega) (by omega) (by omega) (by omega)
  · intro q
    refine ⟨by omega, ?_⟩
    rintro _ rfl
    refine ⟨by omega, ?_⟩
    rintro _ rfl
    have : z 12 n = 1 ∧ z 13 n = 1 := by
      rcases q with q | q | q
      · exact d0 q
      · exact (d1 q).2
      · exact (d2 q).2
    exact fin _ _ (by omega) (by omega) (by omega) (by omega)
  · intro q
    obtain ⟨-, ⟨x1, x2, -⟩, ⟨x3, x4, -⟩, x5, x6⟩ := d4 q
    have ka := kid b x1 x2
    have kb := kid c x3 x4
    refine ⟨by omega, by omega, by omega, ?_⟩
    rintro _ rfl
    refine ⟨by omega, by omega, ?_⟩
    rw [zu_g (by decide), zu_g (by decide)]
    refine p_111 (by omega) (by omega) ⟨by omega, ?_⟩
    rintro _ rfl
    exact fin _ _ (by omega) (by omega) (by omega) (by omega)
  · intro q
    obtain ⟨⟨x1, x2, -⟩, x5, x6⟩ := d5 q
    have ka := kid a x1 x2
    refine ⟨by omega, by omega, ?_⟩
    rintro _ rfl
    refine ⟨by omega, by omega, ?_⟩
    rw [zu_g (by decide)]
    rintro _ rfl
    exact fin _ _ (by omega) (by omega) (by omega) (by omega)
  · intro q
    obtain ⟨⟨x1, x2, -⟩, ⟨x3, x4, -⟩, ⟨x7, x8, -⟩, x5, x6⟩ := d6 q
    have ka := kid a x1 x2
    have kb := kid b x3 x4
    have kc := kid c x7 x8
    refine ⟨by omega, by omega, by omega, by omega, ?_⟩
    rintro _ rfl
    refine ⟨by omega, by omega, by omega, ?_⟩
    rw [zu_g (by decide), zu_g (by decide), zu_g (by decide)]
    refine p_111 (by omega) (by omega) (p_111 (by omega) (by omega) ⟨by omega, ?_⟩)
    rintro _ rfl
    exact fin _ _ (by omega) (by omega) (by omega) (by omega)
  · intro q
    obtain ⟨-, ⟨x1, x2, -⟩, ⟨x3, x4, -⟩, x5, x6⟩ := d7 q
    have ka := kid b x1 x2
    have kb := kid c x3 x4
    refine ⟨by omega, by omega, by omega, ?_⟩
    rintro _ rfl
    refine ⟨by omega, by omega, ?_⟩
    rw [zu_g (by decide), zu_g (by decide)]
    refine p_111 (by omega) (by omega) ⟨by omega, ?_⟩
    rintro _ rfl
    exact fin _ _ (by omega) (by omega) (by omega) (by omega)
  · intro q
    obtain ⟨-, x1, x2, x3⟩ := d8 q
    rcases x1 with x1 | ⟨x4, x5, -⟩
    · have e := x2 x1
      refine ⟨by omega, fun q => by omega, fun q => w_110_341_i ⟨by omega, ?_⟩⟩
      rintro _ rfl
      refine ⟨by omega, fun q => by omega, fun q => w_110_363_i (p_111 (by omega) (by omega) ⟨by omega, ?_⟩)⟩
      rintro _ rfl
      exact fin _ _ (by omega) (by omega) (by omega) (by omega)
    · have e := x3 x4
      have kb := kid b x4 x5
      refine ⟨by omega, fun q => ⟨by omega, w_110_341_i ⟨by omega, ?_⟩⟩, fun q => by omega⟩
      rintro _ rfl
      refine ⟨by omega, fun q => ⟨by omega, w_110_363_i ?_⟩, fun q => by omega⟩
      rw [zu_g (by decide)]
      refine p_111 (by omega) (by omega) ⟨by omega, ?_⟩
      rintro _ rfl
      exact fin _ _ (by omega) (by omega) (by omega) (by omega)
  · intro q
    obtain ⟨⟨y1, y2, -⟩, x1, x2, x3⟩ := d9 q
    have ka := kid a y1 y2
    rcases x1 with x1 | ⟨x4, x5, -⟩
    · have e := x2 x1
      refine ⟨by omega, by omega, fun q => by omega, fun q => w_110_395_i ⟨by omega, ?_⟩⟩
      rintro _ rfl
      refine ⟨by omega, by omega, fun q => by omega, fun q => w_110_424_i ?_⟩
      rw [zu_g (by decide)]
      refine p_111 (by omega) (by omega) ⟨by omega, ?_⟩
      rintro _ rfl
      exact fin _ _ (by omega) (by omega) (by omega) (by omega)
    · have e := x3 x4
      have kb := kid b x4 x5
      refine ⟨by omega, by omega, fun q => ⟨by omega, w_110_395_i ⟨by omega, ?_⟩⟩, fun q => by omega⟩
      rintro _ rfl
      refine ⟨by omega, by omega, fun q => ⟨by omega, w_110_424_i ?_⟩, fun q => by omega⟩
      rw [zu_g (by decide), zu_g (by decide)]
      refine p_111 (by omega) (by omega) ⟨by omega, ?_⟩
      rintro _ rfl
      exact fin _ _ (by omega) (by omega) (by omega) (by omega)
  · intro q
    obtain ⟨⟨x1, x2, -⟩, ⟨x3, x4, -⟩, x5, x6⟩ := d10 q
    have ka := kid a x1 x2
    have kb := kid b x3 x4
    refine ⟨by omega, by omega, by omega, ?_⟩
    rintro _ rfl
    refine ⟨by omega, by omega, ?_⟩
    rw [zu_g (by decide), zu_g (by decide)]
    refine p_111 (by omega) (by omega) ⟨by omega, ?_⟩
    rintro _ rfl
    exact fin _ _ (by omega) (by omega) (by omega) (by omega)
end
