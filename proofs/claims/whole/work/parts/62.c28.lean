section
variable {z s m s' m' : zS} {G G' : Int → Nat → Int → Int} {f N i o v tk n T H t1 J : Int} {X : zX} {Q : Int → zS → Prop}
theorem beg_c (hf : 0 ≤ f ∧ f < 6) (h7 : 0 ≤ z 7 f ∧ z 7 f ≤ 3) (e : ∀ k, 3 ≤ k → k ≤ 13 → s k = z k)
    (g : ∀ s4, (∀ k, ¬ (k = 19 ∨ k = 22 ∨ k = 23 ∨ k = 24 ∨ k = 28) → s4 k = s k) → (∀ j, s4 19 j = if j = f then s 14 1 else s 19 j) → (∀ k, 0 ≤ k → k < 8 → s4 28 k = lt z f k) → s4 22 8 = 0 → s4 22 6 = 1 → s4 22 10 = 1 → s4 23 0 = z 9 f → s4 24 0 = 0 → w_46_102 X f 0 s4 Q) : w_46 X f s Q := by
  refine w_46_i ⟨hf, ?_⟩
  rintro _ rfl
  have e' : ∀ k, 3 ≤ k → k ≤ 13 → (zu s 19 f (s 14 1)) k = z k := fun k a b => by rw [zu_f (by omega), e k a b]
  refine p_46l (z := z) (s := zu s 19 f (s 14 1)) hf h7 e' ?_ 8 0 _ (by omega) rfl (fun _ _ => rfl) (fun k a b => by omega)
  intro s1 h1 h2
  refine w_46_18_i ⟨by omega, fun _ => ?_, fun q => by omega⟩
  rintro _ rfl _ rfl _ rfl
  refine ⟨hf, p_47 0 (by simp [zu]) (by omega) (g _ ?_ ?_ ?_ ?_ ?_ ?_ ?_ ?_)⟩
  · intro k hk
    rw [zu_f (by omega), zu_f (by omega), zu_f (by omega), zu_f (by omega), zu_f (by omega), zu_f (by omega), h1 k (by omega), zu_f (by omega)]
  · intro j
    rw [zu_g (by decide), zu_g (by decide), zu_g (by decide), zu_g (by decide), zu_g (by decide), zu_g (by decide), h1 19 (by omega)]
    simp [zu]
  · intro k a b
    rw [zu_g (by decide), zu_g (by decide), zu_g (by decide), zu_g (by decide), zu_g (by decide), zu_g (by decide), h2 k a b]
  · simp [zu]
  · simp [zu]
  · simp [zu]
  · rw [zu_g (by decide), zu_g (by decide), zu_s, zu_g (by decide), zu_g (by decide), zu_g (by decide), h1 9 (by omega), e' 9 (by omega) (by omega)]
  · simp [zu]
theorem beg_mo (hf : 0 ≤ f ∧ f < 6) (h7 : 0 ≤ z 7 f ∧ z 7 f ≤ 3) (e49 : m 49 f = z 7 f) (e50 : ∀ k, 0 ≤ k → k < 3 → m 50 (3 * f + k) = z 8 (f * 3 + k)) (e51 : m 51 f = z 9 f) :
    ∃ m4, ((∀ k, ¬ (k = 45 ∨ k = 64 ∨ k = 67 ∨ k = 68 ∨ k = 70) → m4 k = m k) ∧ (∀ j, m4 64 j = if j = f then m 45 16 else m 64 j) ∧ (∀ k, 0 ≤ k → k < 8 → m4 70 k = lt z f k) ∧ m4 45 30 = 0 ∧ m4 45 33 = 0 ∧ m4 45 27 = 1 ∧ m4 67 0 = 0 ∧ m4 68 0 = z 9 f ∧ (∀ j, ¬ j = 27 → ¬ j = 30 → ¬ j = 33 → m4 45 j = m 45 j) ∧ (∀ k, k < 0 ∨ 8 ≤ k → m4 70 k = m 70 k) ∧ (∀ j, ¬ j = 0 → m4 67 j = m 67 j ∧ m4 68 j = m 68 j)) ∧
      ∀ X Q, w_113_80 X f m4 Q → w_113 X f m Q := by
  obtain ⟨m1, ⟨h1, h3, h2⟩, g⟩ := p_113l (m := zu m 64 f (m 45 16)) hf h7 (by rw [zu_g (by decide)]; exact e49) (by rw [zu_f (by decide)]; exact e50) 8 0 _ (by omega) rfl (fun _ _ => rfl) (fun _ _ => rfl) (fun k a b => by omega)
  refine ⟨zu (zu (zu (zu (zu (zu m1 45 30 0) 45 33 0) 45 27 0) 67 0 0) 68 0 (z 9 f)) 45 27 (0 + 1), ⟨?_, ?_, ?_, by simp [zu], by simp [zu], by simp [zu], by simp [zu], by simp [zu], ?_, ?_, ?_⟩, fun X Q k => ?_⟩
  · intro k hk
    rw [zu_f (by omega), zu_f (by omega), zu_f (by omega), zu_f (by omega), zu_f (by omega), zu_f (by omega), h1 k (by omega), zu_f (by omega)]
  · intro j
    rw [zu_g (by decide), zu_g (by decide), zu_g (by decide), zu_g (by decide), zu_g (by decide), zu_g (by decide), h1 64 (by omega)]
    simp [zu]
  · intro k a b
    rw [zu_g (by decide), zu_g (by decide), zu_g (by decide), zu_g (by decide), zu_g (by decide), zu_g (by decide), h2 k a b]
  · intro j q1 q2 q3
    rw [zu_n q1, zu_g (by decide), zu_g (by decide), zu_n q1, zu_n q3, zu_n q2, h1 45 (by omega), zu_g (by decide)]
  · intro k hk
    rw [zu_g (by decide), zu_g (by decide), zu_g (by decide), zu_g (by decide), zu_g (by decide), zu_g (by decide), h3 k hk, zu_g (by decide)]
  · intro j hj
    rw [zu_g (by decide), zu_g (by decide), zu_n hj, zu_g (by decide), zu_g (by decide), zu_g (by decide), h1 67 (by omega), zu_g (by decide), zu_g (by decide), zu_n hj, zu_g (by decide), zu_g (by decide), zu_g (by decide), zu_g (by decide), h1 68 (by omega), zu_g (by decide)]
    exact ⟨rfl, rfl⟩
  · refine w_113_i ⟨hf, ?_⟩
    rintro _ rfl
    refine g X Q (w_113_12_i ⟨by omega, fun _ => ?_, fun q => by omega⟩)
    rintro _ rfl _ rfl _ rfl
    refine ⟨hf, ?_⟩
    rw [zu_g (by decide), zu_g (by decide), zu_g (by decide), h1 51 (by omega), zu_g (by decide), e51]
    exact p_114 0 (by simp [zu]) (by omega) k
theorem end_c (R : Rel f s m G) (hf : 0 ≤ f ∧ f < 6) (hT : 0 ≤ T ∧ T < 10000) (eo : s 22 6 = 0) (eN : m 45 16 = N) (hN : 0 ≤ N ∧ N < 400) (e30 : m 45 30 = 1) (r1 : tI (m 69 0)) (r6 : tI (s 6 f))
    (g1 : m 69 0 = s 6 f → ∀ s', EC s s' N 14 0 (s 18 N) (s 14 2) (s 29 N) 0 (m 69 (0 - 1)) 0 (m 70 0) 1 → Q 1 s') (g0 : ¬ m 69 0 = s 6 f → Q 0 (zu s 22 8 0)) : w_46_102 X f T s Q := by
  unfold tI at r1 r6
  obtain ⟨c1, c2, c3, c4, c5, -⟩ := R
  have h175 : w_46_175 X f s Q := by
    refine w_46_175_i ⟨by omega, fun q => by omega, fun _ => p_54 1 (m 69 0) (by rw [c3, e30]) (by rw [show (1 : Int) - 1 = 0 by omega]; exact c4 0 (by omega) (by omega)) (by omega) ⟨hf, by rw [zu_g (by decide)]; omega, fun q => ?_, fun q => w_46_198_i ?_⟩⟩
    · rw [zu_g (by decide)] at q
      refine p_39 N (by rw [zu_g (by decide), c2, eN]) hN (g1 q _ ?_)
      rw [← c5 0 (by omega) (by omega)]
      refine ⟨fun j => ?_, fun j => ?_, fun j => ?_, fun j => ?_, ?_, ?_, ?_, ?_, ?_, ?_, fun k h0 => ?_, fun k => ?_, fun k hk => by (repeat rw [zu_f (by omega)])⟩
      rotate_left 10
      · rw [if_neg (by omega)]; simp [zu]
      rotate_left 9
      · simp [zu, c1]
      all_goals (first | (simp [zu]; done) | ((repeat rw [zu_g (by decide)]); exact ife) | (simp [zu]; (repeat' split) <;> omega))
    · rw [zu_g (by decide)] at q
      exact g0 q
  exact w_46_102_i ⟨by omega, fun q => by omega, fun _ => ⟨by omega, fun _ => h175, fun q => by omega⟩⟩
theorem end_i (e : s 22 10 = 0) (h6 : iI (s 22 6)) (hT : 0 ≤ T ∧ T < 10000) (g : Q 0 s) : w_46_102 X f T s Q := by
  unfold iI at h6
  have h175 : w_46_175 X f s Q := w_46_175_i ⟨by omega, fun _ => w_46_198_i g, fun q => absurd e q⟩
  exact w_46_102_i ⟨by omega, fun q => by omega, fun _ => ⟨h6, fun _ => h175, fun _ => ⟨by omega, fun _ => h175, fun q => absurd e q⟩⟩⟩
theorem end_mo (hf : 0 ≤ f ∧ f < 6) (e27 : m 45 27 = 0) (eN : m 45 16 = N) (hN : 0 ≤ N ∧ N < 400) (e30 : m 45 30 = 1) (r1 : tI (m 69 0)) (r6 : tI (m 48 f)) (eJ : m 45 36 = J) (hJ : J = 0 ∨ J = 1) :
    ∃ m', EM m m' N 14 0 0 0 0 0 (m 69 (0 - 1)) 0 (m 70 0) (if m 69 0 = m 48 f then J else 1) ∧ ∀ X Q, Q 0 m' → w_113_80 X f m Q := by
  unfold tI at r1 r6
  have post : ∀ (X : zX) (Q : Int → zS → Prop) (x J' : Int), (x = 0 ∨ x = 1) → J' = (if x = 1 then J else 1) → Q 0 (zu (zu (zu (zu (zu (zu (zu (zu m 45 30 0) 45 36 J') 58 N 14) 59 N 0) 60 N 0) 61 N 0) 62 N 0) 45 16 (N + 1)) → w_113_221 X x (zu m 45 30 0) Q := by
    intro X Q x J' hx eJ' k
    refine w_113_221_i (p_118 J (by simp [zu, *]) hJ hx ?_)
    rw [← eJ']
    exact p_116 N (by simp [zu, *]) hN k
  refine ⟨_, ?_, fun X Q k => w_113_80_i ⟨by omega, fun _ => p_122 1 (m 69 0) e30 rfl (by omega) ⟨hf, by rw [zu_g (by decide)]; omega, fun q => post X Q 0 (if m 69 0 = m 48 f then J else 1) (by omega) ?_ k, fun q => post X Q 1 (if m 69 0 = m 48 f then J else 1) (by omega) ?_ k⟩, fun q => by omega⟩⟩
  · generalize (if m 69 0 = m 48 f then J else 1) = L2
    (refine ⟨fun j => ?_, fun j => ?_, fun j => ?_, fun j => ?_, fun j => ?_, ?_, ?_, ?_, fun j h1 h2 h3 => ?_, fun k => ?_, fun k => ?_, fun k hk => by (repeat rw [zu_f (by omega)])⟩ <;> (first | (simp [zu]; done) | ((repeat rw [zu_g (by decide)]); exact ife) | (simp [zu]; (repeat' split) <;> omega)))
  · rw [zu_g (by decide)] at q
    rw [if_neg q, if_neg (by omega)]
  · rw [zu_g (by decide)] at q
    rw [if_pos (by omega), if_pos rfl]
theorem beg_m (hf : 0 ≤ f ∧ f < 6) (h7 : 0 ≤ z 7 f ∧ z 7 f ≤ 3) (e49 : m 49 f = z 7 f) (e50 : ∀ k, 0 ≤ k → k < 3 → m 50 (3 * f + k) = z 8 (f * 3 + k)) (e51 : m 51 f = z 9 f) :
    ∃ m4, ((∀ k, ¬ (k = 45 ∨ k = 64 ∨ k = 67 ∨ k = 68 ∨ k = 70) → m4 k = m k) ∧ (∀ j, m4 64 j = if j = f then m 45 16 else m 64 j) ∧ (∀ k, 0 ≤ k → k < 8 → m4 70 k = lt z f k) ∧ m4 45 30 = 0 ∧ m4 45 33 = 0 ∧ m4 45 27 = 1 ∧ m4 67 0 = 0 ∧ m4 68 0 = z 9 f ∧ (∀ j, ¬ j = 27 → ¬ j = 30 → ¬ j = 33 → m4 45 j = m 45 j)) ∧
      ∀ a X Q, w_113_80 X f (mx' a m4) Q → w_113 X f (mx' a m) Q := by
  obtain ⟨m4, ⟨b1, b2, b3, b4, b5, b6, b7, b8, b9, b10, b11⟩, -⟩ := beg_mo (m := m) hf h7 e49 e50 e51
  refine ⟨m4, ⟨b1, b2, b3, b4, b5, b6, b7, b8, b9⟩, fun a => ?_⟩
  obtain ⟨m5, ⟨c1, c2, c3, c4, c5, c6, c7, c8, c9, c10, c11⟩, g⟩ := beg_mo (m := mx' a m) hf h7 e49 e50 e51
  have : m5 = mx' a m4 := by
    funext k
    by_cases q : k < 45 ∨ k = 56 ∨ k = 57
    · rw [c1 k (by omega), mx_lo q, mx_lo q]
    rw [mx_hi (by omega)]
    by_cases q1 : ¬ (k = 45 ∨ k = 64 ∨ k = 67 ∨ k = 68 ∨ k = 70)
    · rw [c1 k q1, b1 k q1, mx_hi (by omega)]
    have : k = 45 ∨ k = 64 ∨ k = 67 ∨ k = 68 ∨ k = 70 := by omega
    funext j
    rcases this with rfl | rfl | rfl | rfl | rfl
    · by_cases e1 : j = 27
      · rw [e1, c6, b6]
      by_cases e2 : j = 30
      · rw [e2, c4, b4]
      by_cases e3 : j = 33
      · rw [e3, c5, b5]
      rw [c9 j e1 e2 e3, b9 j e1 e2 e3]; rfl
    · rw [c2, b2]; rfl
    · by_cases e1 : j = 0
      · rw [e1, c7, b7]
      rw [(c11 j e1).1, (b11 j e1).1]; rfl
    · by_cases e1 : j = 0
      · rw [e1, c8, b8]
      rw [(c11 j e1).2, (b11 j e1).2]; rfl
    · by_cases e1 : 0 ≤ j ∧ j < 8
      · rw [c3 j e1.1 e1.2, b3 j e1.1 e1.2]
      rw [c10 j (by omega), b10 j (by omega)]; rfl
  rw [← this]
  exact g
theorem end_m (hf : 0 ≤ f ∧ f < 6) (e27 : m 45 27 = 0) (eN : m 45 16 = N) (hN : 0 ≤ N ∧ N < 400) (e30 : m 45 30 = 1) (r1 : tI (m 69 0)) (r6 : tI (m 48 f)) (eJ : m 45 36 = J) (hJ : J = 0 ∨ J = 1) :
    ∃ m', EM m m' N 14 0 0 0 0 0 (m 69 (0 - 1)) 0 (m 70 0) (if m 69 0 = m 48 f then J else 1) ∧ ∀ a X Q, Q 0 (mx' a m') → w_113_80 X f (mx' a m) Q := by
  obtain ⟨m4, e, -⟩ := end_mo (m := m) hf e27 eN hN e30 r1 r6 eJ hJ
  refine ⟨m4, e, fun a => ?_⟩
  obtain ⟨m5, e5, g⟩ := end_mo (m := mx' a m) hf e27 eN hN e30 r1 r6 eJ hJ
  have : m5 = mx' a m4 := EM.uq e e5
  rw [← this]
  exact g
end
