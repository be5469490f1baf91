section
variable {G : Int → Nat → Int → Int} {z r s m s' s1 m1 m0 s2 m2 s3 m3 e : zS} {f0 i j F N o v tk p q t T H a b n f x x0 x1 x2 x3 x4 x5 c c' K : Int} {U U' : Int → Int → Prop} {φ φ' : Int → Int} {X : zX} {Q : Int → zS → Prop} {D : Prop}
theorem R_src (hR : RR c s) (S : Src s') (a1 : ∀ k, ¬ (3 ≤ k ∧ k ≤ 13 ∨ 45 ≤ k ∧ k ≤ 55) → s' k = s k) (a2 : ∀ j, ¬ (j = 0 ∨ j = 3 ∨ j = 8) → s' 45 j = s 45 j) (a3 : s 3 6 ≤ s' 3 6)
    (a4 : ∀ f, 0 ≤ f → f < s 3 6 → s' 6 f = s 6 f ∧ s' 7 f = s 7 f ∧ ∀ k, 0 ≤ k → k < 3 → s' 8 (f * 3 + k) = s 8 (f * 3 + k)) : RR (c + 1) s' := by
  obtain ⟨h1, h2, h3, h4⟩ := hR
  have ck : Cok s → Cok s' := fun C => cok_c C (fun k hk => a1 k (by omega)) (fun k hk => a1 k (by omega)) ⟨a2 15 (by omega), a2 16 (by omega), a2 26 (by omega)⟩ a3 a4
  exact ⟨S, cst_c h2 ⟨by rw [a1 14 (by omega)], a2 15 (by omega)⟩ ck, num_c h3 (by omega) ⟨by rw [a1 31 (by omega)], by rw [a1 31 (by omega)], a2 37 (by omega), a2 38 (by omega)⟩ ⟨a1 36 (by omega), a1 37 (by omega), by rw [a1 32 (by omega)]⟩, fin_c h4 ⟨by rw [a1 31 (by omega)], a2 39 (by omega)⟩ ck (fun O => ovr_c O (fun k hk => a1 k (by omega)) (fun j w1 w2 => by rw [a1 31 (by omega)]) (by rw [a1 32 (by omega)]) (fun j w1 w2 => a2 j (by omega)))⟩
theorem p_20 (h0 : iI x0) (k1 : 1 ≤ x0 ∧ x0 ≤ 7 → Q 1 s) (k0 : ¬ (1 ≤ x0 ∧ x0 ≤ 7) → Q 0 s) : w_20 X x0 s Q :=
  w_20_i ⟨h0, fun q => w_20_14_i (k0 (by omega)), fun q => ⟨h0, fun q => w_20_14_i (k0 (by omega)), fun q => k1 (by omega)⟩⟩
theorem p_21 (h0 : iI x0) (k1 : tI x0 → Q 1 s) (k0 : ¬ tI x0 → Q 0 s) : w_21 X x0 s Q :=
  w_21_i ⟨h0, fun q => w_21_14_i (k0 (by unfold tI; omega)), fun q => ⟨h0, fun q => w_21_14_i (k0 (by unfold tI; omega)), fun q => k1 (by unfold tI; omega)⟩⟩
theorem p_25 (h0 : iI x0) (hf : iI (s 3 6)) (k1 : 0 ≤ x0 ∧ x0 < s 3 6 → Q 1 s) (k0 : ¬ (0 ≤ x0 ∧ x0 < s 3 6) → Q 0 s) : w_25 X x0 s Q :=
  w_25_i ⟨h0, fun q => w_25_16_i (k0 (by omega)), fun q => ⟨⟨h0, hf⟩, fun q => w_25_16_i (k0 (by omega)), fun q => k1 (by omega)⟩⟩
theorem p_27 (h0 : iI x0) (hf : iI (s 3 11)) (k1 : 0 ≤ x0 ∧ x0 < s 3 11 → Q 1 s) (k0 : ¬ (0 ≤ x0 ∧ x0 < s 3 11) → Q 0 s) : w_27 X x0 s Q :=
  w_27_i ⟨h0, fun q => w_27_16_i (k0 (by omega)), fun q => ⟨⟨h0, hf⟩, fun q => w_27_16_i (k0 (by omega)), fun q => k1 (by omega)⟩⟩
theorem p_26 (h0 : iI x0) (hn : 0 ≤ s 3 11 ∧ s 3 11 ≤ 150) (h10 : ∀ n, 0 ≤ n → n < s 3 11 → 0 ≤ s 10 n ∧ s 10 n ≤ 17) (k1 : ex s (s 3 11) x0 → Q 1 s) (k0 : ¬ ex s (s 3 11) x0 → Q 0 s) : w_26 X x0 s Q := by
  refine w_26_i (p_27 h0 (iI_c (by omega)) (fun w => ⟨by omega, fun q => by omega, fun _ => ⟨by omega, ?_⟩⟩) (fun w => ⟨by omega, fun _ => w_26_23_i (k0 (by unfold ex; omega)), fun q => by omega⟩))
  have := h10 x0 w.1 w.2
  exact ⟨by omega, fun q => w_26_23_i (k0 (by unfold ex; omega)), fun q => k1 (by unfold ex; omega)⟩
theorem p_105 (h0 : iI x0) (hn : 0 ≤ s 45 8 ∧ s 45 8 ≤ 150) (h10 : ∀ n, 0 ≤ n → n < s 45 8 → 0 ≤ s 52 n ∧ s 52 n ≤ 17) (k1 : (0 ≤ x0 ∧ x0 < s 45 8 ∧ ¬ s 52 x0 = 13) → Q 1 s) (k0 : ¬ (0 ≤ x0 ∧ x0 < s 45 8 ∧ ¬ s 52 x0 = 13) → Q 0 s) : w_105 X x0 s Q := by
  refine w_105_i (p_101 h0 (iI_c (by omega)) (iI_c (by omega)) (fun w => ⟨by omega, fun q => by omega, fun _ => ⟨by omega, ?_⟩⟩) (fun w => ⟨by omega, fun _ => w_105_29_i (k0 (by omega)), fun q => by omega⟩))
  have := h10 x0 w.1 (by omega)
  exact ⟨by omega, fun q => w_105_29_i (k0 (by omega)), fun q => k1 (by omega)⟩
theorem p_106 (h0 : iI x0) (hn : 0 ≤ s 45 8 ∧ s 45 8 ≤ 150) (h10 : ∀ n, 0 ≤ n → n < s 45 8 → 0 ≤ s 52 n ∧ s 52 n ≤ 17) (k1 : (x0 = -1 ∨ 0 ≤ x0 ∧ x0 < s 45 8 ∧ s 52 x0 = 13) → Q 1 s) (k0 : ¬ (x0 = -1 ∨ 0 ≤ x0 ∧ x0 < s 45 8 ∧ s 52 x0 = 13) → Q 0 s) : w_106 X x0 s Q := by
  refine w_106_i ⟨h0, fun q => w_106_30_i (k1 (Or.inl q)), fun q => p_101 h0 (iI_c (by omega)) (iI_c (by omega)) (fun w => ⟨by omega, fun q => by omega, fun _ => ⟨by omega, ?_⟩⟩) (fun w => ⟨by omega, fun _ => w_106_34_i (k0 (by omega)), fun q => by omega⟩)⟩
  have := h10 x0 w.1 (by omega)
  exact ⟨by omega, fun q => w_106_34_i (k0 (by omega)), fun q => w_106_30_i (k1 (by omega))⟩
-- type
theorem type_ok (hR : RR c s) (i1 : iI x1) (i2 : iI x2) (i3 : iI x3) : w_2 X x1 x2 x3 s (fun v s1 => w_100 X x1 x2 x3 s1 (fun v' s2 => v = v' ∧ RR (c + 1) s2)) := by
  have no : ¬ ((1 ≤ x1 ∧ x1 ≤ 7) ∧ tI x2 ∧ tI x3) → ((0 : Int) = 0 ∨ (0 : Int) = 1) ∧ w_100 X x1 x2 x3 s (fun v' s2 => 0 = v' ∧ RR (c + 1) s2) := by
    intro w
    refine ⟨by omega, w_100_i ?_⟩
    rintro _ rfl
    have fin : w_100_35 X (zu s 45 0 0) (fun v' s2 => 0 = v' ∧ RR (c + 1) s2) := w_100_35_i ⟨rfl, R_0 hR⟩
    exact p_101 i1 (iI_c (by omega)) (iI_c (by omega)) (fun w1 => ⟨by omega, fun q => by omega, fun _ => p_101 i2 (iI_c (by omega)) (iI_c (by omega)) (fun w2 => ⟨by omega, fun q => by omega, fun _ => p_101 i3 (iI_c (by omega)) (iI_c (by omega)) (fun w3 => absurd ⟨w1, w2, w3⟩ w) (fun _ => ⟨by omega, fun q => by omega, fun _ => fin⟩)⟩) (fun _ => ⟨by omega, fun _ => fin, fun q => by omega⟩)⟩) (fun _ => ⟨by omega, fun _ => fin, fun q => by omega⟩)
  refine w_2_i (w_19_i (p_20 i1 (fun w1 => ⟨by omega, fun q => by omega, fun _ => p_21 i2 (fun w2 => ⟨by omega, fun q => by omega, fun _ => p_21 i3 (fun w3 => ⟨by omega, fun _ => ⟨by omega, ?_⟩, fun q => by omega⟩) (fun w3 => ⟨by omega, fun q => by omega, fun _ => w_19_21_i (no (fun w => w3 w.2.2))⟩)⟩) (fun w2 => ⟨by omega, fun _ => w_19_21_i (no (fun w => w2 w.2.1)), fun q => by omega⟩)⟩) (fun w1 => ⟨by omega, fun _ => w_19_21_i (no (fun w => w1 w.1)), fun q => by omega⟩)))
  rintro _ rfl
  refine ⟨by omega, ?_⟩
  rintro _ rfl
  refine ⟨by omega, w_100_i ?_⟩
  rintro _ rfl
  refine p_101 i1 (iI_c (by omega)) (iI_c (by omega)) (fun _ => ⟨by omega, fun q => by omega, fun _ => p_101 i2 (iI_c (by omega)) (iI_c (by omega)) (fun _ => ⟨by omega, fun q => by omega, fun _ => p_101 i3 (iI_c (by omega)) (iI_c (by omega)) (fun _ => ⟨by omega, fun _ => ⟨by omega, ?_⟩, fun q => by omega⟩) (fun w => absurd w3 w)⟩) (fun w => absurd w2 w)⟩) (fun w => absurd w1 w)
  rintro _ rfl
  refine ⟨by omega, ?_⟩
  rintro _ rfl
  refine ⟨rfl, ?_⟩
  generalize es : zu (zu (zu (zu (zu s 4 x1 x2) 5 x1 x3) 45 0 0) 46 x1 x2) 47 x1 x3 = s'
  have a1 : ∀ k, ¬ (k = 4 ∨ k = 5 ∨ k = 45 ∨ k = 46 ∨ k = 47) → s' k = s k := fun k hk => by rw [← es]; (repeat rw [zu_f (by omega)])
  have a2 : ∀ j, ¬ j = 0 → s' 45 j = s 45 j := fun j hj => by rw [← es]; simp [zu, hj]
  have b4 : ∀ j, s' 4 j = if j = x1 then x2 else s 4 j := fun j => by rw [← es]; simp [zu]
  have b5 : ∀ j, s' 5 j = if j = x1 then x3 else s 5 j := fun j => by rw [← es]; simp [zu]
  have b46 : ∀ j, s' 46 j = if j = x1 then x2 else s 46 j := fun j => by rw [← es]; simp [zu]
  have b47 : ∀ j, s' 47 j = if j = x1 then x3 else s 47 j := fun j => by rw [← es]; simp [zu]
  refine R_src hR ?_ (fun k hk => a1 k (by omega)) (fun j hj => a2 j (by omega)) (by rw [a1 3 (by omega)]; omega) (fun f _ _ => ⟨by rw [a1 6 (by omega)], by rw [a1 7 (by omega)], fun k _ _ => by rw [a1 8 (by omega)]⟩)
  obtain ⟨⟨h1, h2, h3, h4, h5, h6⟩, -⟩ := hR
  unfold Nd ex ar at h6
  unfold Src Nd ex ar
  rw [a1 3 (by omega), a1 6 (by omega), a1 7 (by omega), a1 8 (by omega), a1 9 (by omega), a1 10 (by omega), a1 11 (by omega), a1 12 (by omega), a1 13 (by omega), a1 48 (by omega), a1 49 (by omega), a1 50 (by omega), a1 51 (by omega), a1 52 (by omega), a1 53 (by omega), a1 54 (by omega), a1 55 (by omega), a2 3 (by omega), a2 8 (by omega)]
  refine ⟨h1, h2, fun t ht => ?_, h4, h5, h6⟩
  rw [b4, b5, b46, b47]
  by_cases q : t = x1
  · rw [if_pos q, if_pos q]; exact ⟨rfl, by rw [if_pos q, if_pos q], w2, by rw [if_pos q]; exact w3⟩
  · rw [if_neg q, if_neg q, if_neg q, if_neg q]; exact h3 t ht
-- body
theorem body_ok (hR : RR c s) (i1 : iI x1) (i2 : iI x2) : w_5 X x1 x2 s (fun v s1 => w_107 X x1 x2 s1 (fun v' s2 => v = v' ∧ RR (c + 1) s2)) := by
  obtain ⟨⟨g1, g2, g3, g4, g5, g6⟩, -⟩ := id hR
  have e3 : zu s 45 0 0 45 3 = s 3 6 := by rw [zu_n (by omega)]; exact g1.2.2
  have e8 : zu s 45 0 0 45 8 = s 3 11 := by rw [zu_n (by omega)]; exact g2.2.2
  have r10 : ∀ n, 0 ≤ n → n < s 3 11 → 0 ≤ s 10 n ∧ s 10 n ≤ 17 := fun n q1 q2 => (g6 n q1 q2).2.1
  have r52 : ∀ n, 0 ≤ n → n < s 3 11 → s 52 n = s 10 n := fun n q1 q2 => (g6 n q1 q2).1
  have no : ¬ ((0 ≤ x1 ∧ x1 < s 3 6) ∧ (x2 = -1 ∨ ex s (s 3 11) x2)) → ((0 : Int) = 0 ∨ (0 : Int) = 1) ∧ w_107 X x1 x2 s (fun v' s2 => 0 = v' ∧ RR (c + 1) s2) := by
    intro w
    refine ⟨by omega, w_107_i ?_⟩
    rintro _ rfl
    rw [e3]
    have fin : w_107_32 X (zu s 45 0 0) (fun v' s2 => 0 = v' ∧ RR (c + 1) s2) := w_107_32_i ⟨rfl, R_0 hR⟩
    refine p_101 i1 (iI_c (by omega)) (iI_c (by omega)) (fun w1 => ⟨by omega, fun q => by omega, fun _ => ⟨i2, fun q => absurd ⟨by omega, Or.inl q⟩ w, fun q => p_105 i2 (by rw [e8]; omega) (fun n q1 q2 => ?_) (fun w2 => ?_) (fun _ => ⟨by omega, fun q => by omega, fun _ => fin⟩)⟩⟩) (fun _ => ⟨by omega, fun _ => fin, fun q => by omega⟩)
    · rw [e8] at q2; rw [zu_g (by decide), r52 n q1 q2]; exact r10 n q1 q2
    · rw [e8, zu_g (by decide)] at w2
      rw [r52 x2 w2.1 w2.2.1] at w2
      exact absurd ⟨by omega, Or.inr w2⟩ w
  have yes : (0 ≤ x1 ∧ x1 < s 3 6) → (x2 = -1 ∨ ex s (s 3 11) x2) → w_33_23 X x1 x2 s (fun v1 s1 => ((v1 = 0 ∨ v1 = 1) ∧ w_107 X x1 x2 s1 (fun v' s2 => v1 = v' ∧ RR (c + 1) s2))) := by
    intro w1 w2
    refine w_33_23_i ⟨by omega, ?_⟩
    rintro _ rfl
    refine ⟨by omega, w_107_i ?_⟩
    rintro _ rfl
    have f3 : zu (zu s 9 x1 x2) 45 0 0 45 3 = s 3 6 := by rw [zu_n (by omega), zu_g (by decide)]; exact g1.2.2
    have f8 : zu (zu s 9 x1 x2) 45 0 0 45 8 = s 3 11 := by rw [zu_n (by omega), zu_g (by decide)]; exact g2.2.2
    have f52 : zu (zu s 9 x1 x2) 45 0 0 52 = s 52 := by rw [zu_f (by decide), zu_f (by decide)]
    have fin : w_107_34 X x1 x2 (zu (zu s 9 x1 x2) 45 0 0) (fun v' s2 => 1 = v' ∧ RR (c + 1) s2) := by
      refine w_107_34_i ⟨by omega, ?_⟩
      rintro _ rfl
      refine ⟨rfl, ?_⟩
      generalize es : zu (zu (zu s 9 x1 x2) 45 0 0) 51 x1 x2 = s'
      have a1 : ∀ k, ¬ (k = 9 ∨ k = 45 ∨ k = 51) → s' k = s k := fun k hk => by rw [← es]; (repeat rw [zu_f (by omega)])
      have a2 : ∀ j, ¬ j = 0 → s' 45 j = s 45 j := fun j hj => by rw [← es]; simp [zu, hj]
      have b9 : ∀ j, s' 9 j = if j = x1 then x2 else s 9 j := fun j => by rw [← es]; simp [zu]
      have b51 : ∀ j, s' 51 j = if j = x1 then x2 else s 51 j := fun j => by rw [← es]; simp [zu]
      refine R_src hR ?_ (fun k hk => a1 k (by omega)) (fun j hj => a2 j (by omega)) (by rw [a1 3 (by omega)]; omega) (fun f _ _ => ⟨by rw [a1 6 (by omega)], by rw [a1 7 (by omega)], fun k _ _ => by rw [a1 8 (by omega)]⟩)
      unfold Nd ex ar at g6
      unfold Src Nd ex ar
      rw [a1 3 (by omega), a1 4 (by omega), a1 5 (by omega), a1 6 (by omega), a1 7 (by omega), a1 8 (by omega), a1 10 (by omega), a1 11 (by omega), a1 12 (by omega), a1 13 (by omega), a1 46 (by omega), a1 47 (by omega), a1 48 (by omega), a1 49 (by omega), a1 50 (by omega), a1 52 (by omega), a1 53 (by omega), a1 54 (by omega), a1 55 (by omega), a2 3 (by omega), a2 8 (by omega)]
      refine ⟨g1, g2, g3, fun f q1 q2 => ?_, g5, g6⟩
      rw [b9, b51]
      obtain ⟨k1, k2, k3, k4, k5, k6, k7⟩ := g4 f q1 q2
      by_cases q : f = x1
      · rw [if_pos q, if_pos q]
        unfold ex at w2
        exact ⟨k1, k2, k3, k4, rfl, by omega, fun w => by omega⟩
      · rw [if_neg q, if_neg q]; exact ⟨k1, k2, k3, k4, k5, k6, k7⟩
    rw [f3]
    refine p_101 i1 (iI_c (by omega)) (iI_c (by omega)) (fun _ => ⟨by omega, fun q => by omega, fun _ => ⟨i2, fun q => fin, fun q => p_105 i2 (by rw [f8]; omega) (fun n q1 q2 => ?_) (fun w2 => ⟨by omega, fun _ => fin, fun q => by omega⟩) (fun w3 => ?_)⟩⟩) (fun w => by omega)
    · rw [f8] at q2; rw [f52, r52 n q1 q2]; exact r10 n q1 q2
    · rw [f8, f52] at w3
      unfold ex at w2
      rcases w2 with w2 | w2
      · exact absurd w2 q
      · rw [r52 x2 w2.1 w2.2.1] at w3; exact absurd w2 w3
  refine w_5_i (w_33_i (p_25 i1 (iI_c (by omega)) (fun w1 => ⟨by omega, fun q => by omega, fun _ => ⟨i2, fun q => yes w1 (Or.inl q), fun q => p_26 i2 (by omega) r10 (fun w2 => ⟨by omega, fun _ => yes w1 (Or.inr w2), fun q => by omega⟩) (fun w2 => ⟨by omega, fun q => by omega, fun _ => w_33_21_i (no (fun w => w.2.elim q w2))⟩)⟩⟩) (fun w1 => ⟨by omega, fun _ => w_33_21_i (no (fun w => w1 w.1)), fun q => by omega⟩)))
end
