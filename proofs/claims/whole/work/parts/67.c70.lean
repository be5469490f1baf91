section
variable {G : Int → Nat → Int → Int} {z r s m s' s1 m1 m0 s2 m2 s3 m3 e : zS} {f0 i j F N o v tk p q t T H a b n f x x0 x1 x2 x3 x4 x5 c c' K : Int} {U U' : Int → Int → Prop} {φ φ' : Int → Int} {X : zX} {Q : Int → zS → Prop} {D : Prop}
def fgood (n x1 x2 x3 x4 x5 : Int) : Prop := n < 6 ∧ tI x1 ∧ (0 ≤ x2 ∧ x2 ≤ 3) ∧ (1 ≤ x2 → tI x3) ∧ (2 ≤ x2 → tI x4) ∧ (3 ≤ x2 → tI x5)
theorem p_22 (hn : 0 ≤ s 3 6 ∧ s 3 6 ≤ 6) (i1 : iI x1) (i2 : iI x2) (i3 : iI x3) (i4 : iI x4) (i5 : iI x5) (k1 : fgood (s 3 6) x1 x2 x3 x4 x5 → w_22_66 X x1 x2 x3 x4 x5 s Q) (k0 : ¬ fgood (s 3 6) x1 x2 x3 x4 x5 → Q (-1) s) : w_22 X x1 x2 x3 x4 x5 s Q := by
  have u3 : s 3 6 < 6 → tI x1 → (0 ≤ x2 ∧ x2 ≤ 3) → (1 ≤ x2 → tI x3) → (2 ≤ x2 → tI x4) → w_22_51 X x1 x2 x3 x4 x5 s Q := fun w1 w2 w3 w4 w5 =>
    w_22_51_i ⟨i2, fun q => k1 ⟨w1, w2, w3, w4, w5, fun w => by omega⟩, fun q => p_21 i5 (fun w => ⟨by omega, fun _ => k1 ⟨w1, w2, w3, w4, w5, fun _ => w⟩, fun q => by omega⟩) (fun w => ⟨by omega, fun q => by omega, fun _ => w_22_64_i (k0 (fun g => w (g.2.2.2.2.2 (by omega))))⟩)⟩
  have u2 : s 3 6 < 6 → tI x1 → (0 ≤ x2 ∧ x2 ≤ 3) → (1 ≤ x2 → tI x3) → w_22_38 X x1 x2 x3 x4 x5 s Q := fun w1 w2 w3 w4 =>
    w_22_38_i ⟨i2, fun q => u3 w1 w2 w3 w4 (fun w => by omega), fun q => p_21 i4 (fun w => ⟨by omega, fun q => by omega, fun _ => u3 w1 w2 w3 w4 (fun _ => w)⟩) (fun w => ⟨by omega, fun _ => w_22_64_i (k0 (fun g => w (g.2.2.2.2.1 (by omega)))), fun q => by omega⟩)⟩
  refine w_22_i ⟨by omega, fun q => w_22_25_i (k0 (fun g => by have := g.1; omega)), fun q => p_21 i1 (fun w => ⟨by omega, fun q => by omega, fun _ => ⟨i2, fun q => w_22_25_i (k0 (fun g => by have := g.2.2.1; omega)), fun q1 => ⟨i2, fun q2 => ⟨i2, fun q3 => u2 (by omega) w (by omega) (fun w => by omega), fun q3 => p_21 i3 (fun w' => ⟨by omega, fun q => by omega, fun _ => u2 (by omega) w (by omega) (fun _ => w')⟩) (fun w' => ⟨by omega, fun _ => w_22_64_i (k0 (fun g => w' (g.2.2.2.1 (by omega)))), fun q => by omega⟩)⟩, fun q2 => w_22_25_i (k0 (fun g => by have := g.2.2.1; omega))⟩⟩⟩) (fun w => ⟨by omega, fun _ => w_22_25_i (k0 (fun g => w g.2.1)), fun q => by omega⟩)⟩
theorem p_102 (hn : 0 ≤ e 45 3 ∧ e 45 3 ≤ 6) (i1 : iI x1) (i2 : iI x2) (i3 : iI x3) (i4 : iI x4) (i5 : iI x5) (he : e = zu s 45 0 0) (k1 : fgood (e 45 3) x1 x2 x3 x4 x5 → w_102_85 X x1 x2 x3 x4 x5 1 e Q) (k0 : ¬ fgood (e 45 3) x1 x2 x3 x4 x5 → w_102_85 X x1 x2 x3 x4 x5 0 e Q) : w_102 X x1 x2 x3 x4 x5 s Q := by
  have z0 : iI 0 := iI_c (by omega)
  have z7 : iI 7 := iI_c (by omega)
  have u3 : e 45 3 < 6 → tI x1 → (0 ≤ x2 ∧ x2 ≤ 3) → (1 ≤ x2 → tI x3) → (2 ≤ x2 → tI x4) → w_102_64 X x1 x2 x3 x4 x5 e Q := fun w1 w2 w3 w4 w5 =>
    w_102_64_i ⟨i2, fun q => w_102_80_i (k1 ⟨w1, w2, w3, w4, w5, fun w => by omega⟩), fun q => p_101 i5 z0 z7 (fun w => ⟨by omega, fun q => by omega, fun _ => w_102_80_i (k1 ⟨w1, w2, w3, w4, w5, fun _ => w⟩)⟩) (fun w => ⟨by omega, fun _ => w_102_84_i (k0 (fun g => w (g.2.2.2.2.2 (by omega)))), fun q => by omega⟩)⟩
  have u2 : e 45 3 < 6 → tI x1 → (0 ≤ x2 ∧ x2 ≤ 3) → (1 ≤ x2 → tI x3) → w_102_48 X x1 x2 x3 x4 x5 e Q := fun w1 w2 w3 w4 =>
    w_102_48_i ⟨i2, fun q => u3 w1 w2 w3 w4 (fun w => by omega), fun q => p_101 i4 z0 z7 (fun w => ⟨by omega, fun q => by omega, fun _ => u3 w1 w2 w3 w4 (fun _ => w)⟩) (fun w => ⟨by omega, fun _ => w_102_84_i (k0 (fun g => w (g.2.2.2.2.1 (by omega)))), fun q => by omega⟩)⟩
  refine w_102_i ?_
  rintro _ rfl
  rw [← he]
  refine ⟨by omega, fun q => w_102_84_i (k0 (fun g => by have := g.1; omega)), fun q => p_101 i1 z0 z7 (fun w => ⟨by omega, fun q => by omega, fun _ => p_101 i2 z0 (iI_c (by omega)) (fun w' => ⟨by omega, fun q => by omega, fun _ => ⟨i2, fun q1 => u2 (by omega) w w' (fun w => by omega), fun q1 => p_101 i3 z0 z7 (fun w'' => ⟨by omega, fun q => by omega, fun _ => u2 (by omega) w w' (fun _ => w'')⟩) (fun w'' => ⟨by omega, fun _ => w_102_84_i (k0 (fun g => w'' (g.2.2.2.1 (by omega)))), fun q => by omega⟩)⟩⟩) (fun w' => ⟨by omega, fun _ => w_102_84_i (k0 (fun g => w' g.2.2.1)), fun q => by omega⟩)⟩) (fun w => ⟨by omega, fun _ => w_102_84_i (k0 (fun g => w g.2.1)), fun q => by omega⟩)⟩
theorem Nd_c (h : Nd s n K a b c) (e : ∀ x, 0 ≤ x → x ≤ n → s' 10 x = s 10 x ∧ s' 12 x = s 12 x ∧ s' 13 x = s 13 x) (hn : 0 ≤ n) (h6 : s 3 6 ≤ s' 3 6) : Nd s' n K a b c := by
  obtain ⟨h0, h1, h2, h3, h4, h5, h7, h8, h9, h10, h11, h12, h13⟩ := h
  have en := e n hn (by omega)
  have ee : ∀ x, ex s n x → ex s' n x := fun x w => ⟨w.1, w.2.1, by rw [(e x w.1 (by have := w.2.1; omega)).1]; exact w.2.2⟩
  have ea : ∀ x, ar s n x → ar s' n x := fun x w => w.elim Or.inl (fun w => Or.inr ⟨w.1, w.2.1, by rw [(e x w.1 (by have := w.2.1; omega)).1]; exact w.2.2⟩)
  have e2 : ∀ x, ex s n x → s' 12 x = s 12 x ∧ s' 13 x = s 13 x := fun x w => (e x w.1 (by have := w.2.1; omega)).2
  have e3 : ∀ x, ar s n x → 0 ≤ x → s' 12 x = s 12 x ∧ s' 13 x = s 13 x := fun x w q => by
    rcases w with w | w
    · omega
    · exact (e x w.1 (by have := w.2.1; omega)).2
  unfold Nd
  rw [en.2.1, en.2.2]
  refine ⟨h0, h1, h2, fun q => ?_, fun q => ?_, fun q => ?_, fun q => ?_, fun q => ?_, fun q => ?_, fun q => ?_, fun q => ?_, h12, h13⟩
  · obtain ⟨p1, p2, p3⟩ := h3 q; rw [(e2 _ p1).1, (e2 _ p1).2, (e2 _ p2).1, (e2 _ p2).2]; exact ⟨ee _ p1, ee _ p2, p3⟩
  · obtain ⟨p0, p1, p2, p3⟩ := h4 q; rw [(e2 _ p1).1, (e2 _ p1).2, (e2 _ p2).1, (e2 _ p2).2]; exact ⟨p0, ee _ p1, ee _ p2, p3⟩
  · obtain ⟨p1, p3⟩ := h5 q; rw [(e2 _ p1).1, (e2 _ p1).2]; exact ⟨ee _ p1, p3⟩
  · obtain ⟨p1, p2, p3, p4⟩ := h7 q; rw [(e2 _ p1).1, (e2 _ p1).2, (e2 _ p2).1, (e2 _ p2).2, (e2 _ p3).1, (e2 _ p3).2]; exact ⟨ee _ p1, ee _ p2, ee _ p3, p4⟩
  · obtain ⟨p0, p1, p2, p3⟩ := h8 q; rw [(e2 _ p1).1, (e2 _ p1).2, (e2 _ p2).1, (e2 _ p2).2]; exact ⟨p0, ee _ p1, ee _ p2, p3⟩
  · obtain ⟨p0, p1, p2, p3⟩ := h9 q; exact ⟨by omega, ea _ p1, p2, fun w => by rw [(e3 _ p1 w).1, (e3 _ p1 w).2]; exact p3 w⟩
  · obtain ⟨p0, p1, p2, p3⟩ := h10 q; rw [(e2 _ p0).1, (e2 _ p0).2]; exact ⟨ee _ p0, ea _ p1, p2, fun w => by rw [(e3 _ p1 w).1, (e3 _ p1 w).2]; exact p3 w⟩
  · obtain ⟨p1, p2, p3⟩ := h11 q; rw [(e2 _ p1).1, (e2 _ p1).2, (e2 _ p2).1, (e2 _ p2).2]; exact ⟨ee _ p1, ee _ p2, p3⟩
theorem function_ok (hR : RR c s) (i1 : iI x1) (i2 : iI x2) (i3 : iI x3) (i4 : iI x4) (i5 : iI x5) : w_3 X x1 x2 x3 x4 x5 s (fun v s1 => w_102 X x1 x2 x3 x4 x5 s1 (fun v' s2 => v = v' ∧ RR (c + 1) s2)) := by
  obtain ⟨⟨g1, g2, g3, g4, g5, g6⟩, -⟩ := id hR
  refine w_3_i (p_22 (by omega) i1 i2 i3 i4 i5 (fun w => ?_) (fun w => ?_))
  · generalize ef : s 3 6 = f at *
    have e45 : s 45 3 = f := g1.2.2
    have w0 := w.1
    refine w_22_66_i ?_
    rw [ef]
    refine ⟨by omega, ?_⟩
    rintro _ rfl
    refine ⟨by omega, ?_⟩
    rintro _ rfl
    refine ⟨by omega, ?_⟩
    rintro _ rfl
    refine ⟨by omega, ?_⟩
    rintro _ rfl
    refine ⟨by omega, ?_⟩
    rintro _ rfl
    refine ⟨by omega, ?_⟩
    rintro _ rfl
    have e36 : zu (zu (zu (zu (zu (zu s 6 f x1) 7 f x2) 8 (f * 3) x3) 8 (f * 3 + 1) x4) 8 (f * 3 + 2) x5) 9 f (-1) 3 6 = f := by simp [zu]; exact ef
    rw [e36]
    rintro _ rfl
    generalize es : zu (zu (zu (zu (zu (zu (zu s 6 f x1) 7 f x2) 8 (f * 3) x3) 8 (f * 3 + 1) x4) 8 (f * 3 + 2) x5) 9 f (-1)) 3 6 (f + 1) = s1
    have a1 : ∀ k, ¬ (k = 3 ∨ k = 6 ∨ k = 7 ∨ k = 8 ∨ k = 9) → s1 k = s k := fun k hk => by rw [← es]; (repeat rw [zu_f (by omega)])
    have f3 : zu s1 45 0 0 45 3 = f := by rw [zu_n (by omega), a1 45 (by omega)]; exact e45
    refine p_102 (e := zu s1 45 0 0) (by rw [f3]; omega) i1 i2 i3 i4 i5 rfl (fun _ => ?_) (fun w' => by rw [f3] at w'; exact absurd w w')
    refine w_102_85_i ⟨by omega, fun _ => ?_, fun q => by omega⟩
    rw [f3]
    refine ⟨by omega, ?_⟩
    rintro _ rfl
    rw [show zu (zu s1 45 0 0) 48 f x1 45 3 = f by rw [zu_g (by decide)]; exact f3]
    refine ⟨by omega, ?_⟩
    rintro _ rfl
    rw [show zu (zu (zu s1 45 0 0) 48 f x1) 49 f x2 45 3 = f by rw [zu_g (by decide), zu_g (by decide)]; exact f3]
    refine ⟨by omega, ?_⟩
    rintro _ rfl
    rw [show zu (zu (zu (zu s1 45 0 0) 48 f x1) 49 f x2) 50 (3 * f) x3 45 3 = f by rw [zu_g (by decide), zu_g (by decide), zu_g (by decide)]; exact f3]
    refine ⟨by omega, ?_⟩
    rintro _ rfl
    rw [show zu (zu (zu (zu (zu s1 45 0 0) 48 f x1) 49 f x2) 50 (3 * f) x3) 50 (3 * f + 1) x4 45 3 = f by rw [zu_g (by decide), zu_g (by decide), zu_g (by decide), zu_g (by decide)]; exact f3]
    refine ⟨by omega, ?_⟩
    rintro _ rfl
    rw [show zu (zu (zu (zu (zu (zu s1 45 0 0) 48 f x1) 49 f x2) 50 (3 * f) x3) 50 (3 * f + 1) x4) 50 (3 * f + 2) x5 45 3 = f by rw [zu_g (by decide), zu_g (by decide), zu_g (by decide), zu_g (by decide), zu_g (by decide)]; exact f3]
    refine ⟨by omega, ?_⟩
    rintro _ rfl
    rw [show zu (zu (zu (zu (zu (zu (zu s1 45 0 0) 48 f x1) 49 f x2) 50 (3 * f) x3) 50 (3 * f + 1) x4) 50 (3 * f + 2) x5) 51 f (-1) 45 3 = f by rw [zu_g (by decide), zu_g (by decide), zu_g (by decide), zu_g (by decide), zu_g (by decide), zu_g (by decide)]; exact f3]
    rintro _ rfl
    refine ⟨by rw [zu_s]; omega, ?_⟩
    generalize es2 : zu (zu (zu (zu (zu (zu (zu (zu s1 45 0 0) 48 f x1) 49 f x2) 50 (3 * f) x3) 50 (3 * f + 1) x4) 50 (3 * f + 2) x5) 51 f (-1)) 45 3 (f + 1) = s'
    have k1 : ∀ k, ¬ (k = 45 ∨ k = 48 ∨ k = 49 ∨ k = 50 ∨ k = 51) → s' k = s1 k := fun k hk => by rw [← es2]; (repeat rw [zu_f (by omega)])
    have k2 : ∀ j, ¬ (j = 0 ∨ j = 3) → s' 45 j = s 45 j := fun j hj => by rw [← es2]; simp [zu, show ¬ j = 0 by omega, show ¬ j = 3 by omega]; rw [a1 45 (by omega)]
    have k3 : s' 45 3 = f + 1 := by rw [← es2, zu_s]
    have k48 : ∀ j, s' 48 j = if j = f then x1 else s 48 j := fun j => by rw [← es2]; simp [zu]; rw [a1 48 (by omega)]
    have k49 : ∀ j, s' 49 j = if j = f then x2 else s 49 j := fun j => by rw [← es2]; simp [zu]; rw [a1 49 (by omega)]
    have k51 : ∀ j, s' 51 j = if j = f then -1 else s 51 j := fun j => by rw [← es2]; simp [zu]; rw [a1 51 (by omega)]
    have k50 : ∀ j, s' 50 j = if j = 3 * f + 2 then x5 else if j = 3 * f + 1 then x4 else if j = 3 * f then x3 else s 50 j := fun j => by rw [← es2]; simp [zu]; rw [a1 50 (by omega)]
    have b36 : s' 3 6 = f + 1 := by rw [k1 3 (by omega), ← es, zu_s]
    have b311 : s' 3 11 = s 3 11 := by rw [k1 3 (by omega), ← es]; simp [zu]
    have b6 : ∀ j, s' 6 j = if j = f then x1 else s 6 j := fun j => by rw [k1 6 (by omega), ← es]; simp [zu]
    have b7 : ∀ j, s' 7 j = if j = f then x2 else s 7 j := fun j => by rw [k1 7 (by omega), ← es]; simp [zu]
    have b9 : ∀ j, s' 9 j = if j = f then -1 else s 9 j := fun j => by rw [k1 9 (by omega), ← es]; simp [zu]
    have b8 : ∀ j, s' 8 j = if j = f * 3 + 2 then x5 else if j = f * 3 + 1 then x4 else if j = f * 3 then x3 else s 8 j := fun j => by rw [k1 8 (by omega), ← es]; simp [zu]
    have kk : ∀ k, ¬ (3 ≤ k ∧ k ≤ 9 ∧ ¬ k = 4 ∧ ¬ k = 5 ∨ k = 45 ∨ 48 ≤ k ∧ k ≤ 51) → s' k = s k := fun k hk => by rw [k1 k (by omega), a1 k (by omega)]
    refine R_src hR ?_ (fun k hk => kk k (by omega)) (fun j hj => k2 j (by omega)) (by omega) (fun g q1 q2 => ⟨by rw [b6, if_neg (by omega)], by rw [b7, if_neg (by omega)], fun k w1 w2 => by rw [b8, if_neg (by omega), if_neg (by omega), if_neg (by omega)]⟩)
    obtain ⟨wa, wb, wc, wd, we, wf⟩ := w
    refine ⟨⟨by omega, by omega, by omega⟩, ⟨by omega, by omega, by rw [k2 8 (by omega), b311]; exact g2.2.2⟩, ?_, fun g q1 q2 => ?_, fun g k q1 q2 q3 q4 => ?_, fun n q1 q2 => ?_⟩
    · rw [kk 4 (by omega), kk 5 (by omega), kk 46 (by omega), kk 47 (by omega)]; exact g3
    · rw [b6, b7, b9, k48, k49, k51, b311, kk 10 (by omega)]
      by_cases q : g = f
      · rw [if_pos q, if_pos q, if_pos q, if_pos q, if_pos q, if_pos q]
        exact ⟨rfl, wb, rfl, wc, rfl, by omega, fun w => by omega⟩
      · rw [if_neg q, if_neg q, if_neg q, if_neg q, if_neg q, if_neg q]
        exact g4 g q1 (by omega)
    · rw [b8, k50, b7]
      by_cases q : g = f
      · subst q
        have hk : k = 0 ∨ k = 1 ∨ k = 2 := by omega
        rcases hk with rfl | rfl | rfl
        · rw [if_neg (by omega), if_neg (by omega), if_pos (by omega), if_neg (by omega), if_neg (by omega), if_pos (by omega), if_pos rfl]
          exact ⟨rfl, i3, fun w => wd (by omega)⟩
        · rw [if_neg (by omega), if_pos (by omega), if_neg (by omega), if_pos (by omega), if_pos rfl]
          exact ⟨rfl, i4, fun w => we (by omega)⟩
        · rw [if_pos (by omega), if_pos (by omega), if_pos rfl]
          exact ⟨rfl, i5, fun w => wf (by omega)⟩
      · rw [if_neg (by omega), if_neg (by omega), if_neg (by omega), if_neg (by omega), if_neg (by omega), if_neg (by omega), if_neg q]
        exact g5 g k q1 (by omega) q3 q4
    · rw [b311] at q2
      obtain ⟨d1, d2, d3, d4, d5, d6, d7, d8, d9⟩ := g6 n q1 q2
      rw [kk 52 (by omega), kk 53 (by omega), kk 54 (by omega), kk 55 (by omega), kk 10 (by omega), kk 11 (by omega)]
      exact ⟨d1, d2, d3, d4, d5, d6, d7, d8, Nd_c d9 (fun x _ _ => ⟨by rw [kk 10 (by omega)], by rw [kk 12 (by omega)], by rw [kk 13 (by omega)]⟩) q1 (by omega)⟩
  · have f3 : zu s 45 0 0 45 3 = s 3 6 := by rw [zu_n (by omega)]; exact g1.2.2
    refine p_102 (e := zu s 45 0 0) (by rw [f3]; omega) i1 i2 i3 i4 i5 rfl (fun w' => by rw [f3] at w'; exact absurd w' w) (fun _ => ?_)
    exact w_102_85_i ⟨by omega, fun q => absurd rfl q, fun _ => ⟨rfl, R_0 hR⟩⟩
end
