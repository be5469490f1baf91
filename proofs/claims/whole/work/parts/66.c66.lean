section
variable {G : Int → Nat → Int → Int} {z r s m s' s1 m1 m0 s2 m2 s3 m3 e : zS} {f0 i j F N o v tk p q t T H a b n f x x0 x1 x2 x3 x4 c c' : Int} {U U' : Int → Int → Prop} {φ φ' : Int → Int} {X : zX} {Q : Int → zS → Prop} {D : Prop}
theorem p_101 (h0 : iI x0) (h1 : iI x1) (h2 : iI x2) (k1 : x1 ≤ x0 ∧ x0 ≤ x2 → Q 1 s) (k0 : ¬ (x1 ≤ x0 ∧ x0 ≤ x2) → Q 0 s) : w_101 X x0 x1 x2 s Q :=
  w_101_i ⟨⟨h0, h1⟩, fun q => w_101_14_i (k0 (by omega)), fun q => ⟨⟨h0, h2⟩, fun q => w_101_14_i (k0 (by omega)), fun q => k1 (by omega)⟩⟩
theorem iI_c (h : -2147483648 ≤ x ∧ x ≤ 2147483647) : iI x := h
theorem p_43 (h : s 14 0 = 0 ∨ s 14 0 = 1) (hi : iI x1) (hN : iI (s 14 1)) (k1 : s 14 0 = 1 ∧ 0 ≤ x1 ∧ x1 < s 14 1 → Q 1 s) (k0 : ¬ (s 14 0 = 1 ∧ 0 ≤ x1 ∧ x1 < s 14 1) → Q 0 s) : w_43 X x1 s Q :=
  w_43_i ⟨by omega, fun q => w_43_23_i (k0 (by omega)), fun q => ⟨hi, fun q => w_43_23_i (k0 (by omega)), fun q => ⟨⟨hi, hN⟩, fun q => w_43_23_i (k0 (by omega)), fun q => k1 (by omega)⟩⟩⟩
theorem p_131 (h : s 45 15 = 0 ∨ s 45 15 = 1) (hi : iI x1) (hN : iI (s 45 16 - 1)) (k1 : s 45 15 = 1 ∧ 0 ≤ x1 ∧ x1 < s 45 16 → Q 1 s) (k0 : ¬ (s 45 15 = 1 ∧ 0 ≤ x1 ∧ x1 < s 45 16) → Q 0 s) : w_131 X x1 s Q :=
  w_131_i ⟨by omega, fun q => w_131_25_i (k0 (by omega)), fun q => p_101 hi (iI_c (by omega)) hN (fun w => ⟨by omega, fun q => by omega, fun _ => k1 (by omega)⟩) (fun w => ⟨by omega, fun _ => w_131_25_i (k0 (by omega)), fun q => by omega⟩)⟩
theorem p_129 (hi : 0 ≤ x1 ∧ x1 < 400) (hr : 0 ≤ s 58 x1 ∧ s 58 x1 ≤ 18) (k1 : (s 58 x1 = 6 ∨ s 58 x1 = 13) → Q 1 s) (k0 : ¬ (s 58 x1 = 6 ∨ s 58 x1 = 13) → Q 0 s) : w_129 X x1 s Q :=
  w_129_i ⟨hi, by omega, fun q => w_129_22_i (k1 (by omega)), fun q => ⟨hi, by omega, fun q => k0 (by omega), fun q => w_129_22_i (k1 (by omega))⟩⟩
-- what holds of the code between calls
theorem cst_f (h : Cst s) : (s 14 0 = 0 ∧ s 45 15 = 0) ∨ ((s 14 0 = 1 ∧ s 45 15 = 1) ∧ s 14 1 = s 45 16 ∧ (0 ≤ s 45 16 ∧ s 45 16 ≤ 400) ∧ (∀ i, 0 ≤ i → i < s 45 16 → s 15 i = s 58 i ∧ s 16 i = s 59 i ∧ (0 ≤ s 58 i ∧ s 58 i ≤ 18) ∧ (s 58 i = 6 ∨ s 58 i = 13 → s 18 i = s 62 i ∧ s 17 i = s 61 i)) ∧ s 14 2 = cm (s 58) (s 45 16).toNat ∧ s 14 3 = s 45 26 ∧ (∀ g, 0 ≤ g → g < 6 → s 19 g = s 64 g)) := by
  rcases h with w | ⟨z, G, C, -⟩
  · exact Or.inl w
  · obtain ⟨c1, c2, c3, c4, c5, c6, c7, c8, c9⟩ := C
    refine Or.inr ⟨c1, c2.1, c2.2, fun i q1 q2 => ?_, c4, c5, fun g q1 q2 => (c7 g q1 q2).1⟩
    obtain ⟨d1, d2, d3⟩ := c3 i q1 q2
    have ok := (c6 i q1 q2).1
    have h18 : 0 ≤ s 58 i ∧ s 58 i ≤ 18 := by
      obtain ⟨-, -, -, -, -, -, -, -, -, -, -, -, -, -, -, -, -, w, -⟩ := ok
      exact w
    exact ⟨d1, d2, h18, fun w => ⟨(d3 w).1, (d3 w).2.1⟩⟩
-- entry
theorem entry_ok (hR : RR c s) (i1 : iI x1) : w_8 X x1 s (fun v s1 => w_132 X x1 s1 (fun v' s2 => v = v' ∧ RR (c + 1) s2)) := by
  have R1 : RR (c + 1) (zu s 45 0 0) := R_0 hR
  have hC := cst_f hR.2.1
  have e15 : zu s 45 0 0 45 15 = s 45 15 := zu_n (by omega)
  have e64 : zu s 45 0 0 64 x1 = s 64 x1 := zu_g (by decide)
  have no : (s 45 15 = 0 ∨ s 45 15 = 1) → (s 45 15 = 0 ∨ ¬ (0 ≤ x1 ∧ x1 ≤ 5)) → w_132 X x1 s (fun v' s2 => -1 = v' ∧ RR (c + 1) s2) := by
    intro hb w
    refine w_132_i ?_
    rintro _ rfl
    rw [e15]
    exact ⟨by omega, fun _ => w_132_30_i ⟨rfl, R1⟩, fun q => p_101 i1 (iI_c (by omega)) (iI_c (by omega)) (fun w' => by omega) (fun w' => ⟨by omega, fun _ => w_132_30_i ⟨rfl, R1⟩, fun q => by omega⟩)⟩
  refine w_8_i (w_42_i ?_)
  rcases hC with ⟨c1, c2⟩ | ⟨⟨c1, c2⟩, -, -, -, -, -, c6⟩
  · rw [c1]; exact ⟨by omega, fun _ => w_42_26_i (no (by omega) (by omega)), fun q => by omega⟩
  · rw [c1]
    refine ⟨by omega, fun q => by omega, fun _ => ⟨i1, fun q => w_42_26_i (no (by omega) (by omega)), fun q => ⟨i1, fun q => w_42_26_i (no (by omega) (by omega)), fun q' => ⟨by omega, ?_⟩⟩⟩⟩
    refine w_132_i ?_
    rintro _ rfl
    rw [e15, c2]
    refine ⟨by omega, fun q => by omega, fun q => p_101 i1 (iI_c (by omega)) (iI_c (by omega)) (fun w' => ⟨by omega, fun q => by omega, fun _ => ⟨by omega, ?_⟩⟩) (fun w' => by omega)⟩
    rw [e64]
    exact ⟨c6 x1 (by omega) (by omega), R1⟩
-- map
theorem map_ok (hR : RR c s) (i1 : iI x1) (i2 : iI x2) : w_9 X x1 x2 s (fun v s1 => w_133 X x1 x2 s1 (fun v' s2 => v = v' ∧ RR (c + 1) s2)) := by
  have R1 : RR (c + 1) (zu s 45 0 0) := R_0 hR
  have hC := cst_f hR.2.1
  have e15 : zu s 45 0 0 45 15 = s 45 15 := zu_n (by omega)
  have e16 : zu s 45 0 0 45 16 = s 45 16 := zu_n (by omega)
  have b01 : s 45 15 = 0 ∨ s 45 15 = 1 := by omega
  have no : (¬ (s 45 15 = 1 ∧ 0 ≤ x1 ∧ x1 < s 45 16)) → iI (s 45 16 - 1) → w_133 X x1 x2 s (fun v' s2 => -1 = v' ∧ RR (c + 1) s2) := by
    intro w hN
    refine w_133_i ?_
    rintro _ rfl
    refine p_131 (by rw [e15]; exact b01) i1 (by rw [e16]; exact hN) (fun w' => by rw [e15, e16] at w'; exact absurd w' w) (fun _ => ⟨by omega, fun _ => w_133_30_i ⟨rfl, R1⟩, fun q => by omega⟩)
  have no0 : s 45 15 = 0 → w_133 X x1 x2 s (fun v' s2 => -1 = v' ∧ RR (c + 1) s2) := by
    intro w
    refine w_133_i ?_
    rintro _ rfl
    refine w_131_i ?_
    rw [e15, w]
    exact ⟨by omega, fun _ => w_131_25_i ⟨by omega, fun _ => w_133_30_i ⟨rfl, R1⟩, fun q => by omega⟩, fun q => by omega⟩
  refine w_9_i ?_
  rcases hC with ⟨c1, c2⟩ | ⟨⟨c1, c2⟩, c3, c4, c5, -, -, -⟩
  · refine w_43_i ?_
    rw [c1]
    exact ⟨by omega, fun _ => w_43_23_i ⟨by omega, fun _ => w_9_22_i (no0 c2), fun q => by omega⟩, fun q => by omega⟩
  · refine p_43 (Or.inr c1) i1 (iI_c (by omega)) (fun w => ⟨by omega, fun q => by omega, fun _ => ?_⟩) (fun w => ⟨by omega, fun _ => w_9_22_i (no (by omega) (iI_c (by omega))), fun q => by omega⟩)
    obtain ⟨d1, d2, d3, d4⟩ := c5 x1 (by omega) (by omega)
    have hm : ∀ (Q : Int → zS → Prop), ((s 58 x1 = 6 ∨ s 58 x1 = 13) → (x2 = 0 ∨ x2 = 1) → Q (if x2 = 0 then s 61 x1 else s 62 x1) (zu s 45 0 0)) → (¬ ((s 58 x1 = 6 ∨ s 58 x1 = 13) ∧ (x2 = 0 ∨ x2 = 1)) → Q (-1) (zu s 45 0 0)) → w_133 X x1 x2 s Q := by
      intro Q k1 k0
      refine w_133_i ?_
      rintro _ rfl
      have e58 : zu s 45 0 0 58 = s 58 := zu_f (by decide)
      refine p_131 (by rw [e15]; exact b01) i1 (by rw [e16]; exact iI_c (by omega)) (fun _ => ⟨by omega, fun q => by omega, fun _ => p_129 (by omega) (by rw [e58]; exact d3) (fun w' => ⟨by omega, fun q => by omega, fun _ => ?_⟩) (fun w' => ⟨by omega, fun _ => w_133_30_i (k0 (by rw [e58] at w'; exact fun q => w' q.1)), fun q => by omega⟩)⟩) (fun w' => by rw [e15, e16] at w'; omega)
      rw [e58] at w'
      refine ⟨i2, fun q => w_133_32_i ⟨i2, fun q' => absurd q q', fun _ => ⟨by omega, ?_⟩⟩, fun q => ⟨i2, fun q1 => w_133_32_i ⟨i2, fun q' => ⟨by omega, ?_⟩, fun q' => absurd q q'⟩, fun q1 => w_133_30_i (k0 (by omega))⟩⟩
      · have := k1 w' (Or.inl q)
        rw [if_pos q] at this
        rw [zu_f (by decide)]; exact this
      · have := k1 w' (Or.inr q1)
        rw [if_neg q] at this
        rw [zu_f (by decide)]; exact this
    refine p_40 (by omega) (by rw [d1]; exact d3) (fun w' => ⟨by omega, fun _ => ⟨i2, fun q => ?_, fun q => ⟨by omega, ?_⟩, fun q => ⟨by omega, ?_⟩⟩, fun q => by omega⟩) (fun w' => ⟨by omega, fun q => by omega, fun _ => w_9_22_i (hm _ (fun q1 q2 => by rw [d1] at w'; exact absurd q1 w') (fun _ => ⟨rfl, R1⟩))⟩)
    · exact hm _ (fun q1 q2 => by omega) (fun _ => ⟨rfl, R1⟩)
    · rw [d1] at w'
      exact hm _ (fun q1 q2 => ⟨by rw [if_pos q]; exact (d4 w').2, R1⟩) (fun q' => absurd ⟨w', Or.inl q⟩ q')
    · rw [d1] at w'
      exact hm _ (fun q1 q2 => ⟨by rw [if_neg (by omega)]; exact (d4 w').1, R1⟩) (fun q' => absurd ⟨w', Or.inr q⟩ q')
-- laid
theorem laid_ok (hR : RR c s) (i1 : iI x1) : w_7 X x1 s (fun v s1 => w_128 X x1 s1 (fun v' s2 => v = v' ∧ RR (c + 1) s2)) := by
  have R1 : RR (c + 1) (zu s 45 0 0) := R_0 hR
  have hC := cst_f hR.2.1
  have e15 : zu s 45 0 0 45 15 = s 45 15 := zu_n (by omega)
  have e16 : zu s 45 0 0 45 16 = s 45 16 := zu_n (by omega)
  have e26 : zu s 45 0 0 45 26 = s 45 26 := zu_n (by omega)
  have e58 : zu s 45 0 0 58 = s 58 := zu_f (by decide)
  rcases hC with ⟨c1, c2⟩ | ⟨⟨c1, c2⟩, c3, c4, c5, c6, c7, -⟩
  · refine w_7_i ?_
    rw [c1]
    refine ⟨by omega, fun q => by omega, fun _ => w_128_i ?_⟩
    rintro _ rfl
    rw [e15, c2]
    exact ⟨by omega, fun _ => w_128_21_i ⟨rfl, R1⟩, fun q => by omega⟩
  · have hm : ∀ v : Int, (¬ (0 ≤ x1 ∧ x1 ≤ 2) → v = -1) → (x1 = 0 → v = s 45 16) → (x1 = 1 → v = cm (s 58) (s 45 16).toNat) → (x1 = 2 → v = s 45 26) → w_128 X x1 s (fun v' s2 => v = v' ∧ RR (c + 1) s2) := by
      intro v k0 k1 k2 k3
      refine w_128_i ?_
      rintro _ rfl
      rw [e15, c2]
      refine ⟨by omega, fun q => by omega, fun _ => p_101 i1 (iI_c (by omega)) (iI_c (by omega)) (fun w => ⟨by omega, fun _ => ?_, fun q => by omega⟩) (fun w => ⟨by omega, fun q => by omega, fun _ => w_128_21_i ⟨k0 w, R1⟩⟩)⟩
      have loop : ∀ d : Nat, ∀ j : Nat, (j : Int) + d = s 45 16 → w_128_27 X x1 (cm (s 58) j) j (zu s 45 0 0) (fun v' s2 => v = v' ∧ RR (c + 1) s2) := by
        intro d
        induction d with
        | zero =>
          intro j hj
          refine w_128_27_i ?_
          rw [e16, e26]
          refine ⟨by omega, fun _ => ⟨i1, fun q => ⟨i1, fun q' => ⟨k3 (by omega), R1⟩, fun q' => ⟨?_, R1⟩⟩, fun q => ⟨k1 (by omega), R1⟩⟩, fun q => by omega⟩
          rw [k2 (by omega)]
          congr 1
          omega
        | succ d ih =>
          intro j hj
          obtain ⟨-, -, d3, -⟩ := c5 j (by omega) (by omega)
          refine w_128_27_i ?_
          rw [e16, e26]
          refine ⟨by omega, fun q => by omega, fun _ => p_129 (by omega) (by rw [e58]; exact d3) (fun w' => ⟨by omega, fun q => by omega, fun _ => w_128_49_i ?_⟩) (fun w' => ⟨by omega, fun _ => w_128_49_i ?_, fun q => by omega⟩)⟩
          · have := ih (j + 1) (by omega)
            rw [e58] at w'
            simp only [cm] at this
            rw [if_pos w'] at this
            exact this
          · have := ih (j + 1) (by omega)
            rw [e58] at w'
            simp only [cm] at this
            rw [if_neg w'] at this
            exact this
      exact loop (s 45 16).toNat 0 (by omega)
    refine w_7_i ?_
    rw [c1]
    refine ⟨by omega, fun _ => ⟨i1, fun q => hm _ (fun _ => rfl) (fun q => by omega) (fun q => by omega) (fun q => by omega), fun q => hm _ (fun q => by omega) (fun _ => c3) (fun q => by omega) (fun q => by omega), fun q => hm _ (fun q => by omega) (fun q => by omega) (fun _ => c6) (fun q => by omega), fun q => hm _ (fun q => by omega) (fun q => by omega) (fun q => by omega) (fun _ => c7)⟩, fun q => by omega⟩
end
