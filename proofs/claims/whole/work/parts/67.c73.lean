section
variable {G : Int → Nat → Int → Int} {z r s m s' s1 m1 m0 s2 m2 s3 m3 e : zS} {f0 i j k F N o v tk p q t T H a b n f x x0 x1 x2 x3 x4 x5 c c' K P d ch : Int} {U U' : Int → Int → Prop} {φ φ' : Int → Int} {X : zX} {Q : Int → zS → Prop} {D : Prop}
theorem node_ok {C : Int} (hR : RR C s) (i1 : iI K) (i2 : iI a) (i3 : iI b) (i4 : iI c) : w_4 X K a b c s (fun v s1 => w_103 X K a b c s1 (fun v' s2 => v = v' ∧ RR (C + 1) s2)) := by
  obtain ⟨⟨g1, g2, g3, g4, g5, g6⟩, -⟩ := id hR
  have hn : 0 ≤ s 3 11 ∧ s 3 11 ≤ 150 := by omega
  have hf : 0 ≤ s 3 6 ∧ s 3 6 ≤ 6 := by omega
  have r10 : ∀ n, 0 ≤ n → n < s 3 11 → 0 ≤ s 10 n ∧ s 10 n ≤ 17 := fun n q1 q2 => (g6 n q1 q2).2.1
  have r52 : ∀ n, 0 ≤ n → n < s 3 11 → s 52 n = s 10 n := fun n q1 q2 => (g6 n q1 q2).1
  have e8 : zu s 45 0 0 45 8 = s 3 11 := by rw [zu_n (by omega)]; exact g2.2.2
  have e3 : zu s 45 0 0 45 3 = s 3 6 := by rw [zu_n (by omega)]; exact g1.2.2
  have no : (s 3 11 = 150 ∨ ¬ okN s (s 3 11) K a b c) → w_103 X K a b c s (fun v' s2 => -1 = v' ∧ RR (C + 1) s2) := by
    intro w
    refine w_103_i ?_
    rintro _ rfl
    rw [e8]
    refine ⟨by omega, fun _ => w_103_27_i ⟨rfl, R_0 hR⟩, fun q => p_104 (s := s) hn hf r10 e8 e3 (fun n q1 q2 => by rw [zu_g (by decide)]; exact r52 n q1 q2) i1 i2 i3 i4 (fun w' => ?_) (fun _ => ⟨by omega, fun q => absurd rfl q, fun _ => w_103_27_i ⟨rfl, R_0 hR⟩⟩)⟩
    exact w.elim (fun w => absurd w q) (fun w => absurd w' w)
  refine w_4_i (w_23_i ⟨i1, fun q => w_23_20_i (no (Or.inr (fun w => by have := w.1; omega))), fun q => ⟨i1, fun q => w_23_20_i (no (Or.inr (fun w => by have := w.1; omega))), fun q' => ⟨by omega, fun qn => ⟨by omega, ?_⟩, fun qn => w_23_20_i (no (Or.inl (by omega)))⟩⟩⟩)
  have hK : 0 ≤ K ∧ K ≤ 17 := by omega
  have tb := zP_t hK
  have P0 : 0 ≤ zP (K * 3) ∧ zP (K * 3) ≤ 5 := by have := tb.1.1; clear tb; omega
  have P1 : 0 ≤ zP (K * 3 + 1) ∧ zP (K * 3 + 1) ≤ 5 := by have := tb.2.1.1; clear tb; omega
  have P2 : 0 ≤ zP (K * 3 + 2) ∧ zP (K * 3 + 2) ≤ 5 := by have := tb.2.2.1; clear tb; omega
  clear tb
  have iff := okN_iff (s := s) (a := a) (b := b) (c := c) hK
  refine p_24 P0 i2 hn hf r10 (fun w0 => ⟨by omega, fun q => by omega, fun _ => ⟨by omega, p_24 P1 i3 hn hf r10 (fun w1 => ⟨by omega, fun q => by omega, fun _ => ⟨by omega, p_24 P2 i4 hn hf r10 (fun w2 => ⟨by omega, fun _ => ⟨by omega, ?_⟩, fun q => by omega⟩) (fun w2 => ⟨by omega, fun q => by omega, fun _ => w_23_74_i (no (Or.inr (fun w => w2 (iff.mp w).2.2)))⟩)⟩⟩) (fun w1 => ⟨by omega, fun _ => w_23_74_i (no (Or.inr (fun w => w1 (iff.mp w).2.1))), fun q => by omega⟩)⟩⟩) (fun w0 => ⟨by omega, fun _ => w_23_74_i (no (Or.inr (fun w => w0 (iff.mp w).1))), fun q => by omega⟩)
  have ok : okN s (s 3 11) K a b c := iff.mpr ⟨w0, w1, w2⟩
  clear iff w0 w1 w2
  generalize en : s 3 11 = n at *
  rintro _ rfl
  refine ⟨by omega, ?_⟩
  rintro _ rfl
  refine ⟨by omega, ?_⟩
  rintro _ rfl
  refine ⟨by omega, ?_⟩
  rintro _ rfl
  generalize es : zu (zu (zu (zu s 10 n K) 11 (n * 3) a) 11 (n * 3 + 1) b) 11 (n * 3 + 2) c = s1
  have a1 : ∀ k, ¬ (k = 10 ∨ k = 11) → s1 k = s k := fun k hk => by rw [← es]; (repeat rw [zu_f (by omega)])
  have b10 : ∀ j, s1 10 j = if j = n then K else s 10 j := fun j => by rw [← es]; simp [zu]
  have b11 : ∀ j, s1 11 j = if j = n * 3 + 2 then c else if j = n * 3 + 1 then b else if j = n * 3 then a else s 11 j := fun j => by rw [← es]; simp [zu]
  have exc : ∀ x, ex s n x → ex s1 n x := fun x w => ⟨w.1, w.2.1, by rw [b10, if_neg (by have := w.2.1; omega)]; exact w.2.2⟩
  have arc : ∀ x, ar s n x → ar s1 n x := fun x w => w.elim Or.inl (fun w => Or.inr ⟨w.1, w.2.1, by rw [b10, if_neg (by have := w.2.1; omega)]; exact w.2.2⟩)
  have ok1 : okN s1 n K a b c := by
    obtain ⟨o0, o1, o2, o3, o4, o5, o6, o7⟩ := ok
    exact ⟨o0, o1, o2, fun w => by rw [a1 3 (by omega)]; exact o3 w, fun w => exc _ (o4 w), fun w => exc _ (o5 w), fun w => arc _ (o6 w), fun w => exc _ (o7 w)⟩
  refine meas (K := K) (a := a) (b := b) (c := c) (by omega) (by rw [b10, if_pos rfl]) (by rw [b11, if_neg (by omega), if_neg (by omega), if_pos (by omega)]) (by rw [b11, if_neg (by omega), if_pos rfl]) (by rw [b11, if_pos rfl]) ok1 (fun x q1 q2 => ?_) (fun t v nd => ?_)
  · have := (g6 x q1 q2).2.2.2.2.2.2.2.2
    obtain ⟨-, -, -, -, -, -, -, -, -, -, -, k1, k2⟩ := this
    rw [a1 12 (by omega), a1 13 (by omega)]; exact ⟨k1, k2⟩
  have e311 : zu (zu s1 12 n t) 13 n v 3 11 = n := by rw [zu_g (by decide), zu_g (by decide), a1 3 (by omega)]; exact en
  rw [e311]
  rintro _ rfl
  generalize es2 : zu (zu (zu s1 12 n t) 13 n v) 3 11 (n + 1) = s2
  have c1 : ∀ k, ¬ (k = 3 ∨ k = 10 ∨ k = 11 ∨ k = 12 ∨ k = 13) → s2 k = s k := fun k hk => by rw [← es2, zu_f (by omega), zu_f (by omega), zu_f (by omega), a1 k (by omega)]
  refine w_103_i ?_
  rintro _ rfl
  have f8 : zu s2 45 0 0 45 8 = n := by rw [zu_n (by omega), c1 45 (by omega)]; exact g2.2.2
  have f3 : zu s2 45 0 0 45 3 = s 3 6 := by rw [zu_n (by omega), c1 45 (by omega)]; exact g1.2.2
  rw [f8]
  refine ⟨by omega, fun q => by omega, fun _ => p_104 (s := s) (by rw [en]; omega) hf (by rw [en]; exact r10) (by rw [en]; exact f8) f3 (by rw [en]; exact fun n' q1 q2 => by rw [zu_g (by decide), c1 52 (by omega)]; exact r52 n' q1 q2) i1 i2 i3 i4 (fun _ => ⟨by omega, fun _ => ?_, fun q => by omega⟩) (fun w => by rw [en] at w; exact absurd ok w)⟩
  rw [f8]
  refine ⟨by omega, ?_⟩
  rintro _ rfl
  rw [show zu (zu s2 45 0 0) 52 n K 45 8 = n by rw [zu_g (by decide)]; exact f8]
  refine ⟨by omega, ?_⟩
  rintro _ rfl
  rw [show zu (zu (zu s2 45 0 0) 52 n K) 53 n a 45 8 = n by rw [zu_g (by decide), zu_g (by decide)]; exact f8]
  refine ⟨by omega, ?_⟩
  rintro _ rfl
  rw [show zu (zu (zu (zu s2 45 0 0) 52 n K) 53 n a) 54 n b 45 8 = n by rw [zu_g (by decide), zu_g (by decide), zu_g (by decide)]; exact f8]
  refine ⟨by omega, ?_⟩
  rintro _ rfl
  rw [show zu (zu (zu (zu (zu s2 45 0 0) 52 n K) 53 n a) 54 n b) 55 n c 45 8 = n by rw [zu_g (by decide), zu_g (by decide), zu_g (by decide), zu_g (by decide)]; exact f8]
  rintro _ rfl
  refine ⟨by rw [zu_s]; omega, ?_⟩
  generalize es3 : zu (zu (zu (zu (zu (zu s2 45 0 0) 52 n K) 53 n a) 54 n b) 55 n c) 45 8 (n + 1) = s'
  have d1 : ∀ k, ¬ (k = 45 ∨ 52 ≤ k ∧ k ≤ 55) → s' k = s2 k := fun k hk => by rw [← es3]; (repeat rw [zu_f (by omega)])
  have d2 : ∀ j, ¬ (j = 0 ∨ j = 8) → s' 45 j = s 45 j := fun j hj => by rw [← es3]; simp [zu, show ¬ j = 0 by omega, show ¬ j = 8 by omega]; rw [c1 45 (by omega)]
  have d8 : s' 45 8 = n + 1 := by rw [← es3, zu_s]
  have k52 : ∀ j, s' 52 j = if j = n then K else s 52 j := fun j => by rw [← es3]; simp [zu]; rw [c1 52 (by omega)]
  have k53 : ∀ j, s' 53 j = if j = n then a else s 53 j := fun j => by rw [← es3]; simp [zu]; rw [c1 53 (by omega)]
  have k54 : ∀ j, s' 54 j = if j = n then b else s 54 j := fun j => by rw [← es3]; simp [zu]; rw [c1 54 (by omega)]
  have k55 : ∀ j, s' 55 j = if j = n then c else s 55 j := fun j => by rw [← es3]; simp [zu]; rw [c1 55 (by omega)]
  have b311 : s' 3 11 = n + 1 := by rw [d1 3 (by omega), ← es2, zu_s]
  have b36 : s' 3 6 = s 3 6 := by rw [d1 3 (by omega), ← es2, zu_n (by omega), zu_g (by decide), zu_g (by decide), a1 3 (by omega)]
  have x10 : s' 10 = s1 10 := by rw [d1 10 (by omega), ← es2, zu_f (by decide), zu_f (by decide), zu_f (by decide)]
  have x11 : s' 11 = s1 11 := by rw [d1 11 (by omega), ← es2, zu_f (by decide), zu_f (by decide), zu_f (by decide)]
  have x12 : s' 12 = zu (zu s1 12 n t) 13 n v 12 := by rw [d1 12 (by omega), ← es2, zu_f (by decide)]
  have x13 : s' 13 = zu (zu s1 12 n t) 13 n v 13 := by rw [d1 13 (by omega), ← es2, zu_f (by decide)]
  have kk : ∀ k, ¬ (k = 3 ∨ 10 ≤ k ∧ k ≤ 13 ∨ k = 45 ∨ 52 ≤ k ∧ k ≤ 55) → s' k = s k := fun k hk => by rw [d1 k (by omega), c1 k (by omega)]
  refine R_src hR ?_ (fun k hk => kk k (by omega)) (fun j hj => d2 j (by omega)) (by omega) (fun g q1 q2 => ⟨by rw [kk 6 (by omega)], by rw [kk 7 (by omega)], fun k w1 w2 => by rw [kk 8 (by omega)]⟩)
  refine ⟨⟨by omega, by omega, by rw [b36, d2 3 (by omega)]; exact g1.2.2⟩, ⟨by omega, by omega, by omega⟩, ?_, fun g q1 q2 => ?_, ?_, fun y q1 q2 => ?_⟩
  · rw [kk 4 (by omega), kk 5 (by omega), kk 46 (by omega), kk 47 (by omega)]; exact g3
  · rw [kk 6 (by omega), kk 7 (by omega), kk 9 (by omega), kk 48 (by omega), kk 49 (by omega), kk 51 (by omega), b311]
    rw [b36] at q2
    obtain ⟨l1, l2, l3, l4, l5, l6, l7⟩ := g4 g q1 q2
    refine ⟨l1, l2, l3, l4, l5, by omega, fun w => ?_⟩
    rw [x10, b10, if_neg (by omega)]; exact l7 w
  · rw [kk 7 (by omega), kk 8 (by omega), kk 50 (by omega), b36]; exact g5
  · rw [b311] at q2
    by_cases q : y = n
    · subst q
      rw [k52, k53, k54, k55, x10, x11, b10, b11, b11, b11, if_pos rfl, if_pos rfl, if_pos rfl, if_pos rfl, if_pos rfl, if_neg (by omega), if_neg (by omega), if_pos (by omega), if_neg (by omega), if_pos rfl, if_pos rfl]
      exact ⟨rfl, hK, rfl, rfl, rfl, i2, i3, i4, Nd_c nd (fun x _ _ => ⟨by rw [x10, zu_g (by decide), zu_g (by decide)], by rw [x12], by rw [x13]⟩) q1 (by rw [b36, zu_g (by decide), zu_g (by decide), a1 3 (by omega)]; omega)⟩
    · obtain ⟨l1, l2, l3, l4, l5, l6, l7, l8, l9⟩ := g6 y q1 (by omega)
      rw [k52, k53, k54, k55, x10, x11, b10, b11, b11, b11, if_neg q, if_neg q, if_neg q, if_neg q, if_neg q, if_neg (by omega), if_neg (by omega), if_neg (by omega), if_neg (by omega), if_neg (by omega), if_neg (by omega), if_neg (by omega), if_neg (by omega), if_neg (by omega)]
      exact ⟨l1, l2, l3, l4, l5, l6, l7, l8, Nd_c l9 (fun x w1 w2 => ⟨by rw [x10, b10, if_neg (by omega)], by rw [x12, zu_g (by decide), zu_n (by omega), a1 12 (by omega)], by rw [x13, zu_n (by omega), zu_g (by decide), a1 13 (by omega)]⟩) q1 (by omega)⟩
-- lay
theorem lay_R {C : Int} (hX : okX X) (hR : RR C s) : w_6 X s (fun v s1 => w_108 X s1 (fun v' s2 => v = v' ∧ RR (C + 1) s2)) := by
  obtain ⟨h1, h2, h3, h4⟩ := hR
  have base : ∀ s', FL s s' → Src s' ∧ Num (C + 1) s' ∧ Fn s' := by
    rintro s' ⟨a1, a2, a3, a4, a5⟩
    exact ⟨src_c h1 (fun k hk => a1 k (by omega)) (fun k hk => a1 k (by omega)) ⟨a5 3 (by omega), a5 8 (by omega)⟩, num_c h3 (by omega) ⟨a2 4 (by omega), a2 5 (by omega), a5 37 (by omega), a5 38 (by omega)⟩ ⟨a1 36 (by omega), a1 37 (by omega), by rw [a1 32 (by omega)]⟩, Or.inl ⟨a3, a4⟩⟩
  refine lay_ok hX h1 _ (fun s' fl e1 e2 => ?_) (fun s' G fl C => ?_)
  · obtain ⟨b1, b2, b3⟩ := base s' fl
    exact ⟨b1, Or.inl ⟨e1, e2⟩, b2, b3⟩
  · obtain ⟨b1, b2, b3⟩ := base s' fl
    exact ⟨b1, Or.inr ⟨s, G, C, h1, by rw [fl.1 3 (by omega)]; omega, fun f _ _ => ⟨by rw [fl.1 6 (by omega)], by rw [fl.1 7 (by omega)], fun k _ _ => by rw [fl.1 8 (by omega)]⟩⟩, b2, b3⟩
end
