section
variable {z s m s1 m1 s2 m2 m0 m' : zS} {G G1 G2 : Int → Nat → Int → Int} {f N op v pm tk lm H ty lx lt J' t t' t'' n x o T T1 T2 D Z a b c K : Int} {L : Int → Int} {X : zX} {Q : Int → zS → Prop}
theorem EM.tm0 (b : EM m0 m' N op v tk lm pm H ty lx lt J') (et : ty = m0 69 (H - 1)) {t1 W H1 : Int} (hJ : J' = 0 → m0 45 36 = 0) : Tm m0 m' t1 W H1 N := by
  obtain ⟨b1, b2, b3, b4, b5, b6, b7, b8, b9, b10, b11, b12⟩ := b
  refine ⟨fun j _ => ?_, fun j _ => ?_, fun k hk => ?_, fun i hi => ?_, fun j q1 q2 q3 q4 q5 => b9 j q1 q3 q5, fun k hk => b12 k (by omega), fun q => hJ (by rw [← b8]; exact q)⟩
  · rw [b12 67 (by omega), b12 68 (by omega)]; exact ⟨rfl, rfl⟩
  · rw [b12 71 (by omega), b12 72 (by omega)]; exact ⟨rfl, rfl⟩
  · rw [b10, et]; exact ife.symm
  · rw [b1, b2, b3, b4, b5]; simp only [if_neg (show ¬ i = N by omega)]; exact ⟨trivial, trivial, trivial, trivial, trivial⟩
theorem zu27 : LM m1 (zu m1 45 27 t) t t := ⟨zu_s, fun j h => zu_n h, fun j _ => by rw [zu_g (by decide), zu_g (by decide)]; exact ⟨rfl, rfl⟩, fun k a b c => zu_f a⟩
theorem Run.em (r : Run z s m G o t T s1 m1 G1 T1 D Z L) (b : EM (zu m1 45 27 t'') m2 N op v tk lm pm (m1 45 30 - 1) ty lx lt J') (eN : m1 45 16 = N) (hD : 1 ≤ D) (hZ : 0 ≤ Z) (et : ty = m1 69 (m1 45 30 - 1 - 1)) (hJ0 : J' = 0 → m1 45 36 = 0) (htt : t ≤ t'')
    (hcs : m2 45 36 = 0 → Tc s1 s2 o) (hT : T1 ≤ T2) (hop : ¬ (op = 10 ∨ op = 11)) (hok : m1 45 36 = 0 → J' = 0 → okI z (gs G1 (N + 1) (tyOf m2 f)) N op v tk) :
    Run z s m G o t T s2 m2 (gs G1 (N + 1) (tyOf m2 f)) T2 (D - 1) (Z + 1) (fun k => if k = lx then lt else L k) := by
  obtain ⟨⟨r1, r2, r3⟩, r4, r5, r6, r7⟩ := r
  obtain ⟨b1, b2, b3, b4, b5, b6, b7, b8, b9, b10, b11, b12⟩ := id b
  refine ⟨⟨by omega, by omega, ?_⟩, ?_, by omega, fun i hi => ?_, fun q => ?_⟩
  · rw [b9 33 (by omega) (by omega) (by omega), zu_n (by omega), r3]
  · refine (r4.tr (LM.tm (t := t'') (T := t'') (W := m 45 33) (H := m 45 30) (N := m1 45 16) zu27) htt (by omega) (by omega) (by omega)).tr (EM.tm0 (t1 := t) (W := m 45 33) (H1 := m 45 30) b ?_ ?_) (by omega) (by omega) (by omega) (by omega)
    · rw [zu_g (by decide)]; exact et
    · rw [zu_n (by omega)]; exact hJ0
  · rw [gs_n (by omega), r6 i hi]
  · have q1 := hJ0 (by omega)
    obtain ⟨j1, j2, j3⟩ := r7 q1
    refine ⟨j1.tr (hcs q) (by omega), fun k a b => ?_, ?_⟩
    · show m2 70 k = if k = lx then lt else L k
      rw [b11, zu_f (by decide), j2 k a b]
    · rw [show m 45 16 + (Z + 1) = N + 1 by omega]
      refine seg.app (mi := N) (seg.c (m := m1) (G := G1) (by rw [← eN, r1]; exact j3) (fun i a b => ?_) (fun i a b => gs_n (by omega)) (low.of (gs_n (by omega)))) ?_ (by omega)
      · rw [b1, b2, b3]
        simp only [if_neg (show ¬ i = N by omega)]
        rw [zu_g (by decide), zu_g (by decide), zu_g (by decide)]
        exact ⟨rfl, rfl, rfl⟩
      · intro i a b
        have : i = N := by omega
        subst this
        rw [b1, b2, b3]
        simp only [if_true]
        exact ⟨hok q1 (by omega), fun q => absurd q hop⟩
-- a node whose finish lays nothing
theorem cfin0 (hC : Cls z f s m G) (hJ : m 45 36 = 0 ∨ m 45 36 = 1) (ho : 0 ≤ o ∧ o < 150) (hT : 0 ≤ T ∧ T < 10000) (hw : m 45 36 = 0 → s 22 6 = o + 1 ∧ s 23 o = n ∧ s 24 o = 3) (hn : 0 ≤ n ∧ n < 150) (hK : z 10 n = 13 ∨ z 10 n = 17)
    (g : ∀ s' T', Cls z f s' m G → Fc s s' → T ≤ T' → T' ≤ T + 1 → (m 45 36 = 0 → s' 22 6 = o ∧ Tc s s' o) → w_46_102 X f T' s' Q) : w_46_102 X f T s Q := by
  obtain ⟨c1, c2, c3⟩ := id hC
  rcases hJ with q | q
  · have R := c2 q
    obtain ⟨w1, w2, w3⟩ := hw q
    refine gc_fin hT w1 ho R.1 w3 w2 (f_13 hn (by rw [zu_g (by decide), c1 10 (by omega) (by omega)]; exact hK) (w_46_169_i (g _ (T + 1) ⟨fun k a b => by rw [zu_f (by omega)]; exact c1 k a b, fun _ => ?_, fun q' => by omega⟩ (Fc.zu (by omega)) (by omega) (by omega) (fun _ => ⟨zu_s, ?_⟩))))
    · exact Rel.fr R (fun k hk => zu_f (by omega)) ⟨zu_n (by omega), zu_n (by omega)⟩ (fun k hk => rfl) (fun j hj => rfl)
    · intro j _ _
      rw [zu_f (by decide), zu_f (by decide), zu_f (by decide), zu_f (by decide)]; exact ⟨rfl, rfl, rfl, rfl⟩
  · exact g s T hC Fc.rf (by omega) (by omega) (fun q' => by omega)
end
