section
variable {z s m m' m0 s0 : zS} {G : Int → Nat → Int → Int} {f N op v pm M pl H t lx lt tk lm pmc n o T t0 J' k K P ch : Int} {X : zX} {Q : Int → zS → Prop}
-- a part that is no node
theorem cskip (hC : Cls z f s m G) (hJ : m 45 36 = 0 ∨ m 45 36 = 1) (ho : 0 ≤ o ∧ o < 150) (hT : 0 ≤ T ∧ T < 10000)
    (hw : m 45 36 = 0 → s 22 6 = o + 1 ∧ s 23 o = n ∧ s 24 o = k) (hn : 0 ≤ n ∧ n < 150) (hK : z 10 n = K) (hK' : 0 ≤ K ∧ K ≤ 17) (hk : 0 ≤ k ∧ k < 3) (eP : zP (K * 3 + k) = P) (hP : 0 ≤ P ∧ P ≤ 5) (ec : z 11 (n * 3 + k) = ch) (hc : ¬ (P = 4 ∨ P = 5) ∨ ch = -1)
    (g : ∀ s' T', Cls z f s' m G → Fc s s' → T ≤ T' → T' ≤ T + 1 → (m 45 36 = 0 → (s' 22 6 = o + 1 ∧ s' 23 o = n ∧ s' 24 o = k + 1) ∧ s' 25 o = s 25 o ∧ s' 26 o = s 26 o ∧ Tc s s' o) → w_46_102 X f T' s' Q) : w_46_102 X f T s Q := by
  obtain ⟨c1, c2, c3⟩ := id hC
  rcases hJ with q | q
  · have R := c2 q
    obtain ⟨w1, w2, w3⟩ := hw q
    refine gc_down hT w1 ho R.1 w3 hk (p_61 (K := K) (P := P) (ch := ch) ho w2 w3 hn (by rw [c1 10 (by omega) (by omega)]; exact hK) hK' hk eP hP (by rw [c1 11 (by omega) (by omega)]; exact ec) (fun h => by omega) (fun h h' => by omega) (fun _ => w_46_169_i (g _ (T + 1) ⟨fun k a b => ?_, fun _ => ?_, fun q' => by omega⟩ (Fc.zu (by omega)) (by omega) (by omega) (fun _ => ?_))))
    · rw [zu_f (by omega), c1 k a b]
    · exact Rel.fr R (fun k hk => zu_f (by omega)) ⟨zu_g (by decide), zu_g (by decide)⟩ (fun k hk => rfl) (fun j hj => rfl)
    · refine ⟨⟨by rw [zu_g (by decide), w1], by rw [zu_g (by decide), w2], zu_s⟩, zu_g (by decide), zu_g (by decide), ?_⟩
      intro j h0 hj
      rw [zu_g (by decide), zu_n (by omega), zu_g (by decide), zu_g (by decide)]
      exact ⟨rfl, rfl, rfl, rfl⟩
  · exact g s T hC Fc.rf (by omega) (by omega) (fun q' => by omega)
theorem begun (eo : s 22 6 = o + 1) : (zu (zu (zu s 23 (o + 1) ch) 24 (o + 1) 0) 22 6 (o + 1 + 1)) 22 6 = o + 2 ∧ (zu (zu (zu s 23 (o + 1) ch) 24 (o + 1) 0) 22 6 (o + 1 + 1)) 23 (o + 1) = ch ∧ (zu (zu (zu s 23 (o + 1) ch) 24 (o + 1) 0) 22 6 (o + 1 + 1)) 24 (o + 1) = 0 ∧ Fc s (zu (zu (zu s 23 (o + 1) ch) 24 (o + 1) 0) 22 6 (o + 1 + 1)) ∧ Tc s (zu (zu (zu s 23 (o + 1) ch) 24 (o + 1) 0) 22 6 (o + 1 + 1)) (o + 1) := by
  refine ⟨by simp [zu]; omega, by simp [zu], by simp [zu], Fc.tr (Fc.zu (by omega)) (Fc.tr (Fc.zu (by omega)) (Fc.zu (by omega))), ?_⟩
  intro j h0 hj
  have : ¬ j = o + 1 := by omega
  simp [zu, this]
theorem Rel.bg (R : Rel f s m G) : Rel f (zu (zu (zu s 23 (o + 1) ch) 24 (o + 1) 0) 22 6 (o + 1 + 1)) m G := Rel.fr R (fun k hk => by rw [zu_f (by omega), zu_f (by omega), zu_f (by omega)]) ⟨by simp [zu], by simp [zu]⟩ (fun k hk => rfl) (fun j hj => rfl)
-- a part that is a node, and nothing is laid before it
theorem cdown (hC : Cls z f s m G) (hJ : m 45 36 = 0 ∨ m 45 36 = 1) (ho : 0 ≤ o ∧ o < 149) (hT : 0 ≤ T ∧ T < 10000)
    (hw : m 45 36 = 0 → s 22 6 = o + 1 ∧ s 23 o = n ∧ s 24 o = k) (hn : 0 ≤ n ∧ n < 150) (hK : z 10 n = K) (hK' : 0 ≤ K ∧ K ≤ 17) (hk : 0 ≤ k ∧ k < 3) (eP : zP (K * 3 + k) = P) (hP : P = 4 ∨ P = 5) (ec : z 11 (n * 3 + k) = ch) (hc : 0 ≤ ch ∧ ch < 150) (hs : ¬ (K = 10 ∧ 1 ≤ k) ∧ ¬ (K = 11 ∧ k = 2) ∧ ¬ (K = 17 ∧ k = 1))
    (g : ∀ s' T', Cls z f s' m G → Fc s s' → T ≤ T' → T' ≤ T + 1 → (m 45 36 = 0 → (s' 22 6 = o + 2 ∧ s' 23 (o + 1) = ch ∧ s' 24 (o + 1) = 0) ∧ (s' 23 o = n ∧ s' 24 o = k + 1) ∧ s' 25 o = s 25 o ∧ s' 26 o = s 26 o ∧ Tc s s' o) → w_46_102 X f T' s' Q) : w_46_102 X f T s Q := by
  obtain ⟨c1, c2, c3⟩ := id hC
  rcases hJ with q | q
  · have R := c2 q
    obtain ⟨w1, w2, w3⟩ := hw q
    refine gc_down hT w1 (by omega) R.1 w3 hk (p_61 (K := K) (P := P) (ch := ch) (by omega) w2 w3 hn (by rw [c1 10 (by omega) (by omega)]; exact hK) hK' hk eP (by omega) (by rw [c1 11 (by omega) (by omega)]; exact ec) (fun h => by omega) (fun h h' => ?_) (fun h => absurd ⟨hP, hc.1⟩ h))
    refine p_62n (K := K) hn (by rw [zu_g (by decide), c1 10 (by omega) (by omega)]; exact hK) hK' hk hs (p_47 (o + 1) (by rw [zu_g (by decide)]; exact w1) (by omega) (w_46_169_i ?_))
    have w1' : zu s 24 o (k + 1) 22 6 = o + 1 := by rw [zu_g (by decide)]; exact w1
    obtain ⟨d1, d2, d3, d4, d5⟩ := begun (ch := ch) w1'
    refine g _ (T + 1) ⟨fun k a b => ?_, fun _ => ?_, fun q' => by omega⟩ (Fc.tr (Fc.zu (by omega)) d4) (by omega) (by omega) (fun _ => ?_)
    · rw [d4.1 k (by omega), zu_f (by omega), c1 k a b]
    · exact Rel.bg (Rel.fr R (fun k hk => zu_f (by omega)) ⟨zu_g (by decide), zu_g (by decide)⟩ (fun k hk => rfl) (fun j hj => rfl))
    · obtain ⟨e1, e2, e3, e4⟩ := d5 o (by omega) (by omega)
      refine ⟨⟨d1, d2, d3⟩, ⟨by rw [e1, zu_g (by decide), w2], by rw [e2, zu_s]⟩, by rw [e3, zu_g (by decide)], by rw [e4, zu_g (by decide)], ?_⟩
      refine Tc.tr (o' := o + 1) ?_ d5 (by omega)
      intro j h0 hj
      rw [zu_g (by decide), zu_n (by omega), zu_g (by decide), zu_g (by decide)]
      exact ⟨rfl, rfl, rfl, rfl⟩
  · exact g s T hC Fc.rf (by omega) (by omega) (fun q' => by omega)
-- a part that is a node, and one instruction is laid before it
theorem cemit (hC : Cls z f s m G) (hM : Com z m) (hM0 : Com z m0) (ho : 0 ≤ o ∧ o < 149) (hT : 0 ≤ T ∧ T < 10000)
    (hw : m 45 36 = 0 → s 22 6 = o + 1 ∧ s 23 o = n ∧ s 24 o = k) (hn : 0 ≤ n ∧ n < 150) (hK : z 10 n = K) (hK' : 0 ≤ K ∧ K ≤ 17) (hk : 0 ≤ k ∧ k < 3) (eP : zP (K * 3 + k) = P) (hP : P = 4 ∨ P = 5) (ec : z 11 (n * 3 + k) = ch) (hc : 0 ≤ ch ∧ ch < 150)
    (hN : m0 45 16 = N) (hJm : m0 45 36 = m 45 36)
    (b : EM m0 m' N op v tk lm pm H t lx lt J') (hJ : J' = 0 ∨ J' = 1) (hJ0 : J' = 0 → m 45 36 = 0) (ht : 0 < H → tI t) (hl : -1 ≤ lt ∧ lt ≤ 7) (hH : 0 ≤ H ∧ H ≤ m0 45 30 + 1)
    (hs0 : m 45 36 = 0 → Fc s s0 ∧ s0 22 6 = s 22 6 ∧ s0 23 o = n ∧ s0 24 o = k + 1 ∧ Tc s s0 o)
    (hR0 : Rel f s m G → Rel f s0 m0 G)
    (hcl : Rel f s m G → ∀ Q : Int → zS → Prop, (J' = 0 → ∀ s', EC s0 s' N op v pmc M pl H t lx lt 1 → Q 0 s') → (¬ J' = 0 → ∀ s', CI s0 s' → Q 0 s') → w_62 X n k o (zu s 24 o (k + 1)) Q)
    (h1 : ¬ (op = 6 ∨ op = 13) ∧ ¬ op = 2) (h2 : M = s0 14 2)
    (g : ∀ s' T', Com z m' → Cls z f s' m' (gs G (N + 1) (tyOf m' f)) → Fc s s' → T ≤ T' → T' ≤ T + 1 → (m' 45 36 = 0 → (s' 22 6 = o + 2 ∧ s' 23 (o + 1) = ch ∧ s' 24 (o + 1) = 0) ∧ (s' 23 o = n ∧ s' 24 o = k + 1) ∧ s' 25 o = s0 25 o ∧ s' 26 o = s0 26 o ∧ Tc s s' o) → w_46_102 X f T' s' Q) : w_46_102 X f T s Q := by
  have hM' : Com z m' := Com.emit hM0 b (by rw [← hN]; exact hM0.2.2.2.2.1) hJ ht hl hH
  have bJ : m' 45 36 = J' := b.2.2.2.2.2.2.2.1
  obtain ⟨c1, c2, c3⟩ := id hC
  rcases hM.2.2.2.1 with q | q
  · have R := c2 q
    obtain ⟨w1, w2, w3⟩ := hw q
    obtain ⟨u1, u2, u3, u4, u5⟩ := hs0 q
    refine gc_down hT w1 (by omega) R.1 w3 hk (p_61 (K := K) (P := P) (ch := ch) (by omega) w2 w3 hn (by rw [c1 10 (by omega) (by omega)]; exact hK) hK' hk eP (by omega) (by rw [c1 11 (by omega) (by omega)]; exact ec) (fun h => by omega) (fun h h' => hcl R _ ?_ ?_) (fun h => absurd ⟨hP, hc.1⟩ h))
    · intro j0 s' a
      have a' := a
      obtain ⟨a1, a2, a3, a4, a5, a6, a7, a8, a9, a10, a11, a12, a13⟩ := a'
      have w1' : s' 22 6 = o + 1 := by rw [a10, u2, w1]
      obtain ⟨d1, d2, d3, d4, d5⟩ := begun (ch := ch) w1'
      refine p_47 (o + 1) w1' (by omega) (w_46_169_i (g _ (T + 1) hM' ⟨fun k a b => ?_, fun _ => ?_, fun q' => by omega⟩ (Fc.tr u1 (Fc.tr a.fc d4)) (by omega) (by omega) (fun _ => ?_)))
      · rw [d4.1 k (by omega), a13 k (by omega), u1.1 k (by omega), c1 k (by omega) (by omega)]
      · subst j0
        exact Rel.bg (Rel.emit (hR0 R) (hM0.2.2.2.2.1) hN a b hH (fun h => by omega) (by rw [h2, if_neg h1.1, Int.add_zero]) (fun h => by omega))
      · obtain ⟨e1, e2, e3, e4⟩ := d5 o (by omega) (by omega)
        refine ⟨⟨d1, d2, d3⟩, ⟨by rw [e1, a13 23 (by omega), u3], by rw [e2, a13 24 (by omega), u4]⟩, by rw [e3, a13 25 (by omega)], by rw [e4, a13 26 (by omega)], Tc.tr u5 (Tc.tr (o' := o + 1) (o := o) a.tc d5 (by omega)) (by omega)⟩
    · intro j0 s' a
      have w1' : s' 22 6 = o + 1 := by rw [a.2.1.2, u2, w1]
      obtain ⟨d1, d2, d3, d4, d5⟩ := begun (ch := ch) w1'
      refine p_47 (o + 1) w1' (by omega) (w_46_169_i (g _ (T + 1) hM' ⟨fun k a' b => ?_, fun q' => by omega, fun _ => ?_⟩ (Fc.tr u1 (Fc.tr ⟨a.2.2, a.2.1.1⟩ d4)) (by omega) (by omega) (fun q' => by omega)))
      · rw [d4.1 k (by omega), a.2.2 k (by omega), u1.1 k (by omega), c1 k (by omega) (by omega)]
      · exact ⟨by simp [zu, a.1], by rw [d1]; exact ⟨by omega, by omega⟩⟩
  · exact g s T hM' ⟨c1, fun q' => by omega, fun _ => c3 q⟩ Fc.rf (by omega) (by omega) (fun q' => by omega)
end
