def low (E E' : Nat → Int → Int) : Prop := E' 0 0 = E 0 0 ∧ (∀ k, E' 1 k = E 1 k) ∧ (∀ k, E' 2 k = E 2 k ∨ E' 2 k = -1) ∧ E' 3 0 = E 3 0
theorem low.rf {E : Nat → Int → Int} : low E E := ⟨rfl, fun _ => rfl, fun _ => Or.inl rfl, rfl⟩
theorem low.of {E E' : Nat → Int → Int} (h : E' = E) : low E E' := by rw [h]; exact low.rf
theorem nx.low {E E' E'' : Nat → Int → Int} {L : Int → Int} {p q t : Int} (h : nx E E' L p q t) (l : low E' E'') : nx E E'' L p q t := by
  obtain ⟨h1, h2, h3, h4, h5, h6⟩ := h
  obtain ⟨l1, l2, l3, l4⟩ := l
  refine ⟨h1, by rw [l1, h2], fun k a b => by rw [l2, h3 k a b], fun a => by rw [l2, h4 a], fun k a b => ?_, by rw [l4, h6]⟩
  rcases l3 k with q | q
  · rw [q]; exact h5 k a b
  · exact Or.inr q
section
variable {z m m' : zS} {G G' : Int → Nat → Int → Int} {i o v tk lo mi hi : Int}
theorem okI.c (h : okI z G i o v tk) (e1 : G' i = G i) (e2 : low (G (i + 1)) (G' (i + 1))) (e3 : o = 10 ∨ o = 11 → low (G v) (G' v)) : okI z G' i o v tk := by
  obtain ⟨h0, h1, h2, h3, h4, h5, h6, h7, h8, h9, h10, h11, h12, h13, h14, h15, h16, h17, h18, h19, h20⟩ := h
  rw [okI, e1]
  refine ⟨fun q => ⟨(h0 q).1, (h0 q).2.low e2⟩, fun q => ?_, fun q => ⟨(h2 q).1, (h2 q).2.1, (h2 q).2.2.low e2⟩, fun q => ⟨(h3 q).1, (h3 q).2.1, (h3 q).2.2.low e2⟩, fun q => ⟨(h4 q).1, (h4 q).2.1, (h4 q).2.2.1, (h4 q).2.2.2.low e2⟩, fun q => ⟨(h5 q).1, (h5 q).2.low e2⟩, fun q => ⟨(h6 q).1, (h6 q).2.low e2⟩, fun q => ⟨(h7 q).1, (h7 q).2.low e2⟩, fun q => ⟨(h8 q).1, (h8 q).2.1.low e2, (h8 q).2.2.1, (h8 q).2.2.2.low (e3 (Or.inl q))⟩, fun q => ⟨(h9 q).1, (h9 q).2.low (e3 (Or.inr q))⟩, fun q => ⟨(h10 q).1, (h10 q).2.low e2⟩, fun q => ⟨(h11 q).1, (h11 q).2.1, (h11 q).2.2.1, (h11 q).2.2.2.1, (h11 q).2.2.2.2.low e2⟩, h12, fun q => ⟨(h13 q).1, (h13 q).2.1, (h13 q).2.2.low e2⟩, fun q => ⟨(h14 q).1, (h14 q).2.1, (h14 q).2.2.low e2⟩, fun q => ⟨(h15 q).1, (h15 q).2.low e2⟩, fun q => (h16 q).low e2, h17, h18, h19, h20⟩
  obtain ⟨t, ht, hn⟩ := h1 q
  exact ⟨t, ht, hn.low e2⟩
def seg (z m : zS) (G : Int → Nat → Int → Int) (lo hi : Int) : Prop := ∀ i, lo ≤ i → i < hi → okI z G i (m 58 i) (m 59 i) (m 60 i) ∧ (m 58 i = 10 ∨ m 58 i = 11 → m 59 i ≤ hi)
theorem seg.nil : seg z m G lo lo := fun i a b => by omega
theorem seg.c (h : seg z m G lo hi) (e : ∀ i, lo ≤ i → i < hi → m' 58 i = m 58 i ∧ m' 59 i = m 59 i ∧ m' 60 i = m 60 i) (e1 : ∀ i, lo ≤ i → i < hi → G' i = G i) (e2 : low (G hi) (G' hi)) : seg z m' G' lo hi := by
  intro i a b
  obtain ⟨h1, h2⟩ := h i a b
  obtain ⟨q1, q2, q3⟩ := e i a b
  rw [q1, q2, q3]
  have e3 : ∀ j, lo ≤ j → j ≤ hi → low (G j) (G' j) := fun j a b => if q : j = hi then by rw [q]; exact e2 else low.of (e1 j a (by omega))
  refine ⟨h1.c (e1 i a b) (e3 _ (by omega) (by omega)) (fun q => e3 _ ?_ (h2 q)), h2⟩
  obtain ⟨-, -, -, -, -, -, -, -, h8, h9, -⟩ := h1
  rcases q with q | q
  · have := (h8 q).2.2.1; omega
  · have := (h9 q).1; omega
theorem seg.app (h : seg z m G lo mi) (k : seg z m G mi hi) (e : mi ≤ hi) : seg z m G lo hi := by
  intro i a b
  by_cases q : i < mi
  · exact ⟨(h i a q).1, fun w => by have := (h i a q).2 w; omega⟩
  · exact k i (by omega) b
end
def Pre (z s m : zS) (n o t T w : Int) : Prop :=
  (m 45 27 = t + 1 ∧ m 67 t = w ∧ m 68 t = n) ∧ (0 ≤ t ∧ t + 5 * n ≤ 745) ∧ m 45 33 + n ≤ 150 ∧ m 45 16 + z 12 n ≤ 400 ∧ m 45 30 + z 13 n ≤ 16 ∧ (0 ≤ o ∧ o + n ≤ 149) ∧ (0 ≤ T ∧ T + 8 * z 12 n + n ≤ 9150) ∧
  (m 45 36 = 0 → s 22 6 = o + 1 ∧ s 23 o = n ∧ s 24 o = 0)
def Post (z s m : zS) (G : Int → Nat → Int → Int) (o t T : Int) (s' m' : zS) (G' : Int → Nat → Int → Int) (T' D Z : Int) : Prop :=
  (m' 45 27 = t ∧ m' 45 16 = m 45 16 + Z ∧ m' 45 30 = m 45 30 + D ∧ m' 45 33 = m 45 33) ∧ Tm m m' t (m 45 33) (m 45 30) (m 45 16) ∧ T ≤ T' ∧ (∀ i, i ≤ m 45 16 → G' i = G i) ∧
  (m' 45 36 = 0 → s' 22 6 = o ∧ Tc s s' o ∧ (∀ k, 0 ≤ k → k < 8 → m' 70 k = m 70 k) ∧ seg z m' G' (m 45 16) (m 45 16 + Z))
def Mid (z s m : zS) (G : Int → Nat → Int → Int) (n o t T : Int) (s' m' : zS) (G' : Int → Nat → Int → Int) (T' D Z w : Int) : Prop :=
  (m' 45 27 = t + 1 ∧ m' 67 t = w ∧ m' 68 t = n) ∧ (m' 45 16 = m 45 16 + Z ∧ m' 45 30 = m 45 30 + D ∧ m' 45 33 = m 45 33) ∧ Tm m m' t (m 45 33) (m 45 30) (m 45 16) ∧ T ≤ T' ∧ (∀ i, i ≤ m 45 16 → G' i = G i) ∧
  (m' 45 36 = 0 → (s' 22 6 = o + 1 ∧ s' 23 o = n ∧ s' 24 o = 3) ∧ Tc s s' o ∧ (∀ k, 0 ≤ k → k < 8 → m' 70 k = m 70 k) ∧ seg z m' G' (m 45 16) (m 45 16 + Z))
def NodeOK (z : zS) (f n : Int) : Prop := ∀ s m G T o t X Q, Cls z f s m G → Com z m → Pre z s m n o t T 0 →
  (∀ s' m' G' T', goM f m m' → Com z m' → Cls z f s' m' G' → Fc s s' → Post z s m G o t T s' m' G' T' 1 (z 12 n) → T' ≤ T + 8 * z 12 n - 4 → w_46_102 X f T' s' Q) → w_46_102 X f T s Q
def ArgOK (z : zS) (f n : Int) : Prop := ∀ s m G T o t X Q, Cls z f s m G → Com z m → Pre z s m n o t T 1 →
  (∀ s' m' G' T' (c : Nat), AR (z 54) c n → AR (fun x => z 11 (x * 3 + 1)) c n → (c : Int) ≤ z 13 n → goM f m m' → Com z m' → Cls z f s' m' G' → Fc s s' → Post z s m G o t T s' m' G' T' c (z 12 n) → T' ≤ T + 8 * z 12 n → w_46_102 X f T' s' Q) → w_46_102 X f T s Q
section
variable {z s m s1 m1 m2 : zS} {G G1 : Int → Nat → Int → Int} {f N op v pm M pl H t lx lt tk lm pmc n o T T1 J' Z D ty N1 w : Int} {X : zX} {Q : Int → zS → Prop}
theorem finish (hC : Cls z f s1 m1 G1) (hM : Com z m1) (hF : Fc s s1) (mid : Mid z s m G n o t T s1 m1 G1 T1 D Z w) (gm : goM f m m1) (ho : 0 ≤ o ∧ o < 150) (hT : 0 ≤ T1 ∧ T1 < 10000) (hZ : 0 ≤ Z) (hD : 0 ≤ D) (hH : 0 ≤ m 45 30)
    (eN : N1 = m 45 16 + Z) (eH : H = m 45 30 + 1) (hN0 : 0 ≤ m 45 16)
    (b : EM (zu m1 45 27 t) m2 N1 op v tk lm pm H ty 0 (m1 70 0) J') (gm2 : goM f m1 m2) (hJ : J' = 0 ∨ J' = 1) (hJ0 : J' = 0 → m1 45 36 = 0) (ht : tI ty)
    (hcl : Rel f s1 m1 G1 → ∀ Q : Int → zS → Prop, (J' = 0 → ∀ s', EC (zu s1 22 6 o) s' N1 op v pmc M pl H ty 0 (m1 70 0) 1 → Q 0 s') → (¬ J' = 0 → ∀ s', CI (zu s1 22 6 o) s' → Q 0 s') → w_48 X n o (zu s1 22 6 o) Q)
    (h1 : Rel f s1 m1 G1 → op = 6 ∨ op = 13 → pmc = pm ∧ lm = bm (m1 70) 8 ∧ pm = bm (m1 69) (m1 45 30).toNat) (h2 : M = s1 14 2 + (if op = 6 ∨ op = 13 then 1 else 0)) (h3 : op = 2 → pl = if m1 70 v ≤ 0 then 0 else zL 1 v) (hop : ¬ (op = 10 ∨ op = 11))
    (hok : J' = 0 → nx (G1 N1) (tyOf m2 f) (G1 N1 2) (m1 45 30 - m 45 30) 1 ty → okI z (gs G1 (N1 + 1) (tyOf m2 f)) N1 op v tk)
    (g : ∀ s' m' G' T', goM f m m' → Com z m' → Cls z f s' m' G' → Fc s s' → Post z s m G o t T s' m' G' T' 1 (Z + 1) → T' ≤ T1 + 1 → w_46_102 X f T' s' Q) : w_46_102 X f T1 s1 Q := by
  obtain ⟨⟨i1, i2, i3⟩, ⟨i4, i5, i6⟩, i7, i8, i9, i10⟩ := mid
  have hl := hM.2.2.1 0 (by omega) (by omega)
  obtain ⟨b1, b2, b3, b4, b5, b6, b7, b8, b9, b10, b11, b12⟩ := id b
  refine fin (m' := m2) hC hM ho hT (fun q => (i10 q).1) (by rw [i4, ← eN]) b hJ hJ0 ht hl (by omega) hcl h1 h2 h3 ?_
  intro s' T' hM' hC' hF' t1 t2 hw
  refine g s' m2 _ T' (gm.tr gm2) hM' hC' (hF.tr hF') ⟨⟨?_, ?_, ?_, ?_⟩, ?_, by omega, ?_, ?_⟩ t2
  · rw [b9 27 (by omega) (by omega) (by omega), zu_s]
  · omega
  · omega
  · rw [b9 33 (by omega) (by omega) (by omega), zu_n (by omega), i6]
  · refine Tm.tr (t' := t) (W' := m 45 33) (H' := m 45 30) (N' := N1) i7 (Tm.tr (b := zu m1 45 27 t) (t' := t) (W' := m 45 33) (H' := m 45 30) (N' := N1) ?_ (b.tm (by omega) (fun q => by rw [zu_n (by omega)]; exact hJ0 q)) (by omega) (by omega) (by omega) (by omega)) (by omega) (by omega) (by omega) (by omega)
    refine LM.tm (T := t) ⟨zu_s, fun j h => zu_n h, fun j _ => ?_, fun k a b c => zu_f a⟩
    rw [zu_g (by decide), zu_g (by decide)]; exact ⟨rfl, rfl⟩
  · intro i hi
    rw [gs_n (by omega), i9 i hi]
  · intro q
    have q1 := hJ0 (by omega)
    obtain ⟨j1, j2, j3, j4⟩ := i10 q1
    obtain ⟨w1, w2⟩ := hw q
    have R := hC.2.1 q1
    have e8 : G1 N1 = tyOf m1 f := by rw [show N1 = m1 45 16 by omega]; exact R.2.2.2.2.2.2.2
    have hnx : nx (G1 N1) (tyOf m2 f) (G1 N1 2) (m1 45 30 - m 45 30) 1 ty := by
      refine nx.L (nx_of (f := f) b (p := m1 45 30 - m 45 30) (q := 1) ?_ ?_ ?_ ?_ ?_ (Or.inr rfl)) ?_
      · rw [e8, zu_n (by omega)]; rfl
      · intro k; rw [e8, zu_g (by decide)]; rfl
      · rw [e8]; rfl
      · rw [zu_n (by omega)]; omega
      · rw [zu_n (by omega)]; omega
      · intro k _ _
        rw [e8, zu_f (by decide)]
        show (if k = 0 then m1 70 0 else m1 70 k) = m1 70 k
        exact ife.symm
    refine ⟨w1, j2.tr w2 (by omega), fun k a b => ?_, ?_⟩
    · rw [b11, zu_f (by decide), ← j3 k a b]; exact ife.symm
    · rw [show m 45 16 + (Z + 1) = N1 + 1 by omega]
      refine seg.app (mi := N1) (seg.c (m := m1) (G := G1) (by rw [eN]; exact j4) (fun i a b => ?_) (fun i a b => gs_n (by omega)) (low.of (gs_n (by omega)))) ?_ (by omega)
      · rw [b1, b2, b3]
        simp only [if_neg (show ¬ i = N1 by omega)]
        rw [zu_g (by decide), zu_g (by decide), zu_g (by decide)]
        exact ⟨rfl, rfl, rfl⟩
      · intro i a b
        have : i = N1 := by omega
        subst this
        rw [b1, b2, b3]
        simp only [if_true]
        exact ⟨hok (by omega) hnx, fun q => absurd q hop⟩
end
