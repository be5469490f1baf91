def Run (z s m : zS) (G : Int → Nat → Int → Int) (o t T : Int) (s' m' : zS) (G' : Int → Nat → Int → Int) (T' D Z : Int) (L : Int → Int) : Prop :=
  (m' 45 16 = m 45 16 + Z ∧ m' 45 30 = m 45 30 + D ∧ m' 45 33 = m 45 33) ∧ Tm m m' t (m 45 33) (m 45 30) (m 45 16) ∧ T ≤ T' ∧ (∀ i, i ≤ m 45 16 → G' i = G i) ∧
  (m' 45 36 = 0 → Tc s s' o ∧ (∀ k, 0 ≤ k → k < 8 → m' 70 k = L k) ∧ seg z m' G' (m 45 16) (m 45 16 + Z))
section
variable {z s m s1 m1 s2 m2 : zS} {G G1 G2 : Int → Nat → Int → Int} {f t t' n x o o' T T1 T2 D D' Z Z' : Int} {L : Int → Int} {X : zX} {Q : Int → zS → Prop}
theorem Run.rf (h : 0 ≤ T) : Run z s m G o t T s m G T 0 0 (m 70) := ⟨⟨by omega, by omega, rfl⟩, Tm.rf, by omega, fun _ _ => rfl, fun _ => ⟨Tc.rf, fun _ _ _ => rfl, by rw [Int.add_zero]; exact seg.nil⟩⟩
-- the work list, or the node at hand, alone has changed
theorem Run.lm (r : Run z s m G o t T s1 m1 G1 T1 D Z L) {TT tt : Int} (h : LM m1 m2 tt TT) (e : t ≤ tt) : Run z s m G o t T s1 m2 G1 T1 D Z L := by
  obtain ⟨⟨r1, r2, r3⟩, r4, r5, r6, r7⟩ := r
  obtain ⟨h1, h2, h3, h4⟩ := id h
  refine ⟨⟨by rw [h2 16 (by omega)]; exact r1, by rw [h2 30 (by omega)]; exact r2, by rw [h2 33 (by omega)]; exact r3⟩, r4.tr (LM.tm (W := m 45 33) (H := m 45 30) (N := m 45 16) h) e (by omega) (by omega) (by omega), r5, r6, fun q => ?_⟩
  rw [h2 36 (by omega)] at q
  obtain ⟨q1, q2, q3⟩ := r7 q
  refine ⟨q1, ?_, ?_⟩
  · rw [h4 70 (by omega) (by omega) (by omega)]; exact q2
  · refine seg.c q3 (fun i _ _ => ?_) (fun _ _ _ => rfl) low.rf
    rw [h4 58 (by omega) (by omega) (by omega), h4 59 (by omega) (by omega) (by omega), h4 60 (by omega) (by omega) (by omega)]
    exact ⟨rfl, rfl, rfl⟩
theorem Run.cl (r : Run z s m G o t T s1 m1 G1 T1 D Z L) (h : m1 45 36 = 0 → Tc s1 s2 o) (e : T1 ≤ T2) : Run z s m G o t T s2 m1 G1 T2 D Z L := by
  obtain ⟨r1, r4, r5, r6, r7⟩ := r
  refine ⟨r1, r4, by omega, r6, fun q => ?_⟩
  obtain ⟨q1, q2, q3⟩ := r7 q
  exact ⟨q1.tr (h q) (by omega), q2, q3⟩
theorem Run.post (r : Run z s m G o t T s1 m1 G1 T1 D Z L) (p : Post z s1 m1 G1 o' t' T1 s2 m2 G2 T2 D' Z') (ho : o ≤ o') (ht : t ≤ t') (hD : 0 ≤ D) (hZ : 0 ≤ Z) (hZ' : 0 ≤ Z') : Run z s m G o t T s2 m2 G2 T2 (D + D') (Z + Z') L := by
  obtain ⟨⟨r1, r2, r3⟩, r4, r5, r6, r7⟩ := r
  obtain ⟨⟨p0, p1, p2, p3⟩, p4, p5, p6, p7⟩ := p
  refine ⟨⟨by omega, by omega, by omega⟩, r4.tr p4 ht (by omega) (by omega) (by omega), by omega, fun i hi => by rw [p6 i (by omega), r6 i hi], fun q => ?_⟩
  obtain ⟨q1, q2, q3, q4⟩ := p7 q
  obtain ⟨w1, w2, w3⟩ := r7 (p4.2.2.2.2.2.2 q)
  refine ⟨w1.tr q2 ho, fun k a b => by rw [q3 k a b, w2 k a b], ?_⟩
  rw [show m 45 16 + (Z + Z') = m1 45 16 + Z' by omega]
  refine seg.app (mi := m1 45 16) (seg.c (m := m1) (G := G1) (by rw [r1]; exact w3) (fun i a b => ?_) (fun i a b => p6 i (by omega)) (low.of (p6 _ (by omega)))) q4 (by omega)
  have := p4.2.2.2.1 i b
  exact ⟨this.1, this.2.1, this.2.2.1⟩
theorem run_kid (ih : NodeOK z f x) (hC : Cls z f s1 m1 G1) (hM : Com z m1) (hF : Fc s s1) (gm : goM f m m1) (run : Run z s m G o t T s1 m1 G1 T1 D Z L)
    (et : m1 45 27 = t' + 1 ∧ m1 67 t' = 0 ∧ m1 68 t' = x) (ht : 0 ≤ t ∧ t ≤ t' ∧ t' + 5 * x ≤ 745) (h1 : m 45 33 + x ≤ 150) (h2 : m 45 16 + Z + z 12 x ≤ 400) (h3 : m 45 30 + D + z 13 x ≤ 16) (h4 : 0 ≤ o ∧ o + 1 + x ≤ 149) (h5 : 0 ≤ T1 ∧ T1 + 8 * z 12 x + x ≤ 9150) (h6 : 0 ≤ D ∧ 0 ≤ Z ∧ 0 ≤ z 12 x)
    (hw : m1 45 36 = 0 → s1 22 6 = o + 2 ∧ s1 23 (o + 1) = x ∧ s1 24 (o + 1) = 0)
    (g : ∀ s2 m2 G2 T2, Cls z f s2 m2 G2 → Com z m2 → Fc s s2 → goM f m m2 → Run z s m G o t T s2 m2 G2 T2 (D + 1) (Z + z 12 x) L → m2 45 27 = t' → (∀ j, j < t' → m2 67 j = m1 67 j ∧ m2 68 j = m1 68 j) → T1 ≤ T2 → T2 ≤ T1 + 8 * z 12 x - 4 →
      (m2 45 36 = 0 → m1 45 36 = 0 ∧ s2 22 6 = o + 1 ∧ s2 23 o = s1 23 o ∧ s2 24 o = s1 24 o) → w_46_102 X f T2 s2 Q) : w_46_102 X f T1 s1 Q := by
  obtain ⟨⟨r1, r2, r3⟩, r4, r5, r6, r7⟩ := id run
  refine ih s1 m1 G1 T1 (o + 1) t' X Q hC hM ⟨et, ⟨by omega, by omega⟩, by omega, by omega, by omega, ⟨by omega, by omega⟩, h5, fun q => ?_⟩ ?_
  · have := hw q; exact ⟨by omega, this.2⟩
  · intro s2 m2 G2 T2 gm2 hM2 hC2 hF2 p hT
    refine g s2 m2 G2 T2 hC2 hM2 (hF.tr hF2) (gm.tr gm2) (run.post p (by omega) (by omega) h6.1 h6.2.1 h6.2.2) p.1.1 p.2.1.1 p.2.2.1 hT (fun q => ?_)
    obtain ⟨q1, q2, q3⟩ := p.2.2.2.2 q
    have q4 := q2 o (by omega) (by omega)
    exact ⟨p.2.1.2.2.2.2.2.2 q, q1, q4.1, q4.2.1⟩
theorem LM.com {tt TT : Int} (hM : Com z m1) (h : LM m1 m2 tt TT) : Com z m2 := by
  obtain ⟨h1, h2, h3, h4⟩ := h
  exact hM.fr (fun k a b => h4 k (by omega) (by omega) (by omega)) (h4 69 (by omega) (by omega) (by omega)) (h4 70 (by omega) (by omega) (by omega)) (fun j hj => h2 j (by omega)) (by rw [h2 33 (by omega)]; exact hM.2.2.2.2.2.2)
theorem LM.cls {tt TT : Int} (hC : Cls z f s1 m1 G1) (h : LM m1 m2 tt TT) : Cls z f s1 m2 G1 := by
  obtain ⟨h1, h2, h3, h4⟩ := h
  refine ⟨hC.1, fun q => ?_, fun q => ?_⟩
  · rw [h2 36 (by omega)] at q
    exact (hC.2.1 q).fr (fun _ _ => rfl) ⟨rfl, rfl⟩ (fun k hk => h4 k (by omega) (by omega) (by omega)) (fun j hj => h2 j (by omega))
  · rw [h2 36 (by omega)] at q
    exact hC.2.2 q
end
section
variable {z s m : zS} {G : Int → Nat → Int → Int} {f t n o T a b c K : Int} {X : zX} {Q : Int → zS → Prop}
-- parts a and b are nodes
set_option maxHeartbeats 1000000 in
theorem kids2 (S : Src z) (ia : NodeOK z f a) (ib : NodeOK z f b) (hn : 0 ≤ n ∧ n < z 3 11) (hC : Cls z f s m G) (hM : Com z m) (P : Pre z s m n o t T 0) (hK : z 10 n = K) (hK' : K = 3 ∨ K = 4 ∨ K = 5 ∨ K = 14 ∨ K = 15) (ea : z 11 (n * 3 + 0) = a) (eb : z 11 (n * 3 + 1) = b) (hZ : z 12 n ≤ 400)
    (g : ∀ s' m' G' T', Cls z f s' m' G' → Com z m' → Fc s s' → goM f m m' → Mid z s m G n o t T s' m' G' T' 2 (z 12 a + z 12 b) 2 → T' ≤ T + 8 * (z 12 a + z 12 b) - 5 → w_46_102 X f T' s' Q) : w_46_102 X f T s Q := by
  obtain ⟨⟨p1, p2, p3⟩, ⟨p4, p5⟩, p6, p7, p8, ⟨p9, p10⟩, ⟨p11, p12⟩, p13⟩ := P
  obtain ⟨S1, S2, S3, S4, S5, S6⟩ := S
  obtain ⟨k1, k2, k3, k4, k5, -, -, -, nd⟩ := S6 n hn.1 hn.2
  rw [hK, ea, eb] at nd
  obtain ⟨-, -, -, d3, -, -, -, -, -, -, -, d11, d12⟩ := nd
  obtain ⟨⟨xa1, xa2, xa3⟩, ⟨xb1, xb2, xb3⟩, e12, e13⟩ := d3 hK'
  obtain ⟨-, -, -, -, -, -, -, -, nda⟩ := S6 a xa1 (by omega)
  obtain ⟨-, -, -, -, -, -, -, -, -, -, -, da11, da12⟩ := nda
  obtain ⟨-, -, -, -, -, -, -, -, ndb⟩ := S6 b xb1 (by omega)
  obtain ⟨-, -, -, -, -, -, -, -, -, -, -, db11, db12⟩ := ndb
  have mz := hM.1
  have E1 : z 12 n = z 12 a + z 12 b + 1 := by omega
  have E2 : z 13 a ≤ z 13 n ∧ 1 + z 13 b ≤ z 13 n := by omega
  clear e12 e13 d3
  obtain ⟨m1, ⟨L, l1, l2, l3, l4, l5, l6⟩, gm⟩ := v_two (f := f) (a := a) (b := b) p1 (by omega) p2 p3 (by omega) (by rw [mz 52 (by omega) (by omega), k1]; exact hK) hK' (by rw [mz 53 (by omega) (by omega), k3]; exact ea) (by rw [mz 54 (by omega) (by omega), k4]; exact eb)
  have M1 := L.com hM
  have C1 := L.cls hC
  have R1 := (Run.rf (z := z) (s := s) (m := m) (G := G) (o := o) (t := t) p11).lm L (by omega)
  have J1 : m1 45 36 = m 45 36 := L.2.1 36 (by omega)
  have hPz : zP (K * 3 + 0) = 4 ∧ zP (K * 3 + 1) = 4 ∧ zP (K * 3 + 2) = 0 := by rcases hK' with rfl | rfl | rfl | rfl | rfl <;> decide
  have hK0 : 0 ≤ K ∧ K ≤ 17 := by omega
  have hs : ∀ k : Int, ¬ (K = 10 ∧ 1 ≤ k) ∧ ¬ (K = 11 ∧ k = 2) ∧ ¬ (K = 17 ∧ k = 1) := by intro k; omega
  clear hK'
  refine cdown (k := 0) (K := K) (o := o) (n := n) C1 M1.2.2.2.1 (by omega) (by omega) (fun q => p13 (by rw [← J1]; exact q)) (by omega) hK hK0 (by omega) hPz.1 (Or.inl rfl) ea (by omega) (hs 0) ?_
  intro s2 T2 C2 F2 t2 t2' w2
  refine run_kid ia C2 M1 F2 gm (R1.cl (fun q => (w2 q).2.2.2.2) t2) (t' := t + 2) ⟨by rw [L.1]; omega, l5, l6⟩ (by omega) (by omega) (by omega) (by omega) (by omega) (by omega) (by omega) (fun q => (w2 q).1) ?_
  intro s3 m3 G3 T3 C3 M3 F3 gm3 R3 e3 st3 t3 t3' w3
  refine cdown (k := 1) (K := K) (o := o) (n := n) C3 M3.2.2.2.1 (by omega) (by omega) (fun q => ?_) (by omega) hK hK0 (by omega) hPz.2.1 (Or.inl rfl) eb (by omega) (hs 1) ?_
  · obtain ⟨q1, q2, q3, q4⟩ := w3 q
    exact ⟨q2, by rw [q3]; exact (w2 q1).2.1.1, by rw [q4]; exact (w2 q1).2.1.2⟩
  intro s4 T4 C4 F4 t4 t4' w4
  refine run_kid ib C4 M3 (F3.tr F4) gm3 (R3.cl (fun q => (w4 q).2.2.2.2) t4) (t' := t + 1) ⟨by rw [e3]; omega, by rw [(st3 _ (by omega)).1]; exact l3, by rw [(st3 _ (by omega)).2]; exact l4⟩ (by omega) (by omega) (by omega) (by omega) (by omega) (by omega) (by omega) (fun q => (w4 q).1) ?_
  intro s5 m5 G5 T5 C5 M5 F5 gm5 R5 e5 st5 t5 t5' w5
  refine cskip (k := 2) (K := K) (o := o) (n := n) C5 M5.2.2.2.1 (by omega) (by omega) (fun q => ?_) (by omega) hK hK0 (by omega) hPz.2.2 (by omega) rfl (by omega) ?_
  · obtain ⟨q1, q2, q3, q4⟩ := w5 q
    exact ⟨q2, by rw [q3]; exact (w4 q1).2.1.1, by rw [q4]; exact (w4 q1).2.1.2⟩
  intro s6 T6 C6 F6 t6 t6' w6
  obtain ⟨u1, u2, u3, u4, u5⟩ := R5.cl (fun q => (w6 q).2.2.2) t6
  refine g s6 m5 G5 T6 C6 M5 (F5.tr F6) gm5 ⟨⟨e5, ?_, ?_⟩, ⟨by omega, by omega, u1.2.2⟩, u2, u3, u4, fun q => ⟨⟨(w6 q).1.1, (w6 q).1.2.1, (w6 q).1.2.2⟩, (u5 q).1, (u5 q).2.1, ?_⟩⟩ (by omega)
  · rw [(st5 _ (by omega)).1, (st3 _ (by omega)).1]; exact l1
  · rw [(st5 _ (by omega)).2, (st3 _ (by omega)).2]; exact l2
  · rw [show z 12 a + z 12 b = 0 + z 12 a + z 12 b by omega]; exact (u5 q).2.2
end
