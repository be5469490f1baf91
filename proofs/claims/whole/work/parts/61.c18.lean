section
variable {z s m : zS} {G : Int → Nat → Int → Int} {f t n o T a b c K : Int} {X : zX} {Q : Int → zS → Prop}
theorem kids1 (S : Src z) (ia : NodeOK z f a) (hn : 0 ≤ n ∧ n < z 3 11) (hC : Cls z f s m G) (hM : Com z m) (P : Pre z s m n o t T 0) (hK : z 10 n = K) (hK' : K = 7 ∨ K = 8 ∨ K = 9 ∨ K = 16) (ea : z 11 (n * 3 + 0) = a) (hZ : z 12 n ≤ 400)
    (g : ∀ s' m' G' T', Cls z f s' m' G' → Com z m' → Fc s s' → goM f m m' → Mid z s m G n o t T s' m' G' T' 1 (z 12 a) 2 → T' ≤ T + 8 * z 12 a - 1 → w_46_102 X f T' s' Q) : w_46_102 X f T s Q := by
  obtain ⟨⟨p1, p2, p3⟩, ⟨p4, p5⟩, p6, p7, p8, ⟨p9, p10⟩, ⟨p11, p12⟩, p13⟩ := P
  obtain ⟨S1, S2, S3, S4, S5, S6⟩ := S
  obtain ⟨k1, k2, k3, k4, k5, -, -, -, nd⟩ := S6 n hn.1 hn.2
  rw [hK, ea] at nd
  obtain ⟨-, -, -, -, -, d5, -, -, -, -, -, d11, d12⟩ := nd
  obtain ⟨⟨xa1, xa2, xa3⟩, e12, e13⟩ := d5 hK'
  obtain ⟨-, -, -, -, -, -, -, -, nda⟩ := S6 a xa1 (by omega)
  obtain ⟨-, -, -, -, -, -, -, -, -, -, -, da11, da12⟩ := nda
  have mz := hM.1
  have E1 : z 12 n = z 12 a + 1 := by omega
  clear e12 d5
  obtain ⟨m1, ⟨L, l1, l2, l3, l4⟩, gm⟩ := v_one (f := f) (a := a) p1 (by omega) p2 p3 (by omega) (by rw [mz 52 (by omega) (by omega), k1]; exact hK) hK' (by rw [mz 53 (by omega) (by omega), k3]; exact ea)
  have M1 := L.com hM
  have C1 := L.cls hC
  have R1 := (Run.rf (z := z) (s := s) (m := m) (G := G) (o := o) (t := t) p11).lm L (by omega)
  have J1 : m1 45 36 = m 45 36 := L.2.1 36 (by omega)
  have hPz : zP (K * 3 + 0) = 4 ∧ zP (K * 3 + 1) = 0 ∧ zP (K * 3 + 2) = 0 := by rcases hK' with rfl | rfl | rfl | rfl <;> decide
  have hK0 : 0 ≤ K ∧ K ≤ 17 := by omega
  have hs : ∀ k : Int, ¬ (K = 10 ∧ 1 ≤ k) ∧ ¬ (K = 11 ∧ k = 2) ∧ ¬ (K = 17 ∧ k = 1) := by intro k; omega
  clear hK'
  refine cdown (k := 0) (K := K) (o := o) (n := n) C1 M1.2.2.2.1 (by omega) (by omega) (fun q => p13 (by rw [← J1]; exact q)) (by omega) hK hK0 (by omega) hPz.1 (Or.inl rfl) ea (by omega) (hs 0) ?_
  intro s2 T2 C2 F2 t2 t2' w2
  refine run_kid ia C2 M1 F2 gm (R1.cl (fun q => (w2 q).2.2.2.2) t2) (t' := t + 1) ⟨by rw [L.1]; omega, l3, l4⟩ (by omega) (by omega) (by omega) (by omega) (by omega) (by omega) (by omega) (fun q => (w2 q).1) ?_
  intro s3 m3 G3 T3 C3 M3 F3 gm3 R3 e3 st3 t3 t3' w3
  refine cskip (k := 1) (K := K) (o := o) (n := n) C3 M3.2.2.2.1 (by omega) (by omega) (fun q => ?_) (by omega) hK hK0 (by omega) hPz.2.1 (by omega) rfl (by omega) ?_
  · obtain ⟨q1, q2, q3, q4⟩ := w3 q
    exact ⟨q2, by rw [q3]; exact (w2 q1).2.1.1, by rw [q4]; exact (w2 q1).2.1.2⟩
  intro s4 T4 C4 F4 t4 t4' w4
  refine cskip (k := 2) (K := K) (o := o) (n := n) C4 M3.2.2.2.1 (by omega) (by omega) (fun q => (w4 q).1) (by omega) hK hK0 (by omega) hPz.2.2 (by omega) rfl (by omega) ?_
  intro s6 T6 C6 F6 t6 t6' w6
  obtain ⟨u1, u2, u3, u4, u5⟩ := (R3.cl (fun q => (w4 q).2.2.2) t4).cl (fun q => (w6 q).2.2.2) t6
  refine g s6 m3 G3 T6 C6 M3 ((F3.tr F4).tr F6) gm3 ⟨⟨e3, ?_, ?_⟩, ⟨by omega, by omega, u1.2.2⟩, u2, u3, u4, fun q => ⟨(w6 q).1, (u5 q).1, (u5 q).2.1, ?_⟩⟩ (by omega)
  · rw [(st3 _ (by omega)).1]; exact l1
  · rw [(st3 _ (by omega)).2]; exact l2
  · rw [show z 12 a = 0 + z 12 a by omega]; exact (u5 q).2.2
theorem kidsP (S : Src z) (ib : NodeOK z f b) (ic : NodeOK z f c) (hn : 0 ≤ n ∧ n < z 3 11) (hC : Cls z f s m G) (hM : Com z m) (P : Pre z s m n o t T 0) (hK : z 10 n = 6) (eb : z 11 (n * 3 + 1) = b) (ec : z 11 (n * 3 + 2) = c) (hZ : z 12 n ≤ 400)
    (g : ∀ s' m' G' T', Cls z f s' m' G' → Com z m' → Fc s s' → goM f m m' → Mid z s m G n o t T s' m' G' T' 2 (z 12 b + z 12 c) 2 → T' ≤ T + 8 * (z 12 b + z 12 c) - 5 → w_46_102 X f T' s' Q) : w_46_102 X f T s Q := by
  obtain ⟨⟨p1, p2, p3⟩, ⟨p4, p5⟩, p6, p7, p8, ⟨p9, p10⟩, ⟨p11, p12⟩, p13⟩ := P
  obtain ⟨S1, S2, S3, S4, S5, S6⟩ := S
  obtain ⟨k1, k2, k3, k4, k5, -, -, -, nd⟩ := S6 n hn.1 hn.2
  rw [hK, eb, ec] at nd
  obtain ⟨-, -, -, -, d4, -, -, -, -, -, -, d11, d12⟩ := nd
  obtain ⟨d5, ⟨xa1, xa2, xa3⟩, ⟨xb1, xb2, xb3⟩, e12, e13⟩ := d4 rfl
  obtain ⟨-, -, -, -, -, -, -, -, nda⟩ := S6 b xa1 (by omega)
  obtain ⟨-, -, -, -, -, -, -, -, -, -, -, da11, da12⟩ := nda
  obtain ⟨-, -, -, -, -, -, -, -, ndb⟩ := S6 c xb1 (by omega)
  obtain ⟨-, -, -, -, -, -, -, -, -, -, -, db11, db12⟩ := ndb
  have mz := hM.1
  have E1 : z 12 n = z 12 b + z 12 c + 1 := by omega
  have E2 : z 13 b ≤ z 13 n ∧ 1 + z 13 c ≤ z 13 n := by omega
  clear e12 e13 d4
  obtain ⟨m1, ⟨L, l1, l2, l3, l4, l5, l6⟩, gm⟩ := v_6 (f := f) (b := b) (c := c) p1 (by omega) p2 p3 (by omega) (by rw [mz 52 (by omega) (by omega), k1]; exact hK) (by rw [mz 54 (by omega) (by omega), k4]; exact eb) (by rw [mz 55 (by omega) (by omega), k5]; exact ec)
  have M1 := L.com hM
  have C1 := L.cls hC
  have R1 := (Run.rf (z := z) (s := s) (m := m) (G := G) (o := o) (t := t) p11).lm L (by omega)
  have J1 : m1 45 36 = m 45 36 := L.2.1 36 (by omega)
  refine cskip (k := 0) (K := 6) (o := o) (n := n) (P := 1) C1 M1.2.2.2.1 (by omega) (by omega) (fun q => p13 (by rw [← J1]; exact q)) (by omega) hK (by omega) (by omega) (by decide) (by omega) rfl (by omega) ?_
  intro s2 T2 C2 F2 t2 t2' w2
  refine cdown (k := 1) (K := 6) (o := o) (n := n) (P := 4) C2 M1.2.2.2.1 (by omega) (by omega) (fun q => (w2 q).1) (by omega) hK (by omega) (by omega) (by decide) (Or.inl rfl) eb (by omega) (by omega) ?_
  intro s3 T3 C3 F3 t3 t3' w3
  refine run_kid ib C3 M1 (F2.tr F3) gm ((R1.cl (fun q => (w2 q).2.2.2) t2).cl (fun q => (w3 q).2.2.2.2) t3) (t' := t + 2) ⟨by rw [L.1]; omega, l5, l6⟩ (by omega) (by omega) (by omega) (by omega) (by omega) (by omega) (by omega) (fun q => (w3 q).1) ?_
  intro s4 m4 G4 T4 C4 M4 F4 gm4 R4 e4 st4 t4 t4' w4
  refine cdown (k := 2) (K := 6) (o := o) (n := n) (P := 4) C4 M4.2.2.2.1 (by omega) (by omega) (fun q => ?_) (by omega) hK (by omega) (by omega) (by decide) (Or.inl rfl) ec (by omega) (by omega) ?_
  · obtain ⟨q1, q2, q3, q4⟩ := w4 q
    exact ⟨q2, by rw [q3]; exact (w3 q1).2.1.1, by rw [q4]; exact (w3 q1).2.1.2⟩
  intro s5 T5 C5 F5 t5 t5' w5
  refine run_kid ic C5 M4 (F4.tr F5) gm4 (R4.cl (fun q => (w5 q).2.2.2.2) t5) (t' := t + 1) ⟨by rw [e4]; omega, by rw [(st4 _ (by omega)).1]; exact l3, by rw [(st4 _ (by omega)).2]; exact l4⟩ (by omega) (by omega) (by omega) (by omega) (by omega) (by omega) (by omega) (fun q => (w5 q).1) ?_
  intro s6 m6 G6 T6 C6 M6 F6 gm6 R6 e6 st6 t6 t6' w6
  obtain ⟨u1, u2, u3, u4, u5⟩ := R6
  refine g s6 m6 G6 T6 C6 M6 F6 gm6 ⟨⟨e6, ?_, ?_⟩, ⟨by omega, by omega, u1.2.2⟩, u2, u3, u4, fun q => ⟨?_, (u5 q).1, (u5 q).2.1, ?_⟩⟩ (by omega)
  · rw [(st6 _ (by omega)).1, (st4 _ (by omega)).1]; exact l1
  · rw [(st6 _ (by omega)).2, (st4 _ (by omega)).2]; exact l2
  · obtain ⟨q1, q2, q3, q4⟩ := w6 q
    exact ⟨q2, by rw [q3]; exact (w5 q1).2.1.1, by rw [q4]; exact (w5 q1).2.1.2⟩
  · rw [show z 12 b + z 12 c = 0 + z 12 b + z 12 c by omega]; exact (u5 q).2.2
-- a leaf: three parts that are no nodes
theorem kids0 (hn : 0 ≤ n ∧ n < 150) (hC : Cls z f s m G) (hM : Com z m) (ho : 0 ≤ o ∧ o < 150) (hT : 0 ≤ T ∧ T ≤ 9900) (hK : z 10 n = K) (hK' : K = 0 ∨ K = 1 ∨ K = 2)
    (p13 : m 45 36 = 0 → s 22 6 = o + 1 ∧ s 23 o = n ∧ s 24 o = 0)
    (g : ∀ s' T', Cls z f s' m G → Fc s s' → T ≤ T' → T' ≤ T + 3 → (m 45 36 = 0 → (s' 22 6 = o + 1 ∧ s' 23 o = n ∧ s' 24 o = 3) ∧ Tc s s' o) → w_46_102 X f T' s' Q) : w_46_102 X f T s Q := by
  have hPz : ∃ P, zP (K * 3 + 0) = P ∧ zP (K * 3 + 1) = 0 ∧ zP (K * 3 + 2) = 0 ∧ 0 ≤ P ∧ P ≤ 3 := by
    rcases hK' with rfl | rfl | rfl
    · exact ⟨0, by decide⟩
    · exact ⟨1, by decide⟩
    · exact ⟨2, by decide⟩
  obtain ⟨P, hP0, hP1, hP2, hP3⟩ := hPz
  have hK0 : 0 ≤ K ∧ K ≤ 17 := by omega
  refine cskip (k := 0) (K := K) (o := o) (n := n) hC hM.2.2.2.1 (by omega) (by omega) p13 (by omega) hK hK0 (by omega) hP0 (by omega) rfl (by omega) ?_
  intro s2 T2 C2 F2 t2 t2' w2
  refine cskip (k := 1) (K := K) (o := o) (n := n) C2 hM.2.2.2.1 (by omega) (by omega) (fun q => (w2 q).1) (by omega) hK hK0 (by omega) hP1 (by omega) rfl (by omega) ?_
  intro s3 T3 C3 F3 t3 t3' w3
  refine cskip (k := 2) (K := K) (o := o) (n := n) C3 hM.2.2.2.1 (by omega) (by omega) (fun q => (w3 q).1) (by omega) hK hK0 (by omega) hP2 (by omega) rfl (by omega) ?_
  intro s4 T4 C4 F4 t4 t4' w4
  exact g s4 T4 C4 ((F2.tr F3).tr F4) (by omega) (by omega) (fun q => ⟨(w4 q).1, ((w2 q).2.2.2.tr (w3 q).2.2.2 (by omega)).tr (w4 q).2.2.2 (by omega)⟩)
end
