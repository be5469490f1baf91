section
variable {z s m s1 m1 s2 m2 : zS} {G G1 G2 : Int → Nat → Int → Int} {f N t t' n x o T T1 D Z a b K : Int} {L : Int → Int} {X : zX} {Q : Int → zS → Prop}
theorem run_args (ih : ArgOK z f x) (hC : Cls z f s1 m1 G1) (hM : Com z m1) (hF : Fc s s1) (gm : goM f m m1) (run : Run z s m G o t T s1 m1 G1 T1 D Z L)
    (et : m1 45 27 = t' + 1 ∧ m1 67 t' = 1 ∧ m1 68 t' = x) (ht : 0 ≤ t ∧ t ≤ t' ∧ t' + 5 * x ≤ 745) (h1 : m 45 33 + x ≤ 150) (h2 : m 45 16 + Z + z 12 x ≤ 400) (h3 : m 45 30 + D + z 13 x ≤ 16) (h4 : 0 ≤ o ∧ o + 1 + x ≤ 149) (h5 : 0 ≤ T1 ∧ T1 + 8 * z 12 x + x ≤ 9150) (h6 : 0 ≤ D ∧ 0 ≤ Z ∧ 0 ≤ z 12 x)
    (hw : m1 45 36 = 0 → s1 22 6 = o + 2 ∧ s1 23 (o + 1) = x ∧ s1 24 (o + 1) = 0)
    (g : ∀ s2 m2 G2 T2 (c : Nat), AR (z 54) c x → AR (fun x => z 11 (x * 3 + 1)) c x → (c : Int) ≤ z 13 x → Cls z f s2 m2 G2 → Com z m2 → Fc s s2 → goM f m m2 → Run z s m G o t T s2 m2 G2 T2 (D + c) (Z + z 12 x) L → m2 45 27 = t' → (∀ j, j < t' → m2 67 j = m1 67 j ∧ m2 68 j = m1 68 j) → T1 ≤ T2 → T2 ≤ T1 + 8 * z 12 x →
      (m2 45 36 = 0 → m1 45 36 = 0 ∧ s2 22 6 = o + 1 ∧ s2 23 o = s1 23 o ∧ s2 24 o = s1 24 o) → w_46_102 X f T2 s2 Q) : w_46_102 X f T1 s1 Q := by
  obtain ⟨⟨r1, r2, r3⟩, r4, r5, r6, r7⟩ := id run
  refine ih s1 m1 G1 T1 (o + 1) t' X Q hC hM ⟨et, ⟨by omega, by omega⟩, by omega, by omega, by omega, ⟨by omega, by omega⟩, h5, fun q => ?_⟩ ?_
  · have := hw q; exact ⟨by omega, this.2⟩
  · intro s2 m2 G2 T2 c hA hA' hc gm2 hM2 hC2 hF2 p hT
    refine g s2 m2 G2 T2 c hA hA' hc hC2 hM2 (hF.tr hF2) (gm.tr gm2) (run.post p (by omega) (by omega) h6.1 h6.2.1 h6.2.2) p.1.1 p.2.1.1 p.2.2.1 hT (fun q => ?_)
    obtain ⟨q1, q2, q3⟩ := p.2.2.2.2 q
    have q4 := q2 o (by omega) (by omega)
    exact ⟨p.2.1.2.2.2.2.2.2 q, q1, q4.1, q4.2.1⟩
def iha (z : zS) (f n : Int) : Prop := ∀ x, 0 ≤ x → x < n → z 10 x = 13 → ArgOK z f x
theorem arg_13 (S : Src z) (ih : ihs z f n) (ia : iha z f n) (hn : 0 ≤ n ∧ n < z 3 11) (hK : z 10 n = 13) : ArgOK z f n := by
  intro s m G T o t X Q hC hM P g
  have h0 := hM.2.2.2.2.1
  have h30 := hM.2.2.2.2.2.1
  obtain ⟨⟨p1, p2, p3⟩, ⟨p4, p5⟩, p6, p7, p8, ⟨p9, p10⟩, ⟨p11, p12⟩, p13⟩ := P
  have hZ : z 12 n ≤ 400 := by omega
  obtain ⟨S1, S2, S3, S4, S5, S6⟩ := S
  obtain ⟨k1, k2, k3, k4, k5, -, -, -, nd⟩ := S6 n hn.1 hn.2
  generalize ea : z 11 (n * 3 + 0) = a at *
  generalize eb : z 11 (n * 3 + 1) = b at *
  have zpn := nd.2.2.2.2.2.2.2.2.2.2.2
  rw [hK] at nd
  obtain ⟨-, -, -, -, -, -, -, -, -, d13, -⟩ := nd
  obtain ⟨⟨xa1, xa2, xa3⟩, hb, e1, e2⟩ := d13 rfl
  have zpa := (S6 _ xa1 (by omega)).2.2.2.2.2.2.2.2.2.2.2.2.2.2.2.2.2.2.2
  clear d13
  have mz := hM.1
  have hb' : -1 ≤ b ∧ b < 150 := by rcases hb with q | q <;> omega
  obtain ⟨m1, ⟨L, l1, l2⟩, gm⟩ := v_13 (f := f) (a := a) (b := b) p1 (by omega) p2 p3 (by omega) (by rw [mz 53 (by omega) (by omega), k3]) (by rw [mz 54 (by omega) (by omega), k4]) hb'
  have M1 := L.com hM
  have C1 := L.cls hC
  have R1 := (Run.rf (z := z) (s := s) (m := m) (G := G) (o := o) (t := t) p11).lm L (by omega)
  have J1 : m1 45 36 = m 45 36 := L.2.1 36 (by omega)
  refine cdown (k := 0) (K := 13) (P := 4) (o := o) (n := n) C1 M1.2.2.2.1 (by omega) (by omega) (fun q => p13 (by rw [← J1]; exact q)) (by omega) hK (by omega) (by omega) (by decide) (Or.inl rfl) ea (by omega) (by omega) ?_
  intro s2 T2 C2 F2 t2 t2' w2
  rcases hb with q | ⟨xb1, xb2, xb3⟩
  · -- the last one
    obtain ⟨E1, E2⟩ := e1 q
    have l1' := l1 (by omega)
    have LT := L.1
    rw [if_pos (by omega)] at LT
    refine run_kid (ih _ xa1 xa2 xa3) C2 M1 F2 gm (R1.cl (fun q => (w2 q).2.2.2.2) t2) (t' := t) ⟨LT, l1'.1, l1'.2⟩ (by omega) (by omega) (by omega) (by omega) (by omega) (by omega) (by omega) (fun q => (w2 q).1) ?_
    intro s3 m3 G3 T3 C3 M3 F3 gm3 R3 e3 st3 t3 t3' w3
    refine cskip (k := 1) (K := 13) (P := 5) (ch := -1) (o := o) (n := n) C3 M3.2.2.2.1 (by omega) (by omega) (fun q => ?_) (by omega) hK (by omega) (by omega) (by decide) (by omega) (by rw [eb]; exact q) (by omega) ?_
    · obtain ⟨q1, q2, q3, q4⟩ := w3 q
      exact ⟨q2, by rw [q3]; exact (w2 q1).2.1.1, by rw [q4]; exact (w2 q1).2.1.2⟩
    intro s4 T4 C4 F4 t4 t4' w4
    refine cskip (k := 2) (K := 13) (P := 0) (o := o) (n := n) C4 M3.2.2.2.1 (by omega) (by omega) (fun q => (w4 q).1) (by omega) hK (by omega) (by omega) (by decide) (by omega) rfl (by omega) ?_
    intro s5 T5 C5 F5 t5 t5' w5
    refine cfin0 (o := o) (n := n) C5 M3.2.2.2.1 (by omega) (by omega) (fun q => (w5 q).1) (by omega) (Or.inl hK) ?_
    intro s6 T6 C6 F6 t6 t6' w6
    obtain ⟨x1, x2, x3, x4, x5⟩ := ((R3.cl (fun q => (w4 q).2.2.2) t4).cl (fun q => (w5 q).2.2.2) t5).cl (fun q => (w6 q).2) t6
    refine g s6 m3 G3 T6 1 ⟨by omega, by omega, ?_⟩ ⟨by omega, by omega, ?_⟩ (by omega) gm3 M3 C6 (((F3.tr F4).tr F5).tr F6) ⟨⟨e3, by omega, by omega, x1.2.2⟩, x2, x3, x4, fun q => ⟨(w6 q).1, (x5 q).1, (x5 q).2.1, ?_⟩⟩ (by omega)
    · show z 54 n = -1
      rw [k4]; exact q
    · show z 11 (n * 3 + 1) = -1
      rw [eb]; exact q
    · rw [show z 12 n = 0 + z 12 a by omega]; exact (x5 q).2.2
  · obtain ⟨e12, e13⟩ := e2 xb1
    have zpb := (S6 _ xb1 (by omega)).2.2.2.2.2.2.2.2.2.2.2.2.2.2.2.2.2.2.2
    have E1 : z 12 n = z 12 a + z 12 b := by omega
    have E2 : z 13 a ≤ z 13 n ∧ 1 + z 13 b ≤ z 13 n := by omega
    clear e12 e13 e1 e2
    obtain ⟨l3, l4, l5, l6⟩ := l2 xb1
    have LT := L.1
    rw [if_neg (by omega)] at LT
    refine run_kid (ih _ xa1 xa2 xa3) C2 M1 F2 gm (R1.cl (fun q => (w2 q).2.2.2.2) t2) (t' := t + 1) ⟨by omega, l5, l6⟩ (by omega) (by omega) (by omega) (by omega) (by omega) (by omega) (by omega) (fun q => (w2 q).1) ?_
    intro s3 m3 G3 T3 C3 M3 F3 gm3 R3 e3 st3 t3 t3' w3
    refine cdown (k := 1) (K := 13) (P := 5) (o := o) (n := n) C3 M3.2.2.2.1 (by omega) (by omega) (fun q => ?_) (by omega) hK (by omega) (by omega) (by decide) (Or.inr rfl) eb (by omega) (by omega) ?_
    · obtain ⟨q1, q2, q3, q4⟩ := w3 q
      exact ⟨q2, by rw [q3]; exact (w2 q1).2.1.1, by rw [q4]; exact (w2 q1).2.1.2⟩
    intro s4 T4 C4 F4 t4 t4' w4
    refine run_args (ia _ xb1 xb2 xb3) C4 M3 (F3.tr F4) gm3 (R3.cl (fun q => (w4 q).2.2.2.2) t4) (t' := t) ⟨by omega, by rw [(st3 _ (by omega)).1]; exact l3, by rw [(st3 _ (by omega)).2]; exact l4⟩ (by omega) (by omega) (by omega) (by omega) (by omega) (by omega) (by omega) (fun q => (w4 q).1) ?_
    intro s5 m5 G5 T5 c hA hA' hc C5 M5 F5 gm5 R5 e5 st5 t5 t5' w5
    refine cskip (k := 2) (K := 13) (P := 0) (o := o) (n := n) C5 M5.2.2.2.1 (by omega) (by omega) (fun q => ?_) (by omega) hK (by omega) (by omega) (by decide) (by omega) rfl (by omega) ?_
    · obtain ⟨q1, q2, q3, q4⟩ := w5 q
      exact ⟨q2, by rw [q3]; exact (w4 q1).2.1.1, by rw [q4]; exact (w4 q1).2.1.2⟩
    intro s6 T6 C6 F6 t6 t6' w6
    refine cfin0 (o := o) (n := n) C6 M5.2.2.2.1 (by omega) (by omega) (fun q => (w6 q).1) (by omega) (Or.inl hK) ?_
    intro s7 T7 C7 F7 t7 t7' w7
    obtain ⟨x1, x2, x3, x4, x5⟩ := (R5.cl (fun q => (w6 q).2.2.2) t6).cl (fun q => (w7 q).2) t7
    refine g s7 m5 G5 T7 (c + 1) ⟨by omega, by omega, ?_⟩ ⟨by omega, by omega, ?_⟩ (by omega) gm5 M5 C7 ((F5.tr F6).tr F7) ⟨⟨e5, by omega, by omega, x1.2.2⟩, x2, x3, x4, fun q => ⟨(w7 q).1, (x5 q).1, (x5 q).2.1, ?_⟩⟩ (by omega)
    · rw [k4]; exact hA
    · show AR _ c (z 11 (n * 3 + 1))
      rw [eb]; exact hA'
    · rw [show z 12 n = 0 + z 12 a + z 12 b by omega]; exact (x5 q).2.2
end
