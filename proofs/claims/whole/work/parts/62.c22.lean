section
variable {z s m s1 m1 s2 m2 : zS} {G G1 G2 : Int → Nat → Int → Int} {f N t n o T a b c K : Int} {L : Int → Int} {X : zX} {Q : Int → zS → Prop}
theorem node_17 (S : Src z) (ih : ihs z f n) (hn : 0 ≤ n ∧ n < z 3 11) (hK : z 10 n = 17) : NodeOK z f n := by
  intro s m G T o t X Q hC hM P g
  have h0 := hM.2.2.2.2.1
  have h30 := hM.2.2.2.2.2.1
  obtain ⟨⟨p1, p2, p3⟩, ⟨p4, p5⟩, p6, p7, p8, ⟨p9, p10⟩, ⟨p11, p12⟩, p13⟩ := P
  have hZ : z 12 n ≤ 400 := by omega
  obtain ⟨S1, S2, S3, S4, S5, S6⟩ := S
  obtain ⟨k1, k2, k3, k4, k5, -, -, -, nd⟩ := S6 n hn.1 hn.2
  generalize ea : z 11 (n * 3 + 0) = a at *
  generalize eb : z 11 (n * 3 + 1) = b at *
  rw [hK] at nd
  obtain ⟨-, -, -, -, -, -, -, -, -, -, d17, -⟩ := nd
  obtain ⟨⟨xa1, xa2, xa3⟩, ⟨xb1, xb2, xb3⟩, e12, e13⟩ := d17 rfl
  have zpa := (S6 _ xa1 (by omega)).2.2.2.2.2.2.2.2.2.2.2.2.2.2.2.2.2.2.2
  have zpb := (S6 _ xb1 (by omega)).2.2.2.2.2.2.2.2.2.2.2.2.2.2.2.2.2.2.2
  have E1 : z 12 n = z 12 a + z 12 b + 1 := by omega
  have E2 : z 13 a ≤ z 13 n ∧ z 13 b ≤ z 13 n := by omega
  clear e12 e13 d17
  have mz := hM.1
  obtain ⟨m1, ⟨L, l1, l2, l3, l4, l5, l6⟩, gm⟩ := v_17 (f := f) (a := a) (b := b) p1 (by omega) p2 p3 (by omega) (by rw [mz 52 (by omega) (by omega), k1]; exact hK) (by rw [mz 53 (by omega) (by omega), k3]) (by rw [mz 54 (by omega) (by omega), k4])
  have M1 := L.com hM
  have C1 := L.cls hC
  have R1 := (Run.rf (z := z) (s := s) (m := m) (G := G) (o := o) (t := t) p11).lm L (by omega)
  have J1 : m1 45 36 = m 45 36 := L.2.1 36 (by omega)
  refine cdown (k := 0) (K := 17) (P := 4) (o := o) (n := n) C1 M1.2.2.2.1 (by omega) (by omega) (fun q => p13 (by rw [← J1]; exact q)) (by omega) hK (by omega) (by omega) (by decide) (Or.inl rfl) ea (by omega) (by omega) ?_
  intro s2 T2 C2 F2 t2 t2' w2
  refine run_kid (ih _ xa1 xa2 xa3) C2 M1 F2 gm (R1.cl (fun q => (w2 q).2.2.2.2) t2) (t' := t + 2) ⟨by rw [L.1]; omega, l5, l6⟩ (by omega) (by omega) (by omega) (by omega) (by omega) (by omega) (by omega) (fun q => (w2 q).1) ?_
  intro s3 m3 G3 T3 C3 M3 F3 gm3 R3 e3 st3 t3 t3' w3
  obtain ⟨⟨u1, u2, u3⟩, -⟩ := id R3
  have mz3 := M3.1
  have ty := M3.2.1
  have h03 := M3.2.2.2.2.1
  obtain ⟨m4, b4, gm4⟩ := b_17 (f := f) (m := m3) (t := t + 1) (n := n) (by rw [e3]; omega) (by omega) (by rw [(st3 _ (by omega)).1]; exact l3) (by rw [(st3 _ (by omega)).2]; exact l4) (by omega) (by rw [mz3 52 (by omega) (by omega), k1]; exact hK) rfl rfl (by omega) (by omega) rfl
  have M30 : Com z (zu m3 45 27 (t + 1)) := LM.com M3 zu27
  have w3' : m3 45 36 = 0 → s3 22 6 = o + 1 ∧ s3 23 o = n ∧ s3 24 o = 1 := fun q => by
    obtain ⟨q1, q2, q3, q4⟩ := w3 q
    exact ⟨q2, by rw [q3]; exact (w2 q1).2.1.1, by rw [q4]; exact (w2 q1).2.1.2⟩
  refine cemit (m0 := zu m3 45 27 (t + 1)) (m' := m4) (s0 := zu s3 24 o 2) (k := 1) (K := 17) (P := 4) (o := o) (n := n) (ch := b) (pmc := s3 18 (m3 45 16)) (M := s3 14 2) (pl := s3 29 (m3 45 16)) C3 M3 M30 (by omega) (by omega) w3' (by omega) hK (by omega) (by omega) (by decide) (Or.inl rfl) eb (by omega) (by rw [zu_n (by omega)]) (by rw [zu_n (by omega)]) b4 M3.2.2.2.1 id (fun q => ty _ (by omega) (by omega)) (M3.2.2.1 0 (by omega) (by omega)) (by rw [zu_n (by omega)]; omega) ?_ ?_ ?_ (by omega) (by rw [zu_g (by decide)]) ?_
  · intro q
    obtain ⟨q1, q2, q3⟩ := w3' q
    refine ⟨Fc.zu (by omega), zu_g (by decide), by rw [zu_g (by decide)]; exact q2, zu_s, ?_⟩
    intro j _ hj
    rw [zu_g (by decide), zu_n (by omega), zu_g (by decide), zu_g (by decide)]; exact ⟨rfl, rfl, rfl, rfl⟩
  · intro R
    exact Rel.fr R (fun k hk => zu_f (by omega)) ⟨zu_g (by decide), zu_g (by decide)⟩ (fun k hk => zu_f (by omega)) (fun j hj => zu_n (by omega))
  · intro R Q k1' k0'
    have R36 : m3 45 36 = 0 := well M3 C3 R
    obtain ⟨r1, r2, r3, r4, r5, -⟩ := id R
    refine p_62d (N := m3 45 16) (H := m3 45 30) (J := 1) (by omega) (by rw [zu_g (by decide), C3.1 10 (by omega) (by omega)]; exact hK) (by rw [zu_g (by decide)]; exact r2) (by rw [zu_g (by decide)]; exact r3) (by rw [zu_g (by decide)]; exact r1) (by omega) (by omega) ?_
    intro s' h
    refine k1' R36 s' ?_
    rw [zu_g (by decide), zu_g (by decide), zu_g (by decide), zu_g (by decide), zu_g (by decide), r5 0 (by omega) (by omega)] at h
    exact EC.ty h (fun q => r4 _ (by omega) (by omega))
  intro s5 T5 M5 C5 F5 t5 t5' w5
  have R5 := Run.em (f := f) (s2 := s5) (T2 := T5) R3 b4 rfl (by omega) (by omega) rfl id (by omega) (fun q => (w5 q).2.2.2.2) t5 (by omega) (fun j0 _ => by
    have e8 : G3 (m3 45 16) = tyOf m3 f := (C3.2.1 j0).2.2.2.2.2.2.2
    obtain ⟨g1, g2, hE1, hE2, hE3⟩ := okE (E' := tyOf m4 f) e8 M3 (by omega)
    have hnx : nx (tyOf m3 f) (tyOf m4 f) (m3 70) 1 0 (m3 69 (m3 45 30 - 1 - 1)) := by
      refine nx.L (nx_of (f := f) b4 (p := 1) (q := 0) ?_ ?_ ?_ ?_ ?_ (Or.inl ⟨rfl, ?_⟩)) ?_
      · rw [zu_n (by omega)]; rfl
      · intro k; rw [zu_g (by decide)]; rfl
      · rfl
      · rw [zu_n (by omega)]; omega
      · rw [zu_n (by omega)]; omega
      · rw [zu_g (by decide)]
      · intro k _ _
        rw [zu_f (by decide)]
        exact ife.symm
    (refine ⟨?_, ?_, ?_, ?_, ?_, ?_, ?_, ?_, ?_, ?_, ?_, ?_, ?_, ?_, ?_, ?_, ?_, ⟨by omega, by omega⟩, hE1, hE2, hE3⟩ <;> (intro h; first | (exfalso; omega) | skip))
    rw [g1, g2]
    exact ⟨hnx.1, hnx.2.1, hnx.2.2.1, fun q => by omega, hnx.2.2.2.2⟩)
  have eL : (fun k => if k = 0 then m3 70 0 else m 70 k) = (fun k => if k = 0 then m3 70 0 else m 70 k) := rfl
  have gm5 := gm3.tr gm4
  obtain ⟨b41, b42, b43, b44, b45, b46, b47, b48, b49, b410, b411, b412⟩ := id b4
  have st5 : m4 67 = m3 67 ∧ m4 68 = m3 68 := ⟨by rw [b412 67 (by omega), zu_f (by decide)], by rw [b412 68 (by omega), zu_f (by decide)]⟩
  refine run_kid (t' := t) (ih _ xb1 xb2 xb3) C5 M5 (F3.tr F5) gm5 R5 ⟨by rw [b49 27 (by omega) (by omega) (by omega), zu_s], by rw [st5.1, (st3 _ (by omega)).1]; exact l1, by rw [st5.2, (st3 _ (by omega)).2]; exact l2⟩ (by omega) (by omega) (by omega) (by omega) (by omega) (by omega) (by omega) (fun q => (w5 q).1) ?_
  intro s6 m6 G6 T6 C6 M6 F6 gm6 R6 e6 st6 t6 t6' w6
  refine cskip (k := 2) (K := 17) (P := 0) (o := o) (n := n) C6 M6.2.2.2.1 (by omega) (by omega) (fun q => ?_) (by omega) hK (by omega) (by omega) (by decide) (by omega) rfl (by omega) ?_
  · obtain ⟨q1, q2, q3, q4⟩ := w6 q
    exact ⟨q2, by rw [q3]; exact (w5 q1).2.1.1, by rw [q4]; exact (w5 q1).2.1.2⟩
  intro s7 T7 C7 F7 t7 t7' w7
  refine cfin0 (o := o) (n := n) C7 M6.2.2.2.1 (by omega) (by omega) (fun q => (w7 q).1) (by omega) (Or.inr hK) ?_
  intro s8 T8 C8 F8 t8 t8' w8
  obtain ⟨x1, x2, x3, x4, x5⟩ := (R6.cl (fun q => (w7 q).2.2.2) t7).cl (fun q => (w8 q).2) t8
  refine g s8 m6 G6 T8 gm6 M6 C8 ((F6.tr F7).tr F8) ⟨⟨e6, by omega, by omega, x1.2.2⟩, x2, x3, x4, fun q => ⟨(w8 q).1, (x5 q).1, fun k a b => ?_, ?_⟩⟩ (by omega)
  · have q3 : m3 45 36 = 0 := by rw [← b48]; exact (w6 q).1
    have e := (x5 q).2.1 k a b
    have e' := (R3.2.2.2.2 q3).2.1 0 (by omega) (by omega)
    rw [e]
    show (if k = 0 then m3 70 0 else m 70 k) = m 70 k
    rw [e']; exact ife.symm
  · rw [show z 12 n = 0 + z 12 a + 1 + z 12 b by omega]; exact (x5 q).2.2
end
