section
variable {z s m s1 m1 s2 m2 : zS} {G G1 G2 : Int → Nat → Int → Int} {f N t n o T a b c K : Int} {L : Int → Int} {X : zX} {Q : Int → zS → Prop}
theorem Rel.lt (h : Rel f s m G) (h0 : 0 ≤ m 45 16) : Rel f (zu s 28 a (-1)) (zu m 70 a (-1)) (gs G (m 45 16) (tyOf (zu m 70 a (-1)) f)) := by
  obtain ⟨h1, h2, h3, h4, h5, h6, h7, h8⟩ := h
  refine ⟨by rw [zu_g (by decide)]; exact h1, by rw [zu_g (by decide), zu_g (by decide)]; exact h2, by rw [zu_g (by decide), zu_g (by decide)]; exact h3, ?_, ?_, ?_, ?_, ?_⟩
  · rw [zu_f (k := 27) (by decide), zu_f (k := 69) (by decide), zu_g (by decide)]; exact h4
  · intro k a b
    simp only [zu]
    rw [h5 k a b]
  · intro i a b
    rw [zu_g (by decide)] at b
    rw [gs_n (by omega), zu_g (by decide), zu_g (by decide), zu_g (by decide), zu_g (by decide), zu_g (by decide), zu_g (by decide), zu_g (by decide), zu_g (by decide)]
    exact h6 i a b
  · rw [zu_g (by decide), zu_f (by decide), zu_g (by decide)]; exact h7
  · rw [zu_g (by decide), gs_s]
theorem node_11 (S : Src z) (ih : ihs z f n) (hn : 0 ≤ n ∧ n < z 3 11) (hK : z 10 n = 11) : NodeOK z f n := by
  intro s m G T o t X Q hC hM P g
  have h0 := hM.2.2.2.2.1
  have h30 := hM.2.2.2.2.2.1
  obtain ⟨⟨p1, p2, p3⟩, ⟨p4, p5⟩, p6, p7, p8, ⟨p9, p10⟩, ⟨p11, p12⟩, p13⟩ := P
  have hZ : z 12 n ≤ 400 := by omega
  obtain ⟨S1, S2, S3, S4, S5, S6⟩ := S
  obtain ⟨k1, k2, k3, k4, k5, -, -, -, nd⟩ := S6 n hn.1 hn.2
  generalize ea : z 11 (n * 3 + 0) = a at *
  generalize eb : z 11 (n * 3 + 1) = b at *
  generalize ec : z 11 (n * 3 + 2) = c at *
  rw [hK] at nd
  obtain ⟨-, -, -, -, -, -, -, d11, -⟩ := nd
  obtain ⟨ha, ⟨xa1, xa2, xa3⟩, ⟨xb1, xb2, xb3⟩, e12, e13⟩ := d11 rfl
  have zpa := (S6 _ xa1 (by omega)).2.2.2.2.2.2.2.2.2.2.2.2.2.2.2.2.2.2.2
  have zpb := (S6 _ xb1 (by omega)).2.2.2.2.2.2.2.2.2.2.2.2.2.2.2.2.2.2.2
  have E1 : z 12 n = z 12 b + z 12 c + 1 := by omega
  have E2 : z 13 b ≤ z 13 n ∧ z 13 c ≤ z 13 n := by omega
  clear e12 e13 d11
  have mz := hM.1
  obtain ⟨m1, ⟨L, l1, l2, l3, l4, l5, l6, l7, l8⟩, gm⟩ := v_11 (f := f) (b := b) (c := c) p1 (by omega) p2 p3 (by omega) (by rw [mz 52 (by omega) (by omega), k1]; exact hK) (by rw [mz 54 (by omega) (by omega), k4]) (by rw [mz 55 (by omega) (by omega), k5])
  have M1 := L.com hM
  have C1 := L.cls hC
  have R1 := (Run.rf (z := z) (s := s) (m := m) (G := G) (o := o) (t := t) p11).lm L (by omega)
  have J1 : m1 45 36 = m 45 36 := L.2.1 36 (by omega)
  refine cskip (k := 0) (K := 11) (P := 2) (o := o) (n := n) C1 M1.2.2.2.1 (by omega) (by omega) (fun q => p13 (by rw [← J1]; exact q)) (by omega) hK (by omega) (by omega) (by decide) (by omega) rfl (by omega) ?_
  intro s2 T2 C2 F2 t2 t2' w2
  refine cdown (k := 1) (K := 11) (P := 4) (o := o) (n := n) C2 M1.2.2.2.1 (by omega) (by omega) (fun q => (w2 q).1) (by omega) hK (by omega) (by omega) (by decide) (Or.inl rfl) eb (by omega) (by omega) ?_
  intro s2' T2' C2' F2' t2x t2y w2'
  refine run_kid (ih _ xa1 xa2 xa3) C2' M1 (F2.tr F2') gm ((R1.cl (fun q => (w2 q).2.2.2) t2).cl (fun q => (w2' q).2.2.2.2) t2x) (t' := t + 3) ⟨by rw [L.1]; omega, l7, l8⟩ (by omega) (by omega) (by omega) (by omega) (by omega) (by omega) (by omega) (fun q => (w2' q).1) ?_
  intro s3 m3 G3 T3 C3 M3 F3 gm3 R3 e3 st3 t3 t3' w3
  obtain ⟨⟨u1, u2, u3⟩, -⟩ := id R3
  have mz3 := M3.1
  have ty := M3.2.1
  have yl := M3.2.2.1 a (by omega) (by omega)
  have y1 := ty (m3 45 30 - 1) (by omega) (by omega)
  obtain ⟨m4, b4, gm4⟩ := b_11 (f := f) (m := m3) (t := t + 2) (n := n) (a := a) (by rw [e3]; omega) (by omega) (by rw [(st3 _ (by omega)).1]; exact l5) (by rw [(st3 _ (by omega)).2]; exact l6) (by omega) (by rw [mz3 52 (by omega) (by omega), k1]; exact hK) (by rw [mz3 53 (by omega) (by omega), k3]) (by omega) rfl rfl rfl rfl yl (by omega) (by omega) rfl M3.2.2.2.1
  have M30 : Com z (zu m3 45 27 (t + 2)) := LM.com M3 zu27
  have w3' : m3 45 36 = 0 → s3 22 6 = o + 1 ∧ s3 23 o = n ∧ s3 24 o = 2 := fun q => by
    obtain ⟨q1, q2, q3, q4⟩ := w3 q
    exact ⟨q2, by rw [q3]; exact (w2' q1).2.1.1, by rw [q4]; exact (w2' q1).2.1.2⟩
  refine cemit (m0 := zu m3 45 27 (t + 2)) (m' := m4) (s0 := zu s3 24 o 3) (k := 2) (K := 11) (P := 4) (o := o) (n := n) (ch := c) (pmc := s3 18 (m3 45 16)) (M := s3 14 2) (pl := s3 29 (m3 45 16)) C3 M3 M30 (by omega) (by omega) w3' (by omega) hK (by omega) (by omega) (by decide) (Or.inl rfl) ec (by omega) (by rw [zu_n (by omega)]) (by rw [zu_n (by omega)]) b4 (ifJ M3.2.2.2.1) (fun q => (ifK q).2) (fun q => ty _ (by omega) (by omega)) ⟨by have := y1.1; omega, y1.2⟩ (by rw [zu_n (by omega)]; omega) ?_ ?_ ?_ (by omega) (by rw [zu_g (by decide)]) ?_
  · intro q
    obtain ⟨q1, q2, q3⟩ := w3' q
    refine ⟨Fc.zu (by omega), zu_g (by decide), by rw [zu_g (by decide)]; exact q2, zu_s, ?_⟩
    intro j _ hj
    rw [zu_g (by decide), zu_n (by omega), zu_g (by decide), zu_g (by decide)]; exact ⟨rfl, rfl, rfl, rfl⟩
  · intro R
    exact Rel.fr R (fun k hk => zu_f (by omega)) ⟨zu_g (by decide), zu_g (by decide)⟩ (fun k hk => zu_f (by omega)) (fun j hj => zu_n (by omega))
  · intro R Q k1' k0'
    have R36 : m3 45 36 = 0 := well M3 C3 R
    obtain ⟨r1, r2, r3, r4, r5, -⟩ := id R
    refine p_62s (N := m3 45 16) (H := m3 45 30) (J := 1) (a := a) (t1 := m3 69 (m3 45 30 - 1)) (t2 := m3 70 a) (by omega) (by rw [zu_g (by decide), C3.1 10 (by omega) (by omega)]; exact hK) (by rw [zu_g (by decide), C3.1 11 (by omega) (by omega)]; exact ea) (by omega) (by rw [zu_g (by decide)]; exact r2) (by rw [zu_g (by decide)]; exact r3) (by rw [zu_g (by decide)]; exact r1) (by rw [zu_g (by decide)]; exact r4 _ (by omega) (by omega)) (by rw [zu_g (by decide)]; exact r5 _ (by omega) (by omega)) yl (by omega) (by omega) ?_
    refine EC.sp (fun q s' h => k1' (ifP R36 q) s' ?_) (fun q => k0' (ifN q))
    rw [zu_g (by decide), zu_g (by decide), zu_g (by decide), zu_g (by decide)] at h
    exact EC.ty h (fun q => r4 _ (by omega) (by omega))
  intro s5 T5 M5 C5 F5 t5 t5' w5
  have R5 := Run.em (f := f) (s2 := s5) (T2 := T5) R3 b4 rfl (by omega) (by omega) rfl (fun q => (ifK q).2) (by omega) (fun q => (w5 q).2.2.2.2) t5 (by omega) (fun j0 _ => by
    have e8 : G3 (m3 45 16) = tyOf m3 f := (C3.2.1 j0).2.2.2.2.2.2.2
    obtain ⟨g1, g2, hE1, hE2, hE3⟩ := okE (E' := tyOf m4 f) e8 M3 (by omega)
    have hnx : nx (tyOf m3 f) (tyOf m4 f) (fun k => if k = a then m3 69 (m3 45 30 - 1) else m3 70 k) 1 0 (m3 69 (m3 45 30 - 1 - 1)) := by
      refine nx.L (nx_of (f := f) b4 (p := 1) (q := 0) ?_ ?_ ?_ ?_ ?_ (Or.inl ⟨rfl, ?_⟩)) ?_
      · rw [zu_n (by omega)]; rfl
      · intro k; rw [zu_g (by decide)]; rfl
      · rfl
      · rw [zu_n (by omega)]; omega
      · rw [zu_n (by omega)]; omega
      · rw [zu_g (by decide)]
      · intro k _ _
        rw [zu_f (by decide)]
    (refine ⟨?_, ?_, ?_, ?_, ?_, ?_, ?_, ?_, ?_, ?_, ?_, ?_, ?_, ?_, ?_, ?_, ?_, ⟨by omega, by omega⟩, hE1, hE2, hE3⟩ <;> (intro h; first | (exfalso; omega) | skip))
    rw [g1, g2]
    exact ⟨by omega, hnx.1, hnx.2.1, hnx.2.2.1, fun q => by omega, hnx.2.2.2.2⟩)
  have gm5 := gm3.tr gm4
  obtain ⟨b41, b42, b43, b44, b45, b46, b47, b48, b49, b410, b411, b412⟩ := id b4
  have st5 : m4 67 = m3 67 ∧ m4 68 = m3 68 := ⟨by rw [b412 67 (by omega), zu_f (by decide)], by rw [b412 68 (by omega), zu_f (by decide)]⟩
  refine run_kid (t' := t + 1) (ih _ xb1 xb2 xb3) C5 M5 (F3.tr F5) gm5 R5 ⟨by rw [b49 27 (by omega) (by omega) (by omega), zu_s]; omega, by rw [st5.1, (st3 _ (by omega)).1]; exact l3, by rw [st5.2, (st3 _ (by omega)).2]; exact l4⟩ (by omega) (by omega) (by omega) (by omega) (by omega) (by omega) (by omega) (fun q => (w5 q).1) ?_
  intro s6 m6 G6 T6 C6 M6 F6 gm6 R6 e6 st6 t6 t6' w6
  obtain ⟨⟨x1, x2, x3⟩, x4, x5, x6, x7⟩ := id R6
  -- the end of the LET
  have gm7 : goM f m6 (zu (zu m6 45 27 t) 70 a (-1)) := b_5 (n := n) e6 (by omega) (by rw [(st6 _ (by omega)).1, st5.1, (st3 _ (by omega)).1]; exact l1) (by rw [(st6 _ (by omega)).2, st5.2, (st3 _ (by omega)).2]; exact l2) (by omega) (by rw [M6.1 52 (by omega) (by omega), k1]; exact hK) (by rw [M6.1 53 (by omega) (by omega), k3]) (by omega)
  have h06 := M6.2.2.2.2.1
  have M7 : Com z (zu (zu m6 45 27 t) 70 a (-1)) := by
    have M60 : Com z (zu m6 45 27 t) := LM.com M6 zu27
    obtain ⟨a1, a2, a3, a4, a5, a6, a7⟩ := M60
    refine ⟨fun k a b => by rw [zu_f (by omega)]; exact a1 k a b, ?_, ?_, by rw [zu_g (by decide)]; exact a4, by rw [zu_g (by decide)]; exact a5, by rw [zu_g (by decide)]; exact a6, by rw [zu_g (by decide)]; exact a7⟩
    · intro k p q
      rw [zu_g (by decide)] at q ⊢
      exact a2 k p q
    · intro k p q
      by_cases e : k = a
      · rw [e, zu_s]; omega
      · rw [zu_n e]; exact a3 k p q
  have e7 : ∀ j, ¬ j = 27 → zu (zu m6 45 27 t) 70 a (-1) 45 j = m6 45 j := fun j h => by rw [zu_g (by decide), zu_n h]
  have e7' : ∀ k, ¬ k = 45 → ¬ k = 70 → zu (zu m6 45 27 t) 70 a (-1) k = m6 k := fun k h h' => by rw [zu_f h', zu_f h]
  generalize em7 : zu (zu m6 45 27 t) 70 a (-1) = m7 at gm7 M7 e7 e7'
  have e70 : ∀ k, m7 70 k = if k = a then -1 else m6 70 k := by
    intro k; rw [← em7]
    by_cases e : k = a
    · rw [e, zu_s, if_pos rfl]
    · rw [zu_n e, zu_g (by decide), if_neg e]
  have e27 : m7 45 27 = t := by rw [← em7, zu_g (by decide), zu_s]
  have j67 : m7 45 36 = m6 45 36 := e7 36 (by omega)
  have TM : Tm m m7 t (m 45 33) (m 45 30) (m 45 16) := by
    refine x4.tr (t' := t) (W' := m 45 33) (H' := m 45 30) (N' := m 45 16) ⟨fun j _ => ?_, fun j _ => ?_, fun k _ => ?_, fun i _ => ?_, fun j q1 q2 q3 q4 q5 => e7 j q2, fun k hk => e7' k (by omega) (by omega), fun q => by rw [← j67]; exact q⟩ (by omega) (by omega) (by omega) (by omega)
    · rw [e7' 67 (by omega) (by omega), e7' 68 (by omega) (by omega)]; exact ⟨rfl, rfl⟩
    · rw [e7' 71 (by omega) (by omega), e7' 72 (by omega) (by omega)]; exact ⟨rfl, rfl⟩
    · rw [e7' 69 (by omega) (by omega)]
    · rw [e7' 58 (by omega) (by omega), e7' 59 (by omega) (by omega), e7' 60 (by omega) (by omega), e7' 61 (by omega) (by omega), e7' 62 (by omega) (by omega)]; exact ⟨rfl, rfl, rfl, rfl, rfl⟩
  have fin : ∀ s8 T8, Cls z f s8 m7 (gs G6 (m6 45 16) (tyOf m7 f)) → Fc s6 s8 → T6 ≤ T8 → T8 ≤ T6 + 1 → (m6 45 36 = 0 → s8 22 6 = o ∧ Tc s6 s8 o) → w_46_102 X f T8 s8 Q := by
    intro s8 T8 C8 F8 t8 t8' w8
    refine g s8 m7 _ T8 (gm6.tr gm7) M7 C8 (F6.tr F8) ⟨⟨e27, ?_, ?_, ?_⟩, TM, by omega, fun i hi => ?_, fun q => ?_⟩ (by omega)
    · rw [e7 16 (by omega)]; omega
    · rw [e7 30 (by omega)]; omega
    · rw [e7 33 (by omega)]; exact x3
    · rw [gs_n (by omega), x6 i hi]
    · have q6 : m6 45 36 = 0 := by rw [← j67]; exact q
      obtain ⟨y1, y2, y3⟩ := x7 q6
      have q4 := (w6 q6).1
      rw [b48] at q4
      obtain ⟨q4a, q4b⟩ := ifK q4
      have hl3 := (R3.2.2.2.2 q4b).2.1
      have e8 : G6 (m6 45 16) = tyOf m6 f := (C6.2.1 q6).2.2.2.2.2.2.2
      refine ⟨(w8 q6).1, y1.tr (w8 q6).2 (by omega), fun k p q => ?_, ?_⟩
      · rw [e70]
        have := y2 k p q
        by_cases e : k = a
        · rw [if_pos e, e, ← hl3 a (by omega) (by omega)]; omega
        · rw [if_neg e, this]
          show (if k = a then m3 69 (m3 45 30 - 1) else m 70 k) = m 70 k
          rw [if_neg e]
      · rw [show m 45 16 + z 12 n = m 45 16 + (0 + z 12 b + 1 + z 12 c) by omega]
        refine seg.c y3 (fun i _ _ => ?_) (fun i p q => gs_n (by omega)) ?_
        · rw [e7' 58 (by omega) (by omega), e7' 59 (by omega) (by omega), e7' 60 (by omega) (by omega)]; exact ⟨rfl, rfl, rfl⟩
        · rw [← x1, gs_s, e8]
          refine ⟨?_, fun k => ?_, fun k => ?_, rfl⟩
          · exact e7 30 (by omega)
          · show m7 69 k = m6 69 k
            rw [e7' 69 (by omega) (by omega)]
          · show m7 70 k = m6 70 k ∨ m7 70 k = -1
            rw [e70]
            by_cases e : k = a
            · rw [if_pos e]; exact Or.inr rfl
            · rw [if_neg e]; exact Or.inl rfl
  obtain ⟨c1, c2, c3⟩ := id C6
  rcases M6.2.2.2.1 with q | q
  · have R := c2 q
    obtain ⟨q1, q2, q3, q4⟩ := w6 q
    have w63 : s6 24 o = 3 := by rw [q4]; exact (w5 q1).2.1.2
    have w62 : s6 23 o = n := by rw [q3]; exact (w5 q1).2.1.1
    refine gc_fin (by omega) q2 (by omega) R.1 w63 w62 (f_11 (a := a) (by omega) (by rw [zu_g (by decide), c1 10 (by omega) (by omega)]; exact hK) (by rw [zu_g (by decide), c1 11 (by omega) (by omega)]; exact ea) (by omega) (w_46_169_i (fin _ (T6 + 1) ⟨fun k p q => ?_, fun _ => ?_, fun q' => by omega⟩ (Fc.tr (Fc.zu (by omega)) (Fc.zu (by omega))) (by omega) (by omega) (fun _ => ⟨?_, ?_⟩))))
    · rw [zu_f (by omega), zu_f (by omega)]; exact c1 k p q
    · have R0 : Rel f (zu s6 22 6 o) (zu m6 45 27 t) G6 := Rel.fr R (fun k hk => zu_f (by omega)) ⟨zu_n (by omega), zu_n (by omega)⟩ (fun k hk => zu_f (by omega)) (fun j hj => zu_n (by omega))
      have := Rel.lt (a := a) R0 (by rw [zu_n (by omega)]; exact h06)
      rw [em7, zu_n (by omega)] at this
      exact this
    · rw [zu_g (by decide), zu_s]
    · intro j _ _
      rw [zu_g (by decide), zu_g (by decide), zu_g (by decide), zu_g (by decide), zu_g (by decide), zu_g (by decide), zu_g (by decide), zu_g (by decide)]; exact ⟨rfl, rfl, rfl, rfl⟩
  · exact fin s6 T6 ⟨c1, fun q' => by omega, fun _ => c3 q⟩ Fc.rf (by omega) (by omega) (fun q' => by omega)
end
