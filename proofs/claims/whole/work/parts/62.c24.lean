section
variable {z s m s1 m1 s2 m2 : zS} {G G1 G2 : Int → Nat → Int → Int} {f N t n o T a b c K : Int} {L : Int → Int} {X : zX} {Q : Int → zS → Prop}
-- both sides mend the same operand
theorem Rel.patch (h : Rel f s m G) {w v : Int} (hw : ∀ i, i = w → ¬ m 58 i = 2) : Rel f (zu s 16 w v) (zu m 59 w v) G := by
  obtain ⟨h1, h2, h3, h4, h5, h6, h7, h8⟩ := h
  have e : tyOf (zu m 59 w v) f = tyOf m f := by funext c k; simp only [tyOf]; rw [zu_g (by decide), zu_g (by decide), zu_g (by decide)]
  refine ⟨by rw [zu_g (by decide)]; exact h1, by rw [zu_g (by decide), zu_g (by decide)]; exact h2, by rw [zu_g (by decide), zu_g (by decide)]; exact h3, ?_, ?_, ?_, ?_, ?_⟩
  · intro k a b
    rw [zu_g (by decide)] at b
    rw [zu_g (by decide), zu_g (by decide)]; exact h4 k a b
  · intro k a b
    rw [zu_g (by decide), zu_g (by decide)]; exact h5 k a b
  · intro i a b
    rw [zu_g (by decide)] at b
    obtain ⟨q1, q2, q3, q4⟩ := h6 i a b
    have e1 : zu s 16 w v 16 i = zu m 59 w v 59 i := by
      by_cases q : i = w
      · rw [q, zu_s, zu_s]
      · rw [zu_n q, zu_n q, q2]
    refine ⟨by rw [zu_g (by decide), zu_g (by decide)]; exact q1, e1, fun q => ?_, fun q => ?_⟩
    · rw [zu_g (by decide)] at q
      rw [zu_g (by decide), zu_g (by decide), zu_g (by decide)]
      exact q3 q
    · rw [zu_g (by decide)] at q
      have : ¬ i = w := fun e => hw i e q
      rw [zu_g (by decide), zu_n this]
      exact q4 q
  · rw [zu_g (by decide), zu_f (by decide), zu_g (by decide)]; exact h7
  · rw [zu_g (by decide), e]; exact h8
set_option maxHeartbeats 1000000 in
theorem node_10 (S : Src z) (ih : ihs z f n) (hn : 0 ≤ n ∧ n < z 3 11) (hK : z 10 n = 10) : NodeOK z f n := by
  intro s m G T o t X Q hC hM P g
  have h0 := hM.2.2.2.2.1
  have h30 := hM.2.2.2.2.2.1
  have h33 := hM.2.2.2.2.2.2
  obtain ⟨⟨p1, p2, p3⟩, ⟨p4, p5⟩, p6, p7, p8, ⟨p9, p10⟩, ⟨p11, p12⟩, p13⟩ := P
  have hZ : z 12 n ≤ 400 := by omega
  obtain ⟨S1, S2, S3, S4, S5, S6⟩ := S
  obtain ⟨k1, k2, k3, k4, k5, -, -, -, nd⟩ := S6 n hn.1 hn.2
  generalize ea : z 11 (n * 3 + 0) = a at *
  generalize eb : z 11 (n * 3 + 1) = b at *
  generalize ec : z 11 (n * 3 + 2) = c at *
  rw [hK] at nd
  obtain ⟨-, -, -, -, -, -, d10, -⟩ := nd
  obtain ⟨⟨xa1, xa2, xa3⟩, ⟨xb1, xb2, xb3⟩, ⟨xc1, xc2, xc3⟩, e12, e13⟩ := d10 rfl
  have zpa := (S6 _ xa1 (by omega)).2.2.2.2.2.2.2.2.2.2.2.2.2.2.2.2.2.2.2
  have zpb := (S6 _ xb1 (by omega)).2.2.2.2.2.2.2.2.2.2.2.2.2.2.2.2.2.2.2
  have zpc := (S6 _ xc1 (by omega)).2.2.2.2.2.2.2.2.2.2.2.2.2.2.2.2.2.2.2
  have E1 : z 12 n = z 12 a + z 12 b + z 12 c + 2 := by omega
  have E2 : z 13 a ≤ z 13 n ∧ z 13 b ≤ z 13 n ∧ z 13 c ≤ z 13 n := by omega
  clear e12 e13 d10
  have mz := hM.1
  obtain ⟨m1, ⟨L, l1, l2, l3, l4, l5, l6, l7, l8, l9, l10, l11, l12⟩, gm⟩ := v_10 (f := f) (a := a) (b := b) (c := c) p1 (by omega) p2 p3 (by omega) (by rw [mz 52 (by omega) (by omega), k1]; exact hK) (by rw [mz 53 (by omega) (by omega), k3]) (by rw [mz 54 (by omega) (by omega), k4]) (by rw [mz 55 (by omega) (by omega), k5])
  have M1 := L.com hM
  have C1 := L.cls hC
  have R1 := (Run.rf (z := z) (s := s) (m := m) (G := G) (o := o) (t := t) p11).lm L (by omega)
  have J1 : m1 45 36 = m 45 36 := L.2.1 36 (by omega)
  refine cdown (k := 0) (K := 10) (P := 4) (o := o) (n := n) C1 M1.2.2.2.1 (by omega) (by omega) (fun q => p13 (by rw [← J1]; exact q)) (by omega) hK (by omega) (by omega) (by decide) (Or.inl rfl) ea (by omega) (by omega) ?_
  intro s2 T2 C2 F2 t2 t2' w2
  refine run_kid (ih _ xa1 xa2 xa3) C2 M1 F2 gm (R1.cl (fun q => (w2 q).2.2.2.2) t2) (t' := t + 5) ⟨by rw [L.1]; omega, l11, l12⟩ (by omega) (by omega) (by omega) (by omega) (by omega) (by omega) (by omega) (fun q => (w2 q).1) ?_
  intro s3 m3 G3 T3 C3 M3 F3 gm3 R3 e3 st3 t3 t3' w3
  obtain ⟨⟨u1, u2, u3⟩, u4, u5, u6, u7⟩ := id R3
  have mz3 := M3.1
  have ty3 := M3.2.1
  have h03 := M3.2.2.2.2.1
  generalize eW : m 45 33 = W at *
  generalize eN3 : m3 45 16 = N at *
  have y3 := ty3 (m3 45 30 - 1) (by omega) (by omega)
  -- ZERO
  obtain ⟨m4, b4, gm4⟩ := b_10 (f := f) (m := m3) (t := t + 4) (n := n) (N := N) (W := W) (by rw [e3]; omega) (by omega) (by rw [(st3 _ (by omega)).1]; exact l9) (by rw [(st3 _ (by omega)).2]; exact l10) (by omega) (by rw [mz3 52 (by omega) (by omega), k1]; exact hK) eN3 rfl rfl y3 (by omega) (by omega) u3 (by omega) rfl M3.2.2.2.1
  have M30 : Com z (zu (zu (zu m3 45 27 (t + 4)) 71 W N) 45 33 (W + 1)) := M3.fr (fun k a b => by rw [zu_f (by omega), zu_f (by omega), zu_f (by omega)]) (by rw [zu_f (by decide), zu_f (by decide), zu_f (by decide)]) (by rw [zu_f (by decide), zu_f (by decide), zu_f (by decide)]) (fun j hj => by rw [zu_n (by omega), zu_g (by decide), zu_n (by omega)]) (by rw [zu_s]; omega)
  have w3' : m3 45 36 = 0 → s3 22 6 = o + 1 ∧ s3 23 o = n ∧ s3 24 o = 1 := fun q => by
    obtain ⟨q1, q2, q3, q4⟩ := w3 q
    exact ⟨q2, by rw [q3]; exact (w2 q1).2.1.1, by rw [q4]; exact (w2 q1).2.1.2⟩
  have z30 : ∀ j, ¬ j = 27 → ¬ j = 33 → zu (zu (zu m3 45 27 (t + 4)) 71 W N) 45 33 (W + 1) 45 j = m3 45 j := fun j h h' => by rw [zu_n h', zu_g (by decide), zu_n h]
  refine cemit (m0 := zu (zu (zu m3 45 27 (t + 4)) 71 W N) 45 33 (W + 1)) (m' := m4) (s0 := zu (zu s3 24 o 2) 25 o N) (k := 1) (K := 10) (P := 4) (o := o) (n := n) (ch := b) (pmc := s3 18 N) (M := s3 14 2) (pl := s3 29 N) C3 M3 M30 (by omega) (by omega) w3' (by omega) hK (by omega) (by omega) (by decide) (Or.inl rfl) eb (by omega) (by rw [z30 16 (by omega) (by omega)]; exact eN3) (z30 36 (by omega) (by omega)) b4 (ifJ M3.2.2.2.1) (fun q => (ifK q).2) (fun q => ty3 _ (by omega) (by omega)) (M3.2.2.1 0 (by omega) (by omega)) (by rw [z30 30 (by omega) (by omega)]; omega) ?_ ?_ ?_ (by omega) (by rw [zu_g (by decide), zu_g (by decide)]) ?_
  · intro q
    obtain ⟨q1, q2, q3⟩ := w3' q
    refine ⟨(Fc.zu (by omega)).tr (Fc.zu (by omega)), by rw [zu_g (by decide), zu_g (by decide)], by rw [zu_g (by decide), zu_g (by decide)]; exact q2, by rw [zu_g (by decide), zu_s]; omega, ?_⟩
    intro j _ hj
    rw [zu_g (by decide), zu_g (by decide), zu_g (by decide), zu_n (by omega), zu_n (by omega), zu_g (by decide), zu_g (by decide), zu_g (by decide)]; exact ⟨rfl, rfl, rfl, rfl⟩
  · intro R
    exact Rel.fr R (fun k hk => by rw [zu_f (by omega), zu_f (by omega)]) ⟨by rw [zu_g (by decide), zu_g (by decide)], by rw [zu_g (by decide), zu_g (by decide)]⟩ (fun k hk => by rw [zu_f (by omega), zu_f (by omega), zu_f (by omega)]) (fun j hj => z30 j (by omega) (by omega))
  · intro R Q k1' k0'
    have R36 : m3 45 36 = 0 := well M3 C3 R
    obtain ⟨r1, r2, r3, r4, r5, -⟩ := id R
    refine p_62z (N := N) (H := m3 45 30) (J := 1) (t1 := m3 69 (m3 45 30 - 1)) (by omega) (by rw [zu_g (by decide), C3.1 10 (by omega) (by omega)]; exact hK) (by omega) (by rw [zu_g (by decide), r2]; exact eN3) (by rw [zu_g (by decide)]; exact r3) (by rw [zu_g (by decide)]; exact r1) (by rw [zu_g (by decide)]; exact r4 _ (by omega) (by omega)) (by omega) (by omega) y3 ?_
    refine EC.sp (fun q s' h => k1' (ifP R36 q) s' ?_) (fun q => k0' (ifN q))
    rw [zu_g (by decide), zu_g (by decide), zu_g (by decide), zu_g (by decide), zu_g (by decide), r5 0 (by omega) (by omega)] at h
    exact EC.ty h (fun q => r4 _ (by omega) (by omega))
  intro s5 T5 M4 C5 F5 t5 t5' w5
  obtain ⟨b41, b42, b43, b44, b45, b46, b47, b48, b49, b410, b411, b412⟩ := id b4
  have e433 : m4 45 33 = W + 1 := by rw [b49 33 (by omega) (by omega) (by omega), zu_s]
  have e427 : m4 45 27 = t + 4 := by rw [b49 27 (by omega) (by omega) (by omega), zu_n (by omega), zu_g (by decide), zu_s]
  have e467 : ∀ j, m4 67 j = m3 67 j ∧ m4 68 j = m3 68 j := fun j => by
    rw [b412 67 (by omega), b412 68 (by omega), zu_g (by decide), zu_g (by decide), zu_g (by decide), zu_g (by decide), zu_g (by decide), zu_g (by decide)]; exact ⟨rfl, rfl⟩
  have e471 : m4 71 W = N := by rw [b412 71 (by omega), zu_g (by decide), zu_s]
  -- b
  refine ih _ xb1 xb2 xb3 s5 m4 _ T5 (o + 1) (t + 3) X Q C5 M4 ⟨⟨by rw [e427]; omega, by rw [(e467 _).1, (st3 _ (by omega)).1]; exact l7, by rw [(e467 _).2, (st3 _ (by omega)).2]; exact l8⟩, ⟨by omega, by omega⟩, by omega, by omega, by omega, ⟨by omega, by omega⟩, ⟨by omega, by omega⟩, fun q => ⟨by have := (w5 q).1.1; omega, (w5 q).1.2⟩⟩ ?_
  intro s6 m6 G6 T6 gm6 M6 C6 F6 ⟨⟨v1, v2, v3, v4⟩, v5, v6, v7, v8⟩ t6
  obtain ⟨v51, v52, v53, v54, v55, v56, v57⟩ := id v5
  have mz6 := M6.1
  have ty6 := M6.2.1
  generalize eP : m6 45 16 = jp at *
  have y6 := ty6 (m6 45 30 - 1) (by omega) (by omega)
  have e671 : m6 71 W = N := by rw [(v52 _ (by omega)).1]; exact e471
  -- JUMP
  obtain ⟨m7, b7, gm7⟩ := b_3 (f := f) (m := m6) (t := t + 2) (n := n) (N := jp) (W := W) (wp := N) (by rw [v1]; omega) (by omega) (by rw [(v51 _ (by omega)).1, (e467 _).1, (st3 _ (by omega)).1]; exact l5) (by rw [(v51 _ (by omega)).2, (e467 _).2, (st3 _ (by omega)).2]; exact l6) eP rfl rfl (by omega) (by omega) (by rw [v4]; exact e433) (by omega) e671 (by omega) rfl
  have z60 : ∀ j, ¬ j = 27 → zu (zu (zu (zu m6 45 27 (t + 2)) 59 N (jp + 1)) 71 W jp) 72 W (m6 69 (m6 45 30 - 1)) 45 j = m6 45 j := fun j h => by rw [zu_g (by decide), zu_g (by decide), zu_g (by decide), zu_n h]
  have z6f : ∀ k, ¬ k = 45 → ¬ k = 59 → ¬ k = 71 → ¬ k = 72 → zu (zu (zu (zu m6 45 27 (t + 2)) 59 N (jp + 1)) 71 W jp) 72 W (m6 69 (m6 45 30 - 1)) k = m6 k := fun k h1 h2 h3 h4 => by rw [zu_f h4, zu_f h3, zu_f h2, zu_f h1]
  have M60 : Com z (zu (zu (zu (zu m6 45 27 (t + 2)) 59 N (jp + 1)) 71 W jp) 72 W (m6 69 (m6 45 30 - 1))) := M6.fr (fun k a b => z6f k (by omega) (by omega) (by omega) (by omega)) (z6f 69 (by omega) (by omega) (by omega) (by omega)) (z6f 70 (by omega) (by omega) (by omega) (by omega)) (fun j hj => z60 j (by omega)) (by rw [z60 33 (by omega)]; omega)
  have w6' : m6 45 36 = 0 → s6 22 6 = o + 1 ∧ s6 23 o = n ∧ s6 24 o = 2 ∧ s6 25 o = N := fun q => by
    obtain ⟨q1, q2, -⟩ := v8 q
    obtain ⟨q3, q4, q5, q6⟩ := q2 o (by omega) (by omega)
    obtain ⟨-, ⟨q7, q8⟩, q9, -⟩ := w5 (v57 q)
    exact ⟨q1, by rw [q3]; exact q7, by rw [q4, q8]; omega, by rw [q5, q9, zu_s]⟩
  have nz : ∀ i, i = N → ¬ m6 58 i = 2 := fun i e => by
    rw [e, (v54 N (by omega)).1, b41, if_pos rfl]; omega
  refine cemit (m0 := zu (zu (zu (zu m6 45 27 (t + 2)) 59 N (jp + 1)) 71 W jp) 72 W (m6 69 (m6 45 30 - 1))) (m' := m7) (s0 := zu (zu (zu (zu s6 24 o 3) 16 N (jp + 1)) 25 o jp) 26 o (m6 69 (m6 45 30 - 1))) (k := 2) (K := 10) (P := 4) (o := o) (n := n) (ch := c) (pmc := s6 18 jp) (M := s6 14 2) (pl := s6 29 jp) C6 M6 M60 (by omega) (by omega) (fun q => ⟨(w6' q).1, (w6' q).2.1, (w6' q).2.2.1⟩) (by omega) hK (by omega) (by omega) (by decide) (Or.inl rfl) ec (by omega) (by rw [z60 16 (by omega)]; exact eP) (z60 36 (by omega)) b7 M6.2.2.2.1 id (fun q => ty6 _ (by omega) (by omega)) (M6.2.2.1 0 (by omega) (by omega)) (by rw [z60 30 (by omega)]; omega) ?_ ?_ ?_ (by omega) (by rw [zu_g (by decide), zu_g (by decide), zu_g (by decide), zu_g (by decide)]) ?_
  · intro q
    obtain ⟨q1, q2, q3, q4⟩ := w6' q
    refine ⟨((Fc.zu (by omega)).tr (Fc.zu (by omega))).tr ((Fc.zu (by omega)).tr (Fc.zu (by omega))), by rw [zu_g (by decide), zu_g (by decide), zu_g (by decide), zu_g (by decide)], by rw [zu_g (by decide), zu_g (by decide), zu_g (by decide), zu_g (by decide)]; exact q2, by rw [zu_g (by decide), zu_g (by decide), zu_g (by decide), zu_s]; omega, ?_⟩
    intro j _ hj
    have hj' : ¬ j = o := by omega
    simp [zu, hj']
  · intro R
    have Rp := Rel.patch (v := jp + 1) R nz
    exact Rel.fr Rp (fun k hk => by
      rw [zu_f (by omega), zu_f (by omega)]
      by_cases q : k = 16
      · subst q; funext i; simp [zu]
      · rw [zu_f q, zu_f (by omega), zu_f q]) ⟨by simp [zu], by simp [zu]⟩ (fun k hk => by
      rw [zu_f (by omega), zu_f (by omega)]
      by_cases q : k = 59
      · subst q; funext i; simp [zu]
      · rw [zu_f q, zu_f (by omega), zu_f q]) (fun j hj => by rw [z60 j (by omega), zu_g (by decide)])
  · intro R Q k1' k0'
    have R36 : m6 45 36 = 0 := well M6 C6 R
    obtain ⟨r1, r2, r3, r4, r5, -⟩ := id R
    refine p_62j (N := jp) (H := m6 45 30) (J := 1) (t1 := m6 69 (m6 45 30 - 1)) (wp := N) (by omega) (by rw [zu_g (by decide), C6.1 10 (by omega) (by omega)]; exact hK) (by omega) (by rw [zu_g (by decide), r2]; exact eP) (by rw [zu_g (by decide)]; exact r3) (by rw [zu_g (by decide)]; exact r1) (by rw [zu_g (by decide)]; exact r4 _ (by omega) (by omega)) (by rw [zu_g (by decide)]; exact (w6' R36).2.2.2) (by omega) (by omega) (by omega) ?_
    intro s' h
    refine k1' R36 s' ?_
    rw [zu_g (s := s6) (k := 18) (by decide), zu_g (s := s6) (k := 14) (by decide), zu_g (s := s6) (k := 29) (by decide), zu_g (s := s6) (k := 27) (by decide), zu_g (s := s6) (k := 28) (by decide), r5 0 (by omega) (by omega)] at h
    exact EC.ty h (fun q => r4 _ (by omega) (by omega))
  intro s8 T8 M7 C8 F8 t8 t8' w8
  obtain ⟨b71, b72, b73, b74, b75, b76, b77, b78, b79, b710, b711, b712⟩ := id b7
  have e733 : m7 45 33 = W + 1 := by rw [b79 33 (by omega) (by omega) (by omega), z60 33 (by omega), v4]; exact e433
  have e727 : m7 45 27 = t + 2 := by rw [b79 27 (by omega) (by omega) (by omega), zu_g (by decide), zu_g (by decide), zu_g (by decide), zu_s]
  have e767 : ∀ j, j < t + 3 → m7 67 j = m3 67 j ∧ m7 68 j = m3 68 j := fun j hj => by
    rw [b712 67 (by omega), b712 68 (by omega), z6f 67 (by omega) (by omega) (by omega) (by omega), z6f 68 (by omega) (by omega) (by omega) (by omega), (v51 j hj).1, (v51 j hj).2]; exact e467 j
  have e771 : m7 71 W = jp := by rw [b712 71 (by omega), zu_g (by decide), zu_s]
  have e772 : m7 72 W = m6 69 (m6 45 30 - 1) := by rw [b712 72 (by omega), zu_s]
  -- c
  refine ih _ xc1 xc2 xc3 s8 m7 _ T8 (o + 1) (t + 1) X Q C8 M7 ⟨⟨by rw [e727]; omega, by rw [(e767 _ (by omega)).1, (st3 _ (by omega)).1]; exact l3, by rw [(e767 _ (by omega)).2, (st3 _ (by omega)).2]; exact l4⟩, ⟨by omega, by omega⟩, by omega, by omega, by omega, ⟨by omega, by omega⟩, ⟨by omega, by omega⟩, fun q => ⟨by have := (w8 q).1.1; omega, (w8 q).1.2⟩⟩ ?_
  intro s9 m9 G9 T9 gm9 M9 C9 F9 ⟨⟨x1, x2, x3, x4⟩, x5, x6, x7, x8⟩ t9
  obtain ⟨x51, x52, x53, x54, x55, x56, x57⟩ := id x5
  have ty9 := M9.2.1
  generalize eE : m9 45 16 = N9 at *
  have y9 := ty9 (m9 45 30 - 1) (by omega) (by omega)
  have e971 : m9 71 W = jp := by rw [(x52 _ (by omega)).1]; exact e771
  have e972 : m9 72 W = m6 69 (m6 45 30 - 1) := by rw [(x52 _ (by omega)).2]; exact e772
  have gm10 := b_4 (f := f) (m := m9) (t := t) (n := n) (N := N9) (W := W) (wp := jp) (J := m9 45 36) x1 (by omega) (by rw [(x51 _ (by omega)).1, (e767 _ (by omega)).1, (st3 _ (by omega)).1]; exact l1) (by rw [(x51 _ (by omega)).2, (e767 _ (by omega)).2, (st3 _ (by omega)).2]; exact l2) (by omega) (by rw [M9.1 52 (by omega) (by omega), k1]; exact hK) eE rfl rfl y9 (by omega) (by omega) (by rw [x4]; exact e733) (by omega) e971 (by omega) e972 y6 rfl M9.2.2.2.1
  generalize eJ : (if m9 69 (m9 45 30 - 1) = m6 69 (m6 45 30 - 1) then m9 45 36 else 1) = J at gm10
  have hJ : J = 0 ∨ J = 1 := by rw [← eJ]; exact ifJ M9.2.2.2.1
  have hJ0 : J = 0 → m9 69 (m9 45 30 - 1) = m6 69 (m6 45 30 - 1) ∧ m9 45 36 = 0 := fun q => ifK (by rw [eJ]; exact q)
  have a45 : ∀ j, ¬ j = 27 → ¬ j = 33 → ¬ j = 36 → zu (zu (zu (zu m9 45 27 t) 45 33 W) 59 jp N9) 45 36 J 45 j = m9 45 j := fun j h1 h2 h3 => by rw [zu_n h3, zu_g (by decide), zu_n h2, zu_n h1]
  have ak : ∀ k, ¬ k = 45 → ¬ k = 59 → zu (zu (zu (zu m9 45 27 t) 45 33 W) 59 jp N9) 45 36 J k = m9 k := fun k h1 h2 => by rw [zu_f h1, zu_f h2, zu_f h1, zu_f h1]
  have a36 : zu (zu (zu (zu m9 45 27 t) 45 33 W) 59 jp N9) 45 36 J 45 36 = J := zu_s
  have a33 : zu (zu (zu (zu m9 45 27 t) 45 33 W) 59 jp N9) 45 36 J 45 33 = W := by simp [zu]
  have a27 : zu (zu (zu (zu m9 45 27 t) 45 33 W) 59 jp N9) 45 36 J 45 27 = t := by simp [zu]
  have a59 : ∀ j, zu (zu (zu (zu m9 45 27 t) 45 33 W) 59 jp N9) 45 36 J 59 j = if j = jp then N9 else m9 59 j := fun j => by simp [zu]
  generalize em : zu (zu (zu (zu m9 45 27 t) 45 33 W) 59 jp N9) 45 36 J = m10 at gm10 a45 ak a36 a33 a27 a59
  have M10 : Com z m10 := by
    obtain ⟨q1, q2, q3, q4, q5, q6, q7⟩ := M9
    refine ⟨fun k p q => by rw [ak k (by omega) (by omega)]; exact q1 k p q, ?_, ?_, by rw [a36]; exact hJ, by rw [a45 16 (by omega) (by omega) (by omega)]; omega, by rw [a45 30 (by omega) (by omega) (by omega)]; exact q6, by omega⟩
    · rw [ak 69 (by omega) (by omega), a45 30 (by omega) (by omega) (by omega)]; exact q2
    · rw [ak 70 (by omega) (by omega)]; exact q3
  have c7 : ∀ i, i < jp → m7 58 i = m6 58 i ∧ m7 59 i = (if i = N then jp + 1 else m6 59 i) ∧ m7 60 i = m6 60 i ∧ m7 61 i = m6 61 i ∧ m7 62 i = m6 62 i := fun i hi => by
    have q : ¬ i = jp := by omega
    rw [b71, b72, b73, b74, b75, if_neg q, if_neg q, if_neg q, if_neg q, if_neg q, z6f 58 (by omega) (by omega) (by omega) (by omega), z6f 60 (by omega) (by omega) (by omega) (by omega), z6f 61 (by omega) (by omega) (by omega) (by omega), z6f 62 (by omega) (by omega) (by omega) (by omega)]
    exact ⟨rfl, by simp [zu], rfl, rfl, rfl⟩
  have c4 : ∀ i, i < N → m4 58 i = m3 58 i ∧ m4 59 i = m3 59 i ∧ m4 60 i = m3 60 i ∧ m4 61 i = m3 61 i ∧ m4 62 i = m3 62 i := fun i hi => by
    have q : ¬ i = N := by omega
    rw [b41, b42, b43, b44, b45, if_neg q, if_neg q, if_neg q, if_neg q, if_neg q]
    simp [zu]
  -- the places before
  have cA : ∀ i, i < N → m10 58 i = m3 58 i ∧ m10 59 i = m3 59 i ∧ m10 60 i = m3 60 i ∧ m10 61 i = m3 61 i ∧ m10 62 i = m3 62 i := fun i hi => by
    obtain ⟨q1, q2, q3, q4, q5⟩ := x54 i (by omega)
    obtain ⟨q6, q7, q8, q9, q10⟩ := c7 i (by omega)
    obtain ⟨r1, r2, r3, r4, r5⟩ := v54 i (by omega)
    obtain ⟨r6, r7, r8, r9, r10⟩ := c4 i hi
    rw [ak 58 (by omega) (by omega), a59, ak 60 (by omega) (by omega), ak 61 (by omega) (by omega), ak 62 (by omega) (by omega), if_neg (by omega), q1, q2, q3, q4, q5, q6, q7, q8, q9, q10, if_neg (by omega), r1, r2, r3, r4, r5, r6, r7, r8, r9, r10]
    exact ⟨rfl, rfl, rfl, rfl, rfl⟩
  have TM : Tm m m10 t W (m 45 30) (m 45 16) := by
    obtain ⟨u41, u42, u43, u44, u45, u46, u47⟩ := u4
    refine ⟨fun j hj => ?_, fun j hj => ?_, fun k hk => ?_, fun i hi => ?_, fun j q1 q2 q3 q4 q5 => ?_, fun k hk => ?_, fun q => ?_⟩
    · rw [ak 67 (by omega) (by omega), ak 68 (by omega) (by omega), (x51 _ (by omega)).1, (x51 _ (by omega)).2, (e767 _ (by omega)).1, (e767 _ (by omega)).2]; exact u41 j hj
    · rw [ak 71 (by omega) (by omega), ak 72 (by omega) (by omega), (x52 _ (by omega)).1, (x52 _ (by omega)).2, b712 71 (by omega), b712 72 (by omega), zu_g (by decide), zu_n (by omega), zu_g (by decide), zu_g (by decide), zu_n (by omega), zu_g (by decide), zu_g (by decide), zu_g (by decide), (v52 _ (by omega)).1, (v52 _ (by omega)).2, b412 71 (by omega), b412 72 (by omega), zu_g (by decide), zu_n (by omega), zu_g (by decide), zu_g (by decide), zu_g (by decide), zu_g (by decide)]; exact u42 j hj
    · rw [ak 69 (by omega) (by omega), x53 k (by omega), b710, z6f 69 (by omega) (by omega) (by omega) (by omega), ← ife, v53 k (by omega), b410, zu_f (by decide), zu_f (by decide), zu_f (by decide), ← ife]; exact u43 k hk
    · obtain ⟨q1, q2, q3, q4, q5⟩ := cA i (by omega)
      rw [q1, q2, q3, q4, q5]; exact u44 i hi
    · rw [a45 j q2 q4 q5, x55 j q1 q2 q3 q4 q5, b79 j q1 q3 q5, z60 j q2, v55 j q1 q2 q3 q4 q5, b49 j q1 q3 q5, z30 j q2 q4]; exact u45 j q1 q2 q3 q4 q5
    · rw [ak k (by omega) (by omega), x56 k hk, b712 k (by omega), z6f k (by omega) (by omega) (by omega) (by omega), v56 k hk, b412 k (by omega), zu_f (by omega), zu_f (by omega), zu_f (by omega)]; exact u46 k hk
    · rw [a36] at q
      have q9 := (hJ0 q).2
      have q7 := x57 q9
      rw [b78] at q7
      have q4 := v57 q7
      rw [b48] at q4
      exact u47 (ifK q4).2
  have e433' := e433
  have fin : ∀ s10 T10, Cls z f s10 m10 G9 → Fc s9 s10 → T9 ≤ T10 → T10 ≤ T9 + 1 → (m10 45 36 = 0 → s10 22 6 = o ∧ Tc s9 s10 o) → w_46_102 X f T10 s10 Q := by
    intro s10 T10 C10 F10 t10 t10' w10
    refine g s10 m10 G9 T10 (((((gm3.tr gm4).tr gm6).tr gm7).tr gm9).tr gm10) M10 C10 (F3.tr (F5.tr (F6.tr (F8.tr (F9.tr F10))))) ⟨⟨a27, ?_, ?_, a33.trans eW.symm⟩, by rw [eW]; exact TM, by omega, fun i hi => ?_, fun q => ?_⟩ (by omega)
    · rw [a45 16 (by omega) (by omega) (by omega)]; omega
    · rw [a45 30 (by omega) (by omega) (by omega)]; omega
    · rw [x7 i (by omega), gs_n (by omega), v7 i (by omega), gs_n (by omega), u6 i hi]
    · have qJ : J = 0 := by rw [← a36]; exact q
      obtain ⟨ej, q9⟩ := hJ0 qJ
      have q7 := x57 q9
      have q6 := q7
      rw [b78] at q6
      have q4 := v57 q6
      have q3' := q4
      rw [b48] at q3'
      obtain ⟨et, q3⟩ := ifK q3'
      obtain ⟨-, xc2', xc3', xc4'⟩ := x8 q9
      obtain ⟨-, vc2, vc3, vc4⟩ := v8 q6
      obtain ⟨uc1, uc2, uc3⟩ := u7 q3
      have l7 : ∀ k, m7 70 k = m6 70 k := fun k => by rw [b711, z6f 70 (by omega) (by omega) (by omega) (by omega)]; exact ife.symm
      have l4' : ∀ k, m4 70 k = m3 70 k := fun k => by rw [b411, zu_f (by decide), zu_f (by decide), zu_f (by decide)]; exact ife.symm
      have p7 : ∀ k, m7 69 k = m6 69 k := fun k => by rw [b710, z6f 69 (by omega) (by omega) (by omega) (by omega)]; exact ife.symm
      have p4' : ∀ k, m4 69 k = m3 69 k := fun k => by rw [b410, zu_f (by decide), zu_f (by decide), zu_f (by decide)]; exact ife.symm
      refine ⟨(w10 q).1, uc1.tr ((w5 q4).2.2.2.2.tr (Tc.tr (Tc.mono (o := o) vc2 (by omega)) ((w8 q7).2.2.2.2.tr (Tc.tr (Tc.mono (o := o) xc2' (by omega)) (w10 q).2 (by omega)) (by omega)) (by omega)) (by omega)) (by omega), fun k p q' => ?_, ?_⟩
      · rw [ak 70 (by omega) (by omega), xc3' k p q', l7, vc3 k p q', l4', uc2 k p q']
      · -- the types
        have gN : G9 N = tyOf m3 f := by
          rw [x7 N (by omega), gs_n (by omega), v7 N (by omega), gs_n (by omega), ← eN3]; exact (C3.2.1 q3).2.2.2.2.2.2.2
        have gN1 : G9 (N + 1) = tyOf m4 f := by rw [x7 _ (by omega), gs_n (by omega), v7 _ (by omega), gs_s]
        have gJ : G9 jp = tyOf m6 f := by rw [x7 _ (by omega), gs_n (by omega), ← eP]; exact (C6.2.1 q6).2.2.2.2.2.2.2
        have gJ1 : G9 (jp + 1) = tyOf m7 f := by rw [x7 _ (by omega), gs_s]
        have gE : G9 N9 = tyOf m9 f := by rw [← eE]; exact (C9.2.1 q9).2.2.2.2.2.2.2
        have lM3 := M3.2.2.1
        have lM6 := M6.2.2.1
        rw [show m 45 16 + z 12 n = N9 by omega]
        have cB : ∀ i, N < i → i < jp → m10 58 i = m6 58 i ∧ m10 59 i = m6 59 i ∧ m10 60 i = m6 60 i := fun i h1 h2 => by
          obtain ⟨r1, r2, r3, -, -⟩ := x54 i (by omega)
          obtain ⟨r6, r7, r8, -, -⟩ := c7 i h2
          rw [ak 58 (by omega) (by omega), a59, ak 60 (by omega) (by omega), if_neg (by omega), r1, r2, r3, r6, r7, r8, if_neg (by omega)]
          exact ⟨rfl, rfl, rfl⟩
        have s1 : seg z m10 G9 (m 45 16) N := by
          refine seg.c (m := m3) (G := G3) (by rw [show N = m 45 16 + (0 + z 12 a) by omega]; exact uc3) (fun i h1 h2 => ⟨(cA i h2).1, (cA i h2).2.1, (cA i h2).2.2.1⟩) (fun i h1 h2 => by rw [x7 i (by omega), gs_n (by omega), v7 i (by omega), gs_n (by omega)]) (low.of (by rw [x7 N (by omega), gs_n (by omega), v7 N (by omega), gs_n (by omega)]))
        have s3 : seg z m10 G9 (N + 1) jp := by
          refine seg.c (m := m6) (G := G6) (by rw [show jp = m4 45 16 + z 12 b by omega, ← b46]; exact vc4) (fun i h1 h2 => cB i (by omega) h2) (fun i h1 h2 => by rw [x7 i (by omega), gs_n (by omega)]) (low.of (by rw [x7 jp (by omega), gs_n (by omega)]))
        have s5 : seg z m10 G9 (jp + 1) N9 := by
          refine seg.c (m := m9) (G := G9) (by rw [show N9 = m7 45 16 + z 12 c by omega, ← b76]; exact xc4') (fun i h1 h2 => by rw [ak 58 (by omega) (by omega), a59, if_neg (by omega), ak 60 (by omega) (by omega)]; exact ⟨rfl, rfl, rfl⟩) (fun _ _ _ => rfl) low.rf
        have s2 : seg z m10 G9 N (N + 1) ∨ True := Or.inr trivial
        have o2 : m10 58 N = 10 ∧ m10 59 N = jp + 1 ∧ m10 60 N = 0 := by
          obtain ⟨r1, r2, r3, -, -⟩ := x54 N (by omega)
          obtain ⟨r6, r7, r8, -, -⟩ := c7 N (by omega)
          obtain ⟨v1', v2', v3', -, -⟩ := v54 N (by omega)
          rw [ak 58 (by omega) (by omega), a59, ak 60 (by omega) (by omega), if_neg (by omega), r1, r2, r3, r6, r7, r8, if_pos rfl, v1', v3', b41, b43, if_pos rfl, if_pos rfl]
          exact ⟨rfl, rfl, rfl⟩
        have o4 : m10 58 jp = 11 ∧ m10 59 jp = N9 ∧ m10 60 jp = 0 := by
          obtain ⟨r1, r2, r3, -, -⟩ := x54 jp (by omega)
          rw [ak 58 (by omega) (by omega), a59, ak 60 (by omega) (by omega), if_pos rfl, r1, r3, b71, b73, if_pos rfl, if_pos rfl]
          exact ⟨rfl, rfl, rfl⟩
        have ok2 : okI z G9 N 10 (jp + 1) 0 := by
          have hE1 : 0 ≤ G9 N 0 0 ∧ G9 N 0 0 ≤ 16 := by rw [gN]; exact ⟨M3.2.2.2.2.2.1, by show m3 45 30 ≤ 16; omega⟩
          have hE2 : ∀ k, 0 ≤ k → k < G9 N 0 0 → tI (G9 N 1 k) := by rw [gN]; exact ty3
          have hE3 : ∀ k, 0 ≤ k → k < 8 → -1 ≤ G9 N 2 k ∧ G9 N 2 k ≤ 7 := by rw [gN]; exact lM3
          (refine ⟨?_, ?_, ?_, ?_, ?_, ?_, ?_, ?_, ?_, ?_, ?_, ?_, ?_, ?_, ?_, ?_, ?_, ⟨by omega, by omega⟩, hE1, hE2, hE3⟩ <;> (intro h; first | (exfalso; omega) | skip))
          rw [gN, gN1, gJ1]
          refine ⟨et, ⟨?_, ?_, fun k p q' => ?_, fun q' => by omega, fun k p q' => Or.inl ?_, rfl⟩, by omega, ⟨?_, ?_, fun k p q' => ?_, fun q' => by omega, fun k p q' => Or.inl ?_, rfl⟩⟩
          · show 1 ≤ m3 45 30; omega
          · show m4 45 30 = m3 45 30 - 1 + 0; omega
          · exact p4' k
          · exact l4' k
          · show 1 ≤ m3 45 30; omega
          · show m7 45 30 = m3 45 30 - 1 + 0; omega
          · have q2 : k < m3 45 30 - 1 := q'
            show m7 69 k = m3 69 k
            rw [p7, v53 k (by omega), p4']
          · show m7 70 k = m3 70 k
            rw [l7, vc3 k p q', l4']
        have ok4 : okI z G9 jp 11 N9 0 := by
          have hE1 : 0 ≤ G9 jp 0 0 ∧ G9 jp 0 0 ≤ 16 := by rw [gJ]; exact ⟨M6.2.2.2.2.2.1, by show m6 45 30 ≤ 16; omega⟩
          have hE2 : ∀ k, 0 ≤ k → k < G9 jp 0 0 → tI (G9 jp 1 k) := by rw [gJ]; exact ty6
          have hE3 : ∀ k, 0 ≤ k → k < 8 → -1 ≤ G9 jp 2 k ∧ G9 jp 2 k ≤ 7 := by rw [gJ]; exact lM6
          (refine ⟨?_, ?_, ?_, ?_, ?_, ?_, ?_, ?_, ?_, ?_, ?_, ?_, ?_, ?_, ?_, ?_, ?_, ⟨by omega, by omega⟩, hE1, hE2, hE3⟩ <;> (intro h; first | (exfalso; omega) | skip))
          rw [gJ, gE]
          refine ⟨by omega, ⟨?_, ?_, fun k p q' => ?_, fun q' => by omega, fun k p q' => Or.inl ?_, rfl⟩⟩
          · show 0 ≤ m6 45 30; omega
          · show m9 45 30 = m6 45 30 - 0 + 0; omega
          · have q2 : k < m6 45 30 - 0 := q'
            show m9 69 k = m6 69 k
            by_cases e : k = m6 45 30 - 1
            · rw [e, ← ej]; congr 1; omega
            · rw [x53 k (by omega), p7]
          · show m9 70 k = m6 70 k
            rw [xc3' k p q', l7]
        refine seg.app (mi := N) s1 ?_ (by omega)
        intro i h1 h2
        by_cases e1 : i = N
        · subst e1
          rw [o2.1, o2.2.1, o2.2.2]
          exact ⟨ok2, fun _ => by omega⟩
        · by_cases e2 : i < jp
          · have := s3 i (by omega) e2
            exact ⟨this.1, fun w => by have := this.2 w; omega⟩
          · by_cases e3 : i = jp
            · subst e3
              rw [o4.1, o4.2.1, o4.2.2]
              exact ⟨ok4, fun _ => by omega⟩
            · exact s5 i (by omega) h2
  obtain ⟨c1, c2, c3⟩ := id C9
  rcases M9.2.2.2.1 with q | q
  · have R := c2 q
    obtain ⟨q1, q2, -⟩ := x8 q
    obtain ⟨r1, r2, r3, r4⟩ := q2 o (by omega) (by omega)
    obtain ⟨-, ⟨r5, r6⟩, r7, r8, -⟩ := w8 (x57 q)
    obtain ⟨v1', v2', v3', v4', v5', v6', v7', v8', v9'⟩ := clf (o := o) C9 R
    refine gc_fin (n := n) (by omega) q1 (by omega) R.1 (by rw [r2, r6]; omega) (by rw [r1]; exact r5) (f_10 (y := o) (N := N9) (H := m9 45 30) (J := 1) (t1 := m9 69 (m9 45 30 - 1)) (t2 := m6 69 (m6 45 30 - 1)) (x1 := jp) (by omega) (by rw [v9' 10 (by omega) (by omega)]; exact hK) (by omega) (by rw [v1']; exact eE) v2' v3' (v4' _ (by omega) (by omega)) (by rw [zu_g (by decide), r4, r8, zu_s]) (by rw [zu_g (by decide), r3, r7, zu_g (by decide), zu_s]) (by omega) (by omega) (by omega) y9 y6 (w_46_169_i ?_))
    refine fin _ (T9 + 1) ⟨fun k p q' => ?_, fun q' => ?_, fun q' => ?_⟩ ?_ (by omega) (by omega) (fun q' => ⟨?_, ?_⟩)
    · rw [zu_f (by omega), zu_f (by omega), zu_f (by omega), zu_f (by omega)]; exact c1 k p q'
    · rw [a36] at q'
      have ej := (hJ0 q').1
      rw [if_pos ej]
      have Rp := Rel.patch (v := N9) (w := jp) R (fun i e => by rw [e, (x54 jp (by omega)).1, b71, if_pos rfl]; omega)
      refine Rel.fr Rp (fun k hk => ?_) ⟨?_, ?_⟩ (fun k hk => ?_) (fun j hj => ?_)
      · by_cases e : k = 27
        · subst e
          rw [zu_f (by decide)]
          funext j
          by_cases e : j = m9 45 30 - 1
          · rw [e, zu_s, zu_g (by decide), ← ej]; exact (R.2.2.2.1 _ (by omega) (by omega)).symm
          · rw [zu_n e, zu_g (by decide), zu_g (by decide), zu_g (by decide)]
        · by_cases e' : k = 16
          · subst e'; funext j; simp [zu]
          · rw [zu_f (by omega), zu_f e, zu_f e', zu_f (by omega), zu_f e']
      · simp [zu]
      · rw [zu_s, zu_g (by decide)]; exact R.1.symm
      · by_cases e' : k = 59
        · subst e'; funext j; rw [a59]; simp [zu]
        · rw [ak k (by omega) e', zu_f e']
      · rw [a45 j (by omega) (by omega) (by omega), zu_g (by decide)]
    · rw [a36] at q'
      have : ¬ m9 69 (m9 45 30 - 1) = m6 69 (m6 45 30 - 1) := fun e => by rw [if_pos e] at eJ; omega
      exact ⟨by rw [if_neg this, zu_s], by rw [show zu (zu (zu (zu s9 22 6 o) 16 jp N9) 27 (m9 45 30 - 1) (m6 69 (m6 45 30 - 1))) 22 10 (if m9 69 (m9 45 30 - 1) = m6 69 (m6 45 30 - 1) then 1 else 0) 22 6 = o by simp [zu]]; exact ⟨by omega, by omega⟩⟩
    · exact ((Fc.zu (by omega)).tr (Fc.zu (by omega))).tr ((Fc.zu (by omega)).tr (Fc.zu (by omega)))
    · simp [zu]
    · intro j _ hj
      simp [zu]
  · exact fin s9 T9 ⟨c1, fun q' => by rw [a36] at q'; have := (hJ0 q').2; omega, fun _ => c3 q⟩ Fc.rf (by omega) (by omega) (fun q' => by rw [a36] at q'; have := (hJ0 q').2; omega)
end
