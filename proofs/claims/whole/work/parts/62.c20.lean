section
variable {z s m s1 m1 m2 : zS} {G G1 : Int → Nat → Int → Int} {f N t n o T a b c K N1 : Int} {X : zX} {Q : Int → zS → Prop}
theorem well (hM : Com z m1) (hC : Cls z f s1 m1 G1) (R : Rel f s1 m1 G1) : m1 45 36 = 0 := by
  rcases hM.2.2.2.1 with q | q
  · exact q
  · have := hC.2.2 q; have := R.1; omega
theorem node_put (S : Src z) (ih : ihs z f n) (hn : 0 ≤ n ∧ n < z 3 11) (hK : z 10 n = K) (hK' : K = 14 ∨ K = 15) : NodeOK z f n := by
  intro s m G T o t X Q hC hM P g
  have h0 := hM.2.2.2.2.1
  have h30 := hM.2.2.2.2.2.1
  have hZ : z 12 n ≤ 400 := by have := P.2.2.2.1; omega
  have S' := S
  obtain ⟨S1, S2, S3, S4, S5, S6⟩ := S'
  obtain ⟨k1, k2, k3, k4, k5, -, -, -, nd⟩ := S6 n hn.1 hn.2
  rw [hK] at nd
  obtain ⟨-, -, -, d3, -⟩ := nd
  obtain ⟨⟨xa1, xa2, xa3⟩, ⟨xb1, xb2, xb3⟩, e12, e13⟩ := d3 (by omega)
  have zpa := (S6 _ xa1 (by omega)).2.2.2.2.2.2.2.2.2.2.2.2.2.2.2.2.2.2.2
  have zpb := (S6 _ xb1 (by omega)).2.2.2.2.2.2.2.2.2.2.2.2.2.2.2.2.2.2.2
  have E1 : z 12 n = z 12 (z 11 (n * 3 + 0)) + z 12 (z 11 (n * 3 + 1)) + 1 := by omega
  have E2 : 2 ≤ z 13 n := by omega
  clear e12 e13 d3
  refine kids2 S (ih _ xa1 xa2 xa3) (ih _ xb1 xb2 xb3) hn hC hM P hK (by omega) rfl rfl hZ ?_
  intro s1 m1 G1 T1 C1 M1 F1 gm1 mid t1
  obtain ⟨⟨i1, i2, i3⟩, ⟨i4, i5, i6⟩, -⟩ := id mid
  obtain ⟨-, ⟨p4, p5⟩, -, p7, p8, ⟨p9, p10⟩, ⟨p11, p12⟩, -⟩ := P
  have mz := M1.1
  have ty := M1.2.1
  have y1 := ty (m1 45 30 - 1) (by omega) (by omega)
  have y2 := ty (m1 45 30 - 2) (by omega) (by omega)
  obtain ⟨sl, sr, sl', sr'⟩ := S3 _ y2
  have e46 : m1 46 = z 46 := mz 46 (by omega) (by omega)
  have e47 : m1 47 = z 47 := mz 47 (by omega) (by omega)
  obtain ⟨m2, b2, gm2⟩ := b_put (f := f) (m := m1) (t := t) (n := n) (K := K) i1 (by omega) i2 i3 (by omega) (by rw [mz 52 (by omega) (by omega), k1]; exact hK) hK' rfl rfl rfl rfl y1 y2 (by rw [e46, sl]; exact sl') (by rw [e47, sr]; exact sr') (by omega) (by omega) rfl M1.2.2.2.1
  refine finish (op := K + 1) (pmc := s1 18 (m1 45 16)) (pl := s1 29 (m1 45 16)) C1 M1 F1 mid gm1 (by omega) ⟨?_, ?_⟩ (by omega) (by omega) h30 i4 (by omega) h0 b2 gm2 (ifJ M1.2.2.2.1) (fun q => (ifK q).2) y1 ?_ (fun _ q => by omega) (M := s1 14 2) (by rw [if_neg (by omega)]; omega) (fun q => by omega) (by omega) ?_ ?_
  · have := mid.2.2.2.1; omega
  · omega
  · intro R Q k1' k0'
    obtain ⟨v1, v2, v3, v4, v5, v6, v7, v8, v9⟩ := clf (o := o) C1 R
    have R36 : m1 45 36 = 0 := well M1 C1 R
    rcases hK' with rfl | rfl
    · simp only [if_true] at k1' k0'
      rw [e46, sl] at k1' k0'
      refine f_14 (by omega) (by rw [v9 10 (by omega) (by omega)]; exact hK) v1 v2 v3 (v4 _ (by omega) (by omega)) (v4 _ (by omega) (by omega)) (by omega) (by omega) y1 y2 (by rw [v9 4 (by omega) (by omega)]; exact sl') ?_
      rw [v6, v7, v8, v5 0 (by omega) (by omega), v9 4 (by omega) (by omega)]
      exact EC.sp (fun q => k1' (ifP R36 q)) (fun q => k0' (ifN q))
    · simp only [show ¬ ((15 : Int) = 14) by omega, if_false] at k1' k0'
      rw [e47, sr] at k1' k0'
      refine f_15 (by omega) (by rw [v9 10 (by omega) (by omega)]; exact hK) v1 v2 v3 (v4 _ (by omega) (by omega)) (v4 _ (by omega) (by omega)) (by omega) (by omega) y1 y2 (by rw [v9 5 (by omega) (by omega)]; exact sr') ?_
      rw [v6, v7, v8, v5 0 (by omega) (by omega), v9 5 (by omega) (by omega)]
      exact EC.sp (fun q => k1' (ifP R36 q)) (fun q => k0' (ifN q))
  · intro j0 hnx
    obtain ⟨q0, j0⟩ := ifK j0
    have e8 : G1 (m1 45 16) = tyOf m1 f := (C1.2.1 j0).2.2.2.2.2.2.2
    obtain ⟨g1, g2, hE1, hE2, hE3⟩ := okE (E' := tyOf m2 f) e8 M1 (by omega)
    rw [e8, show m1 45 30 - m 45 30 = 2 by omega] at hnx
    (refine ⟨?_, ?_, ?_, ?_, ?_, ?_, ?_, ?_, ?_, ?_, ?_, ?_, ?_, ?_, ?_, ?_, ?_, ⟨by omega, by omega⟩, hE1, hE2, hE3⟩ <;> (intro h; first | (exfalso; omega) | skip))
    · rw [g1, g2]
      rw [if_pos (by omega), e46, sl] at q0
      exact ⟨q0.1, q0.2, hnx⟩
    · rw [g1, g2]
      rw [if_neg (by omega), e47, sr] at q0
      exact ⟨q0.1, q0.2, hnx⟩
  · intro s' m' G' T' a1 a2 a3 a4 a5 a6
    refine g s' m' G' T' a1 a2 a3 a4 (by rw [E1]; exact a5) (by omega)
theorem node_6 (S : Src z) (ih : ihs z f n) (hn : 0 ≤ n ∧ n < z 3 11) (hK : z 10 n = 6) : NodeOK z f n := by
  intro s m G T o t X Q hC hM P g
  have h0 := hM.2.2.2.2.1
  have h30 := hM.2.2.2.2.2.1
  have hZ : z 12 n ≤ 400 := by have := P.2.2.2.1; omega
  have S' := S
  obtain ⟨S1, S2, S3, S4, S5, S6⟩ := S'
  obtain ⟨k1, k2, k3, k4, k5, -, -, -, nd⟩ := S6 n hn.1 hn.2
  rw [hK] at nd
  obtain ⟨-, -, -, -, d4, -⟩ := nd
  obtain ⟨ha, ⟨xa1, xa2, xa3⟩, ⟨xb1, xb2, xb3⟩, e12, e13⟩ := d4 rfl
  have zpa := (S6 _ xa1 (by omega)).2.2.2.2.2.2.2.2.2.2.2.2.2.2.2.2.2.2.2
  have zpb := (S6 _ xb1 (by omega)).2.2.2.2.2.2.2.2.2.2.2.2.2.2.2.2.2.2.2
  have E1 : z 12 n = z 12 (z 11 (n * 3 + 1)) + z 12 (z 11 (n * 3 + 2)) + 1 := by omega
  have E2 : 2 ≤ z 13 n := by omega
  clear e12 e13 d4
  refine kidsP S (ih _ xa1 xa2 xa3) (ih _ xb1 xb2 xb3) hn hC hM P hK rfl rfl hZ ?_
  intro s1 m1 G1 T1 C1 M1 F1 gm1 mid t1
  obtain ⟨⟨i1, i2, i3⟩, ⟨i4, i5, i6⟩, -⟩ := id mid
  obtain ⟨-, ⟨p4, p5⟩, -, p7, p8, ⟨p9, p10⟩, ⟨p11, p12⟩, -⟩ := P
  have mz := M1.1
  have ty := M1.2.1
  obtain ⟨sl, sr, sl', sr'⟩ := S3 (z 11 (n * 3 + 0)) ⟨by omega, by omega⟩
  have e46 : m1 46 = z 46 := mz 46 (by omega) (by omega)
  have e47 : m1 47 = z 47 := mz 47 (by omega) (by omega)
  obtain ⟨m2, b2, gm2⟩ := b_6 (f := f) (m := m1) (t := t) (n := n) (a := z 11 (n * 3 + 0)) i1 (by omega) i2 i3 (by omega) (by rw [mz 52 (by omega) (by omega), k1]; exact hK) (by rw [mz 53 (by omega) (by omega), k3]) (by omega) rfl rfl rfl rfl ty M1.2.2.1 (by rw [e46, sl]; exact sl') (by rw [e47, sr]; exact sr') (by omega) (by omega) rfl M1.2.2.2.1
  refine finish (op := 6) (pmc := bm (m1 69) (m1 45 30).toNat) (pl := s1 29 (m1 45 16)) C1 M1 F1 mid gm1 (by omega) ⟨?_, ?_⟩ (by omega) (by omega) h30 i4 (by omega) h0 b2 gm2 (ifJ M1.2.2.2.1) (fun q => (ifK q).2) ⟨by omega, by omega⟩ ?_ (fun _ q => ⟨rfl, rfl, rfl⟩) (M := s1 14 2 + 1) (by rw [if_pos (by omega)]) (fun q => by omega) (by omega) ?_ ?_
  · have := mid.2.2.2.1; omega
  · omega
  · intro R Q k1' k0'
    obtain ⟨v1, v2, v3, v4, v5, v6, v7, v8, v9⟩ := clf (o := o) C1 R
    have R36 : m1 45 36 = 0 := well M1 C1 R
    rw [e46, sl, e47, sr] at k1' k0'
    refine f_6 (a := z 11 (n * 3 + 0)) (M := s1 14 2) (by omega) (by rw [v9 10 (by omega) (by omega)]; exact hK) (by rw [v9 11 (by omega) (by omega)]) (by omega) v1 v2 v3 v7 (v4 _ (by omega) (by omega)) (v4 _ (by omega) (by omega)) (by omega) (by omega) (fun k a b => by rw [v4 k a b]; exact ty k a b) (by rw [v9 4 (by omega) (by omega)]; exact sl') (by rw [v9 5 (by omega) (by omega)]; exact sr') ?_
    rw [v8, v5 0 (by omega) (by omega), v9 4 (by omega) (by omega), v9 5 (by omega) (by omega), bm_c (f := zu s1 22 6 o 27) (g := m1 69) (m1 45 30).toNat (fun k a b => v4 k a (by omega))]
    exact EC.sp (fun q => k1' (ifP R36 q)) (fun q => k0' (ifN q))
  · intro j0 hnx
    obtain ⟨q0, j0⟩ := ifK j0
    have e8 : G1 (m1 45 16) = tyOf m1 f := (C1.2.1 j0).2.2.2.2.2.2.2
    obtain ⟨g1, g2, hE1, hE2, hE3⟩ := okE (E' := tyOf m2 f) e8 M1 (by omega)
    rw [e8, show m1 45 30 - m 45 30 = 2 by omega] at hnx
    (refine ⟨?_, ?_, ?_, ?_, ?_, ?_, ?_, ?_, ?_, ?_, ?_, ?_, ?_, ?_, ?_, ?_, ?_, ⟨by omega, by omega⟩, hE1, hE2, hE3⟩ <;> (intro h; first | (exfalso; omega) | skip))
    rw [g1, g2]
    rw [e46, sl, e47, sr] at q0
    exact ⟨ha, q0.1, q0.2, hnx⟩
  · intro s' m' G' T' a1 a2 a3 a4 a5 a6
    refine g s' m' G' T' a1 a2 a3 a4 (by rw [E1]; exact a5) (by omega)
theorem node_one (S : Src z) (ih : ihs z f n) (hn : 0 ≤ n ∧ n < z 3 11) (hK : z 10 n = K) (hK' : K = 7 ∨ K = 8 ∨ K = 9) : NodeOK z f n := by
  intro s m G T o t X Q hC hM P g
  have h0 := hM.2.2.2.2.1
  have h30 := hM.2.2.2.2.2.1
  have hZ : z 12 n ≤ 400 := by have := P.2.2.2.1; omega
  have S' := S
  obtain ⟨S1, S2, S3, S4, S5, S6⟩ := S'
  obtain ⟨k1, k2, k3, k4, k5, -, -, -, nd⟩ := S6 n hn.1 hn.2
  rw [hK] at nd
  obtain ⟨-, -, -, -, -, d5, -⟩ := nd
  obtain ⟨⟨xa1, xa2, xa3⟩, e12, e13⟩ := d5 (by omega)
  have zpa := (S6 _ xa1 (by omega)).2.2.2.2.2.2.2.2.2.2.2.2.2.2.2.2.2.2.2
  have E1 : z 12 n = z 12 (z 11 (n * 3 + 0)) + 1 := by omega
  clear e12 d5
  refine kids1 S (ih _ xa1 xa2 xa3) hn hC hM P hK (by omega) rfl hZ ?_
  intro s1 m1 G1 T1 C1 M1 F1 gm1 mid t1
  obtain ⟨⟨i1, i2, i3⟩, ⟨i4, i5, i6⟩, -⟩ := id mid
  obtain ⟨-, ⟨p4, p5⟩, -, p7, p8, ⟨p9, p10⟩, ⟨p11, p12⟩, -⟩ := P
  have mz := M1.1
  have ty := M1.2.1
  have y1 := ty (m1 45 30 - 1) (by omega) (by omega)
  obtain ⟨sl, sr, sl', sr'⟩ := S3 _ y1
  have e46 : m1 46 = z 46 := mz 46 (by omega) (by omega)
  have e47 : m1 47 = z 47 := mz 47 (by omega) (by omega)
  obtain ⟨m2, b2, gm2⟩ := b_one (f := f) (m := m1) (t := t) (n := n) (K := K) i1 (by omega) i2 i3 (by omega) (by rw [mz 52 (by omega) (by omega), k1]; exact hK) hK' rfl rfl rfl y1 (by omega) (by omega) rfl M1.2.2.2.1
  rw [e46, e47, sl, sr] at b2
  generalize eL : (if K = 9 then 0 else if K = 7 then z 4 (m1 69 (m1 45 30 - 1)) else z 5 (m1 69 (m1 45 30 - 1))) = L at b2
  have hL : tI L := by rw [← eL]; split; exact ⟨by omega, by omega⟩; split; exact sl'; exact sr'
  refine finish (op := K) (pmc := s1 18 (m1 45 16)) (pl := s1 29 (m1 45 16)) C1 M1 F1 mid gm1 (by omega) ⟨?_, ?_⟩ (by omega) (by omega) h30 i4 (by omega) h0 b2 gm2 (ifJ M1.2.2.2.1) (fun q => (ifK q).2) hL ?_ (fun _ q => by omega) (M := s1 14 2) (by rw [if_neg (by omega)]; omega) (fun q => by omega) (by omega) ?_ ?_
  · have := mid.2.2.2.1; omega
  · omega
  · intro R Q k1' k0'
    obtain ⟨v1, v2, v3, v4, v5, v6, v7, v8, v9⟩ := clf (o := o) C1 R
    have R36 : m1 45 36 = 0 := well M1 C1 R
    rcases hK' with rfl | rfl | rfl
    · rw [if_neg (by omega), if_pos rfl] at eL
      refine f_7 (by omega) (by rw [v9 10 (by omega) (by omega)]; exact hK) v1 v2 v3 (v4 _ (by omega) (by omega)) (by omega) (by omega) y1 ?_
      rw [v6, v7, v8, v5 0 (by omega) (by omega), v9 4 (by omega) (by omega), eL]
      exact EC.sp (fun q => k1' (ifP R36 q)) (fun q => k0' (ifN q))
    · rw [if_neg (by omega), if_neg (by omega)] at eL
      refine f_8 (by omega) (by rw [v9 10 (by omega) (by omega)]; exact hK) v1 v2 v3 (v4 _ (by omega) (by omega)) (by omega) (by omega) y1 ?_
      rw [v6, v7, v8, v5 0 (by omega) (by omega), v9 5 (by omega) (by omega), eL]
      exact EC.sp (fun q => k1' (ifP R36 q)) (fun q => k0' (ifN q))
    · rw [if_pos rfl] at eL
      subst eL
      refine f_9 (by omega) (by rw [v9 10 (by omega) (by omega)]; exact hK) v1 v2 v3 (v4 _ (by omega) (by omega)) (by omega) (by omega) y1 ?_
      rw [v6, v7, v8, v5 0 (by omega) (by omega)]
      exact EC.sp (fun q => k1' (ifP R36 q)) (fun q => k0' (ifN q))
  · intro j0 hnx
    obtain ⟨q0, j0⟩ := ifK j0
    have e8 : G1 (m1 45 16) = tyOf m1 f := (C1.2.1 j0).2.2.2.2.2.2.2
    obtain ⟨g1, g2, hE1, hE2, hE3⟩ := okE (E' := tyOf m2 f) e8 M1 (by omega)
    rw [e8, show m1 45 30 - m 45 30 = 1 by omega] at hnx
    (refine ⟨?_, ?_, ?_, ?_, ?_, ?_, ?_, ?_, ?_, ?_, ?_, ?_, ?_, ?_, ?_, ?_, ?_, ⟨by omega, by omega⟩, hE1, hE2, hE3⟩ <;> (intro h; first | (exfalso; omega) | skip))
    · rw [g1, g2]
      rw [if_neg (by omega), if_pos h] at eL
      refine ⟨q0, ?_⟩
      rw [top_ty, eL]; exact hnx
    · rw [g1, g2]
      rw [if_neg (by omega), if_neg (by omega)] at eL
      refine ⟨q0, ?_⟩
      rw [top_ty, eL]; exact hnx
    · rw [g1, g2]
      rw [if_pos h] at eL
      refine ⟨q0, ?_⟩
      rw [eL]; exact hnx
  · intro s' m' G' T' a1 a2 a3 a4 a5 a6
    refine g s' m' G' T' a1 a2 a3 a4 (by rw [E1]; exact a5) (by omega)
theorem node_16 (S : Src z) (ih : ihs z f n) (hn : 0 ≤ n ∧ n < z 3 11) (hK : z 10 n = 16) : NodeOK z f n := by
  intro s m G T o t X Q hC hM P g
  have h0 := hM.2.2.2.2.1
  have h30 := hM.2.2.2.2.2.1
  have hZ : z 12 n ≤ 400 := by have := P.2.2.2.1; omega
  have S' := S
  obtain ⟨S1, S2, S3, S4, S5, S6⟩ := S'
  obtain ⟨k1, k2, k3, k4, k5, -, -, -, nd⟩ := S6 n hn.1 hn.2
  rw [hK] at nd
  obtain ⟨-, -, -, -, -, d5, -⟩ := nd
  obtain ⟨⟨xa1, xa2, xa3⟩, e12, e13⟩ := d5 (by omega)
  have zpa := (S6 _ xa1 (by omega)).2.2.2.2.2.2.2.2.2.2.2.2.2.2.2.2.2.2.2
  have E1 : z 12 n = z 12 (z 11 (n * 3 + 0)) + 1 := by omega
  clear e12 d5
  refine kids1 S (ih _ xa1 xa2 xa3) hn hC hM P hK (by omega) rfl hZ ?_
  intro s1 m1 G1 T1 C1 M1 F1 gm1 mid t1
  obtain ⟨⟨i1, i2, i3⟩, ⟨i4, i5, i6⟩, -⟩ := id mid
  obtain ⟨-, ⟨p4, p5⟩, -, p7, p8, ⟨p9, p10⟩, ⟨p11, p12⟩, -⟩ := P
  have mz := M1.1
  have ty := M1.2.1
  have y1 := ty (m1 45 30 - 1) (by omega) (by omega)
  obtain ⟨m2, b2, gm2⟩ := b_16 (f := f) (m := m1) (t := t) (n := n) i1 (by omega) i2 i3 (by omega) (by rw [mz 52 (by omega) (by omega), k1]; exact hK) rfl rfl rfl y1 (by omega) (by omega) rfl M1.2.2.2.1
  refine finish (op := 17) (pmc := s1 18 (m1 45 16)) (pl := s1 29 (m1 45 16)) C1 M1 F1 mid gm1 (by omega) ⟨?_, ?_⟩ (by omega) (by omega) h30 i4 (by omega) h0 b2 gm2 (ifJ M1.2.2.2.1) (fun q => (ifK q).2) ⟨by omega, by omega⟩ ?_ (fun _ q => by omega) (M := s1 14 2) (by rw [if_neg (by omega)]; omega) (fun q => by omega) (by omega) ?_ ?_
  · have := mid.2.2.2.1; omega
  · omega
  · intro R Q k1' k0'
    obtain ⟨v1, v2, v3, v4, v5, v6, v7, v8, v9⟩ := clf (o := o) C1 R
    have R36 : m1 45 36 = 0 := well M1 C1 R
    refine f_16 (by omega) (by rw [v9 10 (by omega) (by omega)]; exact hK) v1 v2 v3 (v4 _ (by omega) (by omega)) (by omega) (by omega) y1 ?_
    rw [v6, v7, v8, v5 0 (by omega) (by omega)]
    exact EC.sp (fun q => k1' (ifP R36 q)) (fun q => k0' (ifN q))
  · intro j0 hnx
    obtain ⟨q0, j0⟩ := ifK j0
    have e8 : G1 (m1 45 16) = tyOf m1 f := (C1.2.1 j0).2.2.2.2.2.2.2
    obtain ⟨g1, g2, hE1, hE2, hE3⟩ := okE (E' := tyOf m2 f) e8 M1 (by omega)
    rw [e8, show m1 45 30 - m 45 30 = 1 by omega] at hnx
    (refine ⟨?_, ?_, ?_, ?_, ?_, ?_, ?_, ?_, ?_, ?_, ?_, ?_, ?_, ?_, ?_, ?_, ?_, ⟨by omega, by omega⟩, hE1, hE2, hE3⟩ <;> (intro h; first | (exfalso; omega) | skip))
    rw [g1, g2]
    exact ⟨q0, hnx⟩
  · intro s' m' G' T' a1 a2 a3 a4 a5 a6
    refine g s' m' G' T' a1 a2 a3 a4 (by rw [E1]; exact a5) (by omega)
theorem node_leaf (S : Src z) (hn : 0 ≤ n ∧ n < z 3 11) (hK : z 10 n = K) (hK' : K = 0 ∨ K = 1 ∨ K = 2) : NodeOK z f n := by
  intro s m G T o t X Q hC hM P g
  have h0 := hM.2.2.2.2.1
  have h30 := hM.2.2.2.2.2.1
  have S' := S
  obtain ⟨S1, S2, S3, S4, S5, S6⟩ := S'
  obtain ⟨k1, k2, k3, k4, k5, ki, -, -, nd⟩ := S6 n hn.1 hn.2
  rw [hK] at nd
  obtain ⟨d0, d1, d2, -⟩ := nd
  obtain ⟨⟨p1, p2, p3⟩, ⟨p4, p5⟩, p6, p7, p8, ⟨p9, p10⟩, ⟨p11, p12⟩, p13⟩ := P
  have E1 : z 12 n = 1 ∧ z 13 n = 1 := by omega
  have mz := hM.1
  have ml := hM.2.2.1
  refine kids0 (by omega) hC hM (by omega) (by omega) hK hK' p13 ?_
  intro s1 T1 C1 F1 t1 t1' w1
  have mid : Mid z s m G n o t T s1 m G T1 0 0 0 := ⟨⟨p1, p2, p3⟩, ⟨by omega, by omega, rfl⟩, Tm.rf, t1, fun _ _ => rfl, fun q => ⟨(w1 q).1, (w1 q).2, fun _ _ _ => rfl, by rw [Int.add_zero]; exact seg.nil⟩⟩
  have fin' : ∀ s' m' G' T', goM f m m' → Com z m' → Cls z f s' m' G' → Fc s s' → Post z s m G o t T s' m' G' T' 1 (0 + 1) → T' ≤ T1 + 1 → w_46_102 X f T' s' Q := by
    intro s' m' G' T' a1 a2 a3 a4 a5 a6
    refine g s' m' G' T' a1 a2 a3 a4 (by rw [E1.1]; exact a5) (by omega)
  rcases hK' with rfl | rfl | rfl
  · obtain ⟨m2, b2, gm2⟩ := v_0 (f := f) (m := m) (t := t) (n := n) (a := z 11 (n * 3 + 0)) p1 (by omega) p2 p3 (by omega) (by rw [mz 52 (by omega) (by omega), k1]; exact hK) (by rw [mz 53 (by omega) (by omega), k3]) rfl rfl (by omega) (by omega) rfl
    refine finish (op := 0) (pmc := s1 18 (m 45 16)) (pl := s1 29 (m 45 16)) C1 hM F1 mid goM.rf (by omega) (by omega) (by omega) (by omega) h30 (by omega) (by omega) h0 b2 gm2 hM.2.2.2.1 id ⟨by omega, by omega⟩ ?_ (fun _ q => by omega) (M := s1 14 2) (by rw [if_neg (by omega)]; omega) (fun q => by omega) (by omega) ?_ fin'
    · intro R Q k1' k0'
      obtain ⟨v1, v2, v3, v4, v5, v6, v7, v8, v9⟩ := clf (o := o) C1 R
      have R36 : m 45 36 = 0 := well hM C1 R
      refine f_0 (a := z 11 (n * 3 + 0)) (by omega) (by rw [v9 10 (by omega) (by omega)]; exact hK) (by rw [v9 11 (by omega) (by omega)]) v1 v2 (by omega) (by omega) ?_
      rw [v6, v7, v8, v5 0 (by omega) (by omega), v3]
      exact k1' R36
    · intro j0 hnx
      have e8 : G (m 45 16) = tyOf m f := (C1.2.1 j0).2.2.2.2.2.2.2
      obtain ⟨g1, g2, hE1, hE2, hE3⟩ := okE (E' := tyOf m2 f) e8 hM (by omega)
      rw [e8, show m 45 30 - m 45 30 = 0 by omega] at hnx
      (refine ⟨?_, ?_, ?_, ?_, ?_, ?_, ?_, ?_, ?_, ?_, ?_, ?_, ?_, ?_, ?_, ?_, ?_, ⟨by omega, by omega⟩, hE1, hE2, hE3⟩ <;> (intro h; first | (exfalso; omega) | skip))
      rw [g1, g2]
      exact ⟨ki, hnx⟩
  · obtain ⟨m2, b2, gm2⟩ := v_1 (f := f) (m := m) (t := t) (n := n) (a := z 11 (n * 3 + 0)) p1 (by omega) p2 p3 (by omega) (by rw [mz 52 (by omega) (by omega), k1]; exact hK) (by rw [mz 53 (by omega) (by omega), k3]) rfl rfl (by omega) (by omega) rfl
    have d1' := (d1 rfl).1
    refine finish (op := 1) (pmc := s1 18 (m 45 16)) (pl := s1 29 (m 45 16)) C1 hM F1 mid goM.rf (by omega) (by omega) (by omega) (by omega) h30 (by omega) (by omega) h0 b2 gm2 hM.2.2.2.1 id ⟨by omega, by omega⟩ ?_ (fun _ q => by omega) (M := s1 14 2) (by rw [if_neg (by omega)]; omega) (fun q => by omega) (by omega) ?_ fin'
    · intro R Q k1' k0'
      obtain ⟨v1, v2, v3, v4, v5, v6, v7, v8, v9⟩ := clf (o := o) C1 R
      have R36 : m 45 36 = 0 := well hM C1 R
      refine f_1 (a := z 11 (n * 3 + 0)) (by omega) (by rw [v9 10 (by omega) (by omega)]; exact hK) (by rw [v9 11 (by omega) (by omega)]) v1 v2 (by omega) (by omega) ?_
      rw [v6, v7, v8, v5 0 (by omega) (by omega), v3]
      exact k1' R36
    · intro j0 hnx
      have e8 : G (m 45 16) = tyOf m f := (C1.2.1 j0).2.2.2.2.2.2.2
      obtain ⟨g1, g2, hE1, hE2, hE3⟩ := okE (E' := tyOf m2 f) e8 hM (by omega)
      rw [e8, show m 45 30 - m 45 30 = 0 by omega] at hnx
      (refine ⟨?_, ?_, ?_, ?_, ?_, ?_, ?_, ?_, ?_, ?_, ?_, ?_, ?_, ?_, ?_, ?_, ?_, ⟨by omega, by omega⟩, hE1, hE2, hE3⟩ <;> (intro h; first | (exfalso; omega) | skip))
      rw [g1, g2]
      exact ⟨_, d1', hnx⟩
  · have d2' := (d2 rfl).1
    have yl := ml (z 11 (n * 3 + 0)) (by omega) (by omega)
    obtain ⟨m2, b2, gm2⟩ := v_2 (f := f) (m := m) (t := t) (n := n) (a := z 11 (n * 3 + 0)) p1 (by omega) p2 p3 (by omega) (by rw [mz 52 (by omega) (by omega), k1]; exact hK) (by rw [mz 53 (by omega) (by omega), k3]) (by omega) rfl yl rfl rfl (by omega) (by omega) rfl hM.2.2.2.1
    refine finish (op := 2) (pmc := s1 18 (m 45 16)) (pl := if m 70 (z 11 (n * 3 + 0)) ≤ 0 then 0 else zL 1 (z 11 (n * 3 + 0))) C1 hM F1 mid goM.rf (by omega) (by omega) (by omega) (by omega) h30 (by omega) (by omega) h0 b2 gm2 (ifJ hM.2.2.2.1) (fun q => (ifK q).2) ⟨by omega, by omega⟩ ?_ (fun _ q => by omega) (M := s1 14 2) (by rw [if_neg (by omega)]; omega) (fun _ => rfl) (by omega) ?_ fin'
    · intro R Q k1' k0'
      obtain ⟨v1, v2, v3, v4, v5, v6, v7, v8, v9⟩ := clf (o := o) C1 R
      have R36 : m 45 36 = 0 := well hM C1 R
      refine f_2 (a := z 11 (n * 3 + 0)) (by omega) (by rw [v9 10 (by omega) (by omega)]; exact hK) (by rw [v9 11 (by omega) (by omega)]) (by omega) (v5 _ (by omega) (by omega)) yl v1 v2 (by omega) (by omega) v3 ?_
      rw [v6, v7, v5 0 (by omega) (by omega)]
      refine EC.sp (fun q => ?_) (fun q => k0' (ifN q))
      rw [show max (m 70 (z 11 (n * 3 + 0))) 0 = m 70 (z 11 (n * 3 + 0)) by omega] at k1'
      exact k1' (ifP R36 q)
    · intro j0 hnx
      obtain ⟨q0, j0⟩ := ifK j0
      have e8 : G (m 45 16) = tyOf m f := (C1.2.1 j0).2.2.2.2.2.2.2
      obtain ⟨g1, g2, hE1, hE2, hE3⟩ := okE (E' := tyOf m2 f) e8 hM (by omega)
      rw [e8, show m 45 30 - m 45 30 = 0 by omega, show max (m 70 (z 11 (n * 3 + 0))) 0 = m 70 (z 11 (n * 3 + 0)) by omega] at hnx
      (refine ⟨?_, ?_, ?_, ?_, ?_, ?_, ?_, ?_, ?_, ?_, ?_, ?_, ?_, ?_, ?_, ?_, ?_, ⟨by omega, by omega⟩, hE1, hE2, hE3⟩ <;> (intro h; first | (exfalso; omega) | skip))
      rw [g1, g2]
      exact ⟨by omega, q0, hnx⟩
end
