section
variable {z s m s1 m1 s2 m2 : zS} {G G1 G2 : Int → Nat → Int → Int} {f N t t' n x o T T1 D Z a b K : Int} {L : Int → Int} {X : zX} {Q : Int → zS → Prop}
-- a CALL's arguments
theorem kidsC (S : Src z) (ia : iha z f n) (hn : 0 ≤ n ∧ n < z 3 11) (hC : Cls z f s m G) (hM : Com z m) (P : Pre z s m n o t T 0) (hK : z 10 n = 12) (hZ : z 12 n ≤ 400)
    (g : ∀ s' m' G' T' (c : Nat), AR (z 54) c (z 54 n) → AR (fun x => z 11 (x * 3 + 1)) c (z 11 (n * 3 + 1)) → (c : Int) ≤ z 13 n → Cls z f s' m' G' → Com z m' → Fc s s' → goM f m m' → Mid z s m G n o t T s' m' G' T' c (z 12 n - 1) 2 → T' ≤ T + 8 * z 12 n - 5 → w_46_102 X f T' s' Q) : w_46_102 X f T s Q := by
  obtain ⟨⟨p1, p2, p3⟩, ⟨p4, p5⟩, p6, p7, p8, ⟨p9, p10⟩, ⟨p11, p12⟩, p13⟩ := P
  obtain ⟨S1, S2, S3, S4, S5, S6⟩ := S
  obtain ⟨k1, k2, k3, k4, k5, -, -, -, nd⟩ := S6 n hn.1 hn.2
  generalize eb : z 11 (n * 3 + 1) = b at *
  have zpn := nd.2.2.2.2.2.2.2.2.2.2.2
  rw [hK] at nd
  obtain ⟨-, -, -, -, -, -, -, -, d12, -⟩ := nd
  obtain ⟨ha, hb, e1, e2⟩ := d12 rfl
  clear d12
  have mz := hM.1
  have hb' : -1 ≤ b ∧ b < 150 := by rcases hb with q | q <;> omega
  obtain ⟨m1, ⟨L, l1, l2, l3⟩, gm⟩ := v_12 (f := f) (b := b) p1 (by omega) p2 p3 (by omega) (by rw [mz 52 (by omega) (by omega), k1]; exact hK) (by rw [mz 54 (by omega) (by omega), k4]) hb'
  have M1 := L.com hM
  have C1 := L.cls hC
  have R1 := (Run.rf (z := z) (s := s) (m := m) (G := G) (o := o) (t := t) p11).lm L (by omega)
  have J1 : m1 45 36 = m 45 36 := L.2.1 36 (by omega)
  refine cskip (k := 0) (K := 12) (P := 3) (o := o) (n := n) C1 M1.2.2.2.1 (by omega) (by omega) (fun q => p13 (by rw [← J1]; exact q)) (by omega) hK (by omega) (by omega) (by decide) (by omega) rfl (by omega) ?_
  intro s2 T2 C2 F2 t2 t2' w2
  rcases hb with q | ⟨xb1, xb2, xb3⟩
  · obtain ⟨E1, E2⟩ := e1 q
    have LT := L.1
    rw [if_pos (by omega)] at LT
    refine cskip (k := 1) (K := 12) (P := 5) (ch := -1) (o := o) (n := n) C2 M1.2.2.2.1 (by omega) (by omega) (fun q => (w2 q).1) (by omega) hK (by omega) (by omega) (by decide) (by omega) (by rw [eb]; exact q) (by omega) ?_
    intro s3 T3 C3 F3 t3 t3' w3
    refine cskip (k := 2) (K := 12) (P := 0) (o := o) (n := n) C3 M1.2.2.2.1 (by omega) (by omega) (fun q => (w3 q).1) (by omega) hK (by omega) (by omega) (by decide) (by omega) rfl (by omega) ?_
    intro s4 T4 C4 F4 t4 t4' w4
    obtain ⟨x1, x2, x3, x4, x5⟩ := ((R1.cl (fun q => (w2 q).2.2.2) t2).cl (fun q => (w3 q).2.2.2) t3).cl (fun q => (w4 q).2.2.2) t4
    refine g s4 m1 G T4 0 (by rw [k4]; exact q) q (by omega) C4 M1 ((F2.tr F3).tr F4) gm ⟨⟨LT, l1, l2⟩, ⟨by omega, by omega, x1.2.2⟩, x2, x3, x4, fun q => ⟨(w4 q).1, (x5 q).1, (x5 q).2.1, ?_⟩⟩ (by omega)
    rw [show z 12 n - 1 = 0 by omega]; exact (x5 q).2.2
  · obtain ⟨e12, e13⟩ := e2 xb1
    have zpb := (S6 _ xb1 (by omega)).2.2.2.2.2.2.2.2.2.2.2.2.2.2.2.2.2.2.2
    have E1 : z 12 n = z 12 b + 1 := by omega
    clear e12 e1 e2
    obtain ⟨l4, l5⟩ := l3 xb1
    have LT := L.1
    rw [if_neg (by omega)] at LT
    refine cdown (k := 1) (K := 12) (P := 5) (o := o) (n := n) C2 M1.2.2.2.1 (by omega) (by omega) (fun q => (w2 q).1) (by omega) hK (by omega) (by omega) (by decide) (Or.inr rfl) eb (by omega) (by omega) ?_
    intro s3 T3 C3 F3 t3 t3' w3
    refine run_args (ia _ xb1 xb2 xb3) C3 M1 (F2.tr F3) gm ((R1.cl (fun q => (w2 q).2.2.2) t2).cl (fun q => (w3 q).2.2.2.2) t3) (t' := t + 1) ⟨by omega, l4, l5⟩ (by omega) (by omega) (by omega) (by omega) (by omega) (by omega) (by omega) (fun q => (w3 q).1) ?_
    intro s4 m4 G4 T4 c hA hA' hc C4 M4 F4 gm4 R4 e4 st4 t4 t4' w4
    refine cskip (k := 2) (K := 12) (P := 0) (o := o) (n := n) C4 M4.2.2.2.1 (by omega) (by omega) (fun q => ?_) (by omega) hK (by omega) (by omega) (by decide) (by omega) rfl (by omega) ?_
    · obtain ⟨q1, q2, q3, q4⟩ := w4 q
      exact ⟨q2, by rw [q3]; exact (w3 q1).2.1.1, by rw [q4]; exact (w3 q1).2.1.2⟩
    intro s5 T5 C5 F5 t5 t5' w5
    obtain ⟨x1, x2, x3, x4, x5⟩ := R4.cl (fun q => (w5 q).2.2.2) t5
    refine g s5 m4 G4 T5 c (by rw [k4]; exact hA) hA' (by omega) C5 M4 (F4.tr F5) gm4 ⟨⟨e4, by rw [(st4 _ (by omega)).1]; exact l1, by rw [(st4 _ (by omega)).2]; exact l2⟩, ⟨by omega, by omega, x1.2.2⟩, x2, x3, x4, fun q => ⟨(w5 q).1, (x5 q).1, (x5 q).2.1, ?_⟩⟩ (by omega)
    rw [show z 12 n - 1 = 0 + z 12 b by omega]; exact (x5 q).2.2
theorem node_12 (S : Src z) (ia : iha z f n) (hn : 0 ≤ n ∧ n < z 3 11) (hK : z 10 n = 12) : NodeOK z f n := by
  intro s m G T o t X Q hC hM P g
  have h0 := hM.2.2.2.2.1
  have h30 := hM.2.2.2.2.2.1
  have hZ : z 12 n ≤ 400 := by have := P.2.2.2.1; omega
  have S' := S
  obtain ⟨S1, S2, S3, S4, S5, S6⟩ := S'
  obtain ⟨k1, k2, k3, k4, k5, -, -, -, nd⟩ := S6 n hn.1 hn.2
  have zpn := nd.2.2.2.2.2.2.2.2.2.2.2
  rw [hK] at nd
  obtain ⟨-, -, -, -, -, -, -, -, d12, -⟩ := nd
  obtain ⟨ha, -, -, -⟩ := d12 rfl
  clear d12
  refine kidsC S ia hn hC hM P hK hZ ?_
  intro s1 m1 G1 T1 c hA hA' hc C1 M1 F1 gm1 mid t1
  obtain ⟨⟨i1, i2, i3⟩, ⟨i4, i5, i6⟩, -⟩ := id mid
  obtain ⟨-, ⟨p4, p5⟩, -, p7, p8, ⟨p9, p10⟩, ⟨p11, p12⟩, -⟩ := P
  have mz := M1.1
  have ty := M1.2.1
  generalize ea : z 11 (n * 3 + 0) = a at *
  obtain ⟨f48, f6, f49, f7, f51, f9, -⟩ := S4 a ha.1 ha.2
  have fp := fun k h1 h2 => S5 a k ha.1 ha.2 h1 h2
  have e48 : m1 48 = z 48 := mz 48 (by omega) (by omega)
  have e49 : m1 49 = z 49 := mz 49 (by omega) (by omega)
  have e50 : m1 50 = z 50 := mz 50 (by omega) (by omega)
  have e51 : m1 51 = z 51 := mz 51 (by omega) (by omega)
  have e54 : m1 54 = z 54 := mz 54 (by omega) (by omega)
  obtain ⟨m2, J', hJ, hJ', b2, gm2⟩ := b_12 (f := f) (m := m1) (t := t) (n := n) (a := a) (c := c) i1 (by omega) i2 i3 (by omega) (by rw [mz 52 (by omega) (by omega), k1]; exact hK) (by rw [mz 53 (by omega) (by omega), k3]) (by omega) rfl rfl ty M1.2.2.1 (by omega) (by omega) (by rw [e54]; exact hA) (by rw [e51]; omega) (by rw [e49]; omega) (fun k h1 h2 => by rw [e50, (fp k h1 h2).1]; exact (fp k h1 h2).2.1) rfl M1.2.2.2.1
  rw [e48, f48] at b2
  have hcond : J' = 0 ↔ m1 45 36 = 0 ∧ ¬ z 9 a = -1 ∧ z 7 a = c ∧ ∀ j : Int, 0 ≤ j → j < c → m1 69 (m1 45 30 - c + j) = z 8 (a * 3 + j) := by
    rw [hJ', e51, e49, e50, f51, f49]
    constructor
    · rintro ⟨q1, ⟨q2, q3⟩, q4⟩
      exact ⟨q1, by omega, by omega, fun j h1 h2 => by rw [← (fp j h1 (by omega)).1]; exact q4 j h1 h2 (by omega)⟩
    · rintro ⟨q1, q2, q3, q4⟩
      exact ⟨q1, ⟨by omega, by omega⟩, fun j h1 h2 h3 => by rw [(fp j h1 (by omega)).1]; exact q4 j h1 h2⟩
  refine finish (op := 13) (pmc := bm (m1 69) (m1 45 30).toNat) (pl := s1 29 (m1 45 16)) C1 M1 F1 mid gm1 (by omega) ⟨?_, ?_⟩ (by omega) (by omega) h30 i4 (by omega) h0 b2 gm2 hJ (fun q => (hcond.mp q).1) f6 ?_ (fun _ q => ⟨rfl, rfl, rfl⟩) (M := s1 14 2 + 1) (by rw [if_pos (by omega)]) (fun q => by omega) (by omega) ?_ ?_
  · have := mid.2.2.2.1; omega
  · omega
  · intro R Q k1' k0'
    obtain ⟨v1, v2, v3, v4, v5, v6, v7, v8, v9⟩ := clf (o := o) C1 R
    have R36 : m1 45 36 = 0 := well M1 C1 R
    have ebm := bm_c (f := zu s1 22 6 o 27) (g := m1 69) (m1 45 30).toNat (fun k a b => v4 k a (by omega))
    refine f_12 (c := c) (f := a) (M := s1 14 2) (by omega) (by rw [v9 10 (by omega) (by omega)]; exact hK) (by rw [v9 11 (by omega) (by omega)]; exact ea) (by omega) v1 v2 v3 v7 (by omega) (by omega) (by rw [v9 11 (by omega) (by omega)]; exact hA') (by omega) (fun k h1 h2 => by rw [v4 k h1 h2]; exact ty k h1 h2) (fun k h1 h2 => by rw [v9 8 (by omega) (by omega)]; exact (fp k h1 h2).2.1) (by rw [v9 9 (by omega) (by omega)]; omega) (by rw [v9 7 (by omega) (by omega)]; omega) ?_ ?_
    · rw [v9 9 (by omega) (by omega), v9 7 (by omega) (by omega), v9 8 (by omega) (by omega), v9 6 (by omega) (by omega), v8, v5 0 (by omega) (by omega), ebm]
      intro q1 q2 q3
      exact k1' (hcond.mpr ⟨R36, q1, q2, fun j h1 h2 => by rw [← v4 _ (by omega) (by omega)]; exact q3 j h1 h2⟩)
    · rw [v9 9 (by omega) (by omega), v9 7 (by omega) (by omega), v9 8 (by omega) (by omega)]
      intro q
      refine k0' (fun q' => q ?_)
      obtain ⟨r1, r2, r3, r4⟩ := hcond.mp q'
      exact ⟨r2, r3, fun j h1 h2 => by rw [v4 _ (by omega) (by omega)]; exact r4 j h1 h2⟩
  · intro j0 hnx
    obtain ⟨j0, r2, r3, r4⟩ := hcond.mp j0
    have e8 : G1 (m1 45 16) = tyOf m1 f := (C1.2.1 j0).2.2.2.2.2.2.2
    obtain ⟨g1, g2, hE1, hE2, hE3⟩ := okE (E' := tyOf m2 f) e8 M1 (by omega)
    rw [e8, show m1 45 30 - m 45 30 = c by omega] at hnx
    (refine ⟨?_, ?_, ?_, ?_, ?_, ?_, ?_, ?_, ?_, ?_, ?_, ?_, ?_, ?_, ?_, ?_, ?_, ⟨by omega, by omega⟩, hE1, hE2, hE3⟩ <;> (intro h; first | (exfalso; omega) | skip))
    rw [g1, g2]
    exact ⟨by omega, by omega, r3.symm, r4, hnx⟩
  · intro s' m' G' T' a1 a2 a3 a4 a5 a6
    refine g s' m' G' T' a1 a2 a3 a4 (by rw [show z 12 n = z 12 n - 1 + 1 by omega]; exact a5) (by omega)
theorem all_nodes (S : Src z) : ∀ d : Nat, ∀ n : Int, 0 ≤ n → n < d → n < z 3 11 → (¬ z 10 n = 13 → NodeOK z f n) ∧ (z 10 n = 13 → ArgOK z f n) := by
  intro d
  induction d with
  | zero => intro n a b; omega
  | succ d ih =>
    intro n h0 h1 h2
    have is : ihs z f n := fun x a b c => (ih x a (by omega) (by omega)).1 c
    have ia : iha z f n := fun x a b c => (ih x a (by omega) (by omega)).2 c
    refine ⟨fun h => ?_, fun h => arg_13 S is ia ⟨h0, h2⟩ h⟩
    have hk := (S.2.2.2.2.2 n h0 h2).2.1
    generalize eK : z 10 n = K at *
    have hc : (K = 0 ∨ K = 1 ∨ K = 2) ∨ (K = 3 ∨ K = 4 ∨ K = 5) ∨ K = 6 ∨ (K = 7 ∨ K = 8 ∨ K = 9) ∨ K = 10 ∨ K = 11 ∨ K = 12 ∨ (K = 14 ∨ K = 15) ∨ K = 16 ∨ K = 17 := by omega
    rcases hc with q | q | q | q | q | q | q | q | q | q
    · exact node_leaf S ⟨h0, h2⟩ eK q
    · exact node_sum S is ⟨h0, h2⟩ eK q
    · exact node_6 S is ⟨h0, h2⟩ (eK.trans q)
    · exact node_one S is ⟨h0, h2⟩ eK q
    · exact node_10 S is ⟨h0, h2⟩ (eK.trans q)
    · exact node_11 S is ⟨h0, h2⟩ (eK.trans q)
    · exact node_12 S ia ⟨h0, h2⟩ (eK.trans q)
    · exact node_put S is ⟨h0, h2⟩ eK q
    · exact node_16 S is ⟨h0, h2⟩ (eK.trans q)
    · exact node_17 S is ⟨h0, h2⟩ (eK.trans q)
end
