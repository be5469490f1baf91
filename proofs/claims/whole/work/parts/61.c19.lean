theorem ifJ {p : Prop} [Decidable p] {J : Int} (h : J = 0 ∨ J = 1) : (if p then J else 1) = 0 ∨ (if p then J else 1) = 1 := by
  split
  · exact h
  · exact Or.inr rfl
theorem ifK {p : Prop} [Decidable p] {J : Int} (h : (if p then J else 1) = 0) : p ∧ J = 0 := by
  by_cases q : p
  · rw [if_pos q] at h; exact ⟨q, h⟩
  · rw [if_neg q] at h; omega
theorem ifP {p : Prop} [Decidable p] {J : Int} (h : J = 0) (q : p) : (if p then J else 1) = 0 := by rw [if_pos q]; exact h
theorem ifN {p : Prop} [Decidable p] {J : Int} (q : ¬ p) : ¬ (if p then J else 1) = 0 := by rw [if_neg q]; omega
section
variable {z s m s1 m1 m2 : zS} {G G1 : Int → Nat → Int → Int} {f N t n o T a b c K N1 : Int} {X : zX} {Q : Int → zS → Prop}
theorem clf (hC : Cls z f s1 m1 G1) (R : Rel f s1 m1 G1) : (zu s1 22 6 o) 14 1 = m1 45 16 ∧ (zu s1 22 6 o) 22 8 = m1 45 30 ∧ (zu s1 22 6 o) 22 10 = 1 ∧ (∀ k, 0 ≤ k → k < m1 45 30 → (zu s1 22 6 o) 27 k = m1 69 k) ∧ (∀ k, 0 ≤ k → k < 8 → (zu s1 22 6 o) 28 k = m1 70 k) ∧ (zu s1 22 6 o) 18 = s1 18 ∧ (zu s1 22 6 o) 14 2 = s1 14 2 ∧ (zu s1 22 6 o) 29 = s1 29 ∧ (∀ k, 3 ≤ k → k ≤ 13 → (zu s1 22 6 o) k = z k) := by
  obtain ⟨r1, r2, r3, r4, r5, -⟩ := R
  refine ⟨by rw [zu_g (by decide)]; exact r2, by rw [zu_n (by omega)]; exact r3, by rw [zu_n (by omega)]; exact r1, fun k a b => by rw [zu_g (by decide)]; exact r4 k a b, fun k a b => by rw [zu_g (by decide)]; exact r5 k a b, zu_f (by decide), zu_g (by decide), zu_f (by decide), fun k a b => by rw [zu_f (by omega)]; exact hC.1 k a b⟩
theorem okE (e8 : G1 N1 = tyOf m1 f) (hM : Com z m1) (h16 : m1 45 30 ≤ 16) {E' : Nat → Int → Int} : gs G1 (N1 + 1) E' N1 = tyOf m1 f ∧ gs G1 (N1 + 1) E' (N1 + 1) = E' ∧ (0 ≤ gs G1 (N1 + 1) E' N1 0 0 ∧ gs G1 (N1 + 1) E' N1 0 0 ≤ 16) ∧ (∀ k, 0 ≤ k → k < gs G1 (N1 + 1) E' N1 0 0 → tI (gs G1 (N1 + 1) E' N1 1 k)) ∧ (∀ k, 0 ≤ k → k < 8 → -1 ≤ gs G1 (N1 + 1) E' N1 2 k ∧ gs G1 (N1 + 1) E' N1 2 k ≤ 7) := by
  have e : gs G1 (N1 + 1) E' N1 = tyOf m1 f := by rw [gs_n (by omega), e8]
  rw [e]
  obtain ⟨h1, h2, h3, h4, h5, h6, h7⟩ := hM
  exact ⟨rfl, gs_s, ⟨h6, h16⟩, h2, h3⟩
theorem top_ty {j : Int} : top (tyOf m1 f) j = m1 69 (m1 45 30 - j) := rfl
def ihs (z : zS) (f n : Int) : Prop := ∀ x, 0 ≤ x → x < n → ¬ z 10 x = 13 → NodeOK z f x
theorem node_sum (S : Src z) (ih : ihs z f n) (hn : 0 ≤ n ∧ n < z 3 11) (hK : z 10 n = K) (hK' : K = 3 ∨ K = 4 ∨ K = 5) : NodeOK z f n := by
  intro s m G T o t X Q hC hM P g
  have h0 := hM.2.2.2.2.1
  have h30 := hM.2.2.2.2.2.1
  have hZ : z 12 n ≤ 400 := by have := P.2.2.2.1; omega
  have S' := S
  obtain ⟨S1, S2, S3, S4, S5, S6⟩ := S'
  obtain ⟨k1, k2, k3, k4, k5, -, -, -, nd⟩ := S6 n hn.1 hn.2
  rw [hK] at nd
  obtain ⟨-, -, -, d3, -⟩ := nd
  obtain ⟨⟨xa1, xa2, xa3⟩, ⟨xb1, xb2, xb3⟩, e12, e13⟩ := d3 (by omega)
  have zpa := (S6 _ xa1 (by omega)).2.2.2.2.2.2.2.2.2.2.2.2.2.2.2.2.2.2.2
  have zpb := (S6 _ xb1 (by omega)).2.2.2.2.2.2.2.2.2.2.2.2.2.2.2.2.2.2.2
  have E1 : z 12 n = z 12 (z 11 (n * 3 + 0)) + z 12 (z 11 (n * 3 + 1)) + 1 := by omega
  have E2 : 2 ≤ z 13 n := by omega
  clear e12 e13 d3
  refine kids2 S (ih _ xa1 xa2 xa3) (ih _ xb1 xb2 xb3) hn hC hM P hK (by omega) rfl rfl hZ ?_
  intro s1 m1 G1 T1 C1 M1 F1 gm1 mid t1
  obtain ⟨⟨i1, i2, i3⟩, ⟨i4, i5, i6⟩, -⟩ := id mid
  obtain ⟨-, ⟨p4, p5⟩, -, p7, p8, ⟨p9, p10⟩, ⟨p11, p12⟩, -⟩ := P
  have mz := M1.1
  have ty := M1.2.1
  obtain ⟨m2, b2, gm2⟩ := b_sum (f := f) (m := m1) (t := t) (n := n) (K := K) i1 (by omega) i2 i3 (by omega) (by rw [mz 52 (by omega) (by omega), k1]; exact hK) hK' rfl rfl rfl rfl (ty _ (by omega) (by omega)) (ty _ (by omega) (by omega)) (by omega) (by omega) rfl M1.2.2.2.1
  refine finish (op := K) (pmc := s1 18 (m1 45 16)) (pl := s1 29 (m1 45 16)) C1 M1 F1 mid gm1 (by omega) ⟨?_, ?_⟩ (by omega) (by omega) h30 i4 (by omega) h0 b2 gm2 (ifJ M1.2.2.2.1) (fun q => (ifK q).2) ⟨by omega, by omega⟩ ?_ (fun _ q => by omega) (M := s1 14 2) (by rw [if_neg (by omega)]; omega) (fun q => by omega) (by omega) ?_ ?_
  · have := mid.2.2.2.1; omega
  · omega
  · intro R Q k1' k0'
    obtain ⟨v1, v2, v3, v4, v5, v6, v7, v8, v9⟩ := clf (o := o) C1 R
    have R36 : m1 45 36 = 0 := by
      rcases M1.2.2.2.1 with q | q
      · exact q
      · have := C1.2.2 q; have := R.1; omega
    refine f_sum (x1 := K) (by omega) (by rw [v9 10 (by omega) (by omega)]; exact hK) hK' v1 v2 v3 (v4 _ (by omega) (by omega)) (v4 _ (by omega) (by omega)) (by omega) (by omega) (ty _ (by omega) (by omega)) (ty _ (by omega) (by omega)) ?_
    rw [v6, v7, v8, v5 0 (by omega) (by omega)]
    exact EC.sp (fun q => k1' (ifP R36 q)) (fun q => k0' (ifN q))
  · intro j0 hnx
    obtain ⟨q0, j0⟩ := ifK j0
    have e8 : G1 (m1 45 16) = tyOf m1 f := (C1.2.1 j0).2.2.2.2.2.2.2
    obtain ⟨g1, g2, hE1, hE2, hE3⟩ := okE (E' := tyOf m2 f) e8 M1 (by omega)
    rw [e8, show m1 45 30 - m 45 30 = 2 by omega] at hnx
    (refine ⟨?_, ?_, ?_, ?_, ?_, ?_, ?_, ?_, ?_, ?_, ?_, ?_, ?_, ?_, ?_, ?_, ?_, ⟨by omega, by omega⟩, hE1, hE2, hE3⟩ <;> (intro h; first | (exfalso; omega) | skip))
    rw [g1, g2]
    exact ⟨q0.2, q0.1, hnx⟩
  · intro s' m' G' T' a1 a2 a3 a4 a5 a6
    refine g s' m' G' T' a1 a2 a3 a4 (by rw [E1]; exact a5) (by omega)
end
