section
variable {z s m s' m' : zS} {G G' : Int → Nat → Int → Int} {f N i o v tk n T H t1 J : Int} {X : zX} {Q : Int → zS → Prop}
theorem sm_s (h : 0 ≤ f) (hb : 0 ≤ z 9 f) : sm z (f + 1).toNat = sm z f.toNat + (z 12 (z 9 f) + 1) := by
  rw [show (f + 1).toNat = f.toNat + 1 by omega]
  simp only [sm]
  rw [show ((f.toNat : Nat) : Int) = f by omega, if_neg (by omega)]
theorem lt_r (S : Src z) (hf : 0 ≤ f ∧ f < z 3 6) (k : Int) (h0 : 0 ≤ k) : -1 ≤ lt z f k ∧ lt z f k ≤ 7 := by
  unfold lt
  split
  · next q =>
    obtain ⟨-, -, -, h7, -⟩ := S.2.2.2.1 f hf.1 hf.2
    have := (S.2.2.2.2.1 f k hf.1 hf.2 h0 (by omega)).2.2 q
    unfold tI at this
    omega
  · omega
-- as a function begins
theorem beg (S : Src z) (hf : 0 ≤ f ∧ f < z 3 6) {s4 m4 : zS} (F : FR z s m G f) (h16 : 0 ≤ m 45 16) (hq : m 45 36 = 0 ∨ m 45 36 = 1)
    (a1 : ∀ k, ¬ (k = 19 ∨ k = 22 ∨ k = 23 ∨ k = 24 ∨ k = 28) → s4 k = s k) (a3 : ∀ k, 0 ≤ k → k < 8 → s4 28 k = lt z f k) (a4 : s4 22 8 = 0) (a6 : s4 22 10 = if m 45 36 = 0 then 1 else 0) (a7 : iI (s4 22 6))
    (b1 : ∀ k, ¬ (k = 45 ∨ k = 64 ∨ k = 67 ∨ k = 68 ∨ k = 70) → m4 k = m k) (b3 : ∀ k, 0 ≤ k → k < 8 → m4 70 k = lt z f k) (b4 : m4 45 30 = 0) (b5 : m4 45 33 = 0) (b9 : ∀ j, ¬ j = 27 → ¬ j = 30 → ¬ j = 33 → m4 45 j = m 45 j) :
    Com z m4 ∧ Cls z f s4 m4 (gs G (m 45 16) (tyOf m4 f)) := by
  obtain ⟨f1, f2, f3, f4⟩ := F
  have e16 : m4 45 16 = m 45 16 := b9 16 (by omega) (by omega) (by omega)
  have e36 : m4 45 36 = m 45 36 := b9 36 (by omega) (by omega) (by omega)
  refine ⟨⟨fun k p q => by rw [b1 k (by omega)]; exact f2 k p q, fun k p q => by omega, fun k p q => by rw [b3 k p q]; exact lt_r S hf k p, by rw [e36]; exact hq, by omega, by omega, by omega⟩, fun k p q => by rw [a1 k (by omega)]; exact f1 k p q, fun q => ?_, fun q => ⟨by rw [a6, if_neg (by omega)], a7⟩⟩
  rw [e36] at q
  obtain ⟨w1, w2, w3, w4, w5, w6⟩ := f4 q
  refine ⟨by rw [a6, if_pos q], by rw [a1 14 (by omega), e16]; exact w1, by rw [a4, b4], fun k p q => by omega, fun k p q => by rw [a3 k p q, b3 k p q], fun i p q => ?_, ?_, by rw [e16, gs_s]⟩
  · rw [e16] at q
    rw [gs_n (by omega), a1 15 (by omega), a1 16 (by omega), a1 18 (by omega), a1 29 (by omega), b1 58 (by omega), b1 59 (by omega), b1 61 (by omega), b1 62 (by omega)]
    exact w2 i p q
  · rw [a1 14 (by omega), b1 58 (by omega), e16]; exact w3
set_option maxHeartbeats 1000000 in
theorem fun_ok (S : Src z) (hf : 0 ≤ f ∧ f < z 3 6) (hb : 0 ≤ z 9 f) (hsz : sm z (f + 1).toNat ≤ 400) (hv : z 13 (z 9 f) ≤ 16) (F : FR z s m G f) (hq : m 45 36 = 0)
    (g : ∀ s' m' G' v, (∀ a X Q, Q 0 (mx' a m') → w_113 X f (mx' a m) Q) → FR z s' m' G' (f + 1) → Fc (zu s 19 f (s' 19 f)) s' → Fm m m' → (∀ j, ¬ j = f → m' 64 j = m 64 j) → (m' 45 36 = 0 ∧ v = 1 ∨ m' 45 36 = 1 ∧ v = 0) → Q v s') : w_46 X f s Q := by
  have S' := S
  obtain ⟨S1, S2, S3, S4, S5, S6⟩ := S'
  obtain ⟨f48, f6, f49, f7, f51, f9, f13⟩ := S4 f hf.1 hf.2
  have F' := F
  obtain ⟨q1, q2, q3, q4⟩ := F'
  obtain ⟨w1, w2, w3, w4, w5, w6⟩ := q4 hq
  have hp := sm_pos S f.toNat (by omega)
  have es := sm_s (z := z) hf.1 hb
  have zpb := (S6 _ hb (by omega)).2.2.2.2.2.2.2.2.2.2.2.2.2.2.2.2.2.2.2
  have h16 : 0 ≤ m 45 16 := by omega
  obtain ⟨m4, ⟨b1, b2, b3, b4, b5, b6, b7, b8, b9⟩, gm⟩ := beg_m (z := z) (m := m) (f := f) (by omega) f7 (by rw [q2 49 (by omega) (by omega), f49]) (fun k p q => by rw [q2 50 (by omega) (by omega)]; exact (S5 f k hf.1 hf.2 p q).1) (by rw [q2 51 (by omega) (by omega), f51])
  refine beg_c (z := z) (by omega) f7 q1 ?_
  intro s4 a1 a2 a3 a4 a5 a6 a7 a8
  obtain ⟨M4, C4⟩ := beg S hf F h16 (Or.inl hq) a1 a3 a4 (by rw [a6, if_pos hq]) (by rw [a5]; exact ⟨by omega, by omega⟩) b1 b3 b4 b5 b9
  have e16 : m4 45 16 = m 45 16 := b9 16 (by omega) (by omega) (by omega)
  have e36 : m4 45 36 = m 45 36 := b9 36 (by omega) (by omega) (by omega)
  refine (all_nodes S 150 (z 9 f) hb (by omega) f9.2).1 (f13 hb) s4 m4 _ 0 0 0 X Q C4 M4 ⟨⟨by omega, b7, b8⟩, ⟨by omega, by omega⟩, by omega, by omega, by omega, ⟨by omega, by omega⟩, ⟨by omega, by omega⟩, fun _ => ⟨by omega, a7, a8⟩⟩ ?_
  intro s5 m5 G5 T5 gm5 M5 C5 F5 ⟨⟨c1, c2, c3, c4⟩, c5, c6, c7, c8⟩ t5
  obtain ⟨c51, c52, c53, c54, c55, c56, c57⟩ := id c5
  have y5 := M5.2.1 0 (by omega) (by omega)
  obtain ⟨m6, b6', gm6⟩ := end_m (f := f) (m := m5) (N := m5 45 16) (by omega) c1 rfl (by omega) (by omega) y5 (by rw [M5.1 48 (by omega) (by omega), f48]; exact f6) rfl M5.2.2.2.1
  obtain ⟨d1, d2, d3, d4, d5, d6, d7, d8, d9, d10, d11, d12⟩ := id b6'
  have gf : ∀ a X Q, Q 0 (mx' a m6) → w_113 X f (mx' a m) Q := fun a X Q k => gm a X Q (gm5 a X Q (gm6 a X Q k))
  have e48 : m5 48 f = z 6 f := by rw [M5.1 48 (by omega) (by omega), f48]
  rw [e48] at d8
  have fm : Fm m m6 := by
    refine ⟨fun j r1 r2 r3 r4 r5 => ?_, fun k hk => ?_⟩
    · rw [d9 j r1 r3 r5, c55 j r1 r2 r3 r4 r5, b9 j r2 r3 r4]
    · rw [d12 k (by omega), c56 k (by omega), b1 k (by omega)]
  have f64 : ∀ j, m6 64 j = if j = f then m 45 16 else m 64 j := fun j => by rw [d12 64 (by omega), c56 64 (by omega), b2]
  have f64' : ∀ j, ¬ j = f → m6 64 j = m 64 j := fun j h => by rw [f64, if_neg h]
  have sz : m6 45 16 = sm z (f + 1).toNat := by rw [d6, c2, es]; omega
  have src6 : ∀ k, 46 ≤ k → k ≤ 55 → m6 k = z k := fun k p q => by rw [d12 k (by omega), M5.1 k p q]
  have fc4 : ∀ s9, s9 19 = s4 19 → Fc s4 s9 → Fc (zu s 19 f (s9 19 f)) s9 := by
    intro s9 h19 hF
    refine ⟨fun k hk => ?_, by rw [hF.2, a1 14 (by omega), zu_g (by decide)]⟩
    by_cases e : k = 19
    · subst e
      rw [h19]
      funext j
      by_cases q : j = f
      · rw [q, zu_s]
      · rw [zu_n q, a2, if_neg q]
    · rw [hF.1 k hk, a1 k (by omega), zu_f e]
  rcases M5.2.2.2.1 with r | r
  · have R := C5.2.1 r
    obtain ⟨x1, x2, x3, x4⟩ := c8 r
    have e8 : G5 (m5 45 16) = tyOf m5 f := R.2.2.2.2.2.2.2
    refine end_c (N := m5 45 16) R (by omega) (by omega) x1 rfl (by omega) (by omega) y5 (by rw [C5.1 6 (by omega) (by omega)]; exact f6) ?_ ?_
    · intro q s' a
      rw [C5.1 6 (by omega) (by omega)] at q
      rw [if_pos q, r] at d8
      obtain ⟨a1', a2', a3', a4', a5', a6', a7', a8', a9', a10', a11', a12', a13'⟩ := id a
      have b6'' := b6'
      rw [e48, if_pos q, r] at b6''
      have R6 := Rel.emit R M5.2.2.2.2.1 rfl a b6'' (by omega) (fun h => by omega) (by rw [if_neg (by omega), Int.add_zero]) (fun h => by omega)
      obtain ⟨u1, u2, u3, u4, u5, u6, u7, u8⟩ := R6
      have e19 : s' 19 = s4 19 := by rw [a13' 19 (by omega), F5.1 19 (by omega)]
      refine g s' m6 _ 1 gf ⟨fun k p q => by rw [a13' k (by omega), C5.1 k p q], src6, sz, fun _ => ⟨u2, u6, u7, ?_, ?_, ?_⟩⟩ (fc4 s' e19 (F5.tr a.fc)) fm f64' (Or.inl ⟨d8, rfl⟩)
      · -- all places are well
        intro i h0 hi
        rw [d6] at hi
        rw [d6]
        by_cases k1 : i < m 45 16
        · obtain ⟨o1, o2, o3⟩ := w4 i h0 k1
          have cd : m6 58 i = m 58 i ∧ m6 59 i = m 59 i ∧ m6 60 i = m 60 i := by
            obtain ⟨r1, r2, r3, -, -⟩ := c54 i (by omega)
            have ne : ¬ i = m5 45 16 := by omega
            rw [d1, d2, d3, if_neg ne, if_neg ne, if_neg ne, r1, r2, r3, b1 58 (by omega), b1 59 (by omega), b1 60 (by omega)]
            exact ⟨rfl, rfl, rfl⟩
          have gg : ∀ j, 0 ≤ j → j < m 45 16 → gs G5 (m5 45 16 + 1) (tyOf m6 f) j = G j := fun j p q => by rw [gs_n (by omega), c7 j (by omega), gs_n (by omega)]
          have := (fseg.c (m' := m6) (G' := gs G5 (m5 45 16 + 1) (tyOf m6 f)) (N := m 45 16) w4 (fun j p q => by
            obtain ⟨r1, r2, r3, -, -⟩ := c54 j (by omega)
            have ne : ¬ j = m5 45 16 := by omega
            rw [d1, d2, d3, if_neg ne, if_neg ne, if_neg ne, r1, r2, r3, b1 58 (by omega), b1 59 (by omega), b1 60 (by omega)]
            exact ⟨rfl, rfl, rfl⟩) gg) i h0 k1
          exact ⟨this.1, fun q => by have := this.2.1 q; omega, fun q => by omega⟩
        · by_cases k2 : i < m5 45 16
          · have cd : ∀ j, m4 45 16 ≤ j → j < m4 45 16 + z 12 (z 9 f) → m6 58 j = m5 58 j ∧ m6 59 j = m5 59 j ∧ m6 60 j = m5 60 j := fun j p q => by
              have ne : ¬ j = m5 45 16 := by omega
              rw [d1, d2, d3, if_neg ne, if_neg ne, if_neg ne]; exact ⟨rfl, rfl, rfl⟩
            have := (seg.c (m' := m6) (G' := gs G5 (m5 45 16 + 1) (tyOf m6 f)) x4 cd (fun j p q => gs_n (by omega)) (low.of (gs_n (by omega)))) i (by omega) (by omega)
            exact ⟨this.1, fun q => by have := this.2 q; omega, fun q => by omega⟩
          · have e : i = m5 45 16 := by omega
            subst e
            rw [d1, d2, d3, if_pos rfl, if_pos rfl, if_pos rfl]
            obtain ⟨g1, g2, hE1, hE2, hE3⟩ := okE (E' := tyOf m6 f) e8 M5 (by omega)
            refine ⟨?_, fun q => by omega, fun q => by omega⟩
            (refine ⟨?_, ?_, ?_, ?_, ?_, ?_, ?_, ?_, ?_, ?_, ?_, ?_, ?_, ?_, ?_, ?_, ?_, ⟨by omega, by omega⟩, hE1, hE2, hE3⟩ <;> (intro h; first | (exfalso; omega) | skip))
            rw [g1]
            refine ⟨?_, ?_⟩
            · show m5 45 30 = 1; omega
            · show m5 69 0 = z 6 f; exact q
      · intro j h0 hj
        by_cases e : j = f
        · subst e
          refine ⟨Or.inr ⟨hb, ?_, ?_⟩, ?_⟩
          · rw [f64, if_pos rfl, d6]; omega
          · have : gs G5 (m5 45 16 + 1) (tyOf m6 j) (m6 64 j) = tyOf m4 j := by rw [f64, if_pos rfl, gs_n (by omega), c7 _ (by omega), gs_s]
            rw [this]
            exact ⟨b4, rfl, fun k p q => b3 k p q⟩
          · rw [f64, if_pos rfl, e19, a2, if_pos rfl, w1]
        · obtain ⟨v1, v2⟩ := w5 j h0 (by omega)
          refine ⟨?_, ?_⟩
          · rcases v1 with v1 | ⟨v1, v3, v4, v5, v6⟩
            · exact Or.inl ⟨v1.1, by rw [f64' j e]; exact v1.2⟩
            · refine Or.inr ⟨v1, by rw [f64' j e, d6]; omega, ?_⟩
              have : gs G5 (m5 45 16 + 1) (tyOf m6 f) (m6 64 j) = G (m 64 j) := by rw [f64' j e, gs_n (by omega), c7 _ (by omega), gs_n (by omega)]
              rw [this]
              exact ⟨v4, v5, v6⟩
          · rw [f64' j e, e19, a2, if_neg e]; exact v2
      · intro j p q
        rw [e19, a2, if_neg (by omega)]
        exact w6 j (by omega) q
    · intro q
      rw [C5.1 6 (by omega) (by omega)] at q
      rw [if_neg q] at d8
      refine g _ m6 G 0 gf ⟨fun k p q => by rw [zu_f (by omega), C5.1 k p q], src6, sz, fun h => by omega⟩ (fc4 _ (by rw [zu_f (by decide), F5.1 19 (by omega)]) (F5.tr (Fc.zu (by omega)))) fm f64' (Or.inr ⟨d8, rfl⟩)
  · have i5 := C5.2.2 r
    have d8' : m6 45 36 = 1 := by rw [d8, r]; split <;> rfl
    exact end_i i5.1 i5.2 (by omega) (g s5 m6 G 0 gf ⟨C5.1, src6, sz, fun h => by omega⟩ (fc4 s5 (F5.1 19 (by omega)) F5) fm f64' (Or.inr ⟨d8', rfl⟩))
end
