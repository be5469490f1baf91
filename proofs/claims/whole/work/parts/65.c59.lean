section
variable {G : Int → Nat → Int → Int} {z r s m s1 m1 m0 s2 m2 : zS} {f0 i j F N o v tk p q t T H a b e n f x1 : Int} {U : Int → Int → Prop} {φ : Int → Int} {X : zX} {Q : Int → zS → Prop}
-- the program behind its collection, if there was one
def CF (s s2 : zS) (T i n f : Int) : Prop := (¬ due n f ∧ s2 = sc s T i n) ∨ (due n f ∧ KC (sc s T i n) s2 i)
theorem cf_k (h : CF s s2 T i n f) : (∀ c, ¬ (c = 31 ∨ c = 32 ∨ c = 36 ∨ c = 37 ∨ c = 38) → s2 c = s c) ∧ (∀ j, ¬ (j = 6 ∨ j = 7 ∨ j = 9 ∨ j = 10 ∨ j = 11) → s2 31 j = s 31 j) ∧ s2 31 9 = T + 1 := by
  rcases h with ⟨-, rfl⟩ | ⟨-, k1, k2, -⟩
  · exact ⟨fun c hc => sc_k c (by omega), fun j hj => sc_j (by omega), by rw [sc]; simp [zu]⟩
  · exact ⟨fun c hc => by rw [k1 c hc, sc_k c (by omega)], fun j hj => by rw [k2 j (by omega), sc_j (by omega)], by rw [k2 9 (by omega), sc]; simp [zu]⟩
set_option maxHeartbeats 1000000 in
theorem s_call (C : CodeOK z r G) (h7 : ∀ f, 0 ≤ f → f < z 3 6 → 0 ≤ z 7 f ∧ z 7 f ≤ 3) (hz : ∀ t, tI t → tI (z 4 t) ∧ tI (z 5 t)) (h36 : z 3 6 ≤ 6) (hr7 : ∀ f, 0 ≤ f → f < z 3 6 → r 7 f = z 7 f) (h32 : r 32 6 ≤ 900000000) (h5 : 0 ≤ r 31 5 ∧ r 31 5 ≤ 2147483647) (hm : MR G r f0 s m0) (hT : s 31 9 < 6000) (ho : r 58 (s 31 6) = 13)
    (g : ∀ s1, ((∀ k, 45 ≤ k → s1 k = s k) ∧ s1 31 9 = s 31 9 + 1) → StepOK X G r f0 s s1 → Q 0 s1) : w_69 X (zu s 31 9 (s 31 9 + 1)) Q := by
  obtain ⟨U0, φ0, hh0, hf0, hg0, o8, o39⟩ := hm
  generalize eT : s 31 9 = T at *
  generalize ei : s 31 6 = i at *
  generalize eF : s 39 4 = F at *
  generalize en : s 31 7 = n at *
  obtain ⟨x1, x2, x3, x4, x5, x6, x7, x8, x9, x10⟩ := ctx C hf0 hg0 eF ei
  obtain ⟨y1, y2, y3, y4, e⟩ := x2.2.2.2.2.2.2.2.2.2.2.2.1 ho
  have y7 := h7 _ y1.1 y1.2
  have hH := e.1
  have hH2 := e.2.1
  have nxt := (C.2.2.2.2.2.1 i x1.1.1 x1.1.2).2.2 (by omega)
  obtain ⟨g1, g2, g3, g4, g5, g6, g7, g8, g9, g10, g11⟩ := id hg0
  -- the function's start
  obtain ⟨c19, cent, -⟩ := C.2.2.2.2.2.2.1 (r 59 i) y1.1 (by omega)
  have en' : 0 ≤ r 64 (r 59 i) ∧ r 64 (r 59 i) < r 45 16 ∧ G (r 64 (r 59 i)) 0 0 = 0 ∧ G (r 64 (r 59 i)) 3 0 = r 59 i ∧ ∀ k, 0 ≤ k → k < 8 → G (r 64 (r 59 i)) 2 k = lt z (r 59 i) k := by
    rcases cent y1.2 with w | ⟨-, w1, w2, w3, w4⟩
    · omega
    · exact ⟨w1.1, w1.2, w2, w3, w4⟩
  obtain ⟨b1, b2, b3, b4, b5⟩ := en'
  refine c_head (i := i) (o := r 58 i) (v := r 59 i) (by omega) ei x3.1 x3.2 x10 ⟨?_, ?_, ?_, ?_, ?_, ?_, ?_, ?_, ?_, ?_, ?_, ?_, ?_, ?_, ?_, ?_, ?_⟩ <;> intro c <;> first | (exfalso; omega) | skip
  -- what the reference does, once the program has come to s3
  have mod : ∀ s2 s3, CF s s2 T i n (r 31 5) → ((F + 1 = 24 ∧ s3 = zu s2 31 8 4) ∨ (F + 1 < 24 ∧ CE s2 s3 F (G i 0 0) (r 60 i) i (r 64 (r 59 i)))) → StepOK X G r f0 s s3 := by
    intro s2 s3 cf hs3 m hm Q' k
    obtain ⟨U, φ, hh, hf, hg, o8, o39⟩ := hm
    obtain ⟨-, -, -, -, v5, v6, v7, v8, -, -⟩ := ctx C hf hg eF ei
    obtain ⟨k1, k2, k3⟩ := cf_k cf
    refine m_head o39 (by rw [v6.2.2.2.2.2, eT]) (by omega) v6.2.1 (by omega) v6.2.2.1 v6.2.2.2.1 v6.2.2.2.2.1 x10 ⟨fun q => absurd ho q, fun q => by omega, fun _ => ?_⟩
    -- behind the collection
    have after : ∀ m2, MC G r s m s2 m2 i T → w_138_12 X (r 59 i) (r 60 i) m2 (fun _ m3 => Q' m3) := by
      rintro m2 ⟨U2, φ2, hp2, fr2, gl2, ⟨d1, d2, d3, d4, d5, d6, d7, d8, d9⟩, dk⟩
      obtain ⟨l1, l2, l3, l4, l5, l6, l7, l8, l9, l10, l11⟩ := id gl2
      have e56 : m2 45 56 = F := by rw [d6]; exact v6.1
      rcases hs3 with ⟨qF, rfl⟩ | ⟨qF, ce⟩
      · -- too many frames
        refine w_138_12_i ?_
        rw [e56]
        refine ⟨by omega, fun q => by omega, fun _ => ?_⟩
        rintro _ rfl
        refine k _ (Or.inr ?_) ⟨fun k hk => by rw [zu_f (by omega)]; exact dk.1 k hk, fun j hj => by have := kj_n hj; rw [zu_n (by omega)]; exact dk.2 j hj⟩
        refine ⟨glo_c gl2 (fun k hk => zu_f (by omega)) (fun j hj => zu_n (by omega)) (zu_g (by decide)) (fun k hk => zu_f (by omega)) (fun j hj => zu_n (by omega)), by rw [zu_s]; omega, by rw [zu_s, zu_s], ?_, by rw [zu_f (by decide)]; exact hp2.2.2.2.2.1, fun w => by rw [zu_s] at w; omega⟩
        rw [zu_g (by decide), zu_n (by omega)]
        exact ⟨hp2.2.2.2.2.2.1, hp2.2.2.2.2.2.2.1⟩
      · have ft := fr2 F (by omega) (by rw [eF]; omega)
        have aF : AA s i F = i := by rw [AA, eF, if_pos rfl]
        have hF' : HH G r s i F = G i 0 0 := by rw [HH, eF, if_pos rfl]
        rw [aF, hF'] at ft
        have e64 : m2 64 (r 59 i) = r 64 (r 59 i) := by rw [l2 64 (by omega) (by omega)]
        refine m_call (F := F) (H := G i 0 0) (i := i) e56 (by omega) ft.1.2.1 (by omega) (by omega) (by omega) (by omega) d7 (fun m3 de => k m3 (Or.inl ?_) ⟨fun k hk => by rw [de.1 k (by omega)]; exact dk.1 k hk, fun j hj => by have := kj_n hj; rw [de.2.1 j (by omega)]; exact dk.2 j hj⟩)
        rw [e64] at de
        obtain ⟨p1, p2, p3, p4, p5, p6, p7, p8, p9⟩ := ce
        obtain ⟨q1, q2, q3, q4, q5, q6, q7, q8, q9⟩ := de
        refine ⟨U2, φ2, hp_c hp2 (fun k hk => p1 k (by omega)) (fun k hk => q1 k (by omega)) (q2 48 (by omega)), ?_, ?_, by rw [p2 8 (by omega)]; exact d1, by rw [q2 39 (by omega)]; exact d2⟩
        · -- the frames
          have lk := (C.2.2.2.2.2.2.2.2 (r 64 (r 59 i)) b1 b2).2
          have plo : ∀ x, 0 ≤ x → x ≤ F → G (pl s3 x) 3 0 = G (pl s x) 3 0 := by
            intro x z1 z2
            unfold pl
            rw [p5, eF, if_neg (by omega), p7]
            by_cases c1 : x = F
            · rw [if_pos c1, if_pos c1, ei]
            · rw [if_neg c1, if_neg c1, d4]
          refine ⟨by rw [p5, q5]; omega, by rw [p3, q3]; exact ⟨b1, b2, rfl⟩, ?_, fun x z1 z2 => ?_, by rw [plo 0 (by omega) (by omega)]; exact hf.2.2.2.2⟩
          · rw [p5, p3, b3]
            refine ⟨⟨by rw [p6, if_pos rfl], by rw [q6, if_pos rfl], by omega, by omega⟩, fun x z1 z2 => by omega, fun x z1 z2 => ?_⟩
            have g0 := (lk x (by omega) z2).2
            rw [b5 x (by omega) (by omega)] at g0 ⊢
            unfold lt at g0 ⊢
            by_cases c1 : (x : Int) < z 7 (r 59 i)
            · rw [if_pos c1, p9 x (by omega) (by omega), q9 x (by omega) (by omega)]
              have := ft.2.1 (G i 0 0 - r 60 i + x) (by omega) (by omega)
              rw [y4 x (by omega) (by omega)] at this
              rw [show F * 16 + G i 0 0 - r 60 i + x = F * 16 + (G i 0 0 - r 60 i + x) by omega, show 16 * F + (G i 0 0 - r 60 i) + x = 16 * F + (G i 0 0 - r 60 i + x) by omega]
              exact this
            · rw [if_neg c1] at g0; omega
          · rw [p5] at z2
            by_cases c1 : x = F
            · subst c1
              have e43 : s3 43 x = i := by rw [p7, if_pos rfl]
              rw [e43]
              refine ⟨⟨x1.1.1, x1.1.2, ho, by rw [q7, if_pos rfl]⟩, ?_, ?_⟩
              · have : pl s3 (x + 1) = r 64 (r 59 i) := by rw [pl, p5, if_pos rfl, p3]
                rw [this, b4]
              · refine ⟨⟨by rw [p6, if_neg (by omega), if_pos rfl], by rw [q6, if_neg (by omega), if_pos rfl], by omega, by omega⟩, fun y w1 w2 => ?_, fun y w1 w2 => ?_⟩
                · rw [p1 41 (by omega), q1 83 (by omega)]; exact ft.2.1 y w1 (by omega)
                · rw [p8 _ (by omega), q8 _ (by omega)]; exact ft.2.2 y w1 w2
            · obtain ⟨t1, t2, -⟩ := hf.2.2.2.1 x z1 (by rw [eF]; omega)
              have fx := fr2 x z1 (by rw [eF]; omega)
              have aX : AA s i x = s 43 x := by rw [AA, eF, if_neg c1]
              have hX : HH G r s i x = G (s 43 x) 0 0 - r 60 (s 43 x) := by rw [HH, eF, if_neg c1]
              rw [aX, hX] at fx
              have e43 : s3 43 x = s 43 x := by rw [p7, if_neg c1, d4]
              rw [e43, plo (x + 1) (by omega) (by omega), q7, if_neg (by omega), d5]
              refine ⟨t1, t2, ⟨?_, fun y w1 w2 => ?_, fun y w1 w2 => ?_⟩⟩
              · rw [p6, q6, if_neg (by omega), if_neg c1, if_neg (by omega), if_neg c1]; exact fx.1
              · rw [p1 41 (by omega), q1 83 (by omega)]; exact fx.2.1 y w1 w2
              · rw [p8 _ (by omega), q8 _ (by omega)]; exact fx.2.2 y w1 w2
        · refine ⟨fun k hk => by rw [p1 k (by omega)]; exact l1 k hk, fun k w1 w2 => by rw [q1 k (by omega)]; exact l2 k w1 w2, ?_, ?_, ?_, ?_, ?_, ?_, ?_, ?_, ?_⟩
          · rw [p2 4 (by omega), p2 5 (by omega), p2 16 (by omega), q2 37 (by omega), q2 38 (by omega), q2 47 (by omega)]; exact l3
          · rw [p2 7 (by omega), q2 58 (by omega), q2 40 (by omega)]; exact l4
          · rw [p2 9 (by omega), q2 40 (by omega)]; exact l5
          · rw [p2 10 (by omega), q2 41 (by omega), q2 40 (by omega)]; exact l6
          · rw [p2 11 (by omega), q2 42 (by omega)]; exact l7
          · rw [p4, q4, l8.1]; omega
          · rw [p2 14 (by omega), q2 44 (by omega), p1 44 (by omega), q1 73 (by omega)]; exact l9
          · rw [p1 37 (by omega), p1 32 (by omega)]; exact l10
          · rw [p1 32 (by omega), q2 40 (by omega)]; exact l11
    have en2 : m 45 58 = n := by rw [← hg.2.2.2.1.1]; exact en
    have e38 : m 45 38 = r 31 5 := hg.2.2.1.2.2.2.2.1
    refine w_138_i (m_due (n := n) (f := r 31 5) (by rw [zu_n (by omega)]; exact en2) (by rw [zu_n (by omega)]; exact e38) h5 (by omega) (fun hd => ⟨by omega, fun q => by omega, fun _ => ?_⟩) (fun hd => ⟨by omega, fun _ => ?_, fun q => by omega⟩))
    · have hd : due n (r 31 5) := by
        rcases hd with w | w
        · exact w
        · omega
      have kc : KC (sc s T i n) s2 i := by
        rcases cf with w | w
        · exact absurd hd w.1
        · exact w.2
      exact col_m C h7 hz hh hf hg ei (Or.inr ho) eT hT en (fun m2 km => after m2 (mc_col C h7 hz hh hf hg o8 o39 ei (Or.inr ho) eT hT en kc km))
    · have es2 : s2 = sc s T i n := by
        rcases cf with w | w
        · exact w.2
        · exact absurd (Or.inl w.1) hd
      subst es2
      exact after _ (mc_no C h7 hh hf hg o8 o39 ei (Or.inr ho) eT hT en)
  -- the program
  have cls : ∀ s2, CF s s2 T i n (r 31 5) → w_78_12 X i (r 59 i) s2 (fun _ s2 => Q 0 s2) := by
    intro s2 cf
    obtain ⟨k1, k2, k3⟩ := cf_k cf
    have e39 : s2 39 4 = F := by rw [k1 39 (by omega)]; exact eF
    by_cases qF : F + 1 = 24
    · refine w_78_12_i ?_
      rw [e39]
      refine ⟨by omega, fun q => by omega, fun _ => ?_⟩
      rintro _ rfl
      exact g _ ⟨fun k hk => by rw [zu_f (by omega), k1 k (by omega)], by rw [zu_n (by omega)]; exact k3⟩ (mod s2 _ cf (Or.inl ⟨qF, rfl⟩))
    · have e19 : s2 19 (r 59 i) = r 64 (r 59 i) := by rw [k1 19 (by omega), g1 19 (by omega)]; exact c19
      refine c_call (F := F) (H := G i 0 0) (tk := r 60 i) e39 (by omega) (by rw [k1 42 (by omega)]; exact x5.1) (by omega) (by omega) (by omega) (by rw [k1 7 (by omega), g1 7 (by omega), hr7 _ y1.1 y1.2, y3]) (by rw [k2 12 (by omega)]; omega) (by rw [k1 14 (by omega), g1 14 (by omega)]; exact C.1.1) (fun s3 ce => ?_)
      rw [e19] at ce
      exact g s3 ⟨fun k hk => by rw [ce.1 k (by omega), k1 k (by omega)], by rw [ce.2.1 9 (by omega)]; exact k3⟩ (mod s2 s3 cf (Or.inr ⟨by omega, ce⟩))
  have e5 : s 31 5 = r 31 5 := g3.2.1
  refine w_78_i (c_forced (n := n) (f := r 31 5) (by rw [zu_n (by omega), zu_n (by omega)]; exact en) (by rw [zu_n (by omega), zu_n (by omega)]; exact e5) h5 (fun hd => ⟨by omega, fun q => by omega, fun _ => ?_⟩) (fun hd => ⟨by omega, fun _ => ?_, fun q => by omega⟩))
  · exact col_c C h7 hz h32 hh0 hf0 hg0 ei (Or.inr ho) eT hT en (fun s2 kc => cls s2 (Or.inr ⟨hd, kc⟩))
  · exact cls _ (Or.inl ⟨hd, rfl⟩)
end
