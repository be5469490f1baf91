section
variable {G : Int → Nat → Int → Int} {z r s m s1 m1 m0 : zS} {f0 i j F N o v tk p q t T H a b e a1 a2 x n : Int} {U : Int → Int → Prop} {φ : Int → Int} {X : zX} {Q : Int → zS → Prop}
theorem s_store (C : CodeOK z r G) (hm : MR G r f0 s m0) (hT : s 31 9 < 6000) (ho : r 58 (s 31 6) = 12)
    (g : ∀ s1, ((∀ k, 45 ≤ k → s1 k = s k) ∧ s1 31 9 = s 31 9 + 1) → StepOK X G r f0 s s1 → Q 0 s1) : w_69 X (zu s 31 9 (s 31 9 + 1)) Q := by
  obtain ⟨U0, φ0, hh0, hf0, hg0, o8, o39⟩ := hm
  generalize eT : s 31 9 = T at *
  generalize ei : s 31 6 = i at *
  generalize eF : s 39 4 = F at *
  obtain ⟨x1, x2, x3, x4, x5, x6, x7, x8, x9, x10⟩ := ctx C hf0 hg0 eF ei
  have nxt := (C.2.2.2.2.2.1 i x1.1.1 x1.1.2).2.2 (by omega)
  obtain ⟨y1, e⟩ := x2.2.2.2.2.2.2.2.2.2.2.1 ho
  have hH := e.1
  have hH2 := e.2.1
  have x51 := x5.1
  refine c_head (i := i) (o := r 58 i) (v := r 59 i) (by omega) ei x3.1 x3.2 x10 ⟨?_, ?_, ?_, ?_, ?_, ?_, ?_, ?_, ?_, ?_, ?_, ?_, ?_, ?_, ?_, ?_, ?_⟩ <;> intro c <;> first | (exfalso; omega) | skip
  generalize ea : s 41 (F * 16 + (G i 0 0 - 1)) = a1
  refine c_pop (F := F) (H := G i 0 0) (v := a1) (by simp [zu, *]) (by simp [zu, *]) (by simp [zu, *]) x4 (by omega) (w_96_i ?_)
  have e39 : zu (zu (zu s 31 9 (T + 1)) 31 6 (i + 1)) 42 F (G i 0 0 - 1) 39 4 = F := by rw [zu_g (by decide), zu_g (by decide), zu_g (by decide)]; exact eF
  rw [e39]
  refine ⟨by omega, ?_⟩
  rintro _ rfl
  refine g _ ⟨fun k hk => by (repeat rw [zu_f (by omega)]), by simp [zu]⟩ (fun m hm Q' k => ?_)
  obtain ⟨U, φ, hh, hf, hg, o8, o39⟩ := hm
  obtain ⟨-, -, -, -, v5, v6, v7, v8, -, -⟩ := ctx C hf hg eF ei
  have u1 := v7 (G i 0 0 - 1) (by omega) (by omega)
  rw [ea] at u1
  refine m_head o39 (by rw [v6.2.2.2.2.2, eT]) (by omega) v6.2.1 (by omega) v6.2.2.1 v6.2.2.2.1 v6.2.2.2.2.1 x10 ⟨fun _ _ => w_146_i ⟨by omega, ?_⟩, fun q => by omega, fun q => by omega⟩
  have e56 : zu m 45 40 (T + 1) 45 56 = F := by rw [zu_n (by omega)]; exact v6.1
  rw [e56, zu_n (by omega), v6.2.1]
  ((repeat' (refine And.intro ?_ ?_)) <;> intro c <;> first | (exfalso; omega) | skip)
  generalize eb : m 83 (16 * F + (G i 0 0 - 1)) = b1 at u1
  have v51 := v5.2.1
  refine m_pop (F := F) (H := G i 0 0) (v := b1) (by rw [zu_n (by omega)]; exact v6.1) (by rw [zu_g (by decide)]; exact v51) (by rw [zu_g (by decide)]; exact eb) x4 (by omega) ⟨by omega, ?_⟩
  rintro _ rfl
  refine w_146_234_i ?_
  rintro _ rfl
  refine k _ (Or.inl ?_) ⟨fun k hk => by (repeat rw [zu_f (by omega)]), fun j hj => by (have := kj_n hj; simp [zu, show ¬ j = 57 by omega, show ¬ j = 40 by omega])⟩
  have lv := (C.2.2.2.2.2.2.2.2 i x1.1.1 x1.1.2).1
  have lk := (C.2.2.2.2.2.2.2.2 (i + 1) (by omega) nxt).2
  have okj := (C.2.2.2.2.2.1 (i + 1) (by omega) nxt).1
  have tp : fr U φ G (zu (zu (zu (zu s 31 9 (T + 1)) 31 6 (i + 1)) 42 F (G i 0 0 - 1)) 40 (F * 8 + r 59 i) a1) (zu (zu (zu (zu m 45 40 (T + 1)) 81 F (G i 0 0 - 1)) 82 (8 * F + r 59 i) b1) 45 57 (i + 1)) F (i + 1) (G (i + 1) 0 0) (r 63 (i + 1)) := by
    refine ⟨⟨by rw [zu_g (by decide), zu_s]; omega, by rw [zu_g (by decide), zu_g (by decide), zu_s]; omega, by omega, by omega⟩, fun k' p q => ?_, fun k' p q => ?_⟩
    · rw [zu_g (by decide), zu_g (by decide), zu_g (by decide), zu_g (by decide), zu_g (by decide), zu_g (by decide), zu_g (by decide), zu_g (by decide), e.2.2.1 k' p (by omega)]
      exact v7 k' p (by omega)
    · have g0 := (lk k' (by omega) q).2
      have gL : G (i + 1) 2 k' = if (k' : Int) = r 59 i then top (G i) 1 else G i 2 k' := by
        rcases e.2.2.2.2.1 k' (by omega) (by omega) with w | w
        · exact w
        · omega
      rw [zu_g (k := 82) (by decide)]
      by_cases ek : (k' : Int) = r 59 i
      · rw [gL, if_pos ek, ek, zu_s, zu_s]
        exact u1
      · rw [gL, if_neg ek, zu_n (by omega), zu_n (by omega), zu_g (by decide), zu_g (by decide), zu_g (by decide), zu_g (by decide), zu_g (by decide)]
        refine v8 k' p (lv_edge lv (Or.inl ⟨by omega, by omega, rfl⟩) (fun _ => by omega) k' (by omega) q (fun w => ek w.2))
  obtain ⟨w1, w2, w3⟩ := top_only (s1 := zu (zu (zu (zu s 31 9 (T + 1)) 31 6 (i + 1)) 42 F (G i 0 0 - 1)) 40 (F * 8 + r 59 i) a1) (m1 := zu (zu (zu (zu m 45 40 (T + 1)) 81 F (G i 0 0 - 1)) 82 (8 * F + r 59 i) b1) 45 57 (i + 1)) (j := i + 1) hh hf hg eF ei (fun k hk => by (repeat rw [zu_f (by omega)])) (fun j hj => by rw [zu_g (by decide), zu_g (by decide), zu_n (by omega), zu_n (by omega)]) (fun x hx => by rw [zu_g (by decide), zu_n (by omega), zu_g (by decide), zu_g (by decide)]) (fun x hx => by rw [zu_g (by decide), zu_g (by decide), zu_g (by decide), zu_g (by decide)]) (fun x hx => by rw [zu_n (by omega), zu_g (by decide), zu_g (by decide), zu_g (by decide)]) (fun k hk => by (repeat rw [zu_f (by omega)])) (fun j hj => by rw [zu_n (by omega), zu_g (by decide), zu_g (by decide), zu_n (by omega)]) (fun x hx => by rw [zu_g (by decide), zu_g (by decide), zu_n (by omega), zu_g (by decide)]) (fun x hx => by rw [zu_g (by decide), zu_g (by decide), zu_g (by decide), zu_g (by decide)]) (fun x hx => by rw [zu_g (by decide), zu_n (by omega), zu_g (by decide), zu_g (by decide)]) (by simp [zu]) zu_s (by omega) (by rw [eT]; simp [zu]) (by rw [v6.2.2.2.2.2, eT]; simp [zu]) (by rw [v6.2.2.2.2.2, eT]; exact hT) e.2.2.2.2.2 tp
  exact ⟨U, φ, w1, w2, w3, by rw [zu_g (by decide), zu_g (by decide), zu_n (by omega), zu_n (by omega)]; exact o8, by rw [zu_n (by omega), zu_g (by decide), zu_g (by decide), zu_n (by omega)]; exact o39⟩
set_option maxHeartbeats 1000000 in
theorem s_ret (C : CodeOK z r G) (hm : MR G r f0 s m0) (hT : s 31 9 < 6000) (ho : r 58 (s 31 6) = 14) (h16 : r 31 16 = z 6 f0) (hzr : ∀ f, 0 ≤ f → f < z 3 6 → tI (z 6 f))
    (g : ∀ s1, ((∀ k, 45 ≤ k → s1 k = s k) ∧ s1 31 9 = s 31 9 + 1) → StepOK X G r f0 s s1 → Q 0 s1) : w_69 X (zu s 31 9 (s 31 9 + 1)) Q := by
  obtain ⟨U0, φ0, hh0, hf0, hg0, o8, o39⟩ := hm
  generalize eT : s 31 9 = T at *
  generalize ei : s 31 6 = i at *
  generalize eF : s 39 4 = F at *
  obtain ⟨x1, x2, x3, x4, x5, x6, x7, x8, x9, x10⟩ := ctx C hf0 hg0 eF ei
  obtain ⟨y1, y2⟩ := x2.2.2.2.2.2.2.2.2.2.2.2.2.1 ho
  rw [y1] at x5
  have x51 := x5.1
  refine c_head (i := i) (o := r 58 i) (v := r 59 i) (by omega) ei x3.1 x3.2 x10 ⟨?_, ?_, ?_, ?_, ?_, ?_, ?_, ?_, ?_, ?_, ?_, ?_, ?_, ?_, ?_, ?_, ?_⟩ <;> intro c <;> first | (exfalso; omega) | skip
  generalize ea : s 41 (F * 16 + 0) = a1
  have e39 : zu (zu (zu s 31 9 (T + 1)) 31 6 (i + 1)) 42 F (1 - 1) 39 4 = F := by rw [zu_g (by decide), zu_g (by decide), zu_g (by decide)]; exact eF
  refine w_79_i (c_pop (F := F) (H := 1) (v := a1) (by simp [zu, *]) (by simp [zu, *]) (by rw [show (1 : Int) - 1 = 0 by omega]; simp [zu]; rw [← ea]; simp) x4 (by omega) ?_)
  simp only [e39]
  refine ⟨by omega, fun qF => ?_, fun qF => ?_⟩
  · -- back to the frame below
    have ec0 := hf0.2.2.2.1 (F - 1) (by omega) (by omega)
    generalize ecl : s 43 (F - 1) = cl at *
    obtain ⟨⟨l1, l2, l3, l4⟩, l5, ⟨⟨l6, l7, l8, l9⟩, l10, l11⟩⟩ := ec0
    have okc := (C.2.2.2.2.2.1 cl l1 l2)
    have nxc := okc.2.2 (by omega)
    obtain ⟨c1, c2, c3, c4, ec⟩ := okc.1.2.2.2.2.2.2.2.2.2.2.2.1 l3
    have okj := (C.2.2.2.2.2.1 (cl + 1) (by omega) nxc).1
    have hHj : 0 ≤ G (cl + 1) 0 0 ∧ G (cl + 1) 0 0 ≤ 16 := by
      obtain ⟨-, -, -, -, -, -, -, -, -, -, -, -, -, -, -, -, -, -, w, -⟩ := okj
      exact w
    have n1 := ec.1
    have n2 := ec.2.1
    generalize eh : G cl 0 0 - r 60 cl = hc at *
    rintro _ rfl
    have e42 : s 42 (F - 1) = hc := l6
    have e39' : zu (zu (zu (zu s 31 9 (T + 1)) 31 6 (i + 1)) 42 F (1 - 1)) 39 4 (F - 1) 39 4 = F - 1 := zu_s
    refine c_push (F := F - 1) (H := hc) e39' (by rw [zu_g (by decide), zu_n (by omega), zu_g (by decide), zu_g (by decide)]; exact e42) (by omega) (by omega) ?_
    have e39'' : zu (zu (zu (zu (zu (zu s 31 9 (T + 1)) 31 6 (i + 1)) 42 F (1 - 1)) 39 4 (F - 1)) 41 ((F - 1) * 16 + hc) a1) 42 (F - 1) (hc + 1) 39 4 = F - 1 := by rw [zu_g (by decide), zu_g (by decide), zu_s]
    rw [e39'']
    refine ⟨by omega, ?_⟩
    have e43 : zu (zu (zu (zu (zu (zu s 31 9 (T + 1)) 31 6 (i + 1)) 42 F (1 - 1)) 39 4 (F - 1)) 41 ((F - 1) * 16 + hc) a1) 42 (F - 1) (hc + 1) 43 (F - 1) = cl := by rw [zu_g (by decide), zu_g (by decide), zu_g (by decide), zu_g (by decide), zu_g (by decide), zu_g (by decide)]; exact ecl
    rw [e43]
    rintro _ rfl
    generalize es1 : zu (zu (zu (zu (zu (zu (zu s 31 9 (T + 1)) 31 6 (i + 1)) 42 F (1 - 1)) 39 4 (F - 1)) 41 ((F - 1) * 16 + hc) a1) 42 (F - 1) (hc + 1)) 31 6 (cl + 1) = s1
    have k1 : ∀ k, ¬ (k = 31 ∨ k = 39 ∨ k = 41 ∨ k = 42) → s1 k = s k := fun k hk => by rw [← es1]; (repeat rw [zu_f (by omega)])
    have k31 : ∀ j, ¬ (j = 6 ∨ j = 9) → s1 31 j = s 31 j := fun j hj => by rw [← es1]; simp [zu, show ¬ j = 6 by omega, show ¬ j = 9 by omega]
    have k6 : s1 31 6 = cl + 1 := by rw [← es1, zu_s]
    have k9 : s1 31 9 = T + 1 := by rw [← es1]; simp [zu]
    have k39 : s1 39 4 = F - 1 := by rw [← es1]; simp [zu]
    have k42 : ∀ x, x < F → s1 42 x = if x = F - 1 then hc + 1 else s 42 x := fun x hx => by
      rw [← es1, zu_g (by decide)]
      by_cases q : x = F - 1
      · rw [if_pos q, q, zu_s]
      · rw [if_neg q, zu_n q, zu_g (by decide), zu_g (by decide), zu_n (by omega), zu_g (by decide), zu_g (by decide)]
    have k41 : ∀ x, s1 41 x = if x = (F - 1) * 16 + hc then a1 else s 41 x := fun x => by rw [← es1]; simp [zu]
    refine g s1 ⟨fun k hk => k1 k (by omega), k9⟩ (fun m hm Q' k => ?_)
    obtain ⟨U, φ, hh, hf, hg, o8, o39⟩ := hm
    obtain ⟨-, -, -, -, v5, v6, v7, v8, -, -⟩ := ctx C hf hg eF ei
    rw [y1] at v5 v7
    have u1 := v7 0 (by omega) (by omega)
    rw [ea, y2] at u1
    generalize eb : m 83 (16 * F + 0) = b1 at u1
    have ec0 := hf.2.2.2.1 (F - 1) (by omega) (by rw [eF]; omega)
    rw [ecl] at ec0
    obtain ⟨⟨-, -, -, t4⟩, t5, ⟨⟨t6, t7, -, -⟩, t10, t11⟩⟩ := ec0
    rw [eh] at t7 t10
    rw [show F - 1 + 1 = F by omega] at t4 t5
    have plF : pl s F = i := by rw [pl, eF, if_pos rfl, ei]
    rw [plF] at t5
    refine m_head o39 (by rw [v6.2.2.2.2.2, eT]) (by omega) v6.2.1 (by omega) v6.2.2.1 v6.2.2.2.1 v6.2.2.2.2.1 x10 ⟨fun _ q => absurd ho q, fun _ => w_143_i (m_pop (F := F) (H := 1) (v := b1) (by rw [zu_n (by omega)]; exact v6.1) (by rw [zu_g (by decide)]; exact v5.2.1) (by rw [zu_g (by decide)]; exact eb) x4 (by omega) ?_), fun q => by omega⟩
    have m56 : zu (zu m 45 40 (T + 1)) 81 F (1 - 1) 45 56 = F := by rw [zu_g (by decide), zu_n (by omega)]; exact v6.1
    have m80 : zu (zu m 45 40 (T + 1)) 81 F (1 - 1) 80 F = cl + 1 := by rw [zu_g (by decide), zu_g (by decide)]; exact t4
    rw [m56, m80]
    refine ⟨by omega, fun _ => ⟨x4, ?_⟩, fun q => absurd (Classical.not_not.mp q) qF⟩
    rintro _ rfl
    have m56' : zu (zu (zu m 45 40 (T + 1)) 81 F (1 - 1)) 45 57 (cl + 1) 45 56 = F := by rw [zu_n (by omega)]; exact m56
    rw [m56']
    rintro _ rfl
    refine m_push (F := F - 1) (H := hc) zu_s (by rw [zu_g (by decide), zu_g (by decide), zu_n (by omega), zu_g (by decide)]; exact t7) (by omega) (by omega) ?_
    generalize em1 : zu (zu (zu (zu (zu (zu m 45 40 (T + 1)) 81 F (1 - 1)) 45 57 (cl + 1)) 45 56 (F - 1)) 83 (16 * (F - 1) + hc) b1) 81 (F - 1) (hc + 1) = m1
    have p1 : ∀ k, ¬ (k = 45 ∨ k = 81 ∨ k = 83) → m1 k = m k := fun k hk => by rw [← em1]; (repeat rw [zu_f (by omega)])
    have p45 : ∀ j, ¬ (j = 40 ∨ j = 56 ∨ j = 57) → m1 45 j = m 45 j := fun j hj => by rw [← em1]; simp [zu, show ¬ j = 40 by omega, show ¬ j = 56 by omega, show ¬ j = 57 by omega]
    have p40 : m1 45 40 = T + 1 := by rw [← em1]; simp [zu]
    have p56 : m1 45 56 = F - 1 := by rw [← em1]; simp [zu]
    have p57 : m1 45 57 = cl + 1 := by rw [← em1]; simp [zu]
    have p81 : ∀ x, x < F → m1 81 x = if x = F - 1 then hc + 1 else m 81 x := fun x hx => by
      rw [← em1]
      by_cases q : x = F - 1
      · rw [if_pos q, q, zu_s]
      · rw [if_neg q, zu_n q, zu_g (by decide), zu_g (by decide), zu_g (by decide), zu_n (by omega), zu_g (by decide)]
    have p83 : ∀ x, m1 83 x = if x = 16 * (F - 1) + hc then b1 else m 83 x := fun x => by rw [← em1]; simp [zu]
    refine k m1 (Or.inl ⟨U, φ, hp_c hh (fun k hk => k1 k (by omega)) (fun k hk => p1 k (by omega)) (p45 48 (by omega)), ?_, ?_, by rw [k31 8 (by omega)]; exact o8, by rw [p45 39 (by omega)]; exact o39⟩) ⟨fun k hk => p1 k (by omega), fun j hj => p45 j (by have := kj_n hj; omega)⟩
    · -- frames
      obtain ⟨f1, f2, f3, f4, f5⟩ := hf
      have epl : ∀ x, 0 ≤ x → x < F → G (pl s1 x) 3 0 = G (pl s x) 3 0 := by
        intro x q1 q2
        simp only [pl]
        rw [k39, eF, if_neg (show ¬ x = F by omega)]
        by_cases q : x = F - 1
        · rw [if_pos q, k6, q, ecl]; exact ec.2.2.2.2.2
        · rw [if_neg q, k1 43 (by omega)]
      have lk := (C.2.2.2.2.2.2.2.2 (cl + 1) (by omega) nxc).2
      refine ⟨by rw [k39, p56]; omega, by rw [k6, p57]; omega, ?_, fun x q1 q2 => ?_, by rw [epl 0 (by omega) (by omega)]; exact f5⟩
      · rw [k39, k6]
        refine ⟨⟨by rw [k42 _ (by omega), if_pos rfl]; omega, by rw [p81 _ (by omega), if_pos rfl]; omega, hHj⟩, fun x q1 q2 => ?_, fun x q1 q2 => ?_⟩
        · rw [k41, p83]
          by_cases q : x = hc
          · rw [if_pos (by omega), if_pos (by omega), q, ← eh, ec.2.2.2.1 rfl, ← t5]; exact u1
          · rw [if_neg (by omega), if_neg (by omega), ec.2.2.1 x q1 (by omega)]
            exact t10 x q1 (by omega)
        · have g0 := (lk x (by omega) q2).2
          have := t11 x q1 q2
          rw [k1 40 (by omega), p1 82 (by omega)]
          rcases ec.2.2.2.2.1 x (by omega) (by omega) with w | w
          · rw [w]; exact this
          · omega
      · rw [k39] at q2
        obtain ⟨w1, w2, ⟨w3, w4, w5⟩⟩ := f4 x q1 (by rw [eF]; omega)
        rw [k1 43 (by omega), p1 80 (by omega), epl (x + 1) (by omega) (by omega)]
        refine ⟨w1, w2, ⟨by rw [k42 x (by omega), p81 x (by omega), if_neg (by omega), if_neg (by omega)]; exact w3, fun y q3 q4 => ?_, fun y q3 q4 => ?_⟩⟩
        · rw [k41, p83, if_neg (by omega), if_neg (by omega)]; exact w4 y q3 q4
        · rw [k1 40 (by omega), p1 82 (by omega)]; exact w5 y q3 q4
    · obtain ⟨g1, g2, g3, g4, g5, g6, g7, g8, g9, g10, g11⟩ := hg
      refine ⟨fun k hk => by rw [k1 k (by omega)]; exact g1 k hk, fun k p q => by rw [p1 k (by omega)]; exact g2 k p q, ?_, ?_, ?_, ?_, ?_, ?_, ?_, ?_, ?_⟩
      · rw [k31 4 (by omega), k31 5 (by omega), k31 16 (by omega), p45 37 (by omega), p45 38 (by omega), p45 47 (by omega)]; exact g3
      · rw [k31 7 (by omega), p45 58 (by omega), p40]; exact ⟨g4.1, g4.2.1, by omega⟩
      · rw [k9, p40]; omega
      · rw [k31 10 (by omega), p45 41 (by omega), p40]; exact ⟨g6.1, g6.2.1, by omega⟩
      · rw [k31 11 (by omega), p45 42 (by omega)]; exact g7
      · rw [k31 12 (by omega), p45 43 (by omega)]; exact g8
      · rw [k31 14 (by omega), p45 44 (by omega), k1 44 (by omega), p1 73 (by omega)]; exact g9
      · rw [k1 37 (by omega), k1 32 (by omega)]; exact g10
      · rw [k1 32 (by omega), p40]; omega
  · -- the run is over
    have qF : F = 0 := Classical.not_not.mp qF
    rintro _ rfl _ rfl
    generalize es1 : zu (zu (zu (zu (zu s 31 9 (T + 1)) 31 6 (i + 1)) 42 F (1 - 1)) 31 15 a1) 31 8 1 = s1
    have k1 : ∀ k, ¬ (k = 31 ∨ k = 42) → s1 k = s k := fun k hk => by rw [← es1]; (repeat rw [zu_f (by omega)])
    have k31 : ∀ j, ¬ (j = 6 ∨ j = 9 ∨ j = 8 ∨ j = 15) → s1 31 j = s 31 j := fun j hj => by rw [← es1]; simp [zu, show ¬ j = 6 by omega, show ¬ j = 9 by omega, show ¬ j = 8 by omega, show ¬ j = 15 by omega]
    have k9 : s1 31 9 = T + 1 := by rw [← es1]; simp [zu]
    have k8 : s1 31 8 = 1 := by rw [← es1, zu_s]
    have k15 : s1 31 15 = a1 := by rw [← es1]; simp [zu]
    refine g s1 ⟨fun k hk => k1 k (by omega), k9⟩ (fun m hm Q' k => ?_)
    obtain ⟨U, φ, hh, hf, hg, o8, o39⟩ := hm
    obtain ⟨-, -, -, -, v5, v6, v7, v8, -, -⟩ := ctx C hf hg eF ei
    rw [y1] at v5 v7
    have u1 := v7 0 (by omega) (by omega)
    rw [ea, y2] at u1
    generalize eb : m 83 (16 * F + 0) = b1 at u1
    have pl0 : pl s 0 = i := by rw [pl, eF, if_pos qF.symm, ei]
    have f5 := hf.2.2.2.2
    rw [pl0] at f5
    rw [f5, ← h16] at u1
    refine m_head o39 (by rw [v6.2.2.2.2.2, eT]) (by omega) v6.2.1 (by omega) v6.2.2.1 v6.2.2.2.1 v6.2.2.2.2.1 x10 ⟨fun _ q => absurd ho q, fun _ => w_143_i (m_pop (F := F) (H := 1) (v := b1) (by rw [zu_n (by omega)]; exact v6.1) (by rw [zu_g (by decide)]; exact v5.2.1) (by rw [zu_g (by decide)]; exact eb) x4 (by omega) ?_), fun q => by omega⟩
    have m56 : zu (zu m 45 40 (T + 1)) 81 F (1 - 1) 45 56 = F := by rw [zu_g (by decide), zu_n (by omega)]; exact v6.1
    rw [m56]
    refine ⟨by omega, fun q => absurd qF q, fun _ => ?_⟩
    rintro _ rfl _ rfl
    generalize em1 : zu (zu (zu (zu m 45 40 (T + 1)) 81 F (1 - 1)) 45 46 b1) 45 39 1 = m1
    have p1 : ∀ k, ¬ (k = 45 ∨ k = 81) → m1 k = m k := fun k hk => by rw [← em1]; (repeat rw [zu_f (by omega)])
    have p45 : ∀ j, ¬ (j = 40 ∨ j = 46 ∨ j = 39) → m1 45 j = m 45 j := fun j hj => by rw [← em1]; simp [zu, show ¬ j = 40 by omega, show ¬ j = 46 by omega, show ¬ j = 39 by omega]
    have p40 : m1 45 40 = T + 1 := by rw [← em1]; simp [zu]
    have p39 : m1 45 39 = 1 := by rw [← em1]; simp [zu]
    have p46 : m1 45 46 = b1 := by rw [← em1]; simp [zu]
    have hh1 : hp U φ r s1 m1 := hp_c hh (fun k hk => k1 k (by omega)) (fun k hk => p1 k (by omega)) (p45 48 (by omega))
    refine k m1 (Or.inr ⟨?_, by omega, by omega, ⟨hh1.2.2.2.2.2.1, hh1.2.2.2.2.2.2.1⟩, hh1.2.2.2.2.1, fun _ => ⟨U, φ, hh1, by rw [k15, p46]; exact u1⟩⟩) ⟨fun k hk => p1 k (by omega), fun j hj => p45 j (by have := kj_n hj; omega)⟩
    obtain ⟨g1, g2, g3, g4, g5, g6, g7, g8, g9, g10, g11⟩ := hg
    refine ⟨fun k hk => by rw [k1 k (by omega)]; exact g1 k hk, fun k p q => by rw [p1 k (by omega)]; exact g2 k p q, ?_, ?_, ?_, ?_, ?_, ?_, ?_, ?_, ?_⟩
    · rw [k31 4 (by omega), k31 5 (by omega), k31 16 (by omega), p45 37 (by omega), p45 38 (by omega), p45 47 (by omega)]; exact g3
    · rw [k31 7 (by omega), p45 58 (by omega), p40]; exact ⟨g4.1, g4.2.1, by omega⟩
    · rw [k9, p40]; omega
    · rw [k31 10 (by omega), p45 41 (by omega), p40]; exact ⟨g6.1, g6.2.1, by omega⟩
    · rw [k31 11 (by omega), p45 42 (by omega)]; exact g7
    · rw [k31 12 (by omega), p45 43 (by omega)]; exact g8
    · rw [k31 14 (by omega), p45 44 (by omega), k1 44 (by omega), p1 73 (by omega)]; exact g9
    · rw [k1 37 (by omega), k1 32 (by omega)]; exact g10
    · rw [k1 32 (by omega), p40]; omega
end
