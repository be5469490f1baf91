section
variable {G : Int → Nat → Int → Int} {z r s m s1 m1 m0 : zS} {f0 i j F N o v tk p q t T H a b e a1 a2 x n : Int} {U : Int → Int → Prop} {φ : Int → Int} {X : zX} {Q : Int → zS → Prop}
set_option maxHeartbeats 1000000 in
theorem s_set (C : CodeOK z r G) (hm : MR G r f0 s m0) (hT : s 31 9 < 6000) (ho : r 58 (s 31 6) = 15 ∨ r 58 (s 31 6) = 16)
    (g : ∀ s1, ((∀ k, 45 ≤ k → s1 k = s k) ∧ s1 31 9 = s 31 9 + 1) → StepOK X G r f0 s s1 → Q 0 s1) : w_69 X (zu s 31 9 (s 31 9 + 1)) Q := by
  obtain ⟨U0, φ0, hh0, hf0, hg0, o8, o39⟩ := hm
  generalize eT : s 31 9 = T at *
  generalize ei : s 31 6 = i at *
  generalize eF : s 39 4 = F at *
  obtain ⟨x1, x2, x3, x4, x5, x6, x7, x8, x9, x10⟩ := ctx C hf0 hg0 eF ei
  have nxt := (C.2.2.2.2.2.1 i x1.1.1 x1.1.2).2.2 (by omega)
  have hj : (¬ r 58 i = 14 ∧ ¬ r 58 i = 11 ∧ i + 1 = i + 1) ∨ ((r 58 i = 10 ∨ r 58 i = 11) ∧ i + 1 = r 59 i) := Or.inl ⟨by omega, by omega, rfl⟩
  generalize ey : top (G i) 2 = y
  generalize ew : top (G i) 1 = w
  obtain ⟨y1, hw, en⟩ : 1 ≤ y ∧ (r 58 i = 15 ∧ w = z 4 y ∨ r 58 i = 16 ∧ w = z 5 y) ∧ nx (G i) (G (i + 1)) (G i 2) 2 1 w := by
    rcases ho with ho | ho
    · obtain ⟨y1, y2, e⟩ := x2.2.2.2.2.2.2.2.2.2.2.2.2.2.1 ho
      rw [ey] at y1 y2; rw [ew] at y2 e
      exact ⟨y1, Or.inl ⟨ho, y2⟩, e⟩
    · obtain ⟨y1, y2, e⟩ := x2.2.2.2.2.2.2.2.2.2.2.2.2.2.2.1 ho
      rw [ey] at y1 y2; rw [ew] at y2 e
      exact ⟨y1, Or.inr ⟨ho, y2⟩, e⟩
  have hH := en.1
  have hH2 := en.2.1
  have ytI : tI y := by
    obtain ⟨-, -, -, -, -, -, -, -, -, -, -, -, -, -, -, -, -, -, -, w2, -⟩ := x2
    rw [← ey]; exact w2 _ (by omega) (by omega)
  unfold top at ey ew
  have z2 := x7 (G i 0 0 - 2) (by omega) (by omega)
  rw [ey] at z2
  have z2 := rl_nil z2 (by omega) (hpU hh0)
  obtain ⟨cc1, cc2, -, -⟩ := C.2.2.2.2.2.2.2.1 y ytI
  have r2 : 0 ≤ s 41 (F * 16 + (G i 0 0 - 2)) ∧ s 41 (F * 16 + (G i 0 0 - 2)) < 201 := by
    by_cases q : s 41 (F * 16 + (G i 0 0 - 2)) = 0
    · omega
    · have := z2.2.1 q; omega
  have mod : ∀ s1 (n : Int), (n = 33 ∧ r 58 i = 15 ∨ n = 34 ∧ r 58 i = 16) → (¬ s 41 (F * 16 + (G i 0 0 - 2)) = 0 → TE (zu s n.toNat (s 41 (F * 16 + (G i 0 0 - 2))) (s 41 (F * 16 + (G i 0 0 - 1)))) s1 T F (i + 1) (G i 0 0 - 1) (s 41 (F * 16 + (G i 0 0 - 1)))) → (s 41 (F * 16 + (G i 0 0 - 2)) = 0 → OC s s1 T 2) → StepOK X G r f0 s s1 := by
    intro s1 n hn te oc m hm Q' k
    obtain ⟨U, φ, hh, hf, hg, o8, o39⟩ := hm
    obtain ⟨-, -, -, -, v5, v6, v7, v8, -, -⟩ := ctx C hf hg eF ei
    have u1 := v7 (G i 0 0 - 1) (by omega) (by omega)
    have u2 := v7 (G i 0 0 - 2) (by omega) (by omega)
    rw [ey] at u2; rw [ew] at u1
    have u2 := rl_nil u2 (by omega) (hpU hh)
    refine m_head o39 (by rw [v6.2.2.2.2.2, eT]) (by omega) v6.2.1 (by omega) v6.2.2.1 v6.2.2.2.1 v6.2.2.2.2.1 x10 ⟨fun _ _ => w_146_i ⟨by omega, ?_⟩, fun q => by omega, fun q => by omega⟩
    rw [zu_n (by omega), v6.2.1]
    ((repeat' (refine And.intro ?_ ?_)) <;> intro c <;> first | (exfalso; omega) | skip)
    refine m_15 v6.1 v5.2.1 x4 (by omega) rfl rfl u2.2.2.2 ?_ ho (fun q m1 me => k m1 (Or.inl ?_) ⟨fun k hk => by rw [me.1 k (by omega), zu_f (by split <;> omega)], fun j hj => by rw [me.2.1 j (by have := kj_n hj; omega), zu_g (by split <;> omega)]⟩) (fun q m1 om => k m1 (Or.inr (ov_of hh hg eT hT (oc (u2.1.mpr q)) om (by omega))) om.fr)
    · by_cases q : s 41 (F * 16 + (G i 0 0 - 2)) = 0
      · have := u2.1.mp q; omega
      · have := u2.2.1 q; omega
    · have nz : ¬ s 41 (F * 16 + (G i 0 0 - 2)) = 0 := fun w => by have := u2.1.mp w; omega
      obtain ⟨w1, w2, -⟩ := u2.2.1 nz
      have e76 : (if r 58 i = 15 then 76 else 77) = n.toNat + 43 := by
        rcases hn with ⟨q1, q2⟩ | ⟨q1, q2⟩
        · rw [if_pos q2, q1]; rfl
        · rw [if_neg (by omega), q1]; rfl
      rw [e76, ← w2] at me
      have h' := hp_put (n := n) (a := s 41 (F * 16 + (G i 0 0 - 1))) (b := m 83 (16 * F + (G i 0 0 - 1))) hh w1 (by
        rcases hn with ⟨q1, q2⟩ | ⟨q1, q2⟩
        · refine Or.inl ⟨q1, ?_⟩
          rw [cc1, show z 4 y = w by omega]; exact u1
        · refine Or.inr ⟨q1, ?_⟩
          rw [cc2, show z 5 y = w by omega]; exact u1)
      have kn : ∀ k : Nat, ¬ (k = 33 ∨ k = 34) → ¬ k = n.toNat := by clear hw u2 z2; intro k hk; omega
      have km : ∀ k : Nat, ¬ (k = 76 ∨ k = 77) → ¬ k = n.toNat + 43 := by clear hw u2 z2; intro k hk; omega
      have f' := frs_c (s1 := zu s n.toNat (s 41 (F * 16 + (G i 0 0 - 2))) (s 41 (F * 16 + (G i 0 0 - 1)))) (m1 := zu m (n.toNat + 43) (φ (s 41 (F * 16 + (G i 0 0 - 2)))) (m 83 (16 * F + (G i 0 0 - 1)))) hf (fun k hk => zu_f (kn k (by omega))) (zu_g (kn 31 (by omega))) (fun k hk => zu_f (km k (by omega))) ⟨zu_g (km 45 (by omega)), zu_g (km 45 (by omega))⟩
      have g' := glo_c (s1 := zu s n.toNat (s 41 (F * 16 + (G i 0 0 - 2))) (s 41 (F * 16 + (G i 0 0 - 1)))) (m1 := zu m (n.toNat + 43) (φ (s 41 (F * 16 + (G i 0 0 - 2)))) (m 83 (16 * F + (G i 0 0 - 1)))) hg (fun k hk => zu_f (kn k (by omega))) (fun j hj => zu_g (kn 31 (by omega))) (zu_g (kn 32 (by omega))) (fun k hk => zu_f (km k (by omega))) (fun j hj => zu_g (km 45 (by omega)))
      exact sim_top C h' f' g' (by rw [zu_g (kn 31 (by omega))]; exact o8) (by rw [zu_g (km 45 (by omega))]; exact o39) (by rw [zu_g (kn 39 (by omega))]; exact eF) (by rw [zu_g (kn 31 (by omega))]; exact ei) (by rw [zu_g (kn 31 (by omega))]; exact eT) hT (te nz) me en hj (by omega) (by omega) (by omega) (by omega) (Or.inr ⟨rfl, u1⟩)
  refine c_head (i := i) (o := r 58 i) (v := r 59 i) (by omega) ei x3.1 x3.2 x10 ⟨?_, ?_, ?_, ?_, ?_, ?_, ?_, ?_, ?_, ?_, ?_, ?_, ?_, ?_, ?_, ?_, ?_⟩ <;> intro c <;> first | (exfalso; omega) | skip
  · exact c_15 eF x5.1 x4 (by omega) rfl rfl r2 (fun q s1 te => g s1 ⟨fun k hk => by rw [te.1 k (by omega), zu_f (by omega)], te.2.2.2.1⟩ (mod s1 33 (Or.inl ⟨rfl, c⟩) (fun _ => te) (fun q' => absurd q' q))) (fun q s1 oc => g s1 oc.fr (mod s1 33 (Or.inl ⟨rfl, c⟩) (fun q' => absurd q q') (fun _ => oc)))
  · exact c_16 eF x5.1 x4 (by omega) rfl rfl r2 (fun q s1 te => g s1 ⟨fun k hk => by rw [te.1 k (by omega), zu_f (by omega)], te.2.2.2.1⟩ (mod s1 34 (Or.inr ⟨rfl, c⟩) (fun _ => te) (fun q' => absurd q' q))) (fun q s1 oc => g s1 oc.fr (mod s1 34 (Or.inr ⟨rfl, c⟩) (fun q' => absurd q q') (fun _ => oc)))
-- PUT: what is printed
def pr (s : zS) (c1 c2 : Nat) (j c v : Int) : zS := if c < 64 then zu (zu s c1 c v) c2 j (c + 1) else s
set_option maxHeartbeats 1000000 in
theorem s_out (C : CodeOK z r G) (hm : MR G r f0 s m0) (hT : s 31 9 < 6000) (ho : r 58 (s 31 6) = 17)
    (g : ∀ s1, ((∀ k, 45 ≤ k → s1 k = s k) ∧ s1 31 9 = s 31 9 + 1) → StepOK X G r f0 s s1 → Q 0 s1) : w_69 X (zu s 31 9 (s 31 9 + 1)) Q := by
  obtain ⟨U0, φ0, hh0, hf0, hg0, o8, o39⟩ := hm
  generalize eT : s 31 9 = T at *
  generalize ei : s 31 6 = i at *
  generalize eF : s 39 4 = F at *
  obtain ⟨x1, x2, x3, x4, x5, x6, x7, x8, x9, x10⟩ := ctx C hf0 hg0 eF ei
  have nxt := (C.2.2.2.2.2.1 i x1.1.1 x1.1.2).2.2 (by omega)
  have hj : (¬ r 58 i = 14 ∧ ¬ r 58 i = 11 ∧ i + 1 = i + 1) ∨ ((r 58 i = 10 ∨ r 58 i = 11) ∧ i + 1 = r 59 i) := Or.inl ⟨by omega, by omega, rfl⟩
  obtain ⟨y1, e⟩ := x2.2.2.2.2.2.2.2.2.2.2.2.2.2.2.2.1 ho
  have hH := e.1
  have hH2 := e.2.1
  unfold top at y1
  have z1 := x7 (G i 0 0 - 1) (by omega) (by omega)
  rw [y1] at z1
  have z1 := rl_int z1
  generalize ea : s 41 (F * 16 + (G i 0 0 - 1)) = a1 at *
  obtain ⟨-, -, -, -, -, -, -, -, g9, -, -⟩ := id hg0
  generalize ec : s 31 14 = cc at *
  have hcc : 0 ≤ cc ∧ cc ≤ 64 := by omega
  -- the reference
  have mod : ∀ s1, TE (pr s 44 31 14 cc a1) s1 T F (i + 1) (G i 0 0) a1 → StepOK X G r f0 s s1 := by
    intro s1 te m hm Q' k
    obtain ⟨U, φ, hh, hf, hg, o8, o39⟩ := hm
    obtain ⟨-, -, -, -, v5, v6, v7, v8, -, -⟩ := ctx C hf hg eF ei
    have u1 := v7 (G i 0 0 - 1) (by omega) (by omega)
    rw [y1, ea] at u1
    have u1 := rl_int u1
    obtain ⟨-, -, -, -, -, -, -, -, k9, -, -⟩ := id hg
    have em : m 45 44 = cc := by rw [← k9.1]; exact ec
    have main : ∀ m1, ME (pr m 73 45 44 cc a1) m1 T F (i + 1) (G i 0 0) a1 → Q' m1 := by
      intro m1 me
      have h' : hp U φ r (pr s 44 31 14 cc a1) (pr m 73 45 44 cc a1) := by
        unfold pr; split
        · exact hp_c hh (fun k hk => by rw [zu_f (by omega), zu_f (by omega)]) (fun k hk => by rw [zu_f (by omega), zu_f (by omega)]) (by rw [zu_n (by omega), zu_g (by decide)])
        · exact hh
      have f' : frs U φ G r (pr s 44 31 14 cc a1) (pr m 73 45 44 cc a1) f0 := by
        unfold pr; split
        · exact frs_c hf (fun k hk => by rw [zu_f (by omega), zu_f (by omega)]) (by rw [zu_n (by omega), zu_g (by decide)]) (fun k hk => by rw [zu_f (by omega), zu_f (by omega)]) ⟨by rw [zu_n (by omega), zu_g (by decide)], by rw [zu_n (by omega), zu_g (by decide)]⟩
        · exact hf
      have g' : glo r (pr s 44 31 14 cc a1) (pr m 73 45 44 cc a1) := by
        unfold pr; split
        · obtain ⟨p1, p2, p3, p4, p5, p6, p7, p8, p9, p10, p11⟩ := hg
          have b1 : ∀ k, ¬ (k = 31 ∨ k = 44) → zu (zu s 44 cc a1) 31 14 (cc + 1) k = s k := fun k hk => by rw [zu_f (by omega), zu_f (by omega)]
          have b2 : ∀ j, ¬ j = 14 → zu (zu s 44 cc a1) 31 14 (cc + 1) 31 j = s 31 j := fun j hj => by rw [zu_n hj, zu_g (by decide)]
          have b3 : ∀ k, ¬ (k = 45 ∨ k = 73) → zu (zu m 73 cc a1) 45 44 (cc + 1) k = m k := fun k hk => by rw [zu_f (by omega), zu_f (by omega)]
          have b4 : ∀ j, ¬ j = 44 → zu (zu m 73 cc a1) 45 44 (cc + 1) 45 j = m 45 j := fun j hj => by rw [zu_n hj, zu_g (by decide)]
          refine ⟨fun k hk => by rw [b1 k (by omega)]; exact p1 k hk, fun k p q => by rw [b3 k (by omega)]; exact p2 k p q, ?_, ?_, ?_, ?_, ?_, ?_, ?_, ?_, ?_⟩
          · rw [b2 4 (by omega), b2 5 (by omega), b2 16 (by omega), b4 37 (by omega), b4 38 (by omega), b4 47 (by omega)]; exact p3
          · rw [b2 7 (by omega), b4 58 (by omega), b4 40 (by omega)]; exact p4
          · rw [b2 9 (by omega), b4 40 (by omega)]; exact p5
          · rw [b2 10 (by omega), b4 41 (by omega), b4 40 (by omega)]; exact p6
          · rw [b2 11 (by omega), b4 42 (by omega)]; exact p7
          · rw [b2 12 (by omega), b4 43 (by omega)]; exact p8
          · rw [zu_s, zu_s]
            refine ⟨rfl, by omega, by omega, fun x q1 q2 => ?_⟩
            rw [zu_g (a := 31) (k := 44) (by decide), zu_g (a := 45) (k := 73) (by decide)]
            by_cases ex : x = cc
            · rw [ex, zu_s, zu_s]
            · rw [zu_n ex, zu_n ex]; exact p9.2.2.2 x q1 (by omega)
          · rw [b1 37 (by omega), b1 32 (by omega)]; exact p10
          · rw [b1 32 (by omega), b4 40 (by omega)]; exact p11
        · exact hg
      have w8 : ∀ j, ¬ j = 14 → pr s 44 31 14 cc a1 31 j = s 31 j := fun j hj => by
        unfold pr; split
        · rw [zu_n hj, zu_g (by decide)]
        · rfl
      have w39 : pr s 44 31 14 cc a1 39 4 = F := by
        unfold pr; split
        · rw [zu_g (by decide), zu_g (by decide)]; exact eF
        · exact eF
      have w45 : pr m 73 45 44 cc a1 45 39 = 0 := by
        unfold pr; split
        · rw [zu_n (by omega), zu_g (by decide)]; exact o39
        · exact o39
      refine k m1 (Or.inl (sim_top C h' f' g' (by rw [w8 8 (by omega)]; exact o8) w45 w39 (by rw [w8 6 (by omega)]; exact ei) (by rw [w8 9 (by omega)]; exact eT) hT te me e hj (by omega) (by omega) (by omega) (by omega) (Or.inr ⟨rfl, ⟨fun _ => ⟨rfl, u1.2⟩, fun w => by omega⟩⟩))) ⟨fun k hk => ?_, fun j hj => ?_⟩
      · rw [me.1 k (by omega)]
        unfold pr; split
        · rw [zu_f (by omega), zu_f (by omega)]
        · rfl
      · have := kj_n hj
        rw [me.2.1 j (by omega)]
        unfold pr; split
        · rw [zu_n (by omega), zu_g (by decide)]
        · rfl
    refine m_head o39 (by rw [v6.2.2.2.2.2, eT]) (by omega) v6.2.1 (by omega) v6.2.2.1 v6.2.2.2.1 v6.2.2.2.2.1 x10 ⟨fun _ _ => w_146_i ⟨by omega, ?_⟩, fun q => by omega, fun q => by omega⟩
    rw [zu_n (by omega), v6.2.1]
    ((repeat' (refine And.intro ?_ ?_)) <;> intro c <;> first | (exfalso; omega) | skip)
    refine w_150_i (m_pop (F := F) (H := G i 0 0) (v := a1) (by rw [zu_n (by omega)]; exact v6.1) (by rw [zu_g (by decide)]; exact v5.2.1) (by rw [zu_g (by decide)]; exact u1.1.symm) x4 (by omega) ?_)
    have e44 : zu (zu m 45 40 (T + 1)) 81 F (G i 0 0 - 1) 45 44 = cc := by rw [zu_g (by decide), zu_n (by omega)]; exact em
    rw [e44]
    have v56 := v6.1
    refine ⟨by omega, fun q => w_150_34_i (m_push (F := F) (H := G i 0 0 - 1) (by simp [zu, *]) (by simp [zu, *]) x4 (by omega) (w_146_234_i ?_)), fun q => ⟨by omega, ?_⟩⟩
    · rintro _ rfl
      refine main _ ?_
      unfold pr
      rw [if_neg (by omega)]
      (refine ⟨fun k hk => by (repeat rw [zu_f (by omega)]), fun j hj => by (have hj1 : ¬ j = 57 := (by omega); have hj2 : ¬ j = 40 := (by omega); simp [zu, hj1, hj2]), by simp [zu], by simp [zu], fun g => ?_, fun x => ?_⟩ <;> (first | (simp [zu]; done) | ((repeat rw [zu_g (by decide)]); exact ife) | (simp [zu]; (repeat' split) <;> omega)))
    · rintro _ rfl
      have e44' : zu (zu (zu m 45 40 (T + 1)) 81 F (G i 0 0 - 1)) 73 cc a1 45 44 = cc := by rw [zu_g (by decide)]; exact e44
      rw [e44']
      rintro _ rfl
      refine w_150_34_i (m_push (F := F) (H := G i 0 0 - 1) (by simp [zu, *]) (by simp [zu, *]) x4 (by omega) (w_146_234_i ?_))
      rintro _ rfl
      refine main _ ?_
      unfold pr
      rw [if_pos (by omega)]
      refine ⟨fun k hk => ?_, fun j hj => ?_, by simp [zu], by simp [zu], fun g => ?_, fun x => ?_⟩
      · by_cases e : k = 73
        · subst e; funext b; simp [zu]
        · (repeat rw [zu_f (by omega)])
      · by_cases e : j = 44
        · subst e; simp [zu]
        · (have hj1 : ¬ j = 57 := (by omega); have hj2 : ¬ j = 40 := (by omega); simp [zu, hj1, hj2, e])
      all_goals (first | (simp [zu]; done) | ((repeat rw [zu_g (by decide)]); exact ife) | (simp [zu]; (repeat' split) <;> omega))
  refine c_head (i := i) (o := r 58 i) (v := r 59 i) (by omega) ei x3.1 x3.2 x10 ⟨?_, ?_, ?_, ?_, ?_, ?_, ?_, ?_, ?_, ?_, ?_, ?_, ?_, ?_, ?_, ?_, ?_⟩ <;> intro c <;> first | (exfalso; omega) | skip
  have x51 := x5.1
  refine w_80_i (c_pop (F := F) (H := G i 0 0) (v := a1) (by rw [zu_g (by decide), zu_g (by decide)]; exact eF) (by rw [zu_g (by decide), zu_g (by decide)]; exact x5.1) (by rw [zu_g (by decide), zu_g (by decide)]; exact ea) x4 (by omega) ?_)
  have e14 : zu (zu (zu s 31 9 (T + 1)) 31 6 (i + 1)) 42 F (G i 0 0 - 1) 31 14 = cc := by rw [zu_g (by decide), zu_n (by omega), zu_n (by omega)]; exact ec
  rw [e14]
  have fr' : ∀ s1, TE (pr s 44 31 14 cc a1) s1 T F (i + 1) (G i 0 0) a1 → ∀ k, 45 ≤ k → s1 k = s k := by
    intro s1 te k hk
    rw [te.1 k (by omega)]
    unfold pr; split
    · rw [zu_f (by omega), zu_f (by omega)]
    · rfl
  have c80 : ∀ s1, TE (pr s 44 31 14 cc a1) s1 T F (i + 1) (G i 0 0) a1 → Q 0 s1 := fun s1 te => g s1 ⟨fr' s1 te, te.2.2.2.1⟩ (mod s1 te)
  refine ⟨by omega, fun q => w_80_37_i (c_push (F := F) (H := G i 0 0 - 1) (by simp [zu, *]) (by simp [zu, *]) x4 (by omega) (c80 _ ?_)), fun q => ⟨by omega, ?_⟩⟩
  · unfold pr
    rw [if_neg (by omega)]
    (refine ⟨fun k hk => by (repeat rw [zu_f (by omega)]), fun j hj => by (have hj1 : ¬ j = 6 := (by omega); have hj2 : ¬ j = 9 := (by omega); simp [zu, hj1, hj2]), by simp [zu], by simp [zu], fun g => ?_, fun x => ?_⟩ <;> (first | (simp [zu]; done) | ((repeat rw [zu_g (by decide)]); exact ife) | (simp [zu]; (repeat' split) <;> omega)))
  · rintro _ rfl
    have e14' : zu (zu (zu (zu s 31 9 (T + 1)) 31 6 (i + 1)) 42 F (G i 0 0 - 1)) 44 cc a1 31 14 = cc := by rw [zu_g (by decide)]; exact e14
    rw [e14']
    rintro _ rfl
    refine w_80_37_i (c_push (F := F) (H := G i 0 0 - 1) (by simp [zu, *]) (by simp [zu, *]) x4 (by omega) (c80 _ ?_))
    unfold pr
    rw [if_pos (by omega)]
    refine ⟨fun k hk => ?_, fun j hj => ?_, by simp [zu], by simp [zu], fun g => ?_, fun x => ?_⟩
    · by_cases e : k = 44
      · subst e; funext b; simp [zu]
      · (repeat rw [zu_f (by omega)])
    · by_cases e : j = 14
      · subst e; simp [zu]
      · (have hj1 : ¬ j = 6 := (by omega); have hj2 : ¬ j = 9 := (by omega); simp [zu, hj1, hj2, e])
    all_goals (first | (simp [zu]; done) | ((repeat rw [zu_g (by decide)]); exact ife) | (simp [zu]; (repeat' split) <;> omega))
end
