-- the end of a run but by a result
def OC (s s1 : zS) (T e : Int) : Prop := (∀ k, ¬ (k = 31 ∨ k = 41 ∨ k = 42) → s1 k = s k) ∧ (∀ x, ¬ (x = 6 ∨ x = 9 ∨ x = 8) → s1 31 x = s 31 x) ∧ s1 31 8 = e ∧ s1 31 9 = T + 1
def OM (m m1 : zS) (T e : Int) : Prop := (∀ k, ¬ (k = 45 ∨ k = 81 ∨ k = 83) → m1 k = m k) ∧ (∀ x, ¬ (x = 57 ∨ x = 40 ∨ x = 39) → m1 45 x = m 45 x) ∧ m1 45 39 = e ∧ m1 45 40 = T + 1
section
variable {G : Int → Nat → Int → Int} {z r s m s1 m1 m0 : zS} {f0 i j F N o v tk p q t T H a b e a1 a2 x : Int} {U : Int → Int → Prop} {φ : Int → Int} {X : zX} {Q : Int → zS → Prop}
theorem ov_of (hh : hp U φ r s m) (hg : glo r s m) (eT : s 31 9 = T) (hT : T < 6000) (oc : OC s s1 T e) (om : OM m m1 T e) (he : e = 2 ∨ e = 3 ∨ e = 4) : OV r s1 m1 := by
  obtain ⟨g1, g2, g3, g4, g5, g6, g7, g8, g9, g10, g11⟩ := hg
  obtain ⟨h1, h2, h3, h4, h5, h6⟩ := hh
  obtain ⟨a1, a2, a3, a4⟩ := oc
  obtain ⟨b1, b2, b3, b4⟩ := om
  refine ⟨⟨fun k hk => by rw [a1 k (by omega)]; exact g1 k hk, fun k p q => by rw [b1 k (by omega)]; exact g2 k p q, ?_, ?_, ?_, ?_, ?_, ?_, ?_, ?_, ?_⟩, by omega, by omega, ?_, by rw [a1 36 (by omega)]; exact h5, fun w => by omega⟩
  · rw [a2 4 (by omega), a2 5 (by omega), a2 16 (by omega), b2 37 (by omega), b2 38 (by omega), b2 47 (by omega)]; exact g3
  · rw [a2 7 (by omega), b2 58 (by omega), b4]; exact ⟨g4.1, g4.2.1, by omega⟩
  · rw [a4, b4]; omega
  · rw [a2 10 (by omega), b2 41 (by omega), b4]; exact ⟨g6.1, g6.2.1, by omega⟩
  · rw [a2 11 (by omega), b2 42 (by omega)]; exact g7
  · rw [a2 12 (by omega), b2 43 (by omega)]; exact g8
  · rw [a2 14 (by omega), b2 44 (by omega), a1 44 (by omega), b1 73 (by omega)]; exact g9
  · rw [a1 37 (by omega), a1 32 (by omega)]; exact g10
  · rw [a1 32 (by omega), b4]; omega
  · rw [a1 32 (by omega), b2 48 (by omega)]; exact ⟨h6.1, h6.2.1⟩
theorem OC.fr (h : OC s s1 T e) : (∀ k, 45 ≤ k → s1 k = s k) ∧ s1 31 9 = T + 1 := ⟨fun k hk => h.1 k (by omega), h.2.2.2⟩
theorem OM.fr (h : OM m m1 T e) : KF m m1 := ⟨fun k hk => h.1 k (by omega), fun j hj => h.2.1 j (by have := kj_n hj; omega)⟩
-- LEFT, RIGHT
theorem c_7 (eF : s 39 4 = F) (eH : s 42 F = H) (hF : 0 ≤ F ∧ F < 24) (hH : 1 ≤ H ∧ H ≤ 16) (e1 : s 41 (F * 16 + (H - 1)) = a1) (r1 : 0 ≤ a1 ∧ a1 < 201) (k : ¬ a1 = 0 → ∀ s1, TE s s1 T F (i + 1) H (s 33 a1) → Q 0 s1) (k0 : a1 = 0 → ∀ s1, OC s s1 T 2 → Q 0 s1) : w_76_33 X (zu (zu s 31 9 (T + 1)) 31 6 (i + 1)) (fun _ s2 => Q 0 s2) := by
  refine w_76_33_i (c_pop (F := F) (H := H) (v := a1) (by simp [zu, *]) (by simp [zu, *]) (by simp [zu, *]) hF (by omega) ⟨by omega, fun q => ⟨by omega, ?_⟩, fun q => ?_⟩)
  · rw [zu_g (by decide), zu_g (by decide), zu_g (by decide)]
    refine c_push (F := F) (H := H - 1) (by simp [zu, *]) (by simp [zu, *]) hF (by omega) (k q _ ?_)
    (refine ⟨fun k hk => by (repeat rw [zu_f (by omega)]), fun j hj => by (have hj1 : ¬ j = 6 := (by omega); have hj2 : ¬ j = 9 := (by omega); simp [zu, hj1, hj2]), by simp [zu], by simp [zu], fun g => ?_, fun x => ?_⟩ <;> (first | (simp [zu]; done) | ((repeat rw [zu_g (by decide)]); exact ife) | (simp [zu]; (repeat' split) <;> omega)))
  · rintro _ rfl
    refine k0 (by omega) _ ⟨fun k hk => by (repeat rw [zu_f (by omega)]), fun x hx => by rw [zu_n (by omega), zu_g (by decide), zu_n (by omega), zu_n (by omega)], zu_s, by simp [zu]⟩
theorem c_8 (eF : s 39 4 = F) (eH : s 42 F = H) (hF : 0 ≤ F ∧ F < 24) (hH : 1 ≤ H ∧ H ≤ 16) (e1 : s 41 (F * 16 + (H - 1)) = a1) (r1 : 0 ≤ a1 ∧ a1 < 201) (k : ¬ a1 = 0 → ∀ s1, TE s s1 T F (i + 1) H (s 34 a1) → Q 0 s1) (k0 : a1 = 0 → ∀ s1, OC s s1 T 2 → Q 0 s1) : w_76_34 X (zu (zu s 31 9 (T + 1)) 31 6 (i + 1)) (fun _ s2 => Q 0 s2) := by
  refine w_76_34_i (c_pop (F := F) (H := H) (v := a1) (by simp [zu, *]) (by simp [zu, *]) (by simp [zu, *]) hF (by omega) ⟨by omega, fun q => ⟨by omega, ?_⟩, fun q => ?_⟩)
  · rw [zu_g (by decide), zu_g (by decide), zu_g (by decide)]
    refine c_push (F := F) (H := H - 1) (by simp [zu, *]) (by simp [zu, *]) hF (by omega) (k q _ ?_)
    (refine ⟨fun k hk => by (repeat rw [zu_f (by omega)]), fun j hj => by (have hj1 : ¬ j = 6 := (by omega); have hj2 : ¬ j = 9 := (by omega); simp [zu, hj1, hj2]), by simp [zu], by simp [zu], fun g => ?_, fun x => ?_⟩ <;> (first | (simp [zu]; done) | ((repeat rw [zu_g (by decide)]); exact ife) | (simp [zu]; (repeat' split) <;> omega)))
  · rintro _ rfl
    refine k0 (by omega) _ ⟨fun k hk => by (repeat rw [zu_f (by omega)]), fun x hx => by rw [zu_n (by omega), zu_g (by decide), zu_n (by omega), zu_n (by omega)], zu_s, by simp [zu]⟩
theorem m_7 (eF : m 45 56 = F) (eH : m 81 F = H) (hF : 0 ≤ F ∧ F < 24) (hH : 1 ≤ H ∧ H ≤ 16) (e1 : m 83 (16 * F + (H - 1)) = a1) (r1 : iI a1) (r2 : a1 < 200) (ho : o = 7 ∨ o = 8) (k : 0 ≤ a1 → ∀ m1, ME m m1 T F x H (if o = 7 then m 76 a1 else m 77 a1) → Q 0 m1) (k0 : a1 < 0 → ∀ m1, OM m m1 T 2 → Q 0 m1) : w_151 X o (zu m 45 40 (T + 1)) (fun _ m2 => w_146_234 X x m2 Q) := by
  unfold iI at r1
  refine w_151_i ⟨by omega, fun q => by omega, fun _ => ⟨by omega, fun _ => w_151_17_i ⟨by omega, fun _ => w_151_30_i (m_pop (F := F) (H := H) (v := a1) (by simp [zu, *]) (by simp [zu, *]) (by simp [zu, *]) hF (by omega) ⟨by omega, fun q => ⟨by omega, fun _ => w_151_62_i ⟨by omega, fun _ => w_151_76_i ⟨by omega, fun _ => ⟨by omega, fun q' => ⟨by omega, w_151_108_i ?_⟩, fun q' => ⟨by omega, w_151_108_i ?_⟩⟩, fun q' => by omega⟩, fun q' => by omega⟩, fun q' => by omega⟩, fun q => ?_⟩), fun q => by omega⟩, fun q => by omega⟩⟩
  · rw [zu_g (by decide), zu_g (by decide)]
    refine m_push (F := F) (H := H - 1) (by simp [zu, *]) (by simp [zu, *]) hF (by omega) (w_146_234_i ?_)
    rintro _ rfl
    refine k q _ ?_
    rw [if_neg q']
    (refine ⟨fun k hk => by (repeat rw [zu_f (by omega)]), fun j hj => by (have hj1 : ¬ j = 57 := (by omega); have hj2 : ¬ j = 40 := (by omega); simp [zu, hj1, hj2]), by simp [zu], by simp [zu], fun g => ?_, fun x => ?_⟩ <;> (first | (simp [zu]; done) | ((repeat rw [zu_g (by decide)]); exact ife) | (simp [zu]; (repeat' split) <;> omega)))
  · rw [zu_g (by decide), zu_g (by decide)]
    refine m_push (F := F) (H := H - 1) (by simp [zu, *]) (by simp [zu, *]) hF (by omega) (w_146_234_i ?_)
    rintro _ rfl
    refine k q _ ?_
    rw [if_pos (by omega)]
    (refine ⟨fun k hk => by (repeat rw [zu_f (by omega)]), fun j hj => by (have hj1 : ¬ j = 57 := (by omega); have hj2 : ¬ j = 40 := (by omega); simp [zu, hj1, hj2]), by simp [zu], by simp [zu], fun g => ?_, fun x => ?_⟩ <;> (first | (simp [zu]; done) | ((repeat rw [zu_g (by decide)]); exact ife) | (simp [zu]; (repeat' split) <;> omega)))
  · rintro _ rfl
    refine w_146_234_i ?_
    rintro _ rfl
    refine k0 (by omega) _ ⟨fun k hk => by (repeat rw [zu_f (by omega)]), fun x hx => by rw [zu_n (by omega), zu_n (by omega), zu_g (by decide), zu_n (by omega)], by simp [zu], by simp [zu]⟩
theorem s_get (C : CodeOK z r G) (hm : MR G r f0 s m0) (hT : s 31 9 < 6000) (ho : r 58 (s 31 6) = 7 ∨ r 58 (s 31 6) = 8)
    (g : ∀ s1, ((∀ k, 45 ≤ k → s1 k = s k) ∧ s1 31 9 = s 31 9 + 1) → StepOK X G r f0 s s1 → Q 0 s1) : w_69 X (zu s 31 9 (s 31 9 + 1)) Q := by
  obtain ⟨U0, φ0, hh0, hf0, hg0, o8, o39⟩ := hm
  generalize eT : s 31 9 = T at *
  generalize ei : s 31 6 = i at *
  generalize eF : s 39 4 = F at *
  obtain ⟨x1, x2, x3, x4, x5, x6, x7, x8, x9, x10⟩ := ctx C hf0 hg0 eF ei
  have nxt := (C.2.2.2.2.2.1 i x1.1.1 x1.1.2).2.2 (by omega)
  have hj : (¬ r 58 i = 14 ∧ ¬ r 58 i = 11 ∧ i + 1 = i + 1) ∨ ((r 58 i = 10 ∨ r 58 i = 11) ∧ i + 1 = r 59 i) := Or.inl ⟨by omega, by omega, rfl⟩
  generalize ey : top (G i) 1 = y
  obtain ⟨y1, w, hw, en⟩ : 1 ≤ y ∧ ∃ w, (r 58 i = 7 ∧ w = z 4 y ∨ r 58 i = 8 ∧ w = z 5 y) ∧ nx (G i) (G (i + 1)) (G i 2) 1 1 w := by
    rcases ho with ho | ho
    · obtain ⟨y1, e⟩ := x2.2.2.2.2.2.1 ho
      rw [ey] at y1 e
      exact ⟨y1, _, Or.inl ⟨ho, rfl⟩, e⟩
    · obtain ⟨y1, e⟩ := x2.2.2.2.2.2.2.1 ho
      rw [ey] at y1 e
      exact ⟨y1, _, Or.inr ⟨ho, rfl⟩, e⟩
  have hH := en.1
  have hH2 := en.2.1
  have ytI : tI y := by
    obtain ⟨-, -, -, -, -, -, -, -, -, -, -, -, -, -, -, -, -, -, -, w2, -⟩ := x2
    rw [← ey]; exact w2 _ (by omega) (by omega)
  unfold top at ey
  have z1 := rl_nil (x7 (G i 0 0 - 1) (by omega) (by omega)) (by omega) (hpU hh0)
  obtain ⟨cc1, cc2, -, -⟩ := C.2.2.2.2.2.2.2.1 y ytI
  -- what the reference does
  have mod : ∀ s1, (¬ s 41 (F * 16 + (G i 0 0 - 1)) = 0 → TE s s1 T F (i + 1) (G i 0 0) (if r 58 i = 7 then s 33 (s 41 (F * 16 + (G i 0 0 - 1))) else s 34 (s 41 (F * 16 + (G i 0 0 - 1))))) → (s 41 (F * 16 + (G i 0 0 - 1)) = 0 → OC s s1 T 2) → StepOK X G r f0 s s1 := by
    intro s1 te oc m hm Q' k
    obtain ⟨U, φ, hh, hf, hg, o8, o39⟩ := hm
    obtain ⟨-, -, -, -, v5, v6, v7, v8, -, -⟩ := ctx C hf hg eF ei
    have u1 := rl_nil (v7 (G i 0 0 - 1) (by omega) (by omega)) (by omega) (hpU hh)
    refine m_head o39 (by rw [v6.2.2.2.2.2, eT]) (by omega) v6.2.1 (by omega) v6.2.2.1 v6.2.2.2.1 v6.2.2.2.2.1 x10 ⟨fun _ _ => w_146_i ⟨by omega, ?_⟩, fun q => by omega, fun q => by omega⟩
    rw [zu_n (by omega), v6.2.1]
    ((repeat' (refine And.intro ?_ ?_)) <;> intro c <;> first | (exfalso; omega) | skip)
    refine m_7 v6.1 v5.2.1 x4 (by omega) rfl u1.2.2.2 ?_ ho (fun q m1 me => k m1 (Or.inl ?_) me.fr) (fun q m1 om => k m1 (Or.inr (ov_of hh hg eT hT (oc (u1.1.mpr q)) om (by omega))) om.fr)
    · by_cases q : s 41 (F * 16 + (G i 0 0 - 1)) = 0
      · have := u1.1.mp q; omega
      · have := u1.2.1 q; omega
    · have nz : ¬ s 41 (F * 16 + (G i 0 0 - 1)) = 0 := fun w => by have := u1.1.mp w; omega
      obtain ⟨w1, w2, -⟩ := u1.2.1 nz
      rw [ey] at w1
      obtain ⟨-, -, -, rL, rR⟩ := hh.2.1 _ _ w1
      refine sim_top C hh hf hg o8 o39 eF ei eT hT (te nz) me en hj (by omega) (by omega) (by omega) (by omega) (Or.inr ⟨rfl, ?_⟩)
      rw [w2] at rL rR
      rcases hw with ⟨q1, q2⟩ | ⟨q1, q2⟩
      · rw [if_pos q1, if_pos q1, q2, ← cc1]; exact rL
      · rw [if_neg (by omega), if_neg (by omega), q2, ← cc2]; exact rR
  refine c_head (i := i) (o := r 58 i) (v := r 59 i) (by omega) ei x3.1 x3.2 x10 ⟨?_, ?_, ?_, ?_, ?_, ?_, ?_, ?_, ?_, ?_, ?_, ?_, ?_, ?_, ?_, ?_, ?_⟩ <;> intro c <;> first | (exfalso; omega) | skip
  · refine c_7 eF x5.1 x4 (by omega) rfl ?_ (fun q s1 te => g s1 te.fr (mod s1 (fun _ => by rw [if_pos c]; exact te) (fun q' => absurd q' q))) (fun q s1 oc => g s1 oc.fr (mod s1 (fun q' => absurd q q') (fun _ => oc)))
    by_cases q : s 41 (F * 16 + (G i 0 0 - 1)) = 0
    · omega
    · have := z1.2.1 q; omega
  · refine c_8 eF x5.1 x4 (by omega) rfl ?_ (fun q s1 te => g s1 te.fr (mod s1 (fun _ => by rw [if_neg (by omega)]; exact te) (fun q' => absurd q' q))) (fun q s1 oc => g s1 oc.fr (mod s1 (fun q' => absurd q q') (fun _ => oc)))
    by_cases q : s 41 (F * 16 + (G i 0 0 - 1)) = 0
    · omega
    · have := z1.2.1 q; omega
end
