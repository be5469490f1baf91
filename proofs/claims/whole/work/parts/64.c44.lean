section
variable {G : Int → Nat → Int → Int} {z r s m s1 m1 m0 : zS} {f0 i j F N o v tk p q t T H a b : Int} {U : Int → Int → Prop} {φ : Int → Int} {X : zX} {Q : Int → zS → Prop}
theorem s_sum (C : CodeOK z r G) (hm : MR G r f0 s m0) (hT : s 31 9 < 6000) (ho : r 58 (s 31 6) = 3 ∨ r 58 (s 31 6) = 4 ∨ r 58 (s 31 6) = 5)
    (g : ∀ s1, ((∀ k, 45 ≤ k → s1 k = s k) ∧ s1 31 9 = s 31 9 + 1) → StepOK X G r f0 s s1 → Q 0 s1) : w_69 X (zu s 31 9 (s 31 9 + 1)) Q := by
  obtain ⟨U0, φ0, hh0, hf0, hg0, o8, o39⟩ := hm
  generalize eT : s 31 9 = T at *
  generalize ei : s 31 6 = i at *
  generalize eF : s 39 4 = F at *
  obtain ⟨x1, x2, x3, x4, x5, x6, x7, x8, x9, x10⟩ := ctx C hf0 hg0 eF ei
  obtain ⟨y1, y2, e⟩ := x2.2.2.2.1 ho
  have nxt := (C.2.2.2.2.2.1 i x1.1.1 x1.1.2).2.2 (by omega)
  have hj : (¬ r 58 i = 14 ∧ ¬ r 58 i = 11 ∧ i + 1 = i + 1) ∨ ((r 58 i = 10 ∨ r 58 i = 11) ∧ i + 1 = r 59 i) := Or.inl ⟨by omega, by omega, rfl⟩
  have hH := e.1
  have hH2 := e.2.1
  unfold top at y1 y2
  have z1 := x7 (G i 0 0 - 1) (by omega) (by omega)
  have z2 := x7 (G i 0 0 - 2) (by omega) (by omega)
  rw [y1] at z1; rw [y2] at z2
  have z1 := rl_int z1
  have z2 := rl_int z2
  refine c_head (i := i) (o := r 58 i) (v := r 59 i) (by omega) ei x3.1 x3.2 x10 ⟨?_, ?_, ?_, ?_, ?_, ?_, ?_, ?_, ?_, ?_, ?_, ?_, ?_, ?_, ?_, ?_, ?_⟩ <;> intro c <;> first | (exfalso; omega) | skip
  refine c_3 eF x5.1 x4 (by omega) rfl rfl z1.2 z2.2 c (fun s1 te => g s1 te.fr (fun m hm Q' k => ?_))
  obtain ⟨U, φ, hh, hf, hg, o8, o39⟩ := hm
  obtain ⟨-, -, -, -, v5, v6, v7, v8, -, -⟩ := ctx C hf hg eF ei
  have u1 := v7 (G i 0 0 - 1) (by omega) (by omega)
  have u2 := v7 (G i 0 0 - 2) (by omega) (by omega)
  rw [y1] at u1; rw [y2] at u2
  have u1 := rl_int u1
  have u2 := rl_int u2
  refine m_head o39 (by rw [v6.2.2.2.2.2, eT]) (by omega) v6.2.1 (by omega) v6.2.2.1 v6.2.2.2.1 v6.2.2.2.2.1 x10 ⟨fun _ _ => w_146_i ⟨by omega, ?_⟩, fun q => by omega, fun q => by omega⟩
  rw [zu_n (by omega), v6.2.1]
  ((repeat' (refine And.intro ?_ ?_)) <;> intro c <;> first | (exfalso; omega) | skip)
  refine m_3 v6.1 v5.2.1 x4 (by omega) u1.1.symm u2.1.symm u1.2 u2.2 c (fun m1 me => k m1 (Or.inl (sim_top C hh hf hg o8 o39 eF ei eT hT te me e hj (by omega) (by omega) (by omega) (by omega) (Or.inr ⟨rfl, ⟨fun _ => ⟨rfl, ?_⟩, fun w => by omega⟩⟩))) me.fr)
  have zr : ∀ x, iI (zN x) := fun x => ⟨Int32.le_toInt _, by have := Int32.toInt_lt (Int32.ofInt x); unfold zN; omega⟩
  split
  · exact zr _
  · split
    · exact zr _
    · split
      · exact ⟨by omega, by omega⟩
      · exact ⟨by omega, by omega⟩
theorem rl_nil (h : rl U φ t a b) (ht : 0 < t) (hU : ∀ v t, U v t → 1 ≤ v ∧ v ≤ 200 ∧ 0 ≤ φ v ∧ φ v < 200) : (a = 0 ↔ b < 0) ∧ (¬ a = 0 → U a t ∧ φ a = b ∧ 1 ≤ a ∧ a ≤ 200 ∧ 0 ≤ b ∧ b < 200) ∧ iI a ∧ iI b := by
  rcases h.2 ht with ⟨h1, h2⟩ | ⟨h1, h2⟩
  · exact ⟨by omega, fun q => absurd h1 q, ⟨by omega, by omega⟩, ⟨by omega, by omega⟩⟩
  · have := hU a t h1
    exact ⟨by omega, fun _ => ⟨h1, h2, by omega⟩, ⟨by omega, by omega⟩, ⟨by omega, by omega⟩⟩
theorem hpU (h : hp U φ r s m) : ∀ v t, U v t → 1 ≤ v ∧ v ≤ 200 ∧ 0 ≤ φ v ∧ φ v < 200 := by
  intro v t hv
  obtain ⟨h1, h2, h3, h4, h5, h6⟩ := h
  obtain ⟨⟨j, a, b, c⟩, -⟩ := (h1 v t).mp hv
  have := h5.1 j a (by omega)
  have := (h2 v t hv).1
  omega
theorem s_empty (C : CodeOK z r G) (hm : MR G r f0 s m0) (hT : s 31 9 < 6000) (ho : r 58 (s 31 6) = 9)
    (g : ∀ s1, ((∀ k, 45 ≤ k → s1 k = s k) ∧ s1 31 9 = s 31 9 + 1) → StepOK X G r f0 s s1 → Q 0 s1) : w_69 X (zu s 31 9 (s 31 9 + 1)) Q := by
  obtain ⟨U0, φ0, hh0, hf0, hg0, o8, o39⟩ := hm
  generalize eT : s 31 9 = T at *
  generalize ei : s 31 6 = i at *
  generalize eF : s 39 4 = F at *
  obtain ⟨x1, x2, x3, x4, x5, x6, x7, x8, x9, x10⟩ := ctx C hf0 hg0 eF ei
  obtain ⟨y1, e⟩ := x2.2.2.2.2.2.2.2.1 ho
  have nxt := (C.2.2.2.2.2.1 i x1.1.1 x1.1.2).2.2 (by omega)
  have hj : (¬ r 58 i = 14 ∧ ¬ r 58 i = 11 ∧ i + 1 = i + 1) ∨ ((r 58 i = 10 ∨ r 58 i = 11) ∧ i + 1 = r 59 i) := Or.inl ⟨by omega, by omega, rfl⟩
  have hH := e.1
  have hH2 := e.2.1
  unfold top at y1
  have z1 := rl_nil (x7 (G i 0 0 - 1) (by omega) (by omega)) (by omega) (hpU hh0)
  refine c_head (i := i) (o := r 58 i) (v := r 59 i) (by omega) ei x3.1 x3.2 x10 ⟨?_, ?_, ?_, ?_, ?_, ?_, ?_, ?_, ?_, ?_, ?_, ?_, ?_, ?_, ?_, ?_, ?_⟩ <;> intro c <;> first | (exfalso; omega) | skip
  refine c_9 eF x5.1 x4 (by omega) rfl z1.2.2.1 (fun s1 te => g s1 te.fr (fun m hm Q' k => ?_))
  obtain ⟨U, φ, hh, hf, hg, o8, o39⟩ := hm
  obtain ⟨-, -, -, -, v5, v6, v7, v8, -, -⟩ := ctx C hf hg eF ei
  have u1 := rl_nil (v7 (G i 0 0 - 1) (by omega) (by omega)) (by omega) (hpU hh)
  refine m_head o39 (by rw [v6.2.2.2.2.2, eT]) (by omega) v6.2.1 (by omega) v6.2.2.1 v6.2.2.2.1 v6.2.2.2.2.1 x10 ⟨fun _ _ => w_146_i ⟨by omega, ?_⟩, fun q => by omega, fun q => by omega⟩
  rw [zu_n (by omega), v6.2.1]
  ((repeat' (refine And.intro ?_ ?_)) <;> intro c <;> first | (exfalso; omega) | skip)
  refine m_9 v6.1 v5.2.1 x4 (by omega) rfl u1.2.2.2 (fun m1 me => k m1 (Or.inl (sim_top C hh hf hg o8 o39 eF ei eT hT te me e hj (by omega) (by omega) (by omega) (by omega) (Or.inr ⟨rfl, ⟨fun _ => ⟨?_, ?_⟩, fun w => by omega⟩⟩))) me.fr)
  · by_cases q : s 41 (F * 16 + (G i 0 0 - 1)) = 0
    · rw [if_pos q, if_pos (u1.1.mp q)]
    · rw [if_neg q, if_neg (fun w => q (u1.1.mpr w))]
  · split
    · exact ⟨by omega, by omega⟩
    · exact ⟨by omega, by omega⟩
theorem s_drop (C : CodeOK z r G) (hm : MR G r f0 s m0) (hT : s 31 9 < 6000) (ho : r 58 (s 31 6) = 18)
    (g : ∀ s1, ((∀ k, 45 ≤ k → s1 k = s k) ∧ s1 31 9 = s 31 9 + 1) → StepOK X G r f0 s s1 → Q 0 s1) : w_69 X (zu s 31 9 (s 31 9 + 1)) Q := by
  obtain ⟨U0, φ0, hh0, hf0, hg0, o8, o39⟩ := hm
  generalize eT : s 31 9 = T at *
  generalize ei : s 31 6 = i at *
  generalize eF : s 39 4 = F at *
  obtain ⟨x1, x2, x3, x4, x5, x6, x7, x8, x9, x10⟩ := ctx C hf0 hg0 eF ei
  have e := x2.2.2.2.2.2.2.2.2.2.2.2.2.2.2.2.2.1 ho
  have nxt := (C.2.2.2.2.2.1 i x1.1.1 x1.1.2).2.2 (by omega)
  have hj : (¬ r 58 i = 14 ∧ ¬ r 58 i = 11 ∧ i + 1 = i + 1) ∨ ((r 58 i = 10 ∨ r 58 i = 11) ∧ i + 1 = r 59 i) := Or.inl ⟨by omega, by omega, rfl⟩
  have hH := e.1
  have hH2 := e.2.1
  refine c_head (i := i) (o := r 58 i) (v := r 59 i) (by omega) ei x3.1 x3.2 x10 ⟨?_, ?_, ?_, ?_, ?_, ?_, ?_, ?_, ?_, ?_, ?_, ?_, ?_, ?_, ?_, ?_, ?_⟩ <;> intro c <;> first | (exfalso; omega) | skip
  refine c_18 eF x5.1 x4 (by omega) (fun s1 te => g s1 te.fr (fun m hm Q' k => ?_))
  obtain ⟨U, φ, hh, hf, hg, o8, o39⟩ := hm
  obtain ⟨-, -, -, -, v5, v6, v7, v8, -, -⟩ := ctx C hf hg eF ei
  refine m_head o39 (by rw [v6.2.2.2.2.2, eT]) (by omega) v6.2.1 (by omega) v6.2.2.1 v6.2.2.2.1 v6.2.2.2.2.1 x10 ⟨fun _ _ => w_146_i ⟨by omega, ?_⟩, fun q => by omega, fun q => by omega⟩
  rw [zu_n (by omega), v6.2.1]
  ((repeat' (refine And.intro ?_ ?_)) <;> intro c <;> first | (exfalso; omega) | skip)
  exact m_18 v6.1 v5.2.1 x4 (by omega) (fun m1 me => k m1 (Or.inl (sim_top C hh hf hg o8 o39 eF ei eT hT te me e hj (by omega) (by omega) (by omega) (by omega) (Or.inl ⟨rfl, rfl, rfl⟩))) me.fr)
theorem s_zero (C : CodeOK z r G) (hm : MR G r f0 s m0) (hT : s 31 9 < 6000) (ho : r 58 (s 31 6) = 10)
    (g : ∀ s1, ((∀ k, 45 ≤ k → s1 k = s k) ∧ s1 31 9 = s 31 9 + 1) → StepOK X G r f0 s s1 → Q 0 s1) : w_69 X (zu s 31 9 (s 31 9 + 1)) Q := by
  obtain ⟨U0, φ0, hh0, hf0, hg0, o8, o39⟩ := hm
  generalize eT : s 31 9 = T at *
  generalize ei : s 31 6 = i at *
  generalize eF : s 39 4 = F at *
  obtain ⟨x1, x2, x3, x4, x5, x6, x7, x8, x9, x10⟩ := ctx C hf0 hg0 eF ei
  obtain ⟨y1, e, iv, e'⟩ := x2.2.2.2.2.2.2.2.2.1 ho
  obtain ⟨-, tg, nxt⟩ := C.2.2.2.2.2.1 i x1.1.1 x1.1.2
  have nxt := nxt (by omega)
  have tg := tg (Or.inl ho)
  have hH := e.1
  have hH2 := e.2.1
  have hH3 := e'.2.1
  unfold top at y1
  have z1 := x7 (G i 0 0 - 1) (by omega) (by omega)
  rw [y1] at z1
  have z1 := rl_int z1
  refine c_head (i := i) (o := r 58 i) (v := r 59 i) (by omega) ei x3.1 x3.2 x10 ⟨?_, ?_, ?_, ?_, ?_, ?_, ?_, ?_, ?_, ?_, ?_, ?_, ?_, ?_, ?_, ?_, ?_⟩ <;> intro c <;> first | (exfalso; omega) | skip
  refine c_10 eF x5.1 x4 (by omega) rfl z1.2 (fun s1 te => g s1 te.fr (fun m hm Q' k => ?_))
  obtain ⟨U, φ, hh, hf, hg, o8, o39⟩ := hm
  obtain ⟨-, -, -, -, v5, v6, v7, v8, -, -⟩ := ctx C hf hg eF ei
  have u1 := v7 (G i 0 0 - 1) (by omega) (by omega)
  rw [y1] at u1
  have u1 := rl_int u1
  refine m_head o39 (by rw [v6.2.2.2.2.2, eT]) (by omega) v6.2.1 (by omega) v6.2.2.1 v6.2.2.2.1 v6.2.2.2.2.1 x10 ⟨fun _ _ => w_146_i ⟨by omega, ?_⟩, fun q => by omega, fun q => by omega⟩
  rw [zu_n (by omega), v6.2.1]
  ((repeat' (refine And.intro ?_ ?_)) <;> intro c <;> first | (exfalso; omega) | skip)
  refine m_10 v6.1 v5.2.1 x4 (by omega) u1.1.symm u1.2 (fun m1 me => k m1 (Or.inl ?_) me.fr)
  by_cases q : s 41 (F * 16 + (G i 0 0 - 1)) = 0
  · rw [if_pos q] at te me
    exact sim_top C hh hf hg o8 o39 eF ei eT hT te me e' (Or.inr ⟨Or.inl ho, rfl⟩) (by omega) (by omega) (by omega) (by omega) (Or.inl ⟨rfl, rfl, rfl⟩)
  · rw [if_neg q] at te me
    exact sim_top C hh hf hg o8 o39 eF ei eT hT te me e (Or.inl ⟨by omega, by omega, rfl⟩) (by omega) (by omega) (by omega) (by omega) (Or.inl ⟨rfl, rfl, rfl⟩)
theorem s_jump (C : CodeOK z r G) (hm : MR G r f0 s m0) (hT : s 31 9 < 6000) (ho : r 58 (s 31 6) = 11)
    (g : ∀ s1, ((∀ k, 45 ≤ k → s1 k = s k) ∧ s1 31 9 = s 31 9 + 1) → StepOK X G r f0 s s1 → Q 0 s1) : w_69 X (zu s 31 9 (s 31 9 + 1)) Q := by
  obtain ⟨U0, φ0, hh0, hf0, hg0, o8, o39⟩ := hm
  generalize eT : s 31 9 = T at *
  generalize ei : s 31 6 = i at *
  generalize eF : s 39 4 = F at *
  obtain ⟨x1, x2, x3, x4, x5, x6, x7, x8, x9, x10⟩ := ctx C hf0 hg0 eF ei
  obtain ⟨iv, e⟩ := x2.2.2.2.2.2.2.2.2.2.1 ho
  obtain ⟨-, tg, -⟩ := C.2.2.2.2.2.1 i x1.1.1 x1.1.2
  have tg := tg (Or.inr ho)
  have hH3 := e.2.1
  refine c_head (i := i) (o := r 58 i) (v := r 59 i) (by omega) ei x3.1 x3.2 x10 ⟨?_, ?_, ?_, ?_, ?_, ?_, ?_, ?_, ?_, ?_, ?_, ?_, ?_, ?_, ?_, ?_, ?_⟩ <;> intro c <;> first | (exfalso; omega) | skip
  have te : TE s (zu (zu (zu s 31 9 (T + 1)) 31 6 (i + 1)) 31 6 (r 59 i)) T F (r 59 i) (G i 0 0) (s 41 (F * 16 + (G i 0 0 - 1))) := by
    refine ⟨fun k hk => by (repeat rw [zu_f (by omega)]), fun j hj => by rw [zu_n (by omega), zu_n (by omega), zu_n (by omega)], zu_s, by simp [zu], fun g => ?_, fun x => ?_⟩
    · rw [zu_g (by decide), zu_g (by decide), zu_g (by decide), ← x5.1]; exact ife
    · rw [zu_g (by decide), zu_g (by decide), zu_g (by decide)]; exact ife
  refine g _ te.fr (fun m hm Q' k => ?_)
  obtain ⟨U, φ, hh, hf, hg, o8, o39⟩ := hm
  obtain ⟨-, -, -, -, v5, v6, v7, v8, -, -⟩ := ctx C hf hg eF ei
  refine m_head o39 (by rw [v6.2.2.2.2.2, eT]) (by omega) v6.2.1 (by omega) v6.2.2.1 v6.2.2.2.1 v6.2.2.2.2.1 x10 ⟨fun _ _ => w_146_i ⟨by omega, ?_⟩, fun q => by omega, fun q => by omega⟩
  ((repeat' (refine And.intro ?_ ?_)) <;> intro c <;> first | (exfalso; omega) | skip)
  refine w_146_234_i ?_
  rintro _ rfl
  have me : ME m (zu (zu m 45 40 (T + 1)) 45 57 (r 59 i)) T F (r 59 i) (G i 0 0) (m 83 (16 * F + (G i 0 0 - 1))) := by
    refine ⟨fun k hk => by (repeat rw [zu_f (by omega)]), fun j hj => by rw [zu_n (by omega), zu_n (by omega)], zu_s, by simp [zu], fun g => ?_, fun x => ?_⟩
    · rw [zu_g (by decide), zu_g (by decide), ← v5.2.1]; exact ife
    · rw [zu_g (by decide), zu_g (by decide)]; exact ife
  exact k _ (Or.inl (sim_top C hh hf hg o8 o39 eF ei eT hT te me e (Or.inr ⟨Or.inr ho, rfl⟩) (by omega) (by omega) (by omega) (by omega) (Or.inl ⟨rfl, rfl, rfl⟩))) me.fr
end
