section
variable {G : Int → Nat → Int → Int} {z r s m s1 m1 m0 : zS} {f0 i j F N o v tk p q t T H a b e a1 a2 x n : Int} {U : Int → Int → Prop} {φ : Int → Int} {X : zX} {Q : Int → zS → Prop}
-- frames and counters do not look at these cells
theorem frs_c (h : frs U φ G r s m f0) (a : ∀ k, k = 39 ∨ k = 40 ∨ k = 41 ∨ k = 42 ∨ k = 43 → s1 k = s k) (a' : s1 31 6 = s 31 6) (b : ∀ k, 80 ≤ k ∧ k ≤ 83 → m1 k = m k) (b' : m1 45 56 = m 45 56 ∧ m1 45 57 = m 45 57) : frs U φ G r s1 m1 f0 := by
  unfold frs fr pl
  rw [a 39 (by omega), a 40 (by omega), a 41 (by omega), a 42 (by omega), a 43 (by omega), a', b 80 (by omega), b 81 (by omega), b 82 (by omega), b 83 (by omega), b'.1, b'.2]
  exact h
theorem hp_c (h : hp U φ r s m) (a : ∀ k, 32 ≤ k ∧ k ≤ 36 → s1 k = s k) (b : ∀ k, 74 ≤ k ∧ k ≤ 77 → m1 k = m k) (b' : m1 45 48 = m 45 48) : hp U φ r s1 m1 := by
  unfold hp
  rw [a 32 (by omega), a 33 (by omega), a 34 (by omega), a 35 (by omega), a 36 (by omega), b 74 (by omega), b 75 (by omega), b 76 (by omega), b 77 (by omega), b']
  exact h
theorem glo_c (h : glo r s m) (a : ∀ k, k ≤ 30 ∨ k = 37 ∨ k = 44 → s1 k = s k) (a' : ∀ j, ¬ (j = 6 ∨ j = 8 ∨ j = 15) → s1 31 j = s 31 j) (a2 : s1 32 6 = s 32 6) (b : ∀ k, 46 ≤ k ∧ k ≤ 73 → m1 k = m k) (b' : ∀ j, ¬ (j = 57 ∨ j = 56 ∨ j = 39 ∨ j = 46 ∨ j = 48) → m1 45 j = m 45 j) : glo r s1 m1 := by
  obtain ⟨g1, g2, g3, g4, g5, g6, g7, g8, g9, g10, g11⟩ := h
  refine ⟨fun k hk => by rw [a k (by omega)]; exact g1 k hk, fun k p q => by rw [b k (by omega)]; exact g2 k p q, ?_, ?_, ?_, ?_, ?_, ?_, ?_, ?_, ?_⟩
  · rw [a' 4 (by omega), a' 5 (by omega), a' 16 (by omega), b' 37 (by omega), b' 38 (by omega), b' 47 (by omega)]; exact g3
  · rw [a' 7 (by omega), b' 58 (by omega), b' 40 (by omega)]; exact g4
  · rw [a' 9 (by omega), b' 40 (by omega)]; exact g5
  · rw [a' 10 (by omega), b' 41 (by omega), b' 40 (by omega)]; exact g6
  · rw [a' 11 (by omega), b' 42 (by omega)]; exact g7
  · rw [a' 12 (by omega), b' 43 (by omega)]; exact g8
  · rw [a' 14 (by omega), b' 44 (by omega), a 44 (by omega), b 73 (by omega)]; exact g9
  · rw [a 37 (by omega), a2]; exact g10
  · rw [a2, b' 40 (by omega)]; exact g11
-- a half is put
theorem hp_put (h : hp U φ r s m) (hu : U v t) (c : n = 33 ∧ rl U φ (r 20 t) a b ∨ n = 34 ∧ rl U φ (r 21 t) a b) : hp U φ r (zu s n.toNat v a) (zu m (n.toNat + 43) (φ v) b) := by
  obtain ⟨h1, h2, h3, h4, h5, h6⟩ := h
  have e32 : ∀ k, ¬ (k = 33 ∨ k = 34) → zu s n.toNat v a k = s k := fun k hk => zu_f (by omega)
  have e74 : ∀ k, ¬ (k = 76 ∨ k = 77) → zu m (n.toNat + 43) (φ v) b k = m k := fun k hk => zu_f (by omega)
  refine ⟨by rw [e32 32 (by omega), e32 36 (by omega), e32 35 (by omega)]; exact h1, fun w u hw => ?_, h3, by rw [e74 74 (by omega)]; exact h4, by rw [e32 36 (by omega)]; exact h5, by rw [e32 32 (by omega), e74 45 (by omega), e74 74 (by omega)]; exact h6⟩
  obtain ⟨p1, p2, p3, p4, p5⟩ := h2 w u hw
  rw [e74 74 (by omega), e74 75 (by omega)]
  refine ⟨p1, p2, p3, ?_, ?_⟩
  · rcases c with ⟨c1, c2⟩ | ⟨c1, c2⟩
    · subst c1
      by_cases e : w = v
      · subst e
        have : u = t := by have := (h1 w u).mp hw; have := (h1 w t).mp hu; omega
        rw [this]
        show rl U φ (r 20 t) (zu s 33 w a 33 w) (zu m 76 (φ w) b 76 (φ w))
        rw [zu_s, zu_s]; exact c2
      · have e' : ¬ φ w = φ v := fun q => e (h3 w v u t hw hu q)
        show rl U φ (r 20 u) (zu s 33 v a 33 w) (zu m 76 (φ v) b 76 (φ w))
        rw [zu_n e, zu_n e']; exact p4
    · subst c1
      show rl U φ (r 20 u) (zu s 34 v a 33 w) (zu m 77 (φ v) b 76 (φ w))
      rw [zu_g (by decide), zu_g (by decide)]; exact p4
  · rcases c with ⟨c1, c2⟩ | ⟨c1, c2⟩
    · subst c1
      show rl U φ (r 21 u) (zu s 33 v a 34 w) (zu m 76 (φ v) b 77 (φ w))
      rw [zu_g (by decide), zu_g (by decide)]; exact p5
    · subst c1
      by_cases e : w = v
      · subst e
        have : u = t := by have := (h1 w u).mp hw; have := (h1 w t).mp hu; omega
        rw [this]
        show rl U φ (r 21 t) (zu s 34 w a 34 w) (zu m 77 (φ w) b 77 (φ w))
        rw [zu_s, zu_s]; exact c2
      · have e' : ¬ φ w = φ v := fun q => e (h3 w v u t hw hu q)
        show rl U φ (r 21 u) (zu s 34 v a 34 w) (zu m 77 (φ v) b 77 (φ w))
        rw [zu_n e, zu_n e']; exact p5
theorem c_15 (eF : s 39 4 = F) (eH : s 42 F = H) (hF : 0 ≤ F ∧ F < 24) (hH : 2 ≤ H ∧ H ≤ 16) (e1 : s 41 (F * 16 + (H - 1)) = a1) (e2 : s 41 (F * 16 + (H - 2)) = a2) (r2 : 0 ≤ a2 ∧ a2 < 201) (k : ¬ a2 = 0 → ∀ s1, TE (zu s 33 a2 a1) s1 T F (i + 1) (H - 1) a1 → Q 0 s1) (k0 : a2 = 0 → ∀ s1, OC s s1 T 2 → Q 0 s1) : w_77_33 X (zu (zu s 31 9 (T + 1)) 31 6 (i + 1)) (fun _ s2 => Q 0 s2) := by
  have e2' : s 41 (F * 16 + (H - 1 - 1)) = a2 := by rw [← e2]; congr 2; omega
  refine w_77_33_i (c_pop (F := F) (H := H) (v := a1) (by simp [zu, *]) (by simp [zu, *]) (by simp [zu, *]) hF (by omega) (c_pop (F := F) (H := H - 1) (v := a2) (by simp [zu, *]) (by simp [zu, *]) (by simp [zu, *]) hF (by omega) ⟨by omega, fun q => ⟨by omega, ?_⟩, fun q => ?_⟩))
  · rintro _ rfl
    refine c_push (F := F) (H := H - 1 - 1) (by simp [zu, *]) (by simp [zu, *]) hF (by omega) (k q _ ?_)
    refine ⟨fun k hk => ?_, fun j hj => by (have hj1 : ¬ j = 6 := (by omega); have hj2 : ¬ j = 9 := (by omega); simp [zu, hj1, hj2]), by simp [zu], by simp [zu], fun g => ?_, fun x => ?_⟩
    · by_cases e : k = 33
      · subst e; funext b; simp [zu]
      · (repeat rw [zu_f (by omega)])
    all_goals (first | (simp [zu]; done) | ((repeat rw [zu_g (by decide)]); exact ife) | (simp [zu]; (repeat' split) <;> omega))
  · rintro _ rfl
    refine k0 (by omega) _ ⟨fun k hk => by (repeat rw [zu_f (by omega)]), fun x hx => by rw [zu_n (by omega), zu_g (by decide), zu_g (by decide), zu_n (by omega), zu_n (by omega)], zu_s, by simp [zu]⟩
theorem c_16 (eF : s 39 4 = F) (eH : s 42 F = H) (hF : 0 ≤ F ∧ F < 24) (hH : 2 ≤ H ∧ H ≤ 16) (e1 : s 41 (F * 16 + (H - 1)) = a1) (e2 : s 41 (F * 16 + (H - 2)) = a2) (r2 : 0 ≤ a2 ∧ a2 < 201) (k : ¬ a2 = 0 → ∀ s1, TE (zu s 34 a2 a1) s1 T F (i + 1) (H - 1) a1 → Q 0 s1) (k0 : a2 = 0 → ∀ s1, OC s s1 T 2 → Q 0 s1) : w_77_34 X (zu (zu s 31 9 (T + 1)) 31 6 (i + 1)) (fun _ s2 => Q 0 s2) := by
  have e2' : s 41 (F * 16 + (H - 1 - 1)) = a2 := by rw [← e2]; congr 2; omega
  refine w_77_34_i (c_pop (F := F) (H := H) (v := a1) (by simp [zu, *]) (by simp [zu, *]) (by simp [zu, *]) hF (by omega) (c_pop (F := F) (H := H - 1) (v := a2) (by simp [zu, *]) (by simp [zu, *]) (by simp [zu, *]) hF (by omega) ⟨by omega, fun q => ⟨by omega, ?_⟩, fun q => ?_⟩))
  · rintro _ rfl
    refine c_push (F := F) (H := H - 1 - 1) (by simp [zu, *]) (by simp [zu, *]) hF (by omega) (k q _ ?_)
    refine ⟨fun k hk => ?_, fun j hj => by (have hj1 : ¬ j = 6 := (by omega); have hj2 : ¬ j = 9 := (by omega); simp [zu, hj1, hj2]), by simp [zu], by simp [zu], fun g => ?_, fun x => ?_⟩
    · by_cases e : k = 34
      · subst e; funext b; simp [zu]
      · (repeat rw [zu_f (by omega)])
    all_goals (first | (simp [zu]; done) | ((repeat rw [zu_g (by decide)]); exact ife) | (simp [zu]; (repeat' split) <;> omega))
  · rintro _ rfl
    refine k0 (by omega) _ ⟨fun k hk => by (repeat rw [zu_f (by omega)]), fun x hx => by rw [zu_n (by omega), zu_g (by decide), zu_g (by decide), zu_n (by omega), zu_n (by omega)], zu_s, by simp [zu]⟩
theorem m_15 (eF : m 45 56 = F) (eH : m 81 F = H) (hF : 0 ≤ F ∧ F < 24) (hH : 2 ≤ H ∧ H ≤ 16) (e1 : m 83 (16 * F + (H - 1)) = a1) (e2 : m 83 (16 * F + (H - 2)) = a2) (r2 : iI a2) (r3 : a2 < 200) (ho : o = 15 ∨ o = 16) (k : 0 ≤ a2 → ∀ m1, ME (zu m (if o = 15 then 76 else 77) a2 a1) m1 T F x (H - 1) a1 → Q 0 m1) (k0 : a2 < 0 → ∀ m1, OM m m1 T 2 → Q 0 m1) : w_151 X o (zu m 45 40 (T + 1)) (fun _ m2 => w_146_234 X x m2 Q) := by
  unfold iI at r2
  have e2' : m 83 (16 * F + (H - 1 - 1)) = a2 := by rw [← e2]; congr 2; omega
  have main : w_151_12 X o (zu m 45 40 (T + 1)) (fun _ m2 => w_146_234 X x m2 Q) := by
    refine w_151_12_i (w_151_17_i ⟨by omega, fun q => by omega, fun _ => m_pop (F := F) (H := H) (v := a1) (by simp [zu, *]) (by simp [zu, *]) (by simp [zu, *]) hF (by omega) (w_151_30_i (m_pop (F := F) (H := H - 1) (v := a2) (by simp [zu, *]) (by simp [zu, *]) (by simp [zu, *]) hF (by omega) ⟨by omega, fun q => ⟨by omega, fun q' => ?_, fun q' => ⟨by omega, ?_⟩⟩, fun q => ?_⟩))⟩)
    · refine w_151_62_i ⟨by omega, fun q'' => by omega, fun _ => ⟨by omega, ?_⟩⟩
      rintro _ rfl
      refine w_151_76_i ⟨by omega, fun q'' => by omega, fun _ => w_151_108_i (m_push (F := F) (H := H - 1 - 1) (by simp [zu, *]) (by simp [zu, *]) hF (by omega) (w_146_234_i ?_))⟩
      rintro _ rfl
      refine k q _ ?_
      rw [if_neg (by omega)]
      refine ⟨fun k hk => ?_, fun j hj => by (have hj1 : ¬ j = 57 := (by omega); have hj2 : ¬ j = 40 := (by omega); simp [zu, hj1, hj2]), by simp [zu], by simp [zu], fun g => ?_, fun x => ?_⟩
      · by_cases e : k = 77
        · subst e; funext b; simp [zu]
        · (repeat rw [zu_f (by omega)])
      all_goals (first | (simp [zu]; done) | ((repeat rw [zu_g (by decide)]); exact ife) | (simp [zu]; (repeat' split) <;> omega))
    · rintro _ rfl
      refine w_151_62_i ⟨by omega, fun _ => ?_, fun q'' => by omega⟩
      refine w_151_76_i ⟨by omega, fun q'' => by omega, fun _ => w_151_108_i (m_push (F := F) (H := H - 1 - 1) (by simp [zu, *]) (by simp [zu, *]) hF (by omega) (w_146_234_i ?_))⟩
      rintro _ rfl
      refine k q _ ?_
      rw [if_pos (by omega)]
      refine ⟨fun k hk => ?_, fun j hj => by (have hj1 : ¬ j = 57 := (by omega); have hj2 : ¬ j = 40 := (by omega); simp [zu, hj1, hj2]), by simp [zu], by simp [zu], fun g => ?_, fun x => ?_⟩
      · by_cases e : k = 76
        · subst e; funext b; simp [zu]
        · (repeat rw [zu_f (by omega)])
      all_goals (first | (simp [zu]; done) | ((repeat rw [zu_g (by decide)]); exact ife) | (simp [zu]; (repeat' split) <;> omega))
    · rintro _ rfl
      refine w_146_234_i ?_
      rintro _ rfl
      refine k0 (by omega) _ ⟨fun k hk => by (repeat rw [zu_f (by omega)]), fun x hx => by rw [zu_n (by omega), zu_n (by omega), zu_g (by decide), zu_g (by decide), zu_n (by omega)], by simp [zu], by simp [zu]⟩
  exact w_151_i ⟨by omega, fun _ => main, fun _ => ⟨by omega, fun q => by omega, fun _ => main⟩⟩
end
