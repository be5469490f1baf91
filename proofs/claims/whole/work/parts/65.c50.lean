-- marking, on the one side: s0 is where it began
def ind (s : zS) : Int → Int := fun p => if s 37 (p + 1) = s 32 6 then 1 else 0
def MI (W : Int → Prop) (s0 s : zS) : Prop :=
  ((∀ k, ¬ (k = 32 ∨ k = 37 ∨ k = 38) → s k = s0 k) ∧ (∀ j, ¬ j = 8 → s 32 j = s0 32 j)) ∧ (∀ p, 1 ≤ p → p ≤ 200 → 0 ≤ s 37 p ∧ s 37 p ≤ s 32 6) ∧ s 32 8 = cn (ind s) 200 ∧
  (∀ j, 0 ≤ j → j < s 32 8 → (1 ≤ s 38 j ∧ s 38 j ≤ 200) ∧ s 37 (s 38 j) = s 32 6) ∧ (∀ v, 1 ≤ v → v ≤ 200 → s 37 v = s 32 6 → ∃ j, 0 ≤ j ∧ j < s 32 8 ∧ s 38 j = v) ∧
  (∀ v, 1 ≤ v → v ≤ 200 → s 37 v = s 32 6 → W v)
-- from one marking to a later one
def ML (s s' : zS) : Prop := (∀ u, 1 ≤ u → u ≤ 200 → s 37 u = s 32 6 → s' 37 u = s' 32 6) ∧ s 32 8 ≤ s' 32 8 ∧ (∀ j, 0 ≤ j → j < s 32 8 → s' 38 j = s 38 j)
theorem ML.rf {s : zS} : ML s s := ⟨fun _ _ _ h => h, by omega, fun _ _ _ => rfl⟩
theorem ML.tr {a b c : zS} (h : ML a b) (k : ML b c) : ML a c := ⟨fun u p q r => k.1 u p q (h.1 u p q r), by have := h.2.1; have := k.2.1; omega, fun j p q => by rw [k.2.2 j p (by have := h.2.1; omega), h.2.2 j p q]⟩
section
variable {W : Int → Prop} {s0 s : zS} {X : zX} {Q : Int → zS → Prop} {v g a n : Int}
theorem MI.c (h : MI W s0 s) : 0 ≤ s 32 8 ∧ s 32 8 ≤ 200 := by
  have := cn_le (f := ind s) 200 (fun k _ _ => by unfold ind; split <;> omega)
  rw [← h.2.2.1] at this
  exact this
theorem k_88 (h : MI W s0 s) (h32 : 0 ≤ s 32 6 ∧ s 32 6 ≤ 2000000000) (hv : v = 0 ∨ 1 ≤ v ∧ v ≤ 200 ∧ W v) (k : ∀ s', MI W s0 s' → ML s s' → (¬ v = 0 → s' 37 v = s' 32 6) → Q 0 s') : w_88 X v s Q := by
  have hc := h.c
  obtain ⟨⟨m1, m2⟩, m3, m4, m5, m6, m7⟩ := id h
  refine w_88_i ⟨by omega, fun q => k s h ML.rf (fun w => absurd q w), fun q => ⟨by omega, ?_⟩⟩
  have hv : 1 ≤ v ∧ v ≤ 200 ∧ W v := by
    rcases hv with w | w
    · exact absurd w q
    · exact w
  have r37 := m3 v hv.1 hv.2.1
  refine ⟨by omega, fun q' => k s h ML.rf (fun _ => q'), fun q' => ⟨by omega, ?_⟩⟩
  rintro _ rfl
  -- there is room
  have up := cn_up (f := ind s) (g := fun p => if p = v - 1 then 1 else ind s p) 200 (a := v - 1) (by omega) (fun k _ _ e => by rw [if_neg e])
  have le := cn_le (f := fun p => if p = v - 1 then 1 else ind s p) 200 (fun k _ _ => by unfold ind; split <;> (try split) <;> omega)
  have i0 : ind s (v - 1) = 0 := by unfold ind; rw [show v - 1 + 1 = v by omega, if_neg q']
  rw [if_pos rfl, i0, ← m4] at up
  have e8 : zu s 37 v (s 32 6) 32 8 = s 32 8 := zu_g (by decide)
  rw [e8]
  refine ⟨by omega, ?_⟩
  rintro _ rfl
  have e8' : zu (zu s 37 v (s 32 6)) 38 (s 32 8) v 32 8 = s 32 8 := by rw [zu_g (by decide)]; exact e8
  rw [e8']
  rintro _ rfl
  generalize es : zu (zu (zu s 37 v (s 32 6)) 38 (s 32 8) v) 32 8 (s 32 8 + 1) = s'
  have f1 : ∀ k, ¬ (k = 32 ∨ k = 37 ∨ k = 38) → s' k = s k := fun k hk => by rw [← es]; (repeat rw [zu_f (by omega)])
  have f2 : ∀ j, ¬ j = 8 → s' 32 j = s 32 j := fun j hj => by rw [← es, zu_n hj, zu_g (by decide), zu_g (by decide)]
  have f3 : s' 32 8 = s 32 8 + 1 := by rw [← es, zu_s]
  have f4 : ∀ x, s' 37 x = if x = v then s 32 6 else s 37 x := fun x => by rw [← es]; simp [zu]
  have f5 : ∀ x, s' 38 x = if x = s 32 8 then v else s 38 x := fun x => by rw [← es]; simp [zu]
  have f6 : s' 32 6 = s 32 6 := f2 6 (by omega)
  refine k s' ⟨⟨fun k hk => by rw [f1 k hk, m1 k hk], fun j hj => by rw [f2 j hj, m2 j hj]⟩, fun p q1 q2 => ?_, ?_, fun j q1 q2 => ?_, fun u q1 q2 q3 => ?_, fun u q1 q2 q3 => ?_⟩ ⟨fun u q1 q2 q3 => ?_, by omega, fun j q1 q2 => ?_⟩ (fun _ => by rw [f4, if_pos rfl, f6])
  · rw [f4, f6]; split
    · omega
    · exact m3 p q1 q2
  · rw [f3, cn_c (f := ind s') (g := fun p => if p = v - 1 then 1 else ind s p) 200 (fun k _ _ => ?_)]
    · omega
    · show (if s' 37 (k + 1) = s' 32 6 then 1 else 0) = if k = v - 1 then 1 else ind s k
      rw [f4, f6]
      by_cases e : k + 1 = v
      · rw [if_pos e, if_pos rfl, if_pos (by omega)]
      · rw [if_neg e, if_neg (show ¬ k = v - 1 by omega)]; rfl
  · rw [f5, f6]
    by_cases e : j = s 32 8
    · rw [if_pos e, f4, if_pos rfl]; exact ⟨⟨hv.1, hv.2.1⟩, rfl⟩
    · rw [if_neg e, f4]
      have := m5 j q1 (by omega)
      refine ⟨this.1, ?_⟩
      split
      · rfl
      · exact this.2
  · rw [f4, f6] at q3
    by_cases e : u = v
    · exact ⟨s 32 8, by omega, by omega, by rw [f5, if_pos rfl, e]⟩
    · rw [if_neg e] at q3
      obtain ⟨j, p1, p2, p3⟩ := m6 u q1 q2 q3
      exact ⟨j, p1, by omega, by rw [f5, if_neg (by omega)]; exact p3⟩
  · rw [f4, f6] at q3
    by_cases e : u = v
    · rw [e]; exact hv.2.2
    · rw [if_neg e] at q3
      exact m7 u q1 q2 q3
  · rw [f4, f6]; split
    · rfl
    · exact q3
  · rw [f5, if_neg (by omega)]
-- the roots of one frame
theorem k_75 (h32 : 0 ≤ s0 32 6 ∧ s0 32 6 ≤ 2000000000) (hg : 0 ≤ g ∧ g < 24) (ha : 0 ≤ a ∧ a < 400) (hH : 0 ≤ s0 42 g ∧ s0 42 g ≤ 16)
    (hl : ∀ k : Nat, k < 8 → tb (s0 17 a) k = true → s0 40 (g * 8 + k) = 0 ∨ 1 ≤ s0 40 (g * 8 + k) ∧ s0 40 (g * 8 + k) ≤ 200 ∧ W (s0 40 (g * 8 + k)))
    (hp : ∀ k : Nat, (k : Int) < s0 42 g → tb (s0 18 a) k = true → s0 41 (g * 16 + k) = 0 ∨ 1 ≤ s0 41 (g * 16 + k) ∧ s0 41 (g * 16 + k) ≤ 200 ∧ W (s0 41 (g * 16 + k)))
    (h : MI W s0 s)
    (k : ∀ s', MI W s0 s' → ML s s' → (∀ k : Nat, k < 8 → tb (s0 17 a) k = true → ¬ s0 40 (g * 8 + k) = 0 → s' 37 (s0 40 (g * 8 + k)) = s' 32 6) → (∀ k : Nat, (k : Int) < s0 42 g → tb (s0 18 a) k = true → ¬ s0 41 (g * 16 + k) = 0 → s' 37 (s0 41 (g * 16 + k)) = s' 32 6) → Q 0 s') : w_75 X g a s Q := by
  -- the pile
  have second : ∀ d : Nat, ∀ (j : Nat) (s' : zS), (j : Int) + d = s0 42 g → MI W s0 s' → ML s s' → (∀ k : Nat, k < 8 → tb (s0 17 a) k = true → ¬ s0 40 (g * 8 + k) = 0 → s' 37 (s0 40 (g * 8 + k)) = s' 32 6) → (∀ k : Nat, k < j → tb (s0 18 a) k = true → ¬ s0 41 (g * 16 + k) = 0 → s' 37 (s0 41 (g * 16 + k)) = s' 32 6) → w_75_54 X g a j s' Q := by
    intro d
    induction d with
    | zero =>
      intro j s' hj m1 m2 m3 m4
      have e42 : s' 42 = s0 42 := m1.1.1 42 (by omega)
      exact w_75_54_i ⟨hg, by rw [e42]; omega, fun _ => k s' m1 m2 m3 (fun x q1 => m4 x (by omega)), fun q => by rw [e42] at q; omega⟩
    | succ d ih =>
      intro j s' hj m1 m2 m3 m4
      have e42 : s' 42 = s0 42 := m1.1.1 42 (by omega)
      have e18 : s' 18 = s0 18 := m1.1.1 18 (by omega)
      have e41 : s' 41 = s0 41 := m1.1.1 41 (by omega)
      have e6 : s' 32 6 = s0 32 6 := m1.1.2 6 (by omega)
      refine w_75_54_i ⟨hg, by rw [e42]; omega, fun q => by rw [e42] at q; omega, fun _ => ⟨ha, zA_r, fun q => w_75_105_i ?_, fun q => ⟨by omega, ?_⟩⟩⟩
      · rw [e18] at q
        refine ih (j + 1) s' (by omega) m1 m2 m3 (fun x q1 q2 => ?_)
        by_cases e : x = j
        · subst e; exact absurd ((tb_U (by omega)).mpr q2) q
        · exact m4 x (by omega) q2
      · rw [e18] at q
        have tb1 := (tb_U (by omega)).mp (Classical.not_not.mp q)
        rw [e41]
        refine k_88 m1 (by omega) (hp j (by omega) tb1) (fun s2 n1 n2 n3 => w_75_105_i (ih (j + 1) s2 (by omega) n1 (m2.tr n2) (fun x q1 q2 q3 => ?_) (fun x q1 q2 q3 => ?_)))
        · rcases hl x q1 q2 with w | w
          · exact absurd w q3
          · exact n2.1 _ w.1 w.2.1 (m3 x q1 q2 q3)
        · by_cases e : x = j
          · subst e; exact n3 q3
          · rcases hp x (by omega) q2 with w | w
            · exact absurd w q3
            · exact n2.1 _ w.1 w.2.1 (m4 x (by omega) q2 q3)
  -- the slots
  have first : ∀ d : Nat, ∀ (j : Nat) (s' : zS), j + d = 8 → MI W s0 s' → ML s s' → (∀ k : Nat, k < j → tb (s0 17 a) k = true → ¬ s0 40 (g * 8 + k) = 0 → s' 37 (s0 40 (g * 8 + k)) = s' 32 6) → w_75_2 X g a j s' Q := by
    intro d
    induction d with
    | zero =>
      intro j s' hj m1 m2 m3
      refine w_75_2_i ⟨by omega, fun _ => ?_, fun q => by omega⟩
      have := second (s0 42 g).toNat 0 s' (by omega) m1 m2 (fun x q1 => m3 x (by omega)) (fun x q1 => by omega)
      exact this
    | succ d ih =>
      intro j s' hj m1 m2 m3
      have e17 : s' 17 = s0 17 := m1.1.1 17 (by omega)
      have e40 : s' 40 = s0 40 := m1.1.1 40 (by omega)
      have e6 : s' 32 6 = s0 32 6 := m1.1.2 6 (by omega)
      refine w_75_2_i ⟨by omega, fun q => by omega, fun _ => ⟨ha, zA_r, fun q => w_75_46_i ?_, fun q => ⟨by omega, ?_⟩⟩⟩
      · rw [e17] at q
        refine ih (j + 1) s' (by omega) m1 m2 (fun x q1 q2 => ?_)
        by_cases e : x = j
        · subst e; exact absurd ((tb_U (by omega)).mpr q2) q
        · exact m3 x (by omega) q2
      · rw [e17] at q
        have tb1 := (tb_U (by omega)).mp (Classical.not_not.mp q)
        rw [e40]
        refine k_88 m1 (by omega) (hl j (by omega) tb1) (fun s2 n1 n2 n3 => w_75_46_i (ih (j + 1) s2 (by omega) n1 (m2.tr n2) (fun x q1 q2 q3 => ?_)))
        by_cases e : x = j
        · subst e; exact n3 q3
        · rcases hl x (by omega) q2 with w | w
          · exact absurd w q3
          · exact n2.1 _ w.1 w.2.1 (m3 x (by omega) q2 q3)
  exact w_75_i (first 8 0 s rfl h ML.rf (fun x q => by omega))
end
