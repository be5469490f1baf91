/-! Between two calls. -/
-- the code stands; z is the source it was laid from
def Cok (s : zS) : Prop :=
  ∃ z G, CodeOK z s G ∧ Src z ∧ z 3 6 ≤ s 3 6 ∧ ∀ f, 0 ≤ f → f < z 3 6 → s 6 f = z 6 f ∧ s 7 f = z 7 f ∧ ∀ k, 0 ≤ k → k < 3 → s 8 (f * 3 + k) = z 8 (f * 3 + k)
def Cst (s : zS) : Prop := (s 14 0 = 0 ∧ s 45 15 = 0) ∨ Cok s
def Num (c : Int) (s : zS) : Prop :=
  (s 31 4 = s 45 37 ∧ 3 ≤ s 45 37 ∧ s 45 37 ≤ 600) ∧ (s 31 5 = s 45 38 ∧ 0 ≤ s 45 38 ∧ s 45 38 ≤ 2147483647) ∧
  ((∀ j, 0 ≤ j → j < 200 → 1 ≤ s 36 j ∧ s 36 j ≤ 200) ∧ (∀ i j, 0 ≤ i → i < 200 → 0 ≤ j → j < 200 → s 36 i = s 36 j → i = j)) ∧
  (∀ p, 1 ≤ p → p ≤ 200 → 0 ≤ s 37 p ∧ s 37 p ≤ s 32 6) ∧ (0 ≤ s 32 6 ∧ s 32 6 ≤ c * 6000)
def Ovr (t : zS) : Prop :=
  ((1 ≤ t 31 8 ∧ t 31 8 ≤ 5) ∧ t 45 39 = t 31 8) ∧ (t 31 9 = t 45 40 ∧ 0 ≤ t 45 40 ∧ t 45 40 ≤ 6000) ∧ (t 31 10 = t 45 41 ∧ 0 ≤ t 45 41 ∧ t 45 41 ≤ 6000) ∧ t 31 11 = t 45 42 ∧ t 31 12 = t 45 43 ∧
  (t 31 14 = t 45 44 ∧ 0 ≤ t 45 44 ∧ t 45 44 ≤ 64 ∧ ∀ i, 0 ≤ i → i < t 45 44 → t 44 i = t 73 i) ∧ ((0 ≤ t 32 4 ∧ t 32 4 ≤ 200) ∧ t 45 48 = t 32 4) ∧
  (t 31 8 = 1 → ∃ U φ, hp U φ t t t ∧ rl U φ (t 31 16) (t 31 15) (t 45 46) ∧ t 45 47 = t 31 16 ∧ tI (t 31 16))
def Fn (t : zS) : Prop := (t 31 8 = -1 ∧ t 45 39 = 0) ∨ (Cok t ∧ Ovr t)
def RR (c : Int) (s : zS) : Prop := Src s ∧ Cst s ∧ Num c s ∧ Fn s
section
variable {G : Int → Nat → Int → Int} {z r s m s' s1 m1 m0 s2 m2 s3 m3 : zS} {f0 i j F N o v tk p q t T H a b e n f x1 x2 x3 x4 c c' : Int} {U U' : Int → Int → Prop} {φ φ' : Int → Int} {X : zX} {Q : Int → zS → Prop} {D : Prop}
theorem code_c (C : CodeOK z s G) (a : ∀ k, 14 ≤ k ∧ k ≤ 21 → s' k = s k) (b : ∀ k, 58 ≤ k ∧ k ≤ 66 → s' k = s k) (b' : s' 45 15 = s 45 15 ∧ s' 45 16 = s 45 16 ∧ s' 45 26 = s 45 26) : CodeOK z s' G := by
  unfold CodeOK fseg ent afM bhM lvk at *
  rw [a 14 (by omega), a 15 (by omega), a 16 (by omega), a 17 (by omega), a 18 (by omega), a 19 (by omega), a 20 (by omega), a 21 (by omega), b 58 (by omega), b 59 (by omega), b 60 (by omega), b 61 (by omega), b 62 (by omega), b 63 (by omega), b 64 (by omega), b 65 (by omega), b 66 (by omega), b'.1, b'.2.1, b'.2.2]
  exact C
theorem src_c (S : Src s) (a : ∀ k, 3 ≤ k ∧ k ≤ 13 → s' k = s k) (b : ∀ k, 46 ≤ k ∧ k ≤ 55 → s' k = s k) (b' : s' 45 3 = s 45 3 ∧ s' 45 8 = s 45 8) : Src s' := by
  unfold Src Nd ex ar at *
  rw [a 3 (by omega), a 4 (by omega), a 5 (by omega), a 6 (by omega), a 7 (by omega), a 8 (by omega), a 9 (by omega), a 10 (by omega), a 11 (by omega), a 12 (by omega), a 13 (by omega), b 46 (by omega), b 47 (by omega), b 48 (by omega), b 49 (by omega), b 50 (by omega), b 51 (by omega), b 52 (by omega), b 53 (by omega), b 54 (by omega), b 55 (by omega), b'.1, b'.2]
  exact S
theorem cok_c (C : Cok s) (a : ∀ k, 14 ≤ k ∧ k ≤ 21 → s' k = s k) (b : ∀ k, 58 ≤ k ∧ k ≤ 66 → s' k = s k) (b' : s' 45 15 = s 45 15 ∧ s' 45 16 = s 45 16 ∧ s' 45 26 = s 45 26)
    (c : s 3 6 ≤ s' 3 6) (c' : ∀ f, 0 ≤ f → f < s 3 6 → s' 6 f = s 6 f ∧ s' 7 f = s 7 f ∧ ∀ k, 0 ≤ k → k < 3 → s' 8 (f * 3 + k) = s 8 (f * 3 + k)) : Cok s' := by
  obtain ⟨z, G, h1, h2, h3, h4⟩ := C
  refine ⟨z, G, code_c h1 a b b', h2, by omega, fun f q1 q2 => ?_⟩
  obtain ⟨e1, e2, e3⟩ := c' f q1 (by omega)
  obtain ⟨d1, d2, d3⟩ := h4 f q1 q2
  exact ⟨by omega, by omega, fun k w1 w2 => by rw [e3 k w1 w2, d3 k w1 w2]⟩
theorem ovr_c (h : Ovr s) (a : ∀ k, k = 20 ∨ k = 21 ∨ 33 ≤ k ∧ k ≤ 36 ∨ k = 44 ∨ 73 ≤ k ∧ k ≤ 77 → s' k = s k) (a' : ∀ j, 8 ≤ j → j ≤ 16 → s' 31 j = s 31 j) (a'' : s' 32 4 = s 32 4) (b' : ∀ j, 39 ≤ j → j ≤ 48 → s' 45 j = s 45 j) : Ovr s' := by
  unfold Ovr hp at *
  rw [a 20 (by omega), a 21 (by omega), a 33 (by omega), a 34 (by omega), a 35 (by omega), a 36 (by omega), a 44 (by omega), a 73 (by omega), a 74 (by omega), a 75 (by omega), a 76 (by omega), a 77 (by omega), a' 8 (by omega) (by omega), a' 9 (by omega) (by omega), a' 10 (by omega) (by omega), a' 11 (by omega) (by omega), a' 12 (by omega) (by omega), a' 14 (by omega) (by omega), a' 15 (by omega) (by omega), a' 16 (by omega) (by omega), a'', b' 39 (by omega) (by omega), b' 40 (by omega) (by omega), b' 41 (by omega) (by omega), b' 42 (by omega) (by omega), b' 43 (by omega) (by omega), b' 44 (by omega) (by omega), b' 46 (by omega) (by omega), b' 47 (by omega) (by omega), b' 48 (by omega) (by omega)]
  exact h
theorem num_c (h : Num c s) (hc : c ≤ c') (a : s' 31 4 = s 31 4 ∧ s' 31 5 = s 31 5 ∧ s' 45 37 = s 45 37 ∧ s' 45 38 = s 45 38) (b : s' 36 = s 36 ∧ s' 37 = s 37 ∧ s' 32 6 = s 32 6) : Num c' s' := by
  unfold Num at *
  rw [a.1, a.2.1, a.2.2.1, a.2.2.2, b.1, b.2.1, b.2.2]
  obtain ⟨h1, h2, h3, h4, h5⟩ := h
  exact ⟨h1, h2, h3, h4, by omega⟩
theorem cst_c (h : Cst s) (e : s' 14 0 = s 14 0 ∧ s' 45 15 = s 45 15) (k : Cok s → Cok s') : Cst s' := by
  rcases h with w | w
  · exact Or.inl ⟨by rw [e.1]; exact w.1, by rw [e.2]; exact w.2⟩
  · exact Or.inr (k w)
theorem fin_c (h : Fn s) (e : s' 31 8 = s 31 8 ∧ s' 45 39 = s 45 39) (k : Cok s → Cok s') (k' : Ovr s → Ovr s') : Fn s' := by
  rcases h with w | w
  · exact Or.inl ⟨by rw [e.1]; exact w.1, by rw [e.2]; exact w.2⟩
  · exact Or.inr ⟨k w.1, k' w.2⟩
-- only cells of no weight change
def NoW (k : Nat) (j : Int) : Prop := (k = 45 ∧ (j = 0 ∨ 49 ≤ j)) ∨ (k = 31 ∧ 17 ≤ j)
theorem R_c (h : RR c s) (hc : c ≤ c') (e : ∀ k j, ¬ NoW k j → s' k j = s k j) : RR c' s' := by
  have e1 : ∀ k, ¬ (k = 45 ∨ k = 31) → s' k = s k := fun k hk => funext fun j => e k j (by unfold NoW; omega)
  have e2 : ∀ j, 0 < j → j < 49 → s' 45 j = s 45 j := fun j w1 w2 => e 45 j (by unfold NoW; omega)
  have e3 : ∀ j, j < 17 → s' 31 j = s 31 j := fun j w1 => e 31 j (by unfold NoW; omega)
  obtain ⟨h1, h2, h3, h4⟩ := h
  have ck : Cok s → Cok s' := fun C => cok_c C (fun k hk => e1 k (by omega)) (fun k hk => e1 k (by omega)) ⟨e2 15 (by omega) (by omega), e2 16 (by omega) (by omega), e2 26 (by omega) (by omega)⟩ (by rw [e1 3 (by omega)]; omega) (fun f _ _ => ⟨by rw [e1 6 (by omega)], by rw [e1 7 (by omega)], fun k _ _ => by rw [e1 8 (by omega)]⟩)
  refine ⟨src_c h1 (fun k hk => e1 k (by omega)) (fun k hk => e1 k (by omega)) ⟨e2 3 (by omega) (by omega), e2 8 (by omega) (by omega)⟩, cst_c h2 ⟨by rw [e1 14 (by omega)], e2 15 (by omega) (by omega)⟩ ck, num_c h3 hc ⟨e3 4 (by omega), e3 5 (by omega), e2 37 (by omega) (by omega), e2 38 (by omega) (by omega)⟩ ⟨e1 36 (by omega), e1 37 (by omega), by rw [e1 32 (by omega)]⟩, fin_c h4 ⟨e3 8 (by omega), e2 39 (by omega) (by omega)⟩ ck (fun O => ovr_c O (fun k hk => e1 k (by omega)) (fun j w1 w2 => e3 j (by omega)) (by rw [e1 32 (by omega)]) (fun j w1 w2 => e2 j (by omega) (by omega)))⟩
theorem R_0 (h : RR c s) : RR (c + 1) (zu s 45 0 v) := R_c h (by omega) (fun k j hj => by
  by_cases q : k = 45
  · subst q; exact zu_n (by unfold NoW at hj; omega)
  · exact zu_g q)
end
