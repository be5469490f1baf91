section
variable {s : zS} {X : zX} {Q : Int → zS → Prop} {v g a n F x1 : Int}
-- the roots, and what is led to from them
def atC (s : zS) (x1 g : Int) : Int := if g = s 39 4 then x1 else s 43 g
def rootC (s : zS) (x1 v : Int) : Prop := ¬ v = 0 ∧ ∃ g, 0 ≤ g ∧ g ≤ s 39 4 ∧ ((∃ k : Nat, k < 8 ∧ tb (s 17 (atC s x1 g)) k = true ∧ s 40 (g * 8 + k) = v) ∨ (∃ k : Nat, (k : Int) < s 42 g ∧ tb (s 18 (atC s x1 g)) k = true ∧ s 41 (g * 16 + k) = v))
def leadC (s : zS) (P : Int → Prop) : Prop := ∀ u, 1 ≤ u → u ≤ 200 → P u → (¬ s 20 (s 35 u) = 0 → ¬ s 33 u = 0 → P (s 33 u)) ∧ (¬ s 21 (s 35 u) = 0 → ¬ s 34 u = 0 → P (s 34 u))
def reachC (s : zS) (x1 v : Int) : Prop := ∀ P : Int → Prop, (∀ u, rootC s x1 u → P u) → leadC s P → P v
def goodC (s : zS) (U : Int → Prop) : Prop := ∀ u, U u → (1 ≤ u ∧ u ≤ 200) ∧ tI (s 35 u) ∧ tI (s 20 (s 35 u)) ∧ tI (s 21 (s 35 u)) ∧ (¬ s 20 (s 35 u) = 0 → s 33 u = 0 ∨ U (s 33 u)) ∧ (¬ s 21 (s 35 u) = 0 → s 34 u = 0 ∨ U (s 34 u))
theorem k_74 {U : Int → Prop} (hF : 0 ≤ s 39 4 ∧ s 39 4 < 24) (hat : ∀ g, 0 ≤ g → g ≤ s 39 4 → 0 ≤ atC s x1 g ∧ atC s x1 g < 400) (hH : ∀ g, 0 ≤ g → g ≤ s 39 4 → 0 ≤ s 42 g ∧ s 42 g ≤ 16)
    (hU : goodC s U) (hr : ∀ u, rootC s x1 u → U u) (hn : nums s) (hc : 0 ≤ s 32 4 ∧ s 32 4 ≤ 200) (h6 : 0 ≤ s 32 6 ∧ s 32 6 ≤ 1000000000) (h37 : ∀ p, 1 ≤ p → p ≤ 200 → 0 ≤ s 37 p ∧ s 37 p ≤ s 32 6)
    (k : ∀ s', (∀ c, ¬ (c = 31 ∨ c = 32 ∨ c = 36 ∨ c = 37 ∨ c = 38) → s' c = s c) → (∀ j, ¬ (j = 10 ∨ j = 11) → s' 31 j = s 31 j) → s' 31 10 = s 31 10 + 1 → s' 31 11 = s' 32 4 * 3 → s' 32 6 = s 32 6 + 1 → (∀ p, 1 ≤ p → p ≤ 200 → 0 ≤ s' 37 p ∧ s' 37 p ≤ s' 32 6) → nums s' → (0 ≤ s' 32 4 ∧ s' 32 4 ≤ s 32 4) → (∀ v, used s' v ↔ used s v ∧ reachC s x1 v) → Q 0 s') : w_74 X x1 s Q := by
  have rU : ∀ v, reachC s x1 v → U v := fun v h => h U hr (fun u p q w => by
    obtain ⟨-, -, -, -, c1, c2⟩ := hU u w
    refine ⟨fun w1 w2 => ?_, fun w1 w2 => ?_⟩
    · rcases c1 w1 with c | c
      · exact absurd c w2
      · exact c
    · rcases c2 w1 with c | c
      · exact absurd c w2
      · exact c)
  have rR : ∀ v, rootC s x1 v → reachC s x1 v := fun v h P p1 p2 => p1 v h
  have rL : leadC s (reachC s x1) := fun u p q w => ⟨fun w1 w2 P p1 p2 => (p2 u p q (w P p1 p2)).1 w1 w2, fun w1 w2 P p1 p2 => (p2 u p q (w P p1 p2)).2 w1 w2⟩
  refine w_74_i (w_87_i ?_)
  rintro _ rfl _ rfl
  generalize es0 : zu (zu s 32 6 (s 32 6 + 1)) 32 8 0 = s0
  have ek : ∀ c, ¬ c = 32 → s0 c = s c := fun c hc => by rw [← es0, zu_f hc, zu_f hc]
  have e6 : s0 32 6 = s 32 6 + 1 := by rw [← es0, zu_n (by omega), zu_s]
  have e8 : s0 32 8 = 0 := by rw [← es0, zu_s]
  have e4 : s0 32 4 = s 32 4 := by rw [← es0, zu_n (by omega), zu_n (by omega)]
  have e39 : s0 39 = s 39 := ek 39 (by omega)
  -- nothing is kept yet
  have none : ∀ p, 1 ≤ p → p ≤ 200 → ¬ s0 37 p = s0 32 6 := fun p q1 q2 w => by
    have := h37 p q1 q2
    rw [ek 37 (by omega)] at w; omega
  have start : MI (reachC s x1) s0 s0 := by
    refine ⟨⟨fun _ _ => rfl, fun _ _ => rfl⟩, fun p q1 q2 => ?_, ?_, fun j q1 q2 => by omega, fun v q1 q2 q3 => absurd q3 (none v q1 q2), fun v q1 q2 q3 => absurd q3 (none v q1 q2)⟩
    · have := h37 p q1 q2
      rw [ek 37 (by omega)]; omega
    · rw [e8, cn_c (f := ind s0) (g := fun _ => 0) 200 (fun k q1 q2 => by
        show (if s0 37 (k + 1) = s0 32 6 then 1 else 0) = 0
        rw [if_neg (none (k + 1) (by omega) (by omega))])]
      have : ∀ n : Nat, cn (fun _ => (0 : Int)) n = 0 := by
        intro n; induction n with
        | zero => rfl
        | succ k ih => simp only [cn]; rw [ih]; rfl
      rw [this]
  have slot : ∀ g, 0 ≤ g → g ≤ s 39 4 → ∀ k : Nat, k < 8 → tb (s0 17 (atC s x1 g)) k = true → s0 40 (g * 8 + k) = 0 ∨ 1 ≤ s0 40 (g * 8 + k) ∧ s0 40 (g * 8 + k) ≤ 200 ∧ reachC s x1 (s0 40 (g * 8 + k)) := by
    intro g q1 q2 k q3 q4
    rw [ek 17 (by omega)] at q4
    rw [ek 40 (by omega)]
    by_cases e : s 40 (g * 8 + k) = 0
    · exact Or.inl e
    · have rt : rootC s x1 (s 40 (g * 8 + k)) := ⟨e, g, q1, q2, Or.inl ⟨k, q3, q4, rfl⟩⟩
      have := (hU _ (hr _ rt)).1
      exact Or.inr ⟨this.1, this.2, rR _ rt⟩
  have pile : ∀ g, 0 ≤ g → g ≤ s 39 4 → ∀ k : Nat, (k : Int) < s0 42 g → tb (s0 18 (atC s x1 g)) k = true → s0 41 (g * 16 + k) = 0 ∨ 1 ≤ s0 41 (g * 16 + k) ∧ s0 41 (g * 16 + k) ≤ 200 ∧ reachC s x1 (s0 41 (g * 16 + k)) := by
    intro g q1 q2 k q3 q4
    rw [ek 18 (by omega)] at q4
    rw [ek 42 (by omega)] at q3
    rw [ek 41 (by omega)]
    by_cases e : s 41 (g * 16 + k) = 0
    · exact Or.inl e
    · have rt : rootC s x1 (s 41 (g * 16 + k)) := ⟨e, g, q1, q2, Or.inr ⟨k, q3, q4, rfl⟩⟩
      have := (hU _ (hr _ rt)).1
      exact Or.inr ⟨this.1, this.2, rR _ rt⟩
  -- behind the frames
  have after : ∀ s', MI (reachC s x1) s0 s' → (∀ u, rootC s x1 u → s' 37 u = s' 32 6) → w_89_20_21 X s' (fun _ s1 => (∀ s2 : zS, s2 = zu s1 31 10 ((s1 31 10) + 1) → (w_86 X s2 (fun v3 s3 => (∀ s4 : zS, s4 = zu s3 31 11 v3 → Q 0 s4))))) := by
    intro s' m1 m2
    refine w_89_20_21_i (k_2 (s := s') (W := reachC s x1) (s0 := s0) (by omega) (fun v p q w => ?_) ?_ 200 0 s' (by omega) (by omega) rfl m1 ML.rf (fun x q1 q2 => by omega))
    · obtain ⟨g1, g2, g3, g4, g5, g6⟩ := hU v (rU v w)
      unfold shut
      rw [ek 35 (by omega), ek 20 (by omega), ek 21 (by omega), ek 33 (by omega), ek 34 (by omega)]
      refine ⟨g2, g3, g4, fun c => ?_, fun c => ?_⟩
      · rcases g5 c with d | d
        · exact Or.inl d
        · by_cases e : s 33 v = 0
          · exact Or.inl e
          · have := (hU _ d).1
            exact Or.inr ⟨this.1, this.2, (rL v p q w).1 c e⟩
      · rcases g6 c with d | d
        · exact Or.inl d
        · by_cases e : s 34 v = 0
          · exact Or.inl e
          · have := (hU _ d).1
            exact Or.inr ⟨this.1, this.2, (rL v p q w).2 c e⟩
    · intro s2 n1 n2 n3
      have ks : ∀ c, ¬ (c = 32 ∨ c = 37 ∨ c = 38) → s2 c = s c := fun c hc => by rw [n1.1.1 c hc, ek c (by omega)]
      have k6 : s2 32 6 = s 32 6 + 1 := by rw [n1.1.2 6 (by omega), e6]
      have k4 : s2 32 4 = s 32 4 := by rw [n1.1.2 4 (by omega), e4]
      have kept : ∀ v, 1 ≤ v → v ≤ 200 → (s2 37 v = s2 32 6 ↔ reachC s x1 v) := by
        intro v p q
        refine ⟨n1.2.2.2.2.2 v p q, fun w => ?_⟩
        refine (w (fun u => s2 37 u = s2 32 6) (fun u hu => ?_) (fun u p' q' hu => ?_))
        · have := (hU _ (hr _ hu)).1
          exact n2.1 u this.1 this.2 (m2 u hu)
        · have sh := n3 u p' q' hu
          unfold shut at sh
          rw [ek 35 (by omega), ek 20 (by omega), ek 21 (by omega), ek 33 (by omega), ek 34 (by omega)] at sh
          refine ⟨fun w1 w2 => ?_, fun w1 w2 => ?_⟩
          · rcases sh.1 w1 with c | c
            · exact absurd c w2
            · exact c.2.2
          · rcases sh.2 w1 with c | c
            · exact absurd c w2
            · exact c.2.2
      have n36 : nums s2 := by unfold nums; rw [ks 36 (by omega)]; exact hn
      refine w_89_20_21_77_i (k_82 (s0 := s2) n36 (by omega) (by omega) (fun p q1 q2 => n1.2.1 p q1 q2) ?_ (s 32 4).toNat 0 0 s2 (by omega) (by omega) (by omega) (fun _ _ => rfl) n36 (fun _ _ _ => rfl) (fun x q1 q2 => by omega) (fun x q1 q2 => by omega) (fun v => Iff.rfl))
      intro s3 l1 l2 l3 l4 l5
      rintro _ rfl
      refine w_86_i ?_
      rintro _ rfl
      generalize e5 : zu (zu s3 31 10 (s3 31 10 + 1)) 31 11 (zu s3 31 10 (s3 31 10 + 1) 32 4 * 3) = s5
      have o1 : ∀ c, ¬ c = 31 → s5 c = s3 c := fun c hc => by rw [← e5, zu_f hc, zu_f hc]
      have o2 : ∀ j, ¬ (j = 10 ∨ j = 11) → s5 31 j = s 31 j := fun j hj => by rw [← e5, zu_n (by omega), zu_n (by omega), l1 31 (by omega), ks 31 (by omega)]
      have o3 : s5 31 10 = s 31 10 + 1 := by rw [← e5, zu_n (by omega), zu_s, l1 31 (by omega), ks 31 (by omega)]
      have o4 : s5 31 11 = s5 32 4 * 3 := by rw [o1 32 (by omega), ← e5, zu_s, zu_g (by decide)]
      refine k s5 (fun c hc => by rw [o1 c (by omega), l1 c (by omega), ks c (by omega)]) o2 o3 o4 (by rw [o1 32 (by omega), l2 6 (by omega), k6]) (fun p q1 q2 => ?_) (by unfold nums; rw [o1 36 (by omega)]; exact l3) (by rw [o1 32 (by omega)]; omega) (fun v => ?_)
      · rw [o1 37 (by omega), o1 32 (by omega), l1 37 (by omega), l2 6 (by omega)]; exact n1.2.1 p q1 q2
      · have u1 : used s5 v ↔ used s3 v := by unfold used; rw [o1 32 (by omega), o1 36 (by omega)]
        have u2 : used s2 v ↔ used s v := by unfold used; rw [k4, ks 36 (by omega)]
        rw [u1, l5 v, u2]
        constructor
        · rintro ⟨w1, w2⟩
          obtain ⟨j, p1, p2, p3⟩ := w1
          have := hn.1 j p1 (by omega)
          exact ⟨⟨j, p1, p2, p3⟩, (kept v (by omega) (by omega)).mp w2⟩
        · rintro ⟨w1, w2⟩
          have := (hU _ (rU v w2)).1
          exact ⟨w1, (kept v this.1 this.2).mpr w2⟩
  -- the frames
  have loop : ∀ d : Nat, ∀ (j : Int) (s' : zS), 0 ≤ j → j + d = s 39 4 + 1 → MI (reachC s x1) s0 s' →
      (∀ g, 0 ≤ g → g < j → (∀ k : Nat, k < 8 → tb (s0 17 (atC s x1 g)) k = true → ¬ s0 40 (g * 8 + k) = 0 → s' 37 (s0 40 (g * 8 + k)) = s' 32 6) ∧ (∀ k : Nat, (k : Int) < s0 42 g → tb (s0 18 (atC s x1 g)) k = true → ¬ s0 41 (g * 16 + k) = 0 → s' 37 (s0 41 (g * 16 + k)) = s' 32 6)) → w_74_9 X x1 j s' Q := by
    intro d
    induction d with
    | zero =>
      intro j s' h0 hj m1 m2
      have e39' : s' 39 = s 39 := by rw [m1.1.1 39 (by omega), e39]
      refine w_74_9_i ⟨by rw [e39']; omega, fun _ => after s' m1 (fun u hu => ?_), fun q => by rw [e39'] at q; omega⟩
      obtain ⟨nz, g, q1, q2, q3⟩ := hu
      obtain ⟨c1, c2⟩ := m2 g q1 (by omega)
      rcases q3 with ⟨k, r1, r2, r3⟩ | ⟨k, r1, r2, r3⟩
      · have := c1 k r1 (by rw [ek 17 (by omega)]; exact r2) (by rw [ek 40 (by omega), r3]; exact nz)
        rw [ek 40 (by omega), r3] at this; exact this
      · have := c2 k (by rw [ek 42 (by omega)]; exact r1) (by rw [ek 18 (by omega)]; exact r2) (by rw [ek 41 (by omega), r3]; exact nz)
        rw [ek 41 (by omega), r3] at this; exact this
    | succ d ih =>
      intro j s' h0 hj m1 m2
      have e39' : s' 39 = s 39 := by rw [m1.1.1 39 (by omega), e39]
      have e43' : s' 43 = s 43 := by rw [m1.1.1 43 (by omega), ek 43 (by omega)]
      have e6' : s' 32 6 = s0 32 6 := m1.1.2 6 (by omega)
      have body : w_75 X j (atC s x1 j) s' (fun _ s1 => w_74_9 X x1 (j + 1) s1 Q) := by
        refine k_75 (s0 := s0) (W := reachC s x1) (by omega) (by omega) (hat j h0 (by omega)) (by rw [ek 42 (by omega)]; exact hH j h0 (by omega)) (slot j h0 (by omega)) (pile j h0 (by omega)) m1 (fun s2 n1 n2 n3 n4 => ih (j + 1) s2 (by omega) (by omega) n1 (fun g q1 q2 => ?_))
        by_cases e : g = j
        · subst e; exact ⟨n3, n4⟩
        · obtain ⟨c1, c2⟩ := m2 g q1 (by omega)
          refine ⟨fun k r1 r2 r3 => ?_, fun k r1 r2 r3 => ?_⟩
          · rcases slot g q1 (by omega) k r1 r2 with w | w
            · exact absurd w r3
            · exact n2.1 _ w.1 w.2.1 (c1 k r1 r2 r3)
          · rcases pile g q1 (by omega) k r1 r2 with w | w
            · exact absurd w r3
            · exact n2.1 _ w.1 w.2.1 (c2 k r1 r2 r3)
      refine w_74_9_i ⟨by rw [e39']; omega, fun q => by rw [e39'] at q; omega, fun _ => ⟨by rw [e39']; omega, fun q => ⟨by omega, w_74_46_i ?_⟩, fun q => w_74_46_i ?_⟩⟩
      · rw [e39'] at q
        rw [e43', show s 43 j = atC s x1 j by rw [atC, if_neg q]]
        exact body
      · rw [e39'] at q
        have e : x1 = atC s x1 j := by rw [atC, if_pos (Classical.not_not.mp q)]
        have := body
        rw [← e] at this
        exact this
  exact loop (s 39 4 + 1).toNat 0 s0 (by omega) (by omega) start (fun g q1 q2 => by omega)
end
