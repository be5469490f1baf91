-- what is laid, on both sides
def CodeOK (z s : zS) (G : Int → Nat → Int → Int) : Prop :=
  (s 14 0 = 1 ∧ s 45 15 = 1) ∧ (s 14 1 = s 45 16 ∧ 0 ≤ s 45 16 ∧ s 45 16 ≤ 400) ∧
  (∀ i, 0 ≤ i → i < s 45 16 → s 15 i = s 58 i ∧ s 16 i = s 59 i ∧ (s 58 i = 6 ∨ s 58 i = 13 → s 18 i = s 62 i ∧ s 17 i = s 61 i ∧ s 62 i = bm (G i 1) (G i 0 0).toNat ∧ s 61 i = zA (bm (G i 2) 8) (s 63 (i + 1)))) ∧
  s 14 2 = cm (s 58) (s 45 16).toNat ∧ s 14 3 = s 45 26 ∧ fseg z s G (s 45 16) ∧
  (∀ g, 0 ≤ g → g < 6 → s 19 g = s 64 g ∧ (g < z 3 6 → ent z s G g) ∧ (z 3 6 ≤ g → s 64 g = -1)) ∧
  (∀ t, tI t → s 20 t = z 4 t ∧ s 21 t = z 5 t ∧ s 65 t = z 4 t ∧ s 66 t = z 5 t) ∧
  (∀ i, 0 ≤ i → i < s 45 16 → s 63 i = afM s i (bhM s i) ∧ lvk s G i)
theorem LC_r {s : zS} {N : Int} (lc : LC s N) (ht : ∀ i, 0 ≤ i → i < N → s 15 i = 10 ∨ s 15 i = 11 → i < s 16 i ∧ s 16 i ≤ N) (d : Nat) : ∀ i, 0 ≤ i → i ≤ N → N ≤ i + d → -2147483648 ≤ s 30 i ∧ s 30 i ≤ 2147483647 := by
  induction d with
  | zero =>
    intro i a b c
    rw [show i = N by omega, lc.1]; omega
  | succ d ih =>
    intro i a b c
    by_cases q : i = N
    · rw [q, lc.1]; omega
    · have t := ht i a (by omega)
      rw [(lc.2 i a (by omega)).1, afC]
      split
      · exact zO_r
      · split
        · exact zA_r
        · rw [bhC]
          split
          · omega
          · split
            · next q1 => exact ih _ (by have := t (Or.inr q1); omega) (by have := t (Or.inr q1); omega) (by have := t (Or.inr q1); omega)
            · split
              · exact zO_r
              · exact ih _ (by omega) (by omega) (by omega)
-- what lay leaves as it was
def FL (s s' : zS) : Prop :=
  (∀ k, k < 14 ∨ 32 ≤ k ∧ k ≤ 44 ∨ 46 ≤ k ∧ k ≤ 55 ∨ 73 ≤ k → s' k = s k) ∧ (∀ j, ¬ j = 8 → s' 31 j = s 31 j) ∧ s' 31 8 = -1 ∧ s' 45 39 = 0 ∧
  (∀ j, ¬ (j = 0 ∨ j = 15 ∨ j = 16 ∨ j = 26 ∨ j = 27 ∨ j = 30 ∨ j = 33 ∨ j = 36 ∨ j = 39) → s' 45 j = s 45 j)
section
variable {s z : zS} {X : zX} {Q : Int → zS → Prop}
-- the reference's lay up to its loop over functions
theorem lay_m {e : zS} (S : Src z) (hz : ∀ k, 46 ≤ k ∧ k ≤ 55 → e k = z k) (h3 : e 45 3 = z 3 6) (h8 : e 45 8 = z 3 11)
    (g2 : (400 < sm z (z 3 6).toNat ∨ 16 < mx z (z 3 6).toNat) → ∀ m', (∀ k, ¬ (k = 45 ∨ k = 56 ∨ k = 57) → m' k = e k) → (∀ j, ¬ (j = 0 ∨ j = 39 ∨ j = 15 ∨ j = 16 ∨ j = 26) → m' 45 j = e 45 j) → m' 45 39 = 0 → m' 45 15 = 0 → Q (-2) m')
    (g : ¬ (400 < sm z (z 3 6).toNat ∨ 16 < mx z (z 3 6).toNat) → ∀ m', (∀ k, ¬ (k = 45 ∨ k = 56 ∨ k = 57) → m' k = e k) → m' 45 = zu (zu (zu (zu (zu (zu e 45 0 0) 45 39 0) 45 15 0) 45 16 0) 45 26 (mx z (z 3 6).toNat)) 45 36 0 45 → w_108_37 X 0 m' Q) : w_108 X e Q := by
  refine w_108_i ?_
  rintro _ rfl _ rfl _ rfl _ rfl
  have S1 := S.1
  refine p_109 (z := z) S (fun k a b => ?_) ?_ ?_ ?_
  · rw [zu_f (by omega), zu_f (by omega), zu_f (by omega), zu_f (by omega)]; exact hz k ⟨a, b⟩
  · rw [S1.2.2]; simp [zu, h3]
  · simp [zu, h8]
  · intro m' v f1 f2 f3 hv
    rcases hv with ⟨q, rfl⟩ | ⟨q, rfl⟩
    · refine ⟨by omega, fun q' => by omega, fun _ => g2 q m' (fun k hk => ?_) (fun j hj => ?_) ?_ ?_⟩
      · rw [f1 k (by omega), zu_f (by omega), zu_f (by omega), zu_f (by omega), zu_f (by omega)]
      · rw [f2 j (by omega), zu_n (by omega), zu_n (by omega), zu_n (by omega), zu_n (by omega)]
      · rw [f2 39 (by omega)]; simp [zu]
      · rw [f2 15 (by omega)]; simp [zu]
    · refine ⟨by omega, fun _ => ?_, fun q' => by omega⟩
      rintro _ rfl
      refine g q _ (fun k hk => ?_) ?_
      · rw [zu_f (by omega), f1 k (by omega), zu_f (by omega), zu_f (by omega), zu_f (by omega), zu_f (by omega)]
      · funext j
        by_cases e1 : j = 36
        · rw [e1, zu_s, zu_s]
        rw [zu_n e1, zu_n e1]
        by_cases e2 : j = 26
        · rw [e2, f3, zu_s]
        rw [f2 j e2, zu_n e2]
set_option maxHeartbeats 2000000 in
theorem lay_ok (hX : okX X) (S : Src s) (P : zS → Prop)
    (g0 : ∀ s', FL s s' → s' 14 0 = 0 → s' 45 15 = 0 → P s') (g1 : ∀ s' G, FL s s' → CodeOK s s' G → P s') :
    w_6 X s (fun v s1 => w_108 X s1 (fun v' s2 => v = v' ∧ P s2)) := by
  have S1 := S.1
  have S2 := S.2.1
  refine w_6_i (w_67_i ?_)
  rintro _ rfl
  refine w_45_i (p_38 ?_)
  intro s2 a1 a2 a3 a4 a5
  have e2 : ∀ k, ¬ (k = 14 ∨ k = 19 ∨ k = 31) → s2 k = s k := fun k hk => by rw [a1 k (by omega), zu_f (by omega)]
  have e31 : ∀ j, ¬ j = 8 → s2 31 j = s 31 j := fun j hj => by rw [a1 31 (by omega), zu_n hj]
  have e318 : s2 31 8 = -1 := by rw [a1 31 (by omega), zu_s]
  refine p_45a (z := s) S (fun k a b => e2 k (by omega)) ?_ ?_ (s 3 6).toNat 0 (by omega)
  · -- too large
    intro q
    refine lay_m (z := s) S (fun k hk => e2 k (by omega)) (by rw [e2 45 (by omega)]; exact S1.2.2) (by rw [e2 45 (by omega)]; exact S2.2.2) (fun _ m' f1 f2 f3 f4 => ⟨rfl, g0 m' ⟨fun k hk => ?_, fun j hj => ?_, ?_, f3, fun j hj => ?_⟩ ?_ f4⟩) (fun q' => absurd q q')
    · rw [f1 k (by omega), e2 k (by omega)]
    · rw [f1 31 (by omega), e31 j hj]
    · rw [f1 31 (by omega), e318]
    · rw [f2 j (by omega), e2 45 (by omega)]
    · rw [f1 14 (by omega), a2]
  · intro q
    -- the reference's start, with whatever there is in the other cells
    generalize em0 : zu (zu (zu (zu (zu (zu s2 45 0 0) 45 39 0) 45 15 0) 45 16 0) 45 26 (mx s (s 3 6).toNat)) 45 36 0 = m0
    have m0k : ∀ k, ¬ k = 45 → m0 k = s2 k := fun k hk => by rw [← em0, zu_f hk, zu_f hk, zu_f hk, zu_f hk, zu_f hk, zu_f hk]
    have m0j : ∀ j, ¬ (j = 0 ∨ j = 39 ∨ j = 15 ∨ j = 16 ∨ j = 26 ∨ j = 36) → m0 45 j = s 45 j := fun j hj => by rw [← em0, zu_n (by omega), zu_n (by omega), zu_n (by omega), zu_n (by omega), zu_n (by omega), zu_n (by omega), e2 45 (by omega)]
    have m016 : m0 45 16 = 0 := by rw [← em0]; simp [zu]
    have m036 : m0 45 36 = 0 := by rw [← em0]; simp [zu]
    have m039 : m0 45 39 = 0 := by rw [← em0]; simp [zu]
    have m015 : m0 45 15 = 0 := by rw [← em0]; simp [zu]
    have m026 : m0 45 26 = mx s (s 3 6).toNat := by rw [← em0]; simp [zu]
    have F0 : FR s s2 m0 (fun _ _ _ => 0) 0 := by
      refine ⟨fun k a b => e2 k (by omega), fun k a b => by rw [m0k k (by omega), e2 k (by omega)], by rw [m016]; rfl, fun _ => ⟨by rw [a3, m016], fun i a b => by omega, by rw [a4, m016]; rfl, ?_, fun g a b => by omega, fun g a b => a5 g a b⟩⟩
      rw [m016]; intro i a b; omega
    -- from the program's end to the reference's loop
    have start : ∀ (e : zS) (Q' : Int → zS → Prop), (∀ k, 31 ≤ k → e k = s2 k) → (∀ a : zS, (∀ k, ¬ (k = 45 ∨ k = 56 ∨ k = 57) → a k = e k) → w_108_37 X 0 (mx' a m0) Q') → w_108 X e Q' := by
      intro e Q' he hq
      refine lay_m (z := s) S (fun k hk => by rw [he k (by omega), e2 k (by omega)]) (by rw [he 45 (by omega), e2 45 (by omega)]; exact S1.2.2) (by rw [he 45 (by omega), e2 45 (by omega)]; exact S2.2.2) (fun q' => absurd q' q) (fun _ m' f1 f2 => ?_)
      have : m' = mx' m' m0 := by
        funext k
        by_cases c : k < 45 ∨ k = 56 ∨ k = 57
        · rw [mx_lo c]
        rw [mx_hi (by omega)]
        by_cases c1 : k = 45
        · subst c1
          rw [f2, ← em0]
          funext j
          simp only [zu]
          rw [he 45 (by omega)]
        · rw [f1 k (by omega), m0k k c1, he k (by omega)]
      rw [this]
      exact hq m' f1
    refine jl (z := s) (s0 := s2) (m0 := m0) hX S (by omega) (by omega) (by rw [m0j 3 (by omega)]; exact S1.2.2) ?_ ?_ (s 3 6).toNat 0 s2 m0 _ (by omega) ⟨fun _ _ => rfl, rfl⟩ Fm.rf goL.rf F0 m036
    · -- well typed
      intro s' m' G fk fm gl FRr hq
      obtain ⟨r1, r2, r3, r4⟩ := FRr
      obtain ⟨w1, w2, w3, w4, w5, w6⟩ := r4 hq
      have hN : 0 ≤ m' 45 16 ∧ m' 45 16 ≤ 400 := by
        rw [r3]; exact ⟨sm_pos S _ (by omega), by omega⟩
      have hop : ∀ i, 0 ≤ i → i < m' 45 16 → 0 ≤ m' 58 i ∧ m' 58 i ≤ 18 := fun i a b => by
        obtain ⟨-, -, -, -, -, -, -, -, -, -, -, -, -, -, -, -, -, h17, -⟩ := (w4 i a b).1
        exact h17
      have htg : ∀ i, 0 ≤ i → i < m' 45 16 → m' 58 i = 10 ∨ m' 58 i = 11 → i < m' 59 i ∧ m' 59 i ≤ m' 45 16 := fun i a b c => by
        obtain ⟨-, -, -, -, -, -, -, -, h8, h9, -⟩ := (w4 i a b).1
        have := (w4 i a b).2.1 c
        rcases c with c | c
        · have := (h8 c).2.2.1; omega
        · have := (h9 c).1; omega
      have e36 : s' 3 6 = s 3 6 := by rw [r1 3 (by omega) (by omega)]
      refine w_45_95_i ⟨by omega, fun _ => p_64 (N := m' 45 16) w1 hN (fun i a b => by rw [(w2 i a b).1]; exact hop i a b) (fun i a b => by rw [(w2 i a b).1, (w2 i a b).2.1]; exact htg i a b) ?_, fun q' => by omega⟩
      intro s3 b1 lc
      refine p_41 ?_
      intro s4 c1 c2
      rintro _ rfl _ rfl
      generalize ee : zu (zu s4 14 3 (mx s (s 3 6).toNat)) 14 0 1 = e
      have ek : ∀ k, ¬ k = 14 → e k = s4 k := fun k hk => by rw [← ee, zu_f hk, zu_f hk]
      have e14 : ∀ j, ¬ j = 0 → ¬ j = 3 → e 14 j = s' 14 j := fun j h h' => by rw [← ee, zu_n h, zu_n h', c1 14 (by omega), b1 14 (by omega)]
      have e140 : e 14 0 = 1 := by rw [← ee, zu_s]
      have e143 : e 14 3 = mx s (s 3 6).toNat := by rw [← ee, zu_n (by omega), zu_s]
      have es' : ∀ k, ¬ (k = 14 ∨ k = 17 ∨ k = 30 ∨ k = 20 ∨ k = 21) → e k = s' k := fun k hk => by rw [ek k (by omega), c1 k (by omega), b1 k (by omega)]
      have lce : LC e (m' 45 16) := by
        obtain ⟨l1, l2⟩ := lc
        have f : ∀ k, ¬ (k = 14 ∨ k = 20 ∨ k = 21) → e k = s3 k := fun k hk => by rw [ek k (by omega), c1 k (by omega)]
        refine ⟨by rw [f 30 (by omega)]; exact l1, fun i a b => ?_⟩
        have bb : bhC e i = bhC s3 i := bhC_c (by rw [f 15 (by omega)]) (by rw [f 16 (by omega)]) (by rw [f 30 (by omega)]) (fun _ => by rw [f 30 (by omega)])
        have aa : afC e i (bhC s3 i) = afC s3 i (bhC s3 i) := afC_c (by rw [f 15 (by omega)]) (by rw [f 16 (by omega)]) (by rw [f 29 (by omega)])
        rw [bb, aa, f 30 (by omega), f 15 (by omega), f 17 (by omega)]
        exact l2 i a b
      rw [e14 1 (by omega) (by omega), w1]
      refine start e _ (fun k hk => by rw [es' k (by omega), fk.1 k (by omega)]) (fun x hx => gl x X _ ?_)
      obtain ⟨m6, gt, t1, t2⟩ := tail (z := s) S (6 - s 3 6).toNat (s 3 6) m' (by omega) (by omega) (by rw [fm.1 3 (by omega) (by omega) (by omega) (by omega) (by omega), m0j 3 (by omega)]; exact S1.2.2)
      refine gt x X _ ?_
      have x36 : mx' x m6 45 36 = 0 := by rw [mx_hi (by omega), t1 45 (by omega)]; exact hq
      refine w_108_37_i ⟨by omega, fun _ => ⟨by omega, fun _ => ?_, fun q' => absurd x36 q'⟩, fun q' => by omega⟩
      rintro _ rfl
      refine p_108t _ ?_ 8 0 _ (by omega) rfl (fun _ _ => rfl) (fun t a b => by omega)
      intro m7 d1 d2
      have k7 : ∀ k, 45 < k → ¬ (k = 56 ∨ k = 57 ∨ k = 64 ∨ k = 65 ∨ k = 66) → m7 k = m' k := fun k h1 h2 => by rw [d1 k (by omega), zu_f (by omega), mx_hi (by omega), t1 k (by omega)]
      have j7 : ∀ j, ¬ j = 15 → m7 45 j = m' 45 j := fun j hj => by rw [d1 45 (by omega), zu_n hj, mx_hi (by omega), t1 45 (by omega)]
      have c7 : ∀ k, k < 45 → m7 k = e k := fun k hk => by rw [d1 k (by omega), zu_f (by omega), mx_lo (Or.inl hk)]; exact hx k (by omega)
      refine p_127 (N := m' 45 16) (j7 16 (by omega)) hN (fun i a b => by rw [k7 58 (by omega) (by omega)]; exact hop i a b) (fun i a b => by rw [k7 58 (by omega) (by omega), k7 59 (by omega) (by omega)]; exact htg i a b) ?_
      intro m8 h1 lv
      have k8 : ∀ k, 45 < k → ¬ (k = 56 ∨ k = 57 ∨ k = 64 ∨ k = 65 ∨ k = 66 ∨ k = 61 ∨ k = 63) → m8 k = m' k := fun k p1 p2 => by rw [h1 k (by omega), k7 k p1 (by omega)]
      have j8 : ∀ j, ¬ j = 15 → m8 45 j = m' 45 j := fun j hj => by rw [h1 45 (by omega), j7 j hj]
      have c8 : ∀ k, k < 45 → m8 k = e k := fun k hk => by rw [h1 k (by omega), c7 k hk]
      have e16 : m8 45 16 = m' 45 16 := j8 16 (by omega)
      have e64 : ∀ g, m8 64 g = if s 3 6 ≤ g ∧ g < 6 then -1 else m' 64 g := fun g => by rw [h1 64 (by omega), d1 64 (by omega), zu_g (by decide), mx_hi (by omega), t2]
      have fs : fseg s m8 G (m' 45 16) := w4.c (fun i _ _ => by rw [k8 58 (by omega) (by omega), k8 59 (by omega) (by omega), k8 60 (by omega) (by omega)]; exact ⟨rfl, rfl, rfl⟩) (fun _ _ _ => rfl)
      have cd : ∀ i, 0 ≤ i → i < m' 45 16 → m8 15 i = m8 58 i ∧ m8 16 i = m8 59 i ∧ (m8 58 i = 2 → m8 29 i = if G i 2 (m8 59 i) ≤ 0 then 0 else zL 1 (m8 59 i)) := fun i a b => by
        obtain ⟨v1, v2, v3, v4⟩ := w2 i a b
        rw [c8 15 (by omega), c8 16 (by omega), c8 29 (by omega), es' 15 (by omega), es' 16 (by omega), es' 29 (by omega), k8 58 (by omega) (by omega), k8 59 (by omega) (by omega)]
        exact ⟨v1, v2, v4⟩
      have lc8 : LC m8 (m' 45 16) := by
        obtain ⟨l1, l2⟩ := lce
        refine ⟨by rw [c8 30 (by omega)]; exact l1, fun i a b => ?_⟩
        have bb : bhC m8 i = bhC e i := bhC_c (by rw [c8 15 (by omega)]) (by rw [c8 16 (by omega)]) (by rw [c8 30 (by omega)]) (fun _ => by rw [c8 30 (by omega)])
        have aa : afC m8 i (bhC e i) = afC e i (bhC e i) := afC_c (by rw [c8 15 (by omega)]) (by rw [c8 16 (by omega)]) (by rw [c8 29 (by omega)])
        rw [bb, aa, c8 30 (by omega), c8 15 (by omega), c8 17 (by omega)]
        exact l2 i a b
      have lve := live fs lv lc8 cd (m' 45 16).toNat
      rw [e16]
      refine ⟨rfl, g1 m8 G ?_ ?_⟩
      · refine ⟨fun k hk => ?_, fun j hj => ?_, ?_, ?_, fun j hj => ?_⟩
        · by_cases kk : k < 45
          · rw [c8 k kk, es' k (by omega), fk.1 k (by omega), e2 k (by omega)]
          · rw [k8 k (by omega) (by omega), fm.2 k (by omega), m0k k (by omega), e2 k (by omega)]
        · rw [c8 31 (by omega), es' 31 (by omega), fk.1 31 (by omega), e31 j hj]
        · rw [c8 31 (by omega), es' 31 (by omega), fk.1 31 (by omega), e318]
        · rw [j8 39 (by omega), fm.1 39 (by omega) (by omega) (by omega) (by omega) (by omega), m039]
        · rw [j8 j (by omega), fm.1 j (by omega) (by omega) (by omega) (by omega) (by omega), m0j j (by omega)]
      · refine ⟨⟨by rw [c8 14 (by omega), e140], by rw [h1 45 (by omega), d1 45 (by omega), zu_s]⟩, ⟨by rw [c8 14 (by omega), e14 1 (by omega) (by omega), e16, w1], by rw [e16]; exact hN⟩, ?_, ?_, ?_, by rw [e16]; exact fs, ?_, ?_, ?_⟩
        · intro i a b
          rw [e16] at b
          obtain ⟨u1, u2, -⟩ := cd i a b
          refine ⟨u1, u2, fun hm => ?_⟩
          rw [k8 58 (by omega) (by omega)] at hm
          obtain ⟨-, -, v3, -⟩ := w2 i a b
          obtain ⟨x1, x2, x3⟩ := v3 hm
          have m61 : m7 61 i = bm (G i 2) 8 := by rw [k7 61 (by omega) (by omega), x2]
          have bh : bhM m8 i = m8 63 (i + 1) := by
            have h58 : m8 58 i = m' 58 i := by rw [k8 58 (by omega) (by omega)]
            rw [bhM, if_neg (by omega), if_neg (by omega), if_neg (by omega)]
          obtain ⟨l1, l2⟩ := lv.2 i a b
          rw [m61, bh] at l2
          refine ⟨?_, ?_, ?_, l2⟩
          · rw [c8 18 (by omega), es' 18 (by omega), k8 62 (by omega) (by omega)]; exact x1
          · obtain ⟨-, k2⟩ := lc8.2 i a b
            have := k2 (by rw [u1, k8 58 (by omega) (by omega)]; exact hm)
            rw [this, l2, ← bh]
            obtain ⟨-, q1, q2⟩ := lve i a b (by omega)
            have ne12 : ¬ m8 58 i = 12 := by rw [k8 58 (by omega) (by omega)]; omega
            refine tb_eq ?_ zA_r (fun k hk => ?_)
            · rw [bhC, u1, if_neg (by rw [k8 58 (by omega) (by omega)]; omega), if_neg (by rw [k8 58 (by omega) (by omega)]; omega), if_neg (by rw [k8 58 (by omega) (by omega)]; omega)]
              have t5 := (fs i a b).2.2 (by rw [k8 58 (by omega) (by omega)]; omega)
              exact LC_r lc8 (fun j p q => by rw [(cd j p q).1, (cd j p q).2.1, k8 58 (by omega) (by omega), k8 59 (by omega) (by omega)]; exact htg j p q) (m' 45 16).toNat (i + 1) (by omega) (by omega) (by omega)
            · rw [q2 k hk, if_neg (fun w => ne12 w.1), tb_A, tb_bm hk 8 (by omega)]
              cases hb : tb (bhM m8 i) k
              · simp
              · have := (q1 k hk hb).1
                simp [this]
          · rw [k8 62 (by omega) (by omega)]; exact x3
        · rw [c8 14 (by omega), e14 2 (by omega) (by omega), k8 58 (by omega) (by omega), e16]; exact w3
        · rw [c8 14 (by omega), e143, j8 26 (by omega), fm.1 26 (by omega) (by omega) (by omega) (by omega) (by omega), m026]
        · intro g a b
          rw [e64]
          by_cases c : g < s 3 6
          · obtain ⟨v1, v2⟩ := w5 g a c
            rw [if_neg (by omega), c8 19 (by omega), es' 19 (by omega)]
            refine ⟨v2, fun _ => ?_, fun q' => by omega⟩
            unfold ent
            rw [e64, if_neg (by omega), e16]
            exact v1
          · rw [if_pos (by omega), c8 19 (by omega), es' 19 (by omega)]
            exact ⟨w6 g (by omega) b, fun q' => by omega, fun _ => rfl⟩
        · intro t ht
          unfold tI at ht
          obtain ⟨v1, v2⟩ := c2 t ht.1 (by omega)
          obtain ⟨v3, v4⟩ := d2 t ht.1 (by omega)
          obtain ⟨y1, y2, -⟩ := S.2.2.1 t ht
          rw [c8 20 (by omega), c8 21 (by omega), ek 20 (by omega), ek 21 (by omega), v1, v2, b1 4 (by omega), b1 5 (by omega), r1 4 (by omega) (by omega), r1 5 (by omega) (by omega), h1 65 (by omega), h1 66 (by omega), v3, v4, zu_g (by decide), zu_g (by decide), mx_hi (by omega), mx_hi (by omega), t1 46 (by omega), t1 47 (by omega), r2 46 (by omega) (by omega), r2 47 (by omega) (by omega), y1, y2]
          exact ⟨rfl, rfl, rfl, rfl⟩
        · intro i a b
          rw [e16] at b
          exact ⟨(lv.2 i a b).1, (lve i a b (by omega)).1.1⟩
    · -- ill typed
      intro s' m' fk fm gl hq
      refine start s' _ (fun k hk => fk.1 k (by omega)) (fun x hx => gl x X _ ?_)
      obtain ⟨m6, gt, t1, t2⟩ := tail (z := s) S (6 - s 3 6).toNat (s 3 6) m' (by omega) (by omega) (by rw [fm.1 3 (by omega) (by omega) (by omega) (by omega) (by omega), m0j 3 (by omega)]; exact S1.2.2)
      refine gt x X _ ?_
      have x36 : mx' x m6 45 36 = 1 := by rw [mx_hi (by omega), t1 45 (by omega)]; exact hq
      refine w_108_37_i ⟨by omega, fun _ => ⟨by omega, fun q' => by omega, fun _ => ⟨rfl, g0 _ ⟨fun k hk => ?_, fun j hj => ?_, ?_, ?_, fun j hj => ?_⟩ ?_ ?_⟩⟩, fun q' => by omega⟩
      · by_cases kk : k < 45
        · rw [mx_lo (Or.inl kk), hx k (by omega), fk.1 k (by omega), e2 k (by omega)]
        · rw [mx_hi (by omega), t1 k (by omega), fm.2 k (by omega), m0k k (by omega), e2 k (by omega)]
      · rw [mx_lo (by omega), hx 31 (by omega), fk.1 31 (by omega), e31 j hj]
      · rw [mx_lo (by omega), hx 31 (by omega), fk.1 31 (by omega), e318]
      · rw [mx_hi (by omega), t1 45 (by omega), fm.1 39 (by omega) (by omega) (by omega) (by omega) (by omega), m039]
      · rw [mx_hi (by omega), t1 45 (by omega), fm.1 j (by omega) (by omega) (by omega) (by omega) (by omega), m0j j (by omega)]
      · rw [mx_lo (by omega), hx 14 (by omega), fk.2, a2]
      · rw [mx_hi (by omega), t1 45 (by omega), fm.1 15 (by omega) (by omega) (by omega) (by omega) (by omega), m015]
end
