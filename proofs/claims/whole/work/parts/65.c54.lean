section
variable {m : zS} {X : zX} {Q : Int → zS → Prop} {v g a n F : Int}
def atM (m : zS) (g : Int) : Int := if g = m 45 56 then m 45 57 else m 80 (g + 1) - 1
def rootM (m : zS) (v : Int) : Prop := 0 ≤ v ∧ ∃ g, 0 ≤ g ∧ g ≤ m 45 56 ∧ ((∃ k : Nat, k < 8 ∧ tb (m 61 (atM m g)) k = true ∧ m 82 (8 * g + k) = v) ∨ (∃ k : Nat, (k : Int) < m 81 g ∧ tb (m 62 (atM m g)) k = true ∧ m 83 (16 * g + k) = v))
def leadM (m : zS) (P : Int → Prop) : Prop := ∀ u, 0 ≤ u → u < 200 → P u → (0 < m 65 (m 75 u) → 0 ≤ m 76 u → P (m 76 u)) ∧ (0 < m 66 (m 75 u) → 0 ≤ m 77 u → P (m 77 u))
def reachM (m : zS) (v : Int) : Prop := ∀ P : Int → Prop, (∀ u, rootM m u → P u) → leadM m P → P v
def goodM (m : zS) (U : Int → Prop) : Prop := ∀ u, U u → (0 ≤ u ∧ u < 200) ∧ tI (m 75 u) ∧ tI (m 65 (m 75 u)) ∧ tI (m 66 (m 75 u)) ∧ (0 < m 65 (m 75 u) → m 76 u = -1 ∨ U (m 76 u)) ∧ (0 < m 66 (m 75 u) → m 77 u = -1 ∨ U (m 77 u))
-- those that stay stay
theorem k_181 (m0 : zS) (h74 : ∀ p, 0 ≤ p → p < 200 → m0 74 p = 0 ∨ m0 74 p = 1) (h78 : ∀ p, 0 ≤ p → p < 200 → m0 78 p = 0 ∨ m0 78 p = 1)
    (k : ∀ m', (∀ c, ¬ (c = 45 ∨ c = 74) → m' c = m0 c) → (∀ j, ¬ (j = 48 ∨ j = 42) → m' 45 j = m0 45 j) → m' 45 48 = cn (m' 74) 200 → m' 45 42 = 3 * m' 45 48 → (∀ p, 0 ≤ p → p < 200 → m' 74 p = if m0 74 p = 1 ∧ m0 78 p = 1 then 1 else 0) → Q 0 m') (d : Nat) :
    ∀ (j : Nat) (m' : zS), j + d = 200 → (∀ c, ¬ (c = 45 ∨ c = 74) → m' c = m0 c) → (∀ x, ¬ x = 48 → m' 45 x = m0 45 x) → m' 45 48 = cn (m' 74) j → (∀ p : Int, 0 ≤ p → p < j → m' 74 p = if m0 74 p = 1 ∧ m0 78 p = 1 then 1 else 0) → (∀ p, (j : Int) ≤ p → p < 200 → m' 74 p = m0 74 p) → w_140_181 X j m' Q := by
  induction d with
  | zero =>
    intro j m' hj f1 f2 f3 f4 f5
    refine w_140_181_i ⟨by omega, fun _ => ?_, fun q => by omega⟩
    rintro _ rfl
    obtain rfl : j = 200 := by omega
    refine k _ (fun c hc => by rw [zu_f (by omega)]; exact f1 c hc) (fun x hx => by rw [zu_n (by omega)]; exact f2 x (by omega)) (by rw [zu_n (by omega), zu_f (by decide)]; exact f3) (by rw [zu_s, zu_n (by omega)]) (fun p q1 q2 => by rw [zu_g (by decide)]; exact f4 p q1 (by omega))
  | succ d ih =>
    intro j m' hj f1 f2 f3 f4 f5
    have r74 := h74 j (by omega) (by omega)
    have r78 := h78 j (by omega) (by omega)
    have ej := f5 j (by omega) (by omega)
    have e78 : m' 78 = m0 78 := f1 78 (by omega)
    have cnle := cn_le (f := m' 74) j (fun k p q => by rw [f4 k p q]; split <;> omega)
    have put : ∀ t, t = (if m0 74 j = 1 ∧ m0 78 j = 1 then 1 else 0) → w_140_216 X j j t m' Q := by
      intro t ht
      have ht' : t = 0 ∨ t = 1 := by rw [ht]; split <;> omega
      refine w_140_216_i ⟨by omega, ht', ?_⟩
      rintro _ rfl
      have e1 : zu m' 74 j t 74 j = t := zu_s
      have e2 : zu m' 74 j t 45 48 = m' 45 48 := zu_g (by decide)
      rw [e1, e2]
      have nxt : ∀ w, w = t → w_140_236 X j (m' 45 48) w (zu m' 74 j t) Q := by
        intro w hw
        refine w_140_236_i ?_
        rintro _ rfl
        have := ih (j + 1) (zu (zu m' 74 j t) 45 48 (m' 45 48 + w)) (by omega) (fun c hc => by rw [zu_f (by omega), zu_f (by omega)]; exact f1 c hc) (fun x hx => by rw [zu_n hx, zu_g (by decide)]; exact f2 x hx) ?_ (fun p q1 q2 => ?_) (fun p q1 q2 => ?_)
        · exact this
        · rw [zu_s, zu_f (by decide)]
          simp only [cn]
          rw [zu_s, cn_c (f := zu m' 74 j t 74) (g := m' 74) j (fun k p q => zu_n (by omega)), f3, hw]
        · rw [zu_g (by decide)]
          by_cases e : p = j
          · rw [e, zu_s]; exact ht
          · rw [zu_n e]; exact f4 p q1 (by omega)
        · rw [zu_g (by decide), zu_n (by omega)]; exact f5 p (by omega) q2
      exact ⟨by omega, by omega, fun q => nxt 0 q.symm, fun q => nxt 1 (by omega)⟩
    refine w_140_181_i ⟨by omega, fun q => by omega, fun _ => ⟨by omega, by omega, fun q => w_140_215_i (put 0 ?_), fun q => ⟨by omega, by rw [e78]; omega, fun q' => w_140_215_i (put 0 ?_), fun q' => put 1 ?_⟩⟩⟩
    · rw [if_neg (by omega)]
    · rw [e78] at q'; rw [if_neg (by omega)]
    · rw [e78] at q'; rw [if_pos (by omega)]
theorem k_140 {U : Int → Prop} (hF : 0 ≤ m 45 56 ∧ m 45 56 < 24) (hat : ∀ g, 0 ≤ g → g ≤ m 45 56 → 0 ≤ atM m g ∧ atM m g < 400) (hH : ∀ g, 0 ≤ g → g ≤ m 45 56 → 0 ≤ m 81 g ∧ m 81 g ≤ 16)
    (hU : goodM m U) (hr : ∀ u, rootM m u → U u) (hlo : ∀ g, 0 ≤ g → g ≤ m 45 56 → (∀ k : Nat, k < 8 → tb (m 61 (atM m g)) k = true → -1 ≤ m 82 (8 * g + k)) ∧ (∀ k : Nat, (k : Int) < m 81 g → tb (m 62 (atM m g)) k = true → -1 ≤ m 83 (16 * g + k)))
    (h74 : ∀ p, 0 ≤ p → p < 200 → m 74 p = 0 ∨ m 74 p = 1)
    (k : ∀ m', (∀ c, ¬ (c = 45 ∨ c = 74 ∨ c = 78 ∨ c = 79) → m' c = m c) → (∀ j, ¬ (j = 41 ∨ j = 42 ∨ j = 48 ∨ j = 54) → m' 45 j = m 45 j) → m' 45 41 = m 45 41 + 1 → m' 45 42 = 3 * m' 45 48 → m' 45 48 = cn (m' 74) 200 → (∀ p, 0 ≤ p → p < 200 → m' 74 p = 0 ∨ m' 74 p = 1) → (∀ p, 0 ≤ p → p < 200 → (m' 74 p = 1 ↔ m 74 p = 1 ∧ reachM m p)) → Q 0 m') : w_140 X m Q := by
  have rU : ∀ v, reachM m v → U v := fun v h => h U hr (fun u p q w => by
    obtain ⟨-, -, -, -, c1, c2⟩ := hU u w
    refine ⟨fun w1 w2 => ?_, fun w1 w2 => ?_⟩
    · rcases c1 w1 with c | c
      · omega
      · exact c
    · rcases c2 w1 with c | c
      · omega
      · exact c)
  have rR : ∀ v, rootM m v → reachM m v := fun v h P p1 p2 => p1 v h
  have rL : leadM m (reachM m) := fun u p q w => ⟨fun w1 w2 P p1 p2 => (p2 u p q (w P p1 p2)).1 w1 w2, fun w1 w2 P p1 p2 => (p2 u p q (w P p1 p2)).2 w1 w2⟩
  refine w_140_i ?_
  rintro _ rfl
  -- the marks are wiped out
  have wipe : ∀ d : Nat, ∀ (j : Int) (m' : zS), 0 ≤ j → j + d = 200 → (∀ c, ¬ (c = 45 ∨ c = 78) → m' c = m c) → (∀ x, ¬ x = 41 → m' 45 x = m 45 x) → m' 45 41 = m 45 41 + 1 → (∀ p, 0 ≤ p → p < j → m' 78 p = 0) → w_140_12 X j m' Q := by
    intro d
    induction d with
    | zero =>
      intro j m' h0 hj f1 f2 f3 f4
      refine w_140_12_i ⟨by omega, fun _ => ?_, fun q => by omega⟩
      rintro _ rfl
      generalize es0 : zu m' 45 54 0 = m0
      have ek : ∀ c, ¬ (c = 45 ∨ c = 78) → m0 c = m c := fun c hc => by rw [← es0, zu_f (by omega)]; exact f1 c hc
      have e45 : ∀ x, ¬ (x = 41 ∨ x = 54) → m0 45 x = m 45 x := fun x hx => by rw [← es0, zu_n (by omega)]; exact f2 x (by omega)
      have e41 : m0 45 41 = m 45 41 + 1 := by rw [← es0, zu_n (by omega)]; exact f3
      have e54 : m0 45 54 = 0 := by rw [← es0, zu_s]
      have e78 : ∀ p, 0 ≤ p → p < 200 → m0 78 p = 0 := fun p q1 q2 => by rw [← es0, zu_g (by decide)]; exact f4 p q1 (by omega)
      have e56 : m0 45 56 = m 45 56 := e45 56 (by omega)
      have start : NI (reachM m) m0 m0 := by
        refine ⟨⟨fun _ _ => rfl, fun _ _ => rfl⟩, fun p q1 q2 => Or.inl (e78 p q1 q2), ?_, fun j q1 q2 => by omega, fun v q1 q2 q3 => by rw [e78 v q1 q2] at q3; omega⟩
        have := cn_le (f := m0 78) 200 (fun k p q => by rw [e78 k p (by omega)]; omega)
        omega
      have slot : ∀ g, 0 ≤ g → g ≤ m 45 56 → ∀ k : Nat, k < 8 → tb (m 61 (atM m g)) k = true → m0 82 (8 * g + k) = -1 ∨ 0 ≤ m0 82 (8 * g + k) ∧ m0 82 (8 * g + k) < 200 ∧ reachM m (m0 82 (8 * g + k)) := by
        intro g q1 q2 k q3 q4
        rw [ek 82 (by omega)]
        have lo := (hlo g q1 q2).1 k q3 q4
        by_cases e : m 82 (8 * g + k) = -1
        · exact Or.inl e
        · have rt : rootM m (m 82 (8 * g + k)) := ⟨by omega, g, q1, q2, Or.inl ⟨k, q3, q4, rfl⟩⟩
          have := (hU _ (hr _ rt)).1
          exact Or.inr ⟨this.1, this.2, rR _ rt⟩
      have pile : ∀ g, 0 ≤ g → g ≤ m 45 56 → ∀ k : Nat, (k : Int) < m0 81 g → tb (m 62 (atM m g)) k = true → m0 83 (16 * g + k) = -1 ∨ 0 ≤ m0 83 (16 * g + k) ∧ m0 83 (16 * g + k) < 200 ∧ reachM m (m0 83 (16 * g + k)) := by
        intro g q1 q2 k q3 q4
        rw [ek 81 (by omega)] at q3
        rw [ek 83 (by omega)]
        have lo := (hlo g q1 q2).2 k q3 q4
        by_cases e : m 83 (16 * g + k) = -1
        · exact Or.inl e
        · have rt : rootM m (m 83 (16 * g + k)) := ⟨by omega, g, q1, q2, Or.inr ⟨k, q3, q4, rfl⟩⟩
          have := (hU _ (hr _ rt)).1
          exact Or.inr ⟨this.1, this.2, rR _ rt⟩
      -- the closing loop
      have close : ∀ d : Nat, ∀ m' : zS, NI (reachM m) m0 m' → (∀ u, rootM m u → m' 78 u = 1) → 400 - 2 * cn (m' 78) 200 + m' 45 54 ≤ d →
          (∀ u, 0 ≤ u → u < 200 → m' 78 u = 1 → (∃ j, 0 ≤ j ∧ j < m' 45 54 ∧ m' 79 j = u) ∨ ((0 < m 65 (m 75 u) → 0 ≤ m 76 u → m' 78 (m 76 u) = 1) ∧ (0 < m 66 (m 75 u) → 0 ≤ m 77 u → m' 78 (m 77 u) = 1))) → w_140_96 X m' Q := by
        -- nothing is left on the row
        have endc : ∀ m' : zS, NI (reachM m) m0 m' → (∀ u, rootM m u → m' 78 u = 1) → m' 45 54 ≤ 0 →
            (∀ u, 0 ≤ u → u < 200 → m' 78 u = 1 → (∃ j, 0 ≤ j ∧ j < m' 45 54 ∧ m' 79 j = u) ∨ ((0 < m 65 (m 75 u) → 0 ≤ m 76 u → m' 78 (m 76 u) = 1) ∧ (0 < m 66 (m 75 u) → 0 ≤ m 77 u → m' 78 (m 77 u) = 1))) → w_140_96 X m' Q := by
          intro m' n1 n2 n3 n4
          have hc := n1.c
          have kept : ∀ p, 0 ≤ p → p < 200 → (m' 78 p = 1 ↔ reachM m p) := by
            intro p q1 q2
            refine ⟨n1.2.2.2.2 p q1 q2, fun w => w (fun u => m' 78 u = 1) n2 (fun u r1 r2 r3 => ?_)⟩
            rcases n4 u r1 r2 r3 with ⟨j, y1, y2, -⟩ | w
            · omega
            · exact w
          have x74 : m' 74 = m 74 := by rw [n1.1.1 74 (by omega), ek 74 (by omega)]
          refine w_140_96_i ⟨by omega, fun _ => ?_, fun q => absurd n3 q⟩
          rintro _ rfl
          refine k_181 (zu m' 45 48 0) (fun p q1 q2 => by rw [zu_g (by decide), x74]; exact h74 p q1 q2) (fun p q1 q2 => by rw [zu_g (by decide)]; exact n1.2.1 p q1 q2) ?_ 200 0 _ rfl (fun _ _ => rfl) (fun _ _ => rfl) zu_s (fun p q1 q2 => by omega) (fun _ _ _ => rfl)
          intro m5 o1 o2 o3 o4 o5
          have o6 : ∀ p, 0 ≤ p → p < 200 → m5 74 p = if m 74 p = 1 ∧ m' 78 p = 1 then 1 else 0 := fun p q1 q2 => by rw [o5 p q1 q2, zu_g (by decide), zu_g (by decide), x74]
          refine k m5 (fun c hc => by rw [o1 c (by omega), zu_f (by omega), n1.1.1 c (by omega), ek c (by omega)]) (fun j hj => by rw [o2 j (by omega), zu_n (by omega), n1.1.2 j (by omega), e45 j (by omega)]) (by rw [o2 41 (by omega), zu_n (by omega), n1.1.2 41 (by omega), e41]) o4 o3 (fun p q1 q2 => by rw [o6 p q1 q2]; split <;> omega) (fun p q1 q2 => ?_)
          rw [o6 p q1 q2]
          constructor
          · intro w
            split at w
            · next c => exact ⟨c.1, (kept p q1 q2).mp c.2⟩
            · omega
          · rintro ⟨w1, w2⟩
            rw [if_pos ⟨w1, (kept p q1 q2).mpr w2⟩]
        intro d
        induction d with
        | zero =>
          intro m' n1 n2 n3 n4
          have hc := n1.c
          exact endc m' n1 n2 (by omega) n4
        | succ d ih =>
          intro m' n1 n2 n3 n4
          have hc := n1.c
          by_cases q : m' 45 54 ≤ 0
          · exact endc m' n1 n2 q n4
          refine w_140_96_i ⟨by omega, fun q' => absurd q' q, fun _ => ?_⟩
          rintro _ rfl
          generalize et : m' 45 54 - 1 = t
          obtain ⟨⟨p1, p2⟩, p3⟩ := n1.2.2.2.1 t (by omega) (by omega)
          have et' : zu m' 45 54 t 45 54 = t := zu_s
          rw [et']
          have es2 : ∀ c, ¬ c = 45 → zu m' 45 54 t c = m' c := fun c hc => zu_f hc
          have s2k : ∀ c, ¬ (c = 45 ∨ c = 78 ∨ c = 79) → zu m' 45 54 t c = m c := fun c hc => by rw [es2 c (by omega), n1.1.1 c hc, ek c (by omega)]
          rw [es2 79 (by omega), s2k 75 (by omega), s2k 65 (by omega), s2k 76 (by omega)]
          generalize ep : m' 79 t = p at *
          have wp := n1.2.2.2.2 p p1 p2 p3
          obtain ⟨g1, g2, g3, g4, g5, g6⟩ := hU p (rU p wp)
          unfold tI at g2 g3 g4
          have h22 := n1.2.2.1
          have S2 : NI (reachM m) m0 (zu m' 45 54 t) := by
            refine ⟨⟨fun c hc => by rw [zu_f (by omega)]; exact n1.1.1 c hc, fun j hj => by rw [zu_n hj]; exact n1.1.2 j hj⟩, by rw [es2 78 (by omega)]; exact n1.2.1, by rw [et', es2 78 (by omega)]; omega, fun j q1 q2 => ?_, by rw [es2 78 (by omega)]; exact n1.2.2.2.2⟩
            rw [et'] at q2
            rw [es2 79 (by omega), es2 78 (by omega)]
            exact n1.2.2.2.1 j q1 (by omega)
          -- behind both halves
          have fin : ∀ m4, NI (reachM m) m0 m4 → NL (zu m' 45 54 t) m4 → (0 < m 65 (m 75 p) → 0 ≤ m 76 p → m4 78 (m 76 p) = 1) → (0 < m 66 (m 75 p) → 0 ≤ m 77 p → m4 78 (m 77 p) = 1) → w_140_171 X m4 Q := by
            intro m4 r1 r2 r3 r4
            obtain ⟨l1, l2, l3, l4, l5⟩ := r2
            rw [es2 78 (by omega), et'] at l5
            rw [es2 78 (by omega)] at l1 l4
            rw [et'] at l2 l3 l4
            rw [es2 79 (by omega)] at l3
            refine w_140_171_i (ih m4 r1 (fun u hu => ?_) (by omega) (fun u y1 y2 y3 => ?_))
            · have := (hU _ (hr _ hu)).1
              exact l1 u this.1 this.2 (n2 u hu)
            · rcases l4 u y1 y2 y3 with w | ⟨x, w0, w1, w2, w3⟩
              · rcases n4 u y1 y2 w with ⟨x, c1, c2, c3⟩ | ⟨c1, c2⟩
                · by_cases e : x = t
                  · rw [e, ep] at c3
                    rw [← c3]
                    exact Or.inr ⟨r3, r4⟩
                  · exact Or.inl ⟨x, c1, by omega, by rw [l3 x c1 (by omega)]; exact c3⟩
                · obtain ⟨-, -, -, -, h5, h6⟩ := hU u (rU u (n1.2.2.2.2 u y1 y2 w))
                  refine Or.inr ⟨fun d1 d2 => ?_, fun d1 d2 => ?_⟩
                  · rcases h5 d1 with d | d
                    · omega
                    · have := (hU _ d).1
                      exact l1 _ this.1 this.2 (c1 d1 d2)
                  · rcases h6 d1 with d | d
                    · omega
                    · have := (hU _ d).1
                      exact l1 _ this.1 this.2 (c2 d1 d2)
              · exact Or.inl ⟨x, w0, w2, w3⟩
          have right : ∀ m3, NI (reachM m) m0 m3 → NL (zu m' 45 54 t) m3 → (0 < m 65 (m 75 p) → 0 ≤ m 76 p → m3 78 (m 76 p) = 1) → w_140_147 X p m3 Q := by
            intro m3 r1 r2 r3
            have k3 : ∀ c, ¬ (c = 45 ∨ c = 78 ∨ c = 79) → m3 c = m c := fun c hc => by rw [r1.1.1 c hc, ek c (by omega)]
            refine w_140_147_i ⟨by omega, ?_⟩
            rw [k3 75 (by omega), k3 66 (by omega), k3 77 (by omega)]
            refine ⟨by omega, by omega, fun c => fin m3 r1 r2 r3 (fun d => by omega), fun c => ⟨by omega, ?_⟩⟩
            refine k_142 r1 ?_ (fun m4 o1 o2 o3 => fin m4 o1 (r2.tr o2) (fun d1 d2 => ?_) (fun _ d2 => o3 d2))
            · rcases g6 (by omega) with d | d
              · exact Or.inl d
              · have := (hU _ d).1
                exact Or.inr ⟨this.1, this.2, (rL p p1 p2 wp).2 (by omega) this.1⟩
            · rcases g5 d1 with d | d
              · omega
              · have := (hU _ d).1
                exact o2.1 _ this.1 this.2 (r3 d1 d2)
          refine ⟨by omega, by omega, by omega, by omega, fun c => right _ S2 NL.rf (fun d => by omega), fun c => ⟨by omega, ?_⟩⟩
          refine k_142 S2 ?_ (fun m3 o1 o2 o3 => right m3 o1 o2 (fun _ d2 => o3 d2))
          rcases g5 (by omega) with d | d
          · exact Or.inl d
          · have := (hU _ d).1
            exact Or.inr ⟨this.1, this.2, (rL p p1 p2 wp).1 (by omega) this.1⟩
      have loop : ∀ d : Nat, ∀ (j : Int) (m' : zS), 0 ≤ j → j + d = m 45 56 + 1 → NI (reachM m) m0 m' →
          (∀ g, 0 ≤ g → g < j → (∀ k : Nat, k < 8 → tb (m 61 (atM m g)) k = true → 0 ≤ m0 82 (8 * g + k) → m' 78 (m0 82 (8 * g + k)) = 1) ∧ (∀ k : Nat, (k : Int) < m0 81 g → tb (m 62 (atM m g)) k = true → 0 ≤ m0 83 (16 * g + k) → m' 78 (m0 83 (16 * g + k)) = 1)) →
          (∀ u, 0 ≤ u → u < 200 → m' 78 u = 1 → ∃ j, 0 ≤ j ∧ j < m' 45 54 ∧ m' 79 j = u) → w_140_39 X j m' Q := by
        intro d
        induction d with
        | zero =>
          intro j m' h0 hj m1 m2 m3
          have x56 : m' 45 56 = m 45 56 := by rw [m1.1.2 56 (by omega), e56]
          have hc := m1.c
          refine w_140_39_i ⟨by rw [x56]; omega, fun _ => close 400 m' m1 (fun u hu => ?_) (by have := m1.2.2.1; omega) (fun u p q w => Or.inl (m3 u p q w)), fun q => by rw [x56] at q; omega⟩
          obtain ⟨nz, g, q1, q2, q3⟩ := hu
          obtain ⟨c1, c2⟩ := m2 g q1 (by omega)
          rcases q3 with ⟨k, r1, r2, r3⟩ | ⟨k, r1, r2, r3⟩
          · have := c1 k r1 r2 (by rw [ek 82 (by omega), r3]; exact nz)
            rw [ek 82 (by omega), r3] at this; exact this
          · have := c2 k (by rw [ek 81 (by omega)]; exact r1) r2 (by rw [ek 83 (by omega), r3]; exact nz)
            rw [ek 83 (by omega), r3] at this; exact this
        | succ d ih =>
          intro j m' h0 hj m1 m2 m3
          have x56 : m' 45 56 = m 45 56 := by rw [m1.1.2 56 (by omega), e56]
          have x57 : m' 45 57 = m 45 57 := by rw [m1.1.2 57 (by omega), e45 57 (by omega)]
          have x80 : m' 80 = m 80 := by rw [m1.1.1 80 (by omega), ek 80 (by omega)]
          have x61 : m' 61 = m 61 := by rw [m1.1.1 61 (by omega), ek 61 (by omega)]
          have x62 : m' 62 = m 62 := by rw [m1.1.1 62 (by omega), ek 62 (by omega)]
          have body : w_140_72 X j (atM m j) m' Q := by
            refine w_140_72_i ⟨hat j h0 (by omega), hat j h0 (by omega), ?_⟩
            rw [x61, x62]
            refine k_141 (m0 := m0) (W := reachM m) (by omega) (by rw [ek 81 (by omega)]; exact hH j h0 (by omega)) (slot j h0 (by omega)) (pile j h0 (by omega)) m1 (fun m2' n1 n2 n3 n4 => ih (j + 1) m2' (by omega) (by omega) n1 (fun g q1 q2 => ?_) (fun u q1 q2 q3 => ?_))
            · by_cases e : g = j
              · subst e; exact ⟨n3, n4⟩
              · obtain ⟨c1, c2⟩ := m2 g q1 (by omega)
                refine ⟨fun k r1 r2 r3 => ?_, fun k r1 r2 r3 => ?_⟩
                · rcases slot g q1 (by omega) k r1 r2 with w | w
                  · omega
                  · exact n2.1 _ w.1 w.2.1 (c1 k r1 r2 r3)
                · rcases pile g q1 (by omega) k r1 r2 with w | w
                  · omega
                  · exact n2.1 _ w.1 w.2.1 (c2 k r1 r2 r3)
            · rcases n2.2.2.2.1 u q1 q2 q3 with w | ⟨x, w0, w1, w2, w3⟩
              · obtain ⟨x, y1, y2, y3⟩ := m3 u q1 q2 w
                exact ⟨x, y1, by have := n2.2.1; omega, by rw [n2.2.2.1 x y1 y2]; exact y3⟩
              · exact ⟨x, w0, w2, w3⟩
          refine w_140_39_i ⟨by rw [x56]; omega, fun q => by rw [x56] at q; omega, fun _ => ⟨by rw [x56]; omega, fun q => ⟨?_, ?_⟩, fun q => ?_⟩⟩
          · rw [x56] at q; omega
          · rw [x56] at q
            rw [x80, show m 80 (j + 1) - 1 = atM m j by rw [atM, if_neg q]]
            exact body
          · rw [x56] at q
            rw [x57, show m 45 57 = atM m j by rw [atM, if_pos (Classical.not_not.mp q)]]
            exact body
      exact loop (m 45 56 + 1).toNat 0 m0 (by omega) (by omega) start (fun g q1 q2 => by omega) (fun u q1 q2 q3 => by rw [e78 u q1 q2] at q3; omega)
    | succ d ih =>
      intro j m' h0 hj f1 f2 f3 f4
      refine w_140_12_i ⟨by omega, fun q => by omega, fun _ => ⟨by omega, ?_⟩⟩
      rintro _ rfl
      refine ih (j + 1) _ (by omega) (by omega) (fun c hc => by rw [zu_f (by omega)]; exact f1 c hc) (fun x hx => by rw [zu_g (by decide)]; exact f2 x hx) (by rw [zu_g (by decide)]; exact f3) (fun p q1 q2 => ?_)
      by_cases e : p = j
      · rw [e, zu_s]
      · rw [zu_n e]; exact f4 p q1 (by omega)
  exact wipe 200 0 _ (by omega) rfl (fun c hc => zu_f (by omega)) (fun x hx => zu_n hx) zu_s (fun p q1 q2 => by omega)
end
