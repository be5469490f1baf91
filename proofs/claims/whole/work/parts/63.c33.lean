section
variable {s m z : zS} {N i : Int} {X : zX} {Q : Int → zS → Prop} {G : Int → Nat → Int → Int}
theorem p_127l (hN : 0 ≤ N ∧ N ≤ 400) (hop : ∀ i, 0 ≤ i → i < N → 0 ≤ m 58 i ∧ m 58 i ≤ 18) (ht : ∀ i, 0 ≤ i → i < N → m 58 i = 10 ∨ m 58 i = 11 → i < m 59 i ∧ m 59 i ≤ N)
    (g : ∀ m', (∀ k, ¬ (k = 61 ∨ k = 63) → m' k = m k) → LV m m' N → Q 0 m') (d : Nat) :
    ∀ (i : Int) (m' : zS), i + 1 = d → i < N → (∀ k, ¬ (k = 61 ∨ k = 63) → m' k = m k) → m' 63 N = 0 → (∀ j, j ≤ i → m' 61 j = m 61 j) → (∀ j, i < j → j < N → m' 63 j = afM m' j (bhM m' j) ∧ m' 61 j = zA (m 61 j) (bhM m' j)) → w_127_17 X i m' Q := by
  induction d with
  | zero =>
    intro i s' h0 h1 h2 h3 h5 h4
    exact w_127_17_i ⟨by omega, fun _ => g s' h2 ⟨h3, fun j a b => h4 j (by omega) b⟩, fun q => by omega⟩
  | succ d ih =>
    intro i s' h0 h1 h2 h3 h5 h4
    have o := hop i (by omega) h1
    have t := ht i (by omega) h1
    have e58 : s' 58 = m 58 := h2 58 (by omega)
    have e59 : s' 59 = m 59 := h2 59 (by omega)
    have o' : 0 ≤ s' 58 i ∧ s' 58 i ≤ 18 := by rw [e58]; exact o
    have t' : s' 58 i = 10 ∨ s' 58 i = 11 → 0 ≤ s' 59 i ∧ s' 59 i < 401 := by rw [e58, e59]; intro q; have := t q; omega
    have fin : w_127_154 X i (afM s' i (bhM s' i)) (zu s' 61 i (zA (s' 61 i) (bhM s' i))) Q := by
      refine w_127_154_i ⟨by omega, ?_⟩
      rintro _ rfl
      have bh : ∀ j, i ≤ j → j < N → bhM (zu (zu s' 61 i (zA (s' 61 i) (bhM s' i))) 63 i (afM s' i (bhM s' i))) j = bhM s' j := by
        intro j a b
        have tj := ht j (by omega) b
        refine bhM_c (by rw [zu_g (by decide), zu_g (by decide)]) (by rw [zu_g (by decide), zu_g (by decide)]) (by rw [zu_n (by omega), zu_g (by decide)]) (fun q => ?_)
        rw [e58] at q
        rw [e59, zu_n (by have := tj q; omega), zu_g (by decide)]
      refine ih (i + -1) _ (by omega) (by omega) (fun k hk => by rw [zu_f (by omega), zu_f (by omega)]; exact h2 k hk) (by rw [zu_n (by omega), zu_g (by decide)]; exact h3) (fun j a => by rw [zu_g (by decide), zu_n (by omega)]; exact h5 j (by omega)) (fun j a b => ?_)
      have af : afM (zu (zu s' 61 i (zA (s' 61 i) (bhM s' i))) 63 i (afM s' i (bhM s' i))) j (bhM s' j) = afM s' j (bhM s' j) := afM_c (by rw [zu_g (by decide), zu_g (by decide)]) (by rw [zu_g (by decide), zu_g (by decide)])
      rw [bh j (by omega) b, af, zu_g (k := 61) (by decide)]
      by_cases e : j = i
      · subst e
        rw [zu_s, zu_s, h5 j (by omega)]
        exact ⟨rfl, rfl⟩
      · rw [zu_n e, zu_n e, zu_g (by decide)]
        exact h4 j (by omega) b
    have p95 : w_127_95 X i (bhM s' i) s' Q := by
      refine w_127_95_i ⟨by omega, by omega, ?_⟩
      rintro _ rfl
      rw [zu_g (k := 58) (by decide), zu_g (k := 59) (by decide)]
      refine ⟨by omega, by omega, fun q => w_127_130_i ⟨by omega, ?_⟩, fun q => ⟨by omega, w_127_130_i ⟨by omega, ?_⟩⟩⟩
      · rw [zu_g (k := 58) (by decide), zu_g (k := 59) (by decide)]
        refine ⟨by omega, fun q' => ?_, fun q' => ⟨by omega, ?_⟩⟩
        · simp only [afM] at fin; rw [if_neg q, if_neg q'] at fin; exact fin
        · simp only [afM, cl] at fin; rw [if_neg q, if_pos (by omega)] at fin; exact fin
      · rw [zu_g (k := 58) (by decide), zu_g (k := 59) (by decide)]
        refine ⟨by omega, fun q' => ?_, fun q' => by omega⟩
        simp only [afM] at fin; rw [if_pos (by omega)] at fin; exact fin
    have b95 : ∀ v, v = bhM s' i → w_127_95 X i v s' Q := fun v h => by rw [h]; exact p95
    refine w_127_17_i ⟨by omega, fun q => by omega, fun _ => ⟨by omega, by omega, fun q => ⟨by omega, by omega, fun q' => ⟨by omega, w_127_69_i ⟨by omega, by omega, fun q'' => b95 _ ?_, fun q'' => ⟨by omega, t' (by omega), b95 _ ?_⟩⟩⟩, fun q' => ⟨by omega, t' (by omega), w_127_69_i ⟨by omega, by omega, fun q'' => b95 _ ?_, fun q'' => by omega⟩⟩⟩, fun q => w_127_69_i ⟨by omega, by omega, fun q'' => b95 _ ?_, fun q'' => by omega⟩⟩⟩
    · rw [bhM, if_neg q, if_neg q', if_neg q'']
    · rw [bhM, if_neg q, if_neg q', if_pos (by omega)]
    · rw [bhM, if_neg q, if_pos (by omega)]
    · rw [bhM, if_pos (by omega)]
theorem p_127 (e : m 45 16 = N) (hN : 0 ≤ N ∧ N ≤ 400) (hop : ∀ i, 0 ≤ i → i < N → 0 ≤ m 58 i ∧ m 58 i ≤ 18) (ht : ∀ i, 0 ≤ i → i < N → m 58 i = 10 ∨ m 58 i = 11 → i < m 59 i ∧ m 59 i ≤ N)
    (g : ∀ m', (∀ k, ¬ (k = 61 ∨ k = 63) → m' k = m k) → LV m m' N → Q 0 m') : w_127 X m Q := by
  refine w_127_i ⟨by omega, ?_⟩
  rintro _ rfl
  rw [zu_g (by decide), e]
  refine p_127l (m := m) hN hop ht g N.toNat (N - 1) _ (by omega) (by omega) (fun k hk => zu_f (by omega)) zu_s (fun j _ => zu_g (by decide)) (fun j a b => by omega)
-- where a slot still matters, it is set
def lvk (m : zS) (G : Int → Nat → Int → Int) (i : Int) : Prop := ∀ k, k < 32 → tb (m 63 i) k = true → k < 8 ∧ 0 ≤ G i 2 k
theorem tb_cl {x v : Int} {k : Nat} (hx : 0 ≤ x ∧ x < 16) (h : k < 32) : tb (cl x v) k = (tb v k && !decide ((k : Int) = x)) := by
  rw [cl, tb_A, tb_E, tb_L hx h, tb_m h]
  cases tb v k <;> cases decide ((k : Int) = x) <;> rfl
-- the one follower of most instructions
theorem okI_nx {o v tk : Int} (h : okI z G i o v tk) (h1 : ¬ o = 10) (h2 : ¬ o = 11) (h3 : ¬ o = 14) : ∃ p q t, nx (G i) (G (i + 1)) (fun k => if o = 12 ∧ k = v then top (G i) 1 else G i 2 k) p q t := by
  obtain ⟨g0, g1, g2, g3, g4, g5, g6, g7, g8, g9, g10, g11, g12, g13, g14, g15, g16, g17, -⟩ := h
  have cc : o = 0 ∨ o = 1 ∨ o = 2 ∨ (o = 3 ∨ o = 4 ∨ o = 5) ∨ o = 6 ∨ o = 7 ∨ o = 8 ∨ o = 9 ∨ o = 12 ∨ o = 13 ∨ o = 15 ∨ o = 16 ∨ o = 17 ∨ o = 18 := by clear g0 g1 g2 g3 g4 g5 g6 g7 g8 g9 g10 g11 g12 g13 g14 g15 g16; omega
  have L : ∀ {p q t : Int}, ¬ o = 12 → nx (G i) (G (i + 1)) (G i 2) p q t → ∃ p q t, nx (G i) (G (i + 1)) (fun k => if o = 12 ∧ k = v then top (G i) 1 else G i 2 k) p q t := by
    intro p q t hn h
    exact ⟨p, q, t, h.L (fun k _ _ => by rw [if_neg (fun q => hn q.1)])⟩
  rcases cc with q | q | q | q | q | q | q | q | q | q | q | q | q | q
  · exact L (by omega) (g0 q).2
  · obtain ⟨t, -, h⟩ := g1 q
    exact L (by omega) h
  · exact L (by omega) (g2 q).2.2
  · exact L (by omega) (g3 q).2.2
  · exact L (by omega) (g4 q).2.2.2
  · exact L (by omega) (g5 q).2
  · exact L (by omega) (g6 q).2
  · exact L (by omega) (g7 q).2
  · refine ⟨_, _, _, (g10 q).2.L (fun k _ _ => ?_)⟩
    by_cases e : k = v
    · rw [if_pos e, if_pos ⟨q, e⟩]
    · rw [if_neg e, if_neg (fun h => e h.2)]
  · exact L (by omega) (g11 q).2.2.2.2
  · exact L (by omega) (g13 q).2.2
  · exact L (by omega) (g14 q).2.2
  · exact L (by omega) (g15 q).2
  · exact L (by omega) (g16 q)
-- the two sides' bits at a place
def two (s m : zS) (G : Int → Nat → Int → Int) (i : Int) : Prop := ∀ k, k < 32 → tb (s 30 i) k = (tb (m 63 i) k && decide (0 < G i 2 k))
theorem follow {E E' : Nat → Int → Int} {L : Int → Int} {p q t a b : Int} (h : nx E E' L p q t) (h1 : ∀ k, k < 32 → tb b k = true → k < 8 ∧ 0 ≤ E' 2 k) (h2 : ∀ k, k < 32 → tb a k = (tb b k && decide (0 < E' 2 k))) :
    (∀ k : Nat, k < 32 → tb b k = true → k < 8 ∧ 0 ≤ L k) ∧ (∀ k : Nat, k < 32 → tb a k = (tb b k && decide (0 < L k))) := by
  have e : ∀ k : Nat, k < 32 → tb b k = true → E' 2 k = L k := by
    intro k hk hb
    have := h1 k hk hb
    rcases h.2.2.2.2.1 k (by omega) (by omega) with q | q
    · exact q
    · omega
  refine ⟨fun k hk hb => ?_, fun k hk => ?_⟩
  · rw [← e k hk hb]; exact h1 k hk hb
  · rw [h2 k hk]
    cases hb : tb b k
    · rfl
    · rw [e k hk hb]
theorem live {m0 : zS} (F : fseg z m G N) (lv : LV m0 m N) (lc : LC s N) (cd : ∀ i, 0 ≤ i → i < N → s 15 i = m 58 i ∧ s 16 i = m 59 i ∧ (m 58 i = 2 → s 29 i = if G i 2 (m 59 i) ≤ 0 then 0 else zL 1 (m 59 i))) (d : Nat) :
    ∀ i, 0 ≤ i → i < N → N ≤ i + d → (lvk m G i ∧ two s m G i) ∧ (∀ k : Nat, k < 32 → tb (bhM m i) k = true → k < 8 ∧ 0 ≤ (if m 58 i = 12 ∧ (k : Int) = m 59 i then top (G i) 1 else G i 2 k)) ∧ (∀ k : Nat, k < 32 → tb (bhC s i) k = (tb (bhM m i) k && decide (0 < (if m 58 i = 12 ∧ (k : Int) = m 59 i then top (G i) 1 else G i 2 k)))) := by
  induction d with
  | zero => intro i a b c; omega
  | succ d ih =>
    intro i h0 h1 hd
    obtain ⟨ok, tg, nxt⟩ := F i h0 h1
    obtain ⟨c1, c2, c3⟩ := cd i h0 h1
    obtain ⟨l1, l2⟩ := lv.2 i h0 h1
    obtain ⟨k1, k2⟩ := lc.2 i h0 h1
    have ok' := ok
    obtain ⟨g0, g1, g2, g3, g4, g5, g6, g7, g8, g9, g10, g11, g12, g13, g14, g15, g16, g17, -⟩ := ok'
    -- behind it
    have B : (∀ k : Nat, k < 32 → tb (bhM m i) k = true → k < 8 ∧ 0 ≤ (if m 58 i = 12 ∧ (k : Int) = m 59 i then top (G i) 1 else G i 2 k)) ∧ (∀ k : Nat, k < 32 → tb (bhC s i) k = (tb (bhM m i) k && decide (0 < (if m 58 i = 12 ∧ (k : Int) = m 59 i then top (G i) 1 else G i 2 k)))) := by
      by_cases q14 : m 58 i = 14
      · rw [bhM, bhC, c1, if_pos q14, if_pos q14]
        refine ⟨fun k hk h => ?_, fun k hk => ?_⟩
        · rw [tb_0] at h; exact absurd h (by decide)
        · rw [tb_0]; rfl
      by_cases q11 : m 58 i = 11
      · obtain ⟨t1, t2⟩ := g9 q11
        have t3 := tg (Or.inr q11)
        obtain ⟨⟨j1, j2⟩, -⟩ := ih (m 59 i) (by omega) t3 (by omega)
        rw [bhM, bhC, c1, c2, if_neg q14, if_neg q14, if_pos q11, if_pos q11]
        have := follow t2 j1 j2
        refine ⟨fun k hk h => ?_, fun k hk => ?_⟩
        · rw [if_neg (by omega)]; exact this.1 k hk h
        · rw [if_neg (by omega)]; exact this.2 k hk
      by_cases q10 : m 58 i = 10
      · obtain ⟨-, t1, t2, t4⟩ := g8 q10
        have t3 := tg (Or.inl q10)
        have t5 := nxt q14
        obtain ⟨⟨j1, j2⟩, -⟩ := ih (m 59 i) (by omega) t3 (by omega)
        obtain ⟨⟨j3, j4⟩, -⟩ := ih (i + 1) (by omega) t5 (by omega)
        rw [bhM, bhC, c1, c2, if_neg q14, if_neg q14, if_neg q11, if_neg q11, if_pos q10, if_pos q10]
        have f1 := follow t4 j1 j2
        have f2 := follow t1 j3 j4
        refine ⟨fun k hk h => ?_, fun k hk => ?_⟩
        · rw [if_neg (by omega)]
          rw [tb_O] at h
          cases hb : tb (m 63 (i + 1)) k
          · rw [hb] at h; exact f1.1 k hk h
          · exact f2.1 k hk hb
        · rw [if_neg (by omega), tb_O, tb_O, f1.2 k hk, f2.2 k hk]
          cases tb (m 63 (i + 1)) k <;> cases tb (m 63 (m 59 i)) k <;> cases decide (0 < G i 2 k) <;> rfl
      · have t5 := nxt q14
        obtain ⟨⟨j3, j4⟩, -⟩ := ih (i + 1) (by omega) t5 (by omega)
        obtain ⟨p, q, t, hn⟩ := okI_nx ok q10 q11 q14
        rw [bhM, bhC, c1, if_neg q14, if_neg q14, if_neg q11, if_neg q11, if_neg q10, if_neg q10]
        exact follow hn j3 j4
    refine ⟨?_, B⟩
    obtain ⟨B1, B2⟩ := B
    by_cases q2 : m 58 i = 2
    · obtain ⟨v1, v2, -⟩ := g2 q2
      have c3 := c3 q2
      refine ⟨fun k hk h => ?_, fun k hk => ?_⟩
      · rw [l1, afM, if_pos q2, tb_O, tb_L (by omega) hk] at h
        by_cases e : (k : Int) = m 59 i
        · rw [e]; exact ⟨by omega, v2⟩
        · rw [decide_eq_false e, Bool.or_false] at h
          have := B1 k hk h
          rw [if_neg (by omega)] at this
          exact this
      · rw [l1, k1, afM, afC, c1, if_pos q2, if_pos q2, tb_O, tb_O, B2 k hk, c3, tb_L (by omega) hk, if_neg (show ¬ (m 58 i = 12 ∧ (k : Int) = m 59 i) by omega)]
        by_cases e : (k : Int) = m 59 i
        · rw [e]
          by_cases e2 : G i 2 (m 59 i) ≤ 0
          · rw [if_pos e2, tb_0, decide_eq_false (show ¬ 0 < G i 2 (m 59 i) by omega)]
            cases tb (bhM m i) k <;> simp
          · rw [if_neg e2, tb_L (by omega) hk, decide_eq_true (show 0 < G i 2 (m 59 i) by omega), e]
            cases tb (bhM m i) k <;> simp
        · have t0 : tb (if G i 2 (m 59 i) ≤ 0 then 0 else zL 1 (m 59 i)) k = false := by
            split
            · exact tb_0
            · rw [tb_L (by omega) hk, decide_eq_false e]
          rw [t0, decide_eq_false e]
          simp
    · by_cases q12 : m 58 i = 12
      · obtain ⟨v1, -⟩ := g10 q12
        refine ⟨fun k hk h => ?_, fun k hk => ?_⟩
        · rw [l1, afM, if_neg q2, if_pos q12, tb_cl (by omega) hk] at h
          by_cases e : (k : Int) = m 59 i
          · rw [decide_eq_true e] at h; simp at h
          · rw [decide_eq_false e] at h
            have := B1 k hk (by simpa using h)
            rw [if_neg (fun w => e w.2)] at this
            exact this
        · rw [l1, k1, afM, afC, c1, c2, if_neg q2, if_neg q2, if_pos q12, if_pos q12, tb_cl (by omega) hk, tb_cl (by omega) hk, B2 k hk]
          by_cases e : (k : Int) = m 59 i
          · rw [decide_eq_true e]; simp
          · rw [decide_eq_false e, if_neg (fun w => e w.2)]
            simp
      · refine ⟨fun k hk h => ?_, fun k hk => ?_⟩
        · rw [l1, afM, if_neg q2, if_neg q12] at h
          have := B1 k hk h
          rw [if_neg (fun w => q12 w.1)] at this
          exact this
        · rw [l1, k1, afM, afC, c1, if_neg q2, if_neg q2, if_neg q12, if_neg q12, B2 k hk, if_neg (fun w => q12 w.1)]
end
