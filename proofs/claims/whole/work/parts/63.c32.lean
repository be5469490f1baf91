def cl (x v : Int) : Int := zA v (zE (zL 1 x) (-1))
def bhC (s : zS) (i : Int) : Int := if s 15 i = 14 then 0 else if s 15 i = 11 then s 30 (s 16 i) else if s 15 i = 10 then zO (s 30 (i + 1)) (s 30 (s 16 i)) else s 30 (i + 1)
def afC (s : zS) (i v : Int) : Int := if s 15 i = 2 then zO v (s 29 i) else if s 15 i = 12 then cl (s 16 i) v else v
def LC (s : zS) (N : Int) : Prop := s 30 N = 0 ∧ ∀ i, 0 ≤ i → i < N → s 30 i = afC s i (bhC s i) ∧ (s 15 i = 6 ∨ s 15 i = 13 → s 17 i = bhC s i)
def bhM (s : zS) (i : Int) : Int := if s 58 i = 14 then 0 else if s 58 i = 11 then s 63 (s 59 i) else if s 58 i = 10 then zO (s 63 (i + 1)) (s 63 (s 59 i)) else s 63 (i + 1)
def afM (s : zS) (i v : Int) : Int := if s 58 i = 2 then zO v (zL 1 (s 59 i)) else if s 58 i = 12 then cl (s 59 i) v else v
def LV (m0 s : zS) (N : Int) : Prop := s 63 N = 0 ∧ ∀ i, 0 ≤ i → i < N → s 63 i = afM s i (bhM s i) ∧ s 61 i = zA (m0 61 i) (bhM s i)
section
variable {s m : zS} {N i : Int} {X : zX} {Q : Int → zS → Prop}
theorem p_40 (hi : 0 ≤ i ∧ i < 400) (hr : 0 ≤ s 15 i ∧ s 15 i ≤ 18) (k1 : (s 15 i = 6 ∨ s 15 i = 13) → Q 1 s) (k0 : ¬ (s 15 i = 6 ∨ s 15 i = 13) → Q 0 s) : w_40 X i s Q := by
  refine w_40_i ?_
  repeat' (first | (intro h) | refine And.intro ?_ ?_ | apply w_40_22_i)
  all_goals (first | omega | (apply k1; omega) | (apply k0; omega))
theorem p_65 (hi : 0 ≤ i ∧ i < 400) (hr : 0 ≤ s 15 i ∧ s 15 i ≤ 18) (ht : s 15 i = 10 ∨ s 15 i = 11 → 0 ≤ s 16 i ∧ s 16 i < 401) (k : Q (bhC s i) s) : w_65 X i s Q := by
  refine w_65_i ⟨hi, by omega, fun q => ⟨by omega, ?_⟩, fun q => ⟨by omega, hi, ht (Or.inl q), ?_⟩, fun q => ⟨hi, ht (Or.inr q), ?_⟩, fun q => ?_⟩
  · rw [bhC, if_neg q.2.2, if_neg q.2.1, if_neg q.1] at k; exact k
  · rw [bhC, if_neg (by omega), if_neg (by omega), if_pos q] at k; exact k
  · rw [bhC, if_neg (by omega), if_pos q] at k; exact k
  · rw [bhC, if_pos q] at k; exact k
theorem bhC_c {s' : zS} (e15 : s' 15 i = s 15 i) (e16 : s' 16 i = s 16 i) (h1 : s' 30 (i + 1) = s 30 (i + 1)) (h2 : s 15 i = 10 ∨ s 15 i = 11 → s' 30 (s 16 i) = s 30 (s 16 i)) : bhC s' i = bhC s i := by
  unfold bhC
  simp only [e15, e16, h1]
  split
  · rfl
  · split
    · next q => exact h2 (Or.inr q)
    · split
      · next q => rw [h2 (Or.inl q)]
      · rfl
theorem afC_c {s' : zS} {v : Int} (e15 : s' 15 i = s 15 i) (e16 : s' 16 i = s 16 i) (e29 : s' 29 i = s 29 i) : afC s' i v = afC s i v := by
  unfold afC
  simp only [e15, e16, e29]
theorem bhM_c {s' : zS} (e15 : s' 58 i = s 58 i) (e16 : s' 59 i = s 59 i) (h1 : s' 63 (i + 1) = s 63 (i + 1)) (h2 : s 58 i = 10 ∨ s 58 i = 11 → s' 63 (s 59 i) = s 63 (s 59 i)) : bhM s' i = bhM s i := by
  unfold bhM
  simp only [e15, e16, h1]
  split
  · rfl
  · split
    · next q => exact h2 (Or.inr q)
    · split
      · next q => rw [h2 (Or.inl q)]
      · rfl
theorem afM_c {s' : zS} {v : Int} (e15 : s' 58 i = s 58 i) (e16 : s' 59 i = s 59 i) : afM s' i v = afM s i v := by
  unfold afM
  simp only [e15, e16]
theorem p_64l (hN : 0 ≤ N ∧ N ≤ 400) (hop : ∀ i, 0 ≤ i → i < N → 0 ≤ s 15 i ∧ s 15 i ≤ 18) (ht : ∀ i, 0 ≤ i → i < N → s 15 i = 10 ∨ s 15 i = 11 → i < s 16 i ∧ s 16 i ≤ N)
    (g : ∀ s', (∀ k, ¬ (k = 17 ∨ k = 30) → s' k = s k) → LC s' N → Q 0 s') (d : Nat) :
    ∀ (i : Int) (s' : zS), i + 1 = d → i < N → (∀ k, ¬ (k = 17 ∨ k = 30) → s' k = s k) → s' 30 N = 0 → (∀ j, i < j → j < N → s' 30 j = afC s' j (bhC s' j) ∧ (s' 15 j = 6 ∨ s' 15 j = 13 → s' 17 j = bhC s' j)) → w_64_23 X i s' Q := by
  induction d with
  | zero =>
    intro i s' h0 h1 h2 h3 h4
    exact w_64_23_i ⟨by omega, fun _ => g s' h2 ⟨h3, fun j a b => h4 j (by omega) b⟩, fun q => by omega⟩
  | succ d ih =>
    intro i s' h0 h1 h2 h3 h4
    have o := hop i (by omega) h1
    have t := ht i (by omega) h1
    have e15 : s' 15 = s 15 := h2 15 (by omega)
    have e16 : s' 16 = s 16 := h2 16 (by omega)
    have e29 : s' 29 = s 29 := h2 29 (by omega)
    -- what happens behind the map
    have step : ∀ s1 : zS, (∀ k, ¬ (k = 17 ∨ k = 30) → s1 k = s k) → s1 30 = s' 30 → (∀ j, i < j → s1 17 j = s' 17 j) → (s1 15 i = 6 ∨ s1 15 i = 13 → s1 17 i = bhC s' i) → w_64_54 X i (bhC s' i) s1 Q := by
      intro s1 f1 f2 f3 f4
      have g15 : s1 15 = s 15 := f1 15 (by omega)
      have g16 : s1 16 = s 16 := f1 16 (by omega)
      have g29 : s1 29 = s 29 := f1 29 (by omega)
      have fin : w_64_106 X i (afC s' i (bhC s' i)) s1 Q := by
        refine w_64_106_i ⟨by omega, ?_⟩
        rintro _ rfl
        have bh : ∀ j, i ≤ j → j < N → bhC (zu s1 30 i (afC s' i (bhC s' i))) j = bhC s' j := by
          intro j a b
          have tj := ht j (by omega) b
          refine bhC_c (by rw [zu_g (by decide), g15, e15]) (by rw [zu_g (by decide), g16, e16]) (by rw [zu_n (by omega), f2]) (fun q => ?_)
          rw [e15] at q
          rw [e16, zu_n (by have := tj q; omega), f2]
        refine ih (i + -1) _ (by omega) (by omega) (fun k hk => by rw [zu_f (by omega)]; exact f1 k hk) (by rw [zu_n (by omega), f2]; exact h3) (fun j a b => ?_)
        rw [bh j (by omega) b]
        have af : afC (zu s1 30 i (afC s' i (bhC s' i))) j (bhC s' j) = afC s' j (bhC s' j) := by
          exact afC_c (by rw [zu_g (by decide), g15, e15]) (by rw [zu_g (by decide), g16, e16]) (by rw [zu_g (by decide), g29, e29])
        rw [af, zu_f (k := 15) (by decide), zu_f (k := 17) (by decide), g15]
        by_cases e : j = i
        · subst e
          rw [zu_s]
          refine ⟨rfl, fun q => f4 (by rw [g15]; exact q)⟩
        · rw [zu_n e, f2, f3 j (by omega)]
          have := h4 j (by omega) b
          rw [e15] at this
          exact this
      refine w_64_54_i ⟨by omega, ?_⟩
      rw [g15, g16]
      refine ⟨by omega, fun q => w_64_84_i ⟨by omega, ?_⟩, fun q => ⟨by omega, w_64_84_i ⟨by omega, ?_⟩⟩⟩
      · rw [g15, g29]
        refine ⟨by omega, fun q' => ?_, fun q' => ⟨by omega, ?_⟩⟩
        · simp only [afC] at fin; rw [e15, if_neg q', if_neg q] at fin; exact fin
        · simp only [afC] at fin; rw [e15, e29, if_pos (by omega)] at fin; exact fin
      · rw [g15, g29]
        refine ⟨by omega, fun q' => ?_, fun q' => by omega⟩
        simp only [afC, cl] at fin; rw [e15, e16, if_neg q', if_pos (by omega)] at fin; exact fin
    refine w_64_23_i ⟨by omega, fun q => by omega, fun _ => p_65 (by omega) (by rw [e15]; exact o) (by rw [e15, e16]; intro q; have := t q; omega) (p_40 (by omega) (by rw [e15]; exact o) (fun q => ⟨by omega, fun q' => by omega, fun _ => ⟨by omega, ?_⟩⟩) (fun q => ⟨by omega, fun _ => ?_, fun q' => by omega⟩))⟩
    · rintro _ rfl
      refine step _ (fun k hk => by rw [zu_f (by omega)]; exact h2 k hk) (zu_f (by decide)) (fun j a => zu_n (by omega)) (fun _ => zu_s)
    · exact step s' h2 rfl (fun _ _ => rfl) (fun q' => absurd q' q)
theorem p_64 (e : s 14 1 = N) (hN : 0 ≤ N ∧ N ≤ 400) (hop : ∀ i, 0 ≤ i → i < N → 0 ≤ s 15 i ∧ s 15 i ≤ 18) (ht : ∀ i, 0 ≤ i → i < N → s 15 i = 10 ∨ s 15 i = 11 → i < s 16 i ∧ s 16 i ≤ N)
    (g : ∀ s', (∀ k, ¬ (k = 17 ∨ k = 30) → s' k = s k) → LC s' N → Q 0 s') : w_64 X s Q := by
  refine w_64_i ⟨by omega, ?_⟩
  rintro _ rfl
  rw [zu_g (by decide), e]
  exact p_64l hN hop ht g N.toNat (N - 1) _ (by omega) (by omega) (fun k hk => zu_f (by omega)) zu_s (fun j a b => by omega)
end
