def goL (f : Int) (m : zS) (f' : Int) (m' : zS) : Prop := ∀ a X Q, w_108_37 X f' (mx' a m') Q → w_108_37 X f (mx' a m) Q
theorem goL.rf {f : Int} {m : zS} : goL f m f m := fun _ _ _ h => h
theorem goL.tr {f f' f'' : Int} {m m' m'' : zS} (a : goL f m f' m') (b : goL f' m' f'' m'') : goL f m f'' m'' := fun x X Q h => a x X Q (b x X Q h)
section
variable {s m z : zS} {N n f x2 : Int} {X : zX} {Q : Int → zS → Prop} {G : Int → Nat → Int → Int}
theorem p_38l (s0 : zS) (g : ∀ s', (∀ k, ¬ k = 19 → s' k = s0 k) → (∀ j, 0 ≤ j → j < 6 → s' 19 j = -1) → Q 0 s') (d : Nat) :
    ∀ (j : Int) (s' : zS), 0 ≤ j → j + d = 6 → (∀ k, ¬ k = 19 → s' k = s0 k) → (∀ i, 0 ≤ i → i < j → s' 19 i = -1) → w_38_22 X j s' Q := by
  induction d with
  | zero =>
    intro j s' h0 hj h1 h2
    exact w_38_22_i ⟨by omega, fun _ => g s' h1 (fun i a b => h2 i a (by omega)), fun q => by omega⟩
  | succ d ih =>
    intro j s' h0 hj h1 h2
    refine w_38_22_i ⟨by omega, fun q => by omega, fun _ => ⟨by omega, ?_⟩⟩
    rintro _ rfl
    refine ih (j + 1) _ (by omega) (by omega) (fun k hk => by rw [zu_f hk, h1 k hk]) (fun i a b => ?_)
    by_cases e : i = j
    · rw [e, zu_s]
    · rw [zu_n e]; exact h2 i a (by omega)
theorem p_38 (g : ∀ s', (∀ k, ¬ (k = 14 ∨ k = 19) → s' k = s k) → s' 14 0 = 0 → s' 14 1 = 0 → s' 14 2 = 0 → (∀ j, 0 ≤ j → j < 6 → s' 19 j = -1) → Q 0 s') : w_38 X s Q := by
  refine w_38_i ?_
  rintro _ rfl _ rfl _ rfl _ rfl
  refine p_38l _ ?_ 6 0 _ (by omega) rfl (fun _ _ => rfl) (fun i a b => by omega)
  intro s' h1 h2
  refine g s' (fun k hk => ?_) ?_ ?_ ?_ h2
  · rw [h1 k (by omega), zu_f (by omega), zu_f (by omega), zu_f (by omega), zu_f (by omega)]
  · rw [h1 14 (by omega)]; simp [zu]
  · rw [h1 14 (by omega)]; simp [zu]
  · rw [h1 14 (by omega)]; simp [zu]
theorem p_41l (s0 : zS) (g : ∀ s', (∀ k, ¬ (k = 20 ∨ k = 21) → s' k = s0 k) → (∀ t, 0 ≤ t → t < 8 → s' 20 t = s0 4 t ∧ s' 21 t = s0 5 t) → Q 0 s') (d : Nat) :
    ∀ (j : Int) (s' : zS), 0 ≤ j → j + d = 8 → (∀ k, ¬ (k = 20 ∨ k = 21) → s' k = s0 k) → (∀ t, 0 ≤ t → t < j → s' 20 t = s0 4 t ∧ s' 21 t = s0 5 t) → w_41_3_2 X j s' Q := by
  induction d with
  | zero =>
    intro j s' h0 hj h1 h2
    exact w_41_3_2_i ⟨by omega, fun _ => g s' h1 (fun i a b => h2 i a (by omega)), fun q => by omega⟩
  | succ d ih =>
    intro j s' h0 hj h1 h2
    refine w_41_3_2_i ⟨by omega, fun q => by omega, fun _ => ⟨by omega, by omega, ?_⟩⟩
    rintro _ rfl
    refine ⟨by omega, by omega, ?_⟩
    rintro _ rfl
    refine ih (j + 1) _ (by omega) (by omega) (fun k hk => by rw [zu_f (by omega), zu_f (by omega), h1 k hk]) (fun i a b => ?_)
    by_cases e : i = j
    · rw [e, zu_g (by decide), zu_s, zu_s, zu_g (by decide), h1 4 (by omega), h1 5 (by omega)]; exact ⟨rfl, rfl⟩
    · rw [zu_g (by decide), zu_n e, zu_n e, zu_g (by decide)]; exact h2 i a (by omega)
theorem p_41 (g : ∀ s', (∀ k, ¬ (k = 20 ∨ k = 21) → s' k = s k) → (∀ t, 0 ≤ t → t < 8 → s' 20 t = s 4 t ∧ s' 21 t = s 5 t) → Q 0 s') : w_41_3 X s Q :=
  w_41_3_i (p_41l s g 8 0 s (by omega) rfl (fun _ _ => rfl) (fun i a b => by omega))
theorem p_108t (s0 : zS) (g : ∀ s', (∀ k, ¬ (k = 65 ∨ k = 66) → s' k = s0 k) → (∀ t, 0 ≤ t → t < 8 → s' 65 t = s0 46 t ∧ s' 66 t = s0 47 t) → w_127 X s' (fun _ s1 => Q (s1 45 16) s1)) (d : Nat) :
    ∀ (j : Int) (s' : zS), 0 ≤ j → j + d = 8 → (∀ k, ¬ (k = 65 ∨ k = 66) → s' k = s0 k) → (∀ t, 0 ≤ t → t < j → s' 65 t = s0 46 t ∧ s' 66 t = s0 47 t) → w_108_95 X j s' Q := by
  induction d with
  | zero =>
    intro j s' h0 hj h1 h2
    exact w_108_95_i ⟨by omega, fun _ => g s' h1 (fun i a b => h2 i a (by omega)), fun q => by omega⟩
  | succ d ih =>
    intro j s' h0 hj h1 h2
    refine w_108_95_i ⟨by omega, fun q => by omega, fun _ => ⟨by omega, by omega, ?_⟩⟩
    rintro _ rfl
    refine ⟨by omega, by omega, ?_⟩
    rintro _ rfl
    refine ih (j + 1) _ (by omega) (by omega) (fun k hk => by rw [zu_f (by omega), zu_f (by omega), h1 k hk]) (fun i a b => ?_)
    by_cases e : i = j
    · rw [e, zu_g (by decide), zu_s, zu_s, zu_g (by decide), h1 46 (by omega), h1 47 (by omega)]; exact ⟨rfl, rfl⟩
    · rw [zu_g (by decide), zu_n e, zu_n e, zu_g (by decide)]; exact h2 i a (by omega)
-- one function of the reference's loop
theorem step_no (hf : 0 ≤ f ∧ f < 6) (h3 : 0 ≤ z 3 6 ∧ z 3 6 ≤ 6) (h : z 3 6 ≤ f ∨ z 9 f = -1) (e3 : m 45 3 = z 3 6) (e51 : f < z 3 6 → m 51 f = z 9 f) : goL f m (f + 1) (zu m 64 f (-1)) := by
  intro a X Q k
  have e3' : mx' a (zu m 64 f (-1)) 45 3 = z 3 6 := by rw [mx_hi (by omega), zu_g (by decide)]; exact e3
  have e51' : f < z 3 6 → mx' a (zu m 64 f (-1)) 51 f = z 9 f := fun q => by rw [mx_hi (by omega), zu_g (by decide)]; exact e51 q
  refine w_108_37_i ⟨by omega, fun q => by omega, fun _ => ⟨hf, ?_⟩⟩
  rintro _ rfl
  rw [mx_zu (by decide), e3']
  refine ⟨by omega, fun q => w_108_72_i k, fun q => ⟨hf, ?_⟩⟩
  rw [e51' (by omega)]
  exact ⟨by omega, fun _ => w_108_72_i k, fun q' => by omega⟩
theorem step_fun {m' : zS} (hf : 0 ≤ f ∧ f < z 3 6) (h3 : 0 ≤ z 3 6 ∧ z 3 6 ≤ 6) (h : 0 ≤ z 9 f ∧ z 9 f < 150) (e3 : m 45 3 = z 3 6) (e51 : m 51 f = z 9 f) (g : ∀ a X Q, Q 0 (mx' a m') → w_113 X f (mx' a (zu m 64 f (-1))) Q) : goL f m (f + 1) m' := by
  intro a X Q k
  have e3' : mx' a (zu m 64 f (-1)) 45 3 = z 3 6 := by rw [mx_hi (by omega), zu_g (by decide)]; exact e3
  have e51' : mx' a (zu m 64 f (-1)) 51 f = z 9 f := by rw [mx_hi (by omega), zu_g (by decide)]; exact e51
  refine w_108_37_i ⟨by omega, fun q => by omega, fun _ => ⟨by omega, ?_⟩⟩
  rintro _ rfl
  rw [mx_zu (by decide), e3']
  refine ⟨by omega, fun q => by omega, fun q => ⟨by omega, ?_⟩⟩
  rw [e51']
  exact ⟨by omega, fun _ => by omega, fun q' => g a X _ (w_108_72_i k)⟩
theorem Fm.z64 : Fm m (zu m 64 f n) := ⟨fun j _ _ _ _ _ => zu_g (by decide), fun k hk => zu_f (by omega)⟩
theorem Fm.rf : Fm m m := ⟨fun j _ _ _ _ _ => rfl, fun k hk => rfl⟩
theorem FR.z64 (F : FR z s m G f) : FR z s (zu m 64 f (-1)) G f := by
  obtain ⟨f1, f2, f3, f4⟩ := F
  refine ⟨f1, fun k a b => by rw [zu_f (by omega)]; exact f2 k a b, by rw [zu_g (by decide)]; exact f3, fun q => ?_⟩
  rw [zu_g (by decide)] at q
  obtain ⟨w1, w2, w3, w4, w5, w6⟩ := f4 q
  refine ⟨by rw [zu_g (by decide)]; exact w1, ?_, by rw [zu_f (by decide), zu_g (by decide)]; exact w3, ?_, fun g a b => ?_, w6⟩
  · intro i a b
    rw [zu_g (by decide)] at b
    rw [zu_g (by decide), zu_g (by decide), zu_g (by decide), zu_g (by decide)]
    exact w2 i a b
  · rw [zu_g (by decide)]
    exact w4.c (fun i _ _ => by rw [zu_g (by decide), zu_g (by decide), zu_g (by decide)]; exact ⟨rfl, rfl, rfl⟩) (fun _ _ _ => rfl)
  · unfold ent
    rw [zu_n (by omega), zu_g (by decide)]
    exact w5 g a b
theorem FR.skip (F : FR z s m G f) (h0 : 0 ≤ f ∧ f < 6) (h : z 9 f = -1) : FR z s (zu m 64 f (-1)) G (f + 1) := by
  obtain ⟨f1, f2, f3, f4⟩ := F.z64
  refine ⟨f1, f2, ?_, fun q => ?_⟩
  · rw [show (f + 1).toNat = f.toNat + 1 by omega]
    simp only [sm]
    rw [show ((f.toNat : Nat) : Int) = f by omega, if_pos h, Int.add_zero]
    exact f3
  · obtain ⟨w1, w2, w3, w4, w5, w6⟩ := f4 q
    refine ⟨w1, w2, w3, w4, fun g a b => ?_, fun g a b => w6 g (by omega) b⟩
    by_cases e : g = f
    · subst e
      exact ⟨Or.inl ⟨h, zu_s⟩, by rw [zu_s]; exact w6 g (by omega) h0.2⟩
    · exact w5 g a (by omega)
-- where it is ill, the reference goes on to the end
theorem il (hX : okX X) (S : Src z) (hsz : sm z (z 3 6).toNat ≤ 400) (hv : mx z (z 3 6).toNat ≤ 16) (d : Nat) : ∀ (f : Nat) (m : zS), ((f + d : Nat) : Int) = z 3 6 → (∀ k, 46 ≤ k → k ≤ 55 → m k = z k) → m 45 3 = z 3 6 → m 45 16 = sm z f → m 45 36 = 1 → ∃ m', goL f m (z 3 6) m' ∧ m' 45 36 = 1 ∧ Fm m m' := by
  have S1 := S.1
  have S2 := S.2.1
  induction d with
  | zero =>
    intro f m hf h1 h2 h3 h4
    refine ⟨m, ?_, h4, Fm.rf⟩
    rw [← hf]
    exact goL.rf
  | succ d ih =>
    intro f m hf h1 h2 h3 h4
    obtain ⟨-, -, -, -, h51, h9, -⟩ := S.2.2.2.1 f (by omega) (by omega)
    have e51 : m 51 f = z 9 f := by rw [h1 51 (by omega) (by omega)]; exact h51
    by_cases q : z 9 f = -1
    · obtain ⟨m', g1, g2, g3⟩ := ih (f + 1) (zu m 64 f (-1)) (by omega) (fun k a b => by rw [zu_f (by omega)]; exact h1 k a b) (by rw [zu_g (by decide)]; exact h2) (by rw [zu_g (by decide), h3]; simp only [sm]; rw [if_pos q, Int.add_zero]) (by rw [zu_g (by decide)]; exact h4)
      exact ⟨m', (step_no (z := z) (by omega) (by omega) (Or.inr q) h2 (fun _ => e51)).tr g1, g2, Fm.z64.tr g3⟩
    · have hm := sm_mono S d (f + 1) (by omega)
      rw [show f + 1 + d = (z 3 6).toNat by omega] at hm
      have hmx := mx_le S d f (by omega) (by omega)
      rw [show f + 1 + d = (z 3 6).toNat by omega] at hmx
      obtain ⟨m1, k1, k2, k3, k4, k5⟩ := fun_ill (f := (f : Int)) (m := zu m 64 f (-1)) hX S (by omega) (by omega) (by rw [show ((f : Int) + 1).toNat = f + 1 by omega]; omega) (by omega) (fun k a b => by rw [zu_f (by omega)]; exact h1 k a b) (by rw [zu_g (by decide), h3]; simp) (by rw [zu_g (by decide)]; exact h4)
      obtain ⟨m', g1, g2, g3⟩ := ih (f + 1) m1 (by omega) k2 (by rw [k5.1 3 (by omega) (by omega) (by omega) (by omega) (by omega), zu_g (by decide)]; exact h2) (by rw [k3]; congr 1) k4
      exact ⟨m', (step_fun (z := z) (by omega) (by omega) (by omega) h2 e51 k1).tr g1, g2, Fm.z64.tr (k5.tr g3)⟩
theorem tail (S : Src z) (d : Nat) : ∀ (f : Int) (m : zS), f + d = 6 → z 3 6 ≤ f → m 45 3 = z 3 6 → ∃ m', goL f m 6 m' ∧ (∀ k, ¬ k = 64 → m' k = m k) ∧ (∀ g, m' 64 g = if f ≤ g ∧ g < 6 then -1 else m 64 g) := by
  have S1 := S.1
  induction d with
  | zero =>
    intro f m hf h1 h2
    obtain rfl : f = 6 := by omega
    exact ⟨m, goL.rf, fun _ _ => rfl, fun g => by rw [if_neg (by omega)]⟩
  | succ d ih =>
    intro f m hf h1 h2
    obtain ⟨m', g1, g2, g3⟩ := ih (f + 1) (zu m 64 f (-1)) (by omega) (by omega) (by rw [zu_g (by decide)]; exact h2)
    refine ⟨m', (step_no (z := z) (by omega) (by omega) (Or.inl h1) h2 (fun q => by omega)).tr g1, fun k hk => by rw [g2 k hk, zu_f hk], fun g => ?_⟩
    rw [g3]
    by_cases e : g = f
    · rw [e, if_neg (by omega), if_pos (by omega), zu_s]
    · rw [zu_n e]
      by_cases e2 : f + 1 ≤ g ∧ g < 6
      · rw [if_pos e2, if_pos (by omega)]
      · rw [if_neg e2, if_neg (by omega)]
def Fk (s s' : zS) : Prop := (∀ k, k < 14 ∨ 20 ≤ k ∧ k ≤ 21 ∨ 31 ≤ k → s' k = s k) ∧ s' 14 0 = s 14 0
-- all functions, the one side and the other
theorem jl {s0 m0 : zS} (hX : okX X) (S : Src z) (hsz : sm z (z 3 6).toNat ≤ 400) (hv : mx z (z 3 6).toNat ≤ 16) (e3 : m0 45 3 = z 3 6)
    (gW : ∀ s' m' G', Fk s0 s' → Fm m0 m' → goL 0 m0 (z 3 6) m' → FR z s' m' G' (z 3 6) → m' 45 36 = 0 → w_45_95 X x2 (z 3 6) s' Q)
    (gI : ∀ s' m', Fk s0 s' → Fm m0 m' → goL 0 m0 (z 3 6) m' → m' 45 36 = 1 → Q (-3) s') (d : Nat) :
    ∀ (f : Nat) (s m : zS) (G : Int → Nat → Int → Int), ((f + d : Nat) : Int) = z 3 6 → Fk s0 s → Fm m0 m → goL 0 m0 f m → FR z s m G f → m 45 36 = 0 → w_45_95 X x2 f s Q := by
  have S1 := S.1
  have S2 := S.2.1
  induction d with
  | zero =>
    intro f s m G hf h1 h2 h3 h4 h5
    have ef : (f : Int) = z 3 6 := by omega
    rw [ef] at h3 h4 ⊢
    exact gW s m G h1 h2 h3 h4 h5
  | succ d ih =>
    intro f s m G hf h1 h2 h3 h4 h5
    obtain ⟨-, -, -, -, h51, h9, -⟩ := S.2.2.2.1 f (by omega) (by omega)
    have e51 : m 51 f = z 9 f := by rw [h4.2.1 51 (by omega) (by omega)]; exact h51
    have e36 : s 3 6 = z 3 6 := by rw [h4.1 3 (by omega) (by omega)]
    have e45 : m 45 3 = z 3 6 := by rw [h2.1 3 (by omega) (by omega) (by omega) (by omega) (by omega)]; exact e3
    refine w_45_95_i ⟨by omega, fun q => by omega, fun _ => ⟨by omega, ?_⟩⟩
    rw [h4.1 9 (by omega) (by omega)]
    refine ⟨by omega, fun q => w_45_130_i ?_, fun q => ?_⟩
    · have := ih (f + 1) s (zu m 64 f (-1)) G (by omega) h1 (h2.tr Fm.z64) (h3.tr (step_no (z := z) (by omega) (by omega) (Or.inr q) e45 (fun _ => e51))) (h4.skip (by omega) q) (by rw [zu_g (by decide)]; exact h5)
      exact this
    · have hm := sm_mono S d (f + 1) (by omega)
      rw [show f + 1 + d = (z 3 6).toNat by omega] at hm
      have hmx := mx_le S d f (by omega) (by omega)
      rw [show f + 1 + d = (z 3 6).toNat by omega] at hmx
      refine fun_ok (f := (f : Int)) (m := zu m 64 f (-1)) S (by omega) (by omega) (by rw [show ((f : Int) + 1).toNat = f + 1 by omega]; omega) (by omega) h4.z64 (by rw [zu_g (by decide)]; exact h5) ?_
      intro s' m' G' v gf F' fc fm f64 hv'
      have k1 : Fk s0 s' := ⟨fun k hk => by rw [fc.1 k (by omega), zu_f (by omega)]; exact h1.1 k hk, by rw [fc.2, zu_g (by decide)]; exact h1.2⟩
      have k2 : Fm m0 m' := h2.tr (Fm.z64.tr fm)
      have k3 : goL 0 m0 (f + 1) m' := h3.tr (step_fun (z := z) (by omega) (by omega) (by omega) e45 e51 gf)
      rcases hv' with ⟨q1, rfl⟩ | ⟨q1, rfl⟩
      · refine ⟨by omega, fun _ => w_45_130_i ?_, fun q' => by omega⟩
        exact ih (f + 1) s' m' G' (by omega) k1 k2 k3 F' q1
      · refine ⟨by omega, fun q' => by omega, fun _ => ?_⟩
        obtain ⟨m2, g1, g2, g3⟩ := il hX S hsz hv d (f + 1) m' (by omega) F'.2.1 (by rw [k2.1 3 (by omega) (by omega) (by omega) (by omega) (by omega)]; exact e3) (by rw [F'.2.2.1]; congr 1) q1
        exact gI s' m2 k1 (k2.tr g3) (k3.tr g1) g2
end
