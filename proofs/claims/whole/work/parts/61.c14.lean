def Fc (s s' : zS) : Prop := (∀ k, k < 14 ∨ 19 ≤ k ∧ k ≤ 21 ∨ 31 ≤ k → s' k = s k) ∧ s' 14 0 = s 14 0
def Tc (s s' : zS) (o : Int) : Prop := ∀ j, 0 ≤ j → j < o → s' 23 j = s 23 j ∧ s' 24 j = s 24 j ∧ s' 25 j = s 25 j ∧ s' 26 j = s 26 j
def Tm (m m' : zS) (t W H N : Int) : Prop :=
  (∀ j, j < t → m' 67 j = m 67 j ∧ m' 68 j = m 68 j) ∧ (∀ j, j < W → m' 71 j = m 71 j ∧ m' 72 j = m 72 j) ∧ (∀ k, k < H → m' 69 k = m 69 k) ∧
  (∀ i, i < N → m' 58 i = m 58 i ∧ m' 59 i = m 59 i ∧ m' 60 i = m 60 i ∧ m' 61 i = m 61 i ∧ m' 62 i = m 62 i) ∧
  (∀ j, ¬ j = 16 → ¬ j = 27 → ¬ j = 30 → ¬ j = 33 → ¬ j = 36 → m' 45 j = m 45 j) ∧ (∀ k, k < 45 ∨ 46 ≤ k ∧ k ≤ 57 ∨ 63 ≤ k ∧ k ≤ 66 ∨ 73 ≤ k → m' k = m k) ∧
  (m' 45 36 = 0 → m 45 36 = 0)
def Cls (z : zS) (f : Int) (s m : zS) (G : Int → Nat → Int → Int) : Prop := (∀ k, 3 ≤ k → k ≤ 13 → s k = z k) ∧ (m 45 36 = 0 → Rel f s m G) ∧ (m 45 36 = 1 → s 22 10 = 0 ∧ iI (s 22 6))
theorem Fc.rf {s : zS} : Fc s s := ⟨fun _ _ => rfl, rfl⟩
theorem Fc.tr {a b c : zS} (h : Fc a b) (k : Fc b c) : Fc a c := ⟨fun j hj => by rw [k.1 j hj, h.1 j hj], by rw [k.2, h.2]⟩
theorem Tc.rf {s : zS} {o : Int} : Tc s s o := fun _ _ _ => ⟨rfl, rfl, rfl, rfl⟩
theorem Tc.tr {a b c : zS} {o o' : Int} (h : Tc a b o) (k : Tc b c o') (e : o ≤ o') : Tc a c o := fun j h0 hj => by
  obtain ⟨h1, h2, h3, h4⟩ := h j h0 hj
  obtain ⟨k1, k2, k3, k4⟩ := k j h0 (by omega)
  exact ⟨by rw [k1, h1], by rw [k2, h2], by rw [k3, h3], by rw [k4, h4]⟩
theorem Tc.mono {a b : zS} {o o' : Int} (h : Tc a b o') (e : o ≤ o') : Tc a b o := fun j h0 hj => h j h0 (by omega)
theorem Tm.rf {m : zS} {t W H N : Int} : Tm m m t W H N := ⟨fun _ _ => ⟨rfl, rfl⟩, fun _ _ => ⟨rfl, rfl⟩, fun _ _ => rfl, fun _ _ => ⟨rfl, rfl, rfl, rfl, rfl⟩, fun _ _ _ _ _ _ => rfl, fun _ _ => rfl, id⟩
theorem Tm.tr {a b c : zS} {t W H N t' W' H' N' : Int} (h : Tm a b t W H N) (k : Tm b c t' W' H' N') (e1 : t ≤ t') (e2 : W ≤ W') (e3 : H ≤ H') (e4 : N ≤ N') : Tm a c t W H N := by
  obtain ⟨h1, h2, h3, h4, h5, h6, h7⟩ := h
  obtain ⟨k1, k2, k3, k4, k5, k6, k7⟩ := k
  refine ⟨fun j hj => ?_, fun j hj => ?_, fun j hj => ?_, fun j hj => ?_, fun j q1 q2 q3 q4 q5 => ?_, fun j hj => ?_, fun q => h7 (k7 q)⟩
  · rw [(k1 j (by omega)).1, (k1 j (by omega)).2, (h1 j hj).1, (h1 j hj).2]; exact ⟨rfl, rfl⟩
  · rw [(k2 j (by omega)).1, (k2 j (by omega)).2, (h2 j hj).1, (h2 j hj).2]; exact ⟨rfl, rfl⟩
  · rw [k3 j (by omega), h3 j hj]
  · obtain ⟨a1, a2, a3, a4, a5⟩ := h4 j hj
    obtain ⟨b1, b2, b3, b4, b5⟩ := k4 j (by omega)
    exact ⟨by rw [b1, a1], by rw [b2, a2], by rw [b3, a3], by rw [b4, a4], by rw [b5, a5]⟩
  · rw [k5 j q1 q2 q3 q4 q5, h5 j q1 q2 q3 q4 q5]
  · rw [k6 j hj, h6 j hj]
-- a change of the work list alone
theorem LM.tm {m m' : zS} {t T W H N : Int} (h : LM m m' t T) : Tm m m' t W H N := by
  obtain ⟨h1, h2, h3, h4⟩ := h
  refine ⟨fun j hj => h3 j (Or.inl hj), fun j _ => ?_, fun j _ => ?_, fun j _ => ?_, fun j _ q _ _ _ => h2 j q, fun j hj => h4 j (by omega) (by omega) (by omega), fun q => by rw [← h2 36 (by omega)]; exact q⟩
  · rw [h4 71 (by omega) (by omega) (by omega), h4 72 (by omega) (by omega) (by omega)]; exact ⟨rfl, rfl⟩
  · rw [h4 69 (by omega) (by omega) (by omega)]
  · rw [h4 58 (by omega) (by omega) (by omega), h4 59 (by omega) (by omega) (by omega), h4 60 (by omega) (by omega) (by omega), h4 61 (by omega) (by omega) (by omega), h4 62 (by omega) (by omega) (by omega)]; exact ⟨rfl, rfl, rfl, rfl, rfl⟩
section
variable {z s m s' m' : zS} {G : Int → Nat → Int → Int} {f N op v pm M pl H t lx lt tk lm pmc n o T t0 J' : Int}
-- only some cells count
theorem Com.fr (h : Com z m) (e1 : ∀ k, 46 ≤ k → k ≤ 55 → m' k = m k) (e2 : m' 69 = m 69) (e3 : m' 70 = m 70) (e4 : ∀ j, j = 16 ∨ j = 30 ∨ j = 36 → m' 45 j = m 45 j) (e5 : 0 ≤ m' 45 33) : Com z m' := by
  obtain ⟨h1, h2, h3, h4, h5, h6, h7⟩ := h
  rw [Com, e2, e3, e4 30 (by omega), e4 36 (by omega), e4 16 (by omega)]
  exact ⟨fun k a b => by rw [e1 k a b, h1 k a b], h2, h3, h4, h5, h6, e5⟩
theorem Rel.fr (h : Rel f s m G) (e1 : ∀ k, k = 14 ∨ k = 15 ∨ k = 16 ∨ k = 18 ∨ k = 27 ∨ k = 28 ∨ k = 29 → s' k = s k) (e2 : s' 22 8 = s 22 8 ∧ s' 22 10 = s 22 10)
    (e3 : ∀ k, 58 ≤ k ∧ k ≤ 62 ∨ 69 ≤ k ∧ k ≤ 70 → m' k = m k) (e4 : ∀ j, j = 16 ∨ j = 30 → m' 45 j = m 45 j) : Rel f s' m' G := by
  obtain ⟨h1, h2, h3, h4, h5, h6, h7, h8⟩ := h
  have e : tyOf m' f = tyOf m f := by funext c k; simp only [tyOf]; rw [e4 30 (by omega), e3 69 (by omega), e3 70 (by omega)]
  rw [Rel, e, e4 16 (by omega), e4 30 (by omega), e3 58 (by omega), e3 59 (by omega), e3 61 (by omega), e3 62 (by omega), e3 69 (by omega), e3 70 (by omega), e1 14 (by omega), e1 15 (by omega), e1 16 (by omega), e1 18 (by omega), e1 27 (by omega), e1 28 (by omega), e1 29 (by omega), e2.1, e2.2]
  exact ⟨h1, h2, h3, h4, h5, h6, h7, h8⟩
theorem Com.emit {m0 : zS} (h : Com z m0) (b : EM m0 m' N op v tk lm pm H t lx lt J') (hN : 0 ≤ N) (hJ : J' = 0 ∨ J' = 1) (ht : 0 < H → tI t) (hl : -1 ≤ lt ∧ lt ≤ 7) (hH : 0 ≤ H ∧ H ≤ m0 45 30 + 1) : Com z m' := by
  obtain ⟨h1, h2, h3, h4, h5, h6, h7⟩ := h
  obtain ⟨b1, b2, b3, b4, b5, b6, b7, b8, b9, b10, b11, b12⟩ := b
  refine ⟨fun k a b => by rw [b12 k (by omega), h1 k a b], fun k a b => ?_, fun k a b => ?_, by rw [b8]; exact hJ, by omega, by omega, by rw [b9 33 (by omega) (by omega) (by omega)]; exact h7⟩
  · rw [b10]; split
    · exact ht (by omega)
    · exact h2 k a (by omega)
  · rw [b11]; split
    · exact hl
    · exact h3 k a b
theorem EM.tm {m0 : zS} (b : EM m0 m' N op v tk lm pm H t lx lt J') {t1 W H1 : Int} (hH : H1 < H) (hJ : J' = 0 → m0 45 36 = 0) : Tm m0 m' t1 W H1 N := by
  obtain ⟨b1, b2, b3, b4, b5, b6, b7, b8, b9, b10, b11, b12⟩ := b
  refine ⟨fun j _ => ?_, fun j _ => ?_, fun k hk => ?_, fun i hi => ?_, fun j q1 q2 q3 q4 q5 => b9 j q1 q3 q5, fun k hk => b12 k (by omega), fun q => hJ (by rw [← b8]; exact q)⟩
  · rw [b12 67 (by omega), b12 68 (by omega)]; exact ⟨rfl, rfl⟩
  · rw [b12 71 (by omega), b12 72 (by omega)]; exact ⟨rfl, rfl⟩
  · rw [b10, if_neg (by omega)]
  · rw [b1, b2, b3, b4, b5]; simp only [if_neg (show ¬ i = N by omega)]; exact ⟨trivial, trivial, trivial, trivial, trivial⟩
theorem EC.fc (a : EC s s' N op v pm M pl H t lx lt J') : Fc s s' := by
  obtain ⟨a1, a2, a3, a4, a5, a6, a7, a8, a9, a10, a11, a12, a13⟩ := a
  exact ⟨fun k hk => a13 k (by omega), a7⟩
theorem EC.tc (a : EC s s' N op v pm M pl H t lx lt J') : Tc s s' o := by
  obtain ⟨a1, a2, a3, a4, a5, a6, a7, a8, a9, a10, a11, a12, a13⟩ := a
  intro j _ _
  rw [a13 23 (by omega), a13 24 (by omega), a13 25 (by omega), a13 26 (by omega)]
  exact ⟨rfl, rfl, rfl, rfl⟩
theorem Fc.zu {k : Nat} {i v : Int} (h : 15 ≤ k ∧ k ≤ 18 ∨ 22 ≤ k ∧ k ≤ 30) : Fc s (zu s k i v) := ⟨fun j hj => zu_f (by omega), zu_g (by omega)⟩
theorem EC.sp {Q : Int → zS → Prop} {p : Prop} [Decidable p] (h1 : p → ∀ s', EC s s' N op v pm M pl H t lx lt 1 → Q 0 s') (h2 : ¬ p → ∀ s', CI s s' → Q 0 s') : ∀ s', EC s s' N op v pm M pl H t lx lt (if p then 1 else 0) → Q 0 s' := by
  intro s' h
  by_cases q : p
  · rw [if_pos q] at h; exact h1 q s' h
  · rw [if_neg q] at h; exact h2 q s' (CI.of h)
theorem EC.ty (a : EC s s' N op v pm M pl H t lx lt J') {u : Int} (h : 0 < H → t = u) : EC s s' N op v pm M pl H u lx lt J' := by
  obtain ⟨a1, a2, a3, a4, a5, a6, a7, a8, a9, a10, a11, a12, a13⟩ := a
  refine ⟨a1, a2, a3, a4, a5, a6, a7, a8, a9, a10, fun k h0 => ?_, a12, a13⟩
  rw [a11 k h0]
  split
  · exact h (by omega)
  · rfl
-- a node is finished with one instruction
theorem fin {X : zX} {Q : Int → zS → Prop} (hC : Cls z f s m G) (hM : Com z m) (ho : 0 ≤ o ∧ o < 150) (hT : 0 ≤ T ∧ T < 10000)
    (hw : m 45 36 = 0 → s 22 6 = o + 1 ∧ s 23 o = n ∧ s 24 o = 3) (hN : m 45 16 = N)
    (b : EM (zu m 45 27 t0) m' N op v tk lm pm H t lx lt J') (hJ : J' = 0 ∨ J' = 1) (hJ0 : J' = 0 → m 45 36 = 0) (ht : tI t) (hl : -1 ≤ lt ∧ lt ≤ 7) (hH : 0 ≤ H ∧ H ≤ m 45 30 + 1)
    (hcl : Rel f s m G → ∀ Q : Int → zS → Prop, (J' = 0 → ∀ s', EC (zu s 22 6 o) s' N op v pmc M pl H t lx lt 1 → Q 0 s') → (¬ J' = 0 → ∀ s', CI (zu s 22 6 o) s' → Q 0 s') → w_48 X n o (zu s 22 6 o) Q)
    (h1 : Rel f s m G → op = 6 ∨ op = 13 → pmc = pm ∧ lm = bm (m 70) 8 ∧ pm = bm (m 69) (m 45 30).toNat) (h2 : M = s 14 2 + (if op = 6 ∨ op = 13 then 1 else 0)) (h3 : op = 2 → pl = if m 70 v ≤ 0 then 0 else zL 1 v)
    (g : ∀ s' T', Com z m' → Cls z f s' m' (gs G (N + 1) (tyOf m' f)) → Fc s s' → T ≤ T' → T' ≤ T + 1 → (m' 45 36 = 0 → s' 22 6 = o ∧ Tc s s' o) → w_46_102 X f T' s' Q) : w_46_102 X f T s Q := by
  have hM0 : Com z (zu m 45 27 t0) := Com.fr hM (fun k a b => zu_f (by omega)) (zu_f (by decide)) (zu_f (by decide)) (fun j hj => zu_n (by omega)) (by rw [zu_n (by omega)]; exact hM.2.2.2.2.2.2)
  have hM' : Com z m' := Com.emit hM0 b (by rw [← hN]; exact hM.2.2.2.2.1) hJ (fun _ => ht) hl (by rw [zu_n (by omega)]; exact hH)
  have bJ : m' 45 36 = J' := b.2.2.2.2.2.2.2.1
  obtain ⟨c1, c2, c3⟩ := hC
  rcases hM.2.2.2.1 with q | q
  · have R := c2 q
    obtain ⟨w1, w2, w3⟩ := hw q
    refine gc_fin hT w1 ho R.1 w3 w2 (hcl R _ ?_ ?_)
    · intro j0 s' a
      refine w_46_169_i (g s' (T + 1) hM' ⟨fun k a' b' => ?_, fun _ => ?_, fun q' => by omega⟩ ?_ (by omega) (by omega) ?_)
      · rw [a.fc.1 k (by omega), zu_f (by omega), c1 k a' b']
      · have R0 : Rel f (zu s 22 6 o) (zu m 45 27 t0) G := Rel.fr R (fun k hk => zu_f (by omega)) ⟨zu_n (by omega), zu_n (by omega)⟩ (fun k hk => zu_f (by omega)) (fun j hj => zu_n (by omega))
        subst j0
        exact Rel.emit R0 (by rw [zu_n (by omega)]; exact hM.2.2.2.2.1) (by rw [zu_n (by omega)]; exact hN) a b (by rw [zu_n (by omega)]; exact hH) (by rw [zu_f (by decide), zu_f (k := 69) (by decide), zu_n (by omega)]; exact h1 R) (by rw [zu_g (by decide)]; exact h2) (by rw [zu_f (by decide)]; exact h3)
      · exact Fc.tr (Fc.zu (by omega)) a.fc
      · intro _
        obtain ⟨a1, a2, a3, a4, a5, a6, a7, a8, a9, a10, a11, a12, a13⟩ := id a
        refine ⟨by rw [a10, zu_s], Tc.tr (o' := o) ?_ a.tc (by omega)⟩
        intro j _ _
        rw [zu_f (by decide), zu_f (by decide), zu_f (by decide), zu_f (by decide)]
        exact ⟨rfl, rfl, rfl, rfl⟩
    · intro j0 s' a
      refine w_46_169_i (g s' (T + 1) hM' ⟨fun k a' b' => ?_, fun q' => by omega, fun _ => ⟨a.1, by rw [a.2.1.2, zu_s]; exact ⟨by omega, by omega⟩⟩⟩ ?_ (by omega) (by omega) (fun q' => by omega))
      · rw [a.2.2 k (by omega), zu_f (by omega), c1 k a' b']
      · exact Fc.tr (Fc.zu (by omega)) ⟨a.2.2, a.2.1.1⟩
  · exact g s T hM' ⟨c1, fun q' => by omega, fun _ => c3 q⟩ Fc.rf (by omega) (by omega) (fun q' => by omega)
end
