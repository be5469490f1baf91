section
variable {G : Int → Nat → Int → Int} {z r s m s' s1 m1 m0 s2 m2 s3 m3 e : zS} {f0 i j F N o v tk p q t T H a b n f x x0 x1 x2 x3 x4 c c' : Int} {U U' : Int → Int → Prop} {φ φ' : Int → Int} {X : zX} {Q : Int → zS → Prop} {D : Prop}
def AG (s m : zS) : Prop := ∀ k j, ¬ NoW k j → m k j = s k j
-- the reference, walking, comes to v
def MW (X : zX) (s : zS) (U : Int → Int → Prop) (φ : Int → Int) (x1 x2 k a t v w : Int) : Prop :=
  ∀ a' m, rl U φ t a a' → AG s m → m 45 63 = t → m 45 64 = a' → ∀ Q : Int → zS → Prop, (∀ m', AG s m' → (v = 0 → m' 45 64 = w) → Q v m') → w_155_38 X x1 x2 k m Q
theorem c_walk (h : hp U φ s s s) (h20 : ∀ t, tI t → s 65 t = s 20 t ∧ s 66 t = s 21 t ∧ tI (s 20 t) ∧ tI (s 21 t)) (i2 : 0 ≤ x2 ∧ x2 ≤ 20) : ∀ d : Nat, ∀ (k a t : Int), 0 ≤ k → k + d = x2 → tI t → (∃ b, rl U φ t a b) →
    ∀ Q : Int → zS → Prop, (∀ v s1, iI v → AG s s1 → MW X s U φ x1 x2 k a t v (s1 31 17) → Q v s1) → w_83_34 X x1 x2 a t k s Q := by
  have hU := hpU h
  intro d
  induction d with
  | zero =>
    rintro k a t h0 hk ht ⟨b, hr⟩ Q g
    have ht' := ht
    unfold tI at ht'
    have ag : AG s (zu s 31 17 a) := fun k j hj => by
      by_cases q : k = 31
      · subst q; exact zu_n (by unfold NoW at hj; omega)
      · exact zu_g q
    have w17 : zu s 31 17 a 31 17 = a := zu_s
    refine w_83_34_i ⟨by omega, fun _ => ?_, fun q => by omega⟩
    rintro _ rfl
    refine ⟨by omega, fun qt => ?_, fun qt => ?_⟩
    · have r1 := rl_nil hr (by omega) hU
      unfold iI at r1
      refine ⟨r1.2.2.1, fun qa => g 2 _ (iI_c (by omega)) ag ?_, fun qa => g 1 _ (iI_c (by omega)) ag ?_⟩
      · intro a' m hr' hm e63 e64 Q' kq
        have r2 := rl_nil hr' (by omega) hU
        unfold iI at r2
        refine w_155_38_i ?_
        rw [e63, e64]
        exact ⟨by omega, fun _ => ⟨by omega, fun _ => ⟨r2.2.2.2, fun _ => kq m hm (fun q => by omega), fun q => by omega⟩, fun q => absurd qt q⟩, fun q => by omega⟩
      · intro a' m hr' hm e63 e64 Q' kq
        have r2 := rl_nil hr' (by omega) hU
        unfold iI at r2
        refine w_155_38_i ?_
        rw [e63, e64]
        exact ⟨by omega, fun _ => ⟨by omega, fun _ => ⟨r2.2.2.2, fun _ => by omega, fun q => kq m hm (fun q => by omega)⟩, fun q => absurd qt q⟩, fun q => by omega⟩
    · have qt : t = 0 := Classical.not_not.mp qt
      refine g 0 _ (iI_c (by omega)) ag ?_
      intro a' m hr' hm e63 e64 Q' kq
      subst qt
      have r2 := rl_int hr'
      refine w_155_38_i ?_
      rw [e63]
      exact ⟨by omega, fun _ => ⟨by omega, fun q => absurd rfl q, fun _ => kq m hm (fun _ => by rw [e64, w17]; exact r2.1.symm)⟩, fun q => by omega⟩
  | succ d ih =>
    rintro k a t h0 hk ht ⟨b, hr⟩ Q g
    have ht' := ht
    unfold tI at ht'
    have no : (t = 0 ∨ (0 < t ∧ a = 0)) → w_83_49 X s Q := by
      intro w
      refine w_83_49_i (g (-1) s (iI_c (by omega)) (fun _ _ _ => rfl) ?_)
      intro a' m hr' hm e63 e64 Q' kq
      refine w_155_38_i ?_
      rw [e63, e64]
      refine ⟨by omega, fun q => by omega, fun _ => ⟨by omega, fun _ => w_155_57_i (kq m hm (fun q => by omega)), fun q => ?_⟩⟩
      have r2 := rl_nil hr' (by omega) hU
      unfold iI at r2
      exact ⟨r2.2.2.2, fun q => by omega, fun _ => w_155_57_i (kq m hm (fun q => by omega))⟩
    by_cases qt : t = 0
    · exact w_83_34_i ⟨by omega, fun q => by omega, fun _ => ⟨by omega, fun _ => no (Or.inl qt), fun q => absurd qt q⟩⟩
    have r1 := rl_nil hr (by omega) hU
    unfold iI at r1
    refine w_83_34_i ⟨by omega, fun q => by omega, fun _ => ⟨by omega, fun q => absurd q qt, fun _ => ⟨r1.2.2.1, fun qa => ⟨zA_r, fun qb => ?_, fun qb => ?_⟩, fun qa => no (Or.inr ⟨by omega, Classical.not_not.mp qa⟩)⟩⟩⟩
    · obtain ⟨u1, u2, u3, u4, u5⟩ := r1.2.1 qa
      obtain ⟨y1, y2, y3, y4, y5⟩ := h.2.1 a t u1
      obtain ⟨l1, l2, l3, l4⟩ := h20 t ht
      refine w_83_66_i ⟨by omega, fun _ => ⟨by omega, w_83_94_i ⟨by omega, fun _ => ⟨by omega, w_83_123_i ?_⟩, fun q => absurd rfl q⟩⟩, fun q => absurd rfl q⟩
      refine ih (k + 1) _ _ (by omega) (by omega) l3 ⟨_, y4⟩ Q (fun v s1 iv ag mw => g v s1 iv ag ?_)
      intro a' m hr' hm e63 e64 Q' kq
      have r2 := rl_nil hr' (by omega) hU
      unfold iI at r2
      obtain ⟨-, v2, -, -, v5⟩ := r2.2.1 qa
      refine w_155_38_i ?_
      rw [e63, e64, bit_RU (by omega)]
      refine ⟨by omega, fun q => by omega, fun _ => ⟨by omega, fun q => absurd q qt, fun _ => ⟨r2.2.2.2, fun _ => ⟨zA_r, fun _ => w_155_79_i ⟨by omega, fun _ => ⟨v5, w_155_104_i ?_⟩, fun q => absurd rfl q⟩, fun q => absurd qb q⟩, fun q => by omega⟩⟩⟩
      rintro _ rfl
      have f63 : zu m 45 64 (m 76 a') 45 63 = t := by rw [zu_n (by omega)]; exact e63
      have f65 : zu m 45 64 (m 76 a') 65 t = s 20 t := by rw [zu_g (by decide), ← l1]; exact hm 65 t (by unfold NoW; omega)
      have f76 : m 76 a' = s 76 (φ a) := by rw [v2]; exact hm 76 a' (by unfold NoW; omega)
      rw [f63, f65]
      refine ⟨by omega, fun _ => ⟨by omega, w_155_134_i ?_⟩, fun q => absurd rfl q⟩
      rintro _ rfl
      refine mw (s 76 (φ a)) _ y4 (fun k j hj => ?_) zu_s (by rw [zu_n (by omega), zu_s]; exact f76) Q' kq
      by_cases q : k = 45
      · subst q; rw [zu_n (by unfold NoW at hj; omega), zu_n (by unfold NoW at hj; omega)]; exact hm 45 j hj
      · rw [zu_g q, zu_g q]; exact hm k j hj
    · obtain ⟨u1, u2, u3, u4, u5⟩ := r1.2.1 qa
      obtain ⟨y1, y2, y3, y4, y5⟩ := h.2.1 a t u1
      obtain ⟨l1, l2, l3, l4⟩ := h20 t ht
      refine w_83_66_i ⟨by omega, fun q => by omega, fun _ => ⟨by omega, w_83_94_i ⟨by omega, fun q => by omega, fun _ => ⟨by omega, w_83_123_i ?_⟩⟩⟩⟩
      refine ih (k + 1) _ _ (by omega) (by omega) l4 ⟨_, y5⟩ Q (fun v s1 iv ag mw => g v s1 iv ag ?_)
      intro a' m hr' hm e63 e64 Q' kq
      have r2 := rl_nil hr' (by omega) hU
      unfold iI at r2
      obtain ⟨-, v2, -, -, v5⟩ := r2.2.1 qa
      refine w_155_38_i ?_
      rw [e63, e64, bit_RU (by omega)]
      refine ⟨by omega, fun q => by omega, fun _ => ⟨by omega, fun q => absurd q qt, fun _ => ⟨r2.2.2.2, fun _ => ⟨zA_r, fun q => absurd q qb, fun _ => w_155_79_i ⟨by omega, fun q => by omega, fun _ => ⟨v5, w_155_104_i ?_⟩⟩⟩, fun q => by omega⟩⟩⟩
      rintro _ rfl
      have f63 : zu m 45 64 (m 77 a') 45 63 = t := by rw [zu_n (by omega)]; exact e63
      have f66 : zu m 45 64 (m 77 a') 66 t = s 21 t := by rw [zu_g (by decide), ← l2]; exact hm 66 t (by unfold NoW; omega)
      have f77 : m 77 a' = s 77 (φ a) := by rw [v2]; exact hm 77 a' (by unfold NoW; omega)
      rw [f63, f66]
      refine ⟨by omega, fun q => by omega, fun _ => ⟨by omega, w_155_134_i ?_⟩⟩
      rintro _ rfl
      refine mw (s 77 (φ a)) _ y5 (fun k j hj => ?_) zu_s (by rw [zu_n (by omega), zu_s]; exact f77) Q' kq
      by_cases q : k = 45
      · subst q; rw [zu_n (by unfold NoW at hj; omega), zu_n (by unfold NoW at hj; omega)]; exact hm 45 j hj
      · rw [zu_g q, zu_g q]; exact hm k j hj
-- both walks
theorem walk_ok (hR : RR c s) (i1 : iI x1) (i2 : iI x2) (g : ∀ v s1, iI v → AG s s1 → (∀ m, AG s m → ∀ Q' : Int → zS → Prop, (∀ m', AG s m' → (v = 0 → m' 45 64 = s1 31 17) → Q' v m') → w_155 X x1 x2 m Q') → Q v s1) : w_83 X x1 x2 s Q := by
  have no : (s 45 39 = s 31 8 ∨ s 31 8 = -1 ∧ s 45 39 = 0) → (0 ≤ s 45 39 ∧ s 45 39 ≤ 5) → (¬ s 31 8 = 1 ∨ ¬ (0 ≤ x2 ∧ x2 ≤ 20)) → w_83_18 X s Q := by
    intro w0 w1 w
    refine w_83_18_i (g (-1) s (iI_c (by omega)) (fun _ _ _ => rfl) (fun m hm Q' kq => ?_))
    have e39 : m 45 39 = s 45 39 := hm 45 39 (by unfold NoW; omega)
    refine w_155_i ?_
    rw [e39]
    refine ⟨by omega, fun _ => w_155_18_i (kq m hm (fun q => by omega)), fun q => p_101 i2 (iI_c (by omega)) (iI_c (by omega)) (fun w' => by omega) (fun w' => ⟨by omega, fun q => by omega, fun _ => w_155_18_i (kq m hm (fun q => by omega))⟩)⟩
  rcases hR.2.2.2 with ⟨f1, f2⟩ | ⟨ck, ⟨f1, f1'⟩, -, -, -, -, -, -, f8⟩
  · refine w_83_i ?_
    have no := no (by omega) (by omega) (by omega)
    exact ⟨by omega, fun _ => no, fun q => by omega⟩
  · have no := no (by omega) (by omega)
    refine w_83_i ⟨by omega, fun q => no (Or.inl q), fun q => ⟨i2, fun q => no (by omega), fun q' => ⟨i2, fun q'' => ?_, fun q => no (by omega)⟩⟩⟩
    obtain ⟨U, φ, hh, hr, e47, ht⟩ := f8 (Classical.not_not.mp q)
    obtain ⟨z, G, C, Sz, -⟩ := ck
    refine c_walk hh (fun t ht => ?_) (by omega) x2.toNat 0 _ _ (by omega) (by omega) ht ⟨_, hr⟩ Q (fun v s1 iv ag mw => g v s1 iv ag (fun m hm Q' kq => ?_))
    · obtain ⟨b1, b2, b3, b4⟩ := C.2.2.2.2.2.2.2.1 t ht
      have := Sz.2.2.1 t ht
      rw [b1, b2, b3, b4]
      exact ⟨rfl, rfl, this.2.2⟩
    · have e39 : m 45 39 = s 45 39 := hm 45 39 (by unfold NoW; omega)
      refine w_155_i ?_
      rw [e39]
      refine ⟨by omega, fun q => by omega, fun _ => p_101 i2 (iI_c (by omega)) (iI_c (by omega)) (fun w' => ⟨by omega, fun _ => ?_, fun q => by omega⟩) (fun w' => by omega)⟩
      rintro _ rfl _ rfl
      refine mw (s 45 46) _ hr (fun k j hj => ?_) ?_ ?_ Q' kq
      · by_cases q : k = 45
        · subst q; rw [zu_n (by unfold NoW at hj; omega), zu_n (by unfold NoW at hj; omega)]; exact hm 45 j hj
        · rw [zu_g q, zu_g q]; exact hm k j hj
      · rw [zu_n (by omega), zu_s, ← e47]; exact hm 45 47 (by unfold NoW; omega)
      · rw [zu_s, zu_n (by omega)]; exact hm 45 46 (by unfold NoW; omega)
theorem AG_0 (h : AG s m) : AG s (zu m 45 0 0) := fun k j hj => by
  by_cases q : k = 45
  · subst q; rw [zu_n (by unfold NoW at hj; omega)]; exact h 45 j hj
  · rw [zu_g q]; exact h k j hj
theorem tell_ok (hR : RR c s) (i1 : iI x1) (i2 : iI x2) : w_15 X x1 x2 s (fun v s1 => w_154 X x1 x2 s1 (fun v' s2 => v = v' ∧ RR (c + 1) s2)) := by
  refine w_15_i (walk_ok hR i1 i2 (fun v s1 iv ag mw => w_154_i ?_))
  rintro _ rfl
  exact mw _ (AG_0 ag) _ (fun m' ag' _ => ⟨rfl, R_c hR (by omega) ag'⟩)
theorem value_ok (hR : RR c s) (i1 : iI x1) (i2 : iI x2) : w_16 X x1 x2 s (fun v s1 => w_156 X x1 x2 s1 (fun v' s2 => v = v' ∧ RR (c + 1) s2)) := by
  refine w_16_i (walk_ok hR i1 i2 (fun v s1 iv ag mw => ⟨iv, fun q => w_156_i ?_, fun q => w_156_i ?_⟩))
  · rintro _ rfl
    exact mw _ (AG_0 ag) _ (fun m' ag' _ => ⟨iv, fun _ => ⟨rfl, R_c hR (by omega) ag'⟩, fun q' => absurd q q'⟩)
  · rintro _ rfl
    exact mw _ (AG_0 ag) _ (fun m' ag' kv => ⟨iv, fun q' => absurd q' q, fun _ => ⟨(kv (Classical.not_not.mp q)).symm, R_c hR (by omega) ag'⟩⟩)
-- instruction: the reference
theorem inst_m (hR : RR c s) (i1 : iI x1) (i2 : iI x2)
    (k1 : ¬ (s 14 0 = 1 ∧ 0 ≤ x1 ∧ x1 < s 14 1) → Q 0 (zu s 45 0 1)) (k2 : (s 14 0 = 1 ∧ 0 ≤ x1 ∧ x1 < s 14 1) → ¬ (x2 = 0 ∨ x2 = 1) → Q 0 (zu s 45 0 2))
    (k3 : (s 14 0 = 1 ∧ 0 ≤ x1 ∧ x1 < s 14 1) → x2 = 0 → Q (s 15 x1) (zu s 45 0 0)) (k4 : (s 14 0 = 1 ∧ 0 ≤ x1 ∧ x1 < s 14 1) → x2 = 1 → Q (s 16 x1) (zu s 45 0 0)) : w_130 X x1 x2 s Q := by
  have e0 : ∀ v, zu s 45 0 v 45 0 = v := fun v => zu_s
  have no1 : ∀ b : Int, b = 1 → Q 0 (zu s 45 0 1) → w_130_27 X x1 x2 b s Q := by
    rintro _ rfl w
    refine w_130_27_i ?_
    rintro _ rfl
    rw [e0]
    exact ⟨by omega, fun q => by omega, fun _ => w⟩
  rcases cst_f hR.2.1 with ⟨c1, c2⟩ | ⟨⟨c1, c2⟩, c3, c4, c5, -, -, -⟩
  · refine w_130_i (w_131_i ?_)
    rw [c2]
    exact ⟨by omega, fun _ => w_131_25_i ⟨by omega, fun q => absurd rfl q, fun _ => no1 1 rfl (k1 (by omega))⟩, fun q => absurd rfl q⟩
  · refine w_130_i (p_131 (Or.inr c2) i1 (iI_c (by omega)) (fun w => ⟨by omega, fun _ => ?_, fun q => by omega⟩) (fun w => ⟨by omega, fun q => absurd rfl q, fun _ => no1 1 rfl (k1 (by omega))⟩))
    obtain ⟨d1, d2, d3, d4⟩ := c5 x1 (by omega) (by omega)
    refine ⟨i2, fun q => w_130_26_i (w_130_27_i ?_), fun q => ⟨i2, fun q' => w_130_26_i (w_130_27_i ?_), fun q' => w_130_27_i ?_⟩⟩
    · rintro _ rfl
      rw [e0]
      refine ⟨by omega, fun _ => ⟨i2, fun q' => absurd q q', fun _ => ⟨by omega, ?_⟩⟩, fun q => by omega⟩
      rw [zu_g (by decide), ← d1]; exact k3 (by omega) q
    · rintro _ rfl
      rw [e0]
      refine ⟨by omega, fun _ => ⟨i2, fun _ => ⟨by omega, ?_⟩, fun q' => absurd q q'⟩, fun q => by omega⟩
      rw [zu_g (by decide), ← d2]; exact k4 (by omega) q'
    · rintro _ rfl
      rw [e0]
      exact ⟨by omega, fun q => by omega, fun _ => k2 (by omega) (by omega)⟩
end
