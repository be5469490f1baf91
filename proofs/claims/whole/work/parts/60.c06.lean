/-! The reference: one turn of its loop, from a state to a state. -/
def goO (f : Int) (m m' : zS) : Prop := ∀ X Q, w_113_80 X f m' Q → w_113_80 X f m Q
theorem goO.rf {f : Int} {m : zS} : goO f m m := fun _ _ h => h
theorem goO.tr {f : Int} {m m' m'' : zS} (a : goO f m m') (b : goO f m' m'') : goO f m m'' := fun X Q h => a X Q (b X Q h)
def LM (m m' : zS) (t T : Int) : Prop := m' 45 27 = T ∧ (∀ j, ¬ j = 27 → m' 45 j = m 45 j) ∧ (∀ j, j < t ∨ T ≤ j → m' 67 j = m 67 j ∧ m' 68 j = m 68 j) ∧ (∀ k, ¬ k = 45 → ¬ k = 67 → ¬ k = 68 → m' k = m k)
section
variable {m : zS} {n f t N H J a b c t1 t2 K : Int}
theorem gm_go {w : Int} (et : m 45 27 = t + 1) (ht : 0 ≤ t ∧ t < 1200) (ew : m 67 t = w) (en : m 68 t = n) {m' : zS}
    (k : (w = 0 ∧ ∀ X Q, Q 0 m' → w_115 X n (zu m 45 27 t) Q) ∨ (w = 2 ∧ ∀ X Q, Q 0 m' → w_119 X n (zu m 45 27 t) Q) ∨ (w = 3 ∧ ∀ X Q, Q 0 m' → w_125 X n (zu m 45 27 t) Q) ∨ (w = 4 ∧ ∀ X Q, Q 0 m' → w_126 X n (zu m 45 27 t) Q)) : goO f m m' := by
  intro X Q h
  have e : m 45 27 - 1 = t := by omega
  refine w_113_80_i ⟨by omega, fun a => by omega, fun _ => ?_⟩
  rw [e]
  rintro _ rfl
  rw [zu_s, zu_g (by decide), zu_g (by decide), ew, en]
  refine ⟨ht, ht, ?_⟩
  rcases k with ⟨rfl, k⟩ | ⟨rfl, k⟩ | ⟨rfl, k⟩ | ⟨rfl, k⟩
  · exact ⟨by omega, fun a => absurd rfl a, fun _ => k X _ (w_113_199_i h)⟩
  · exact ⟨by omega, fun _ => ⟨by omega, fun _ => ⟨by omega, fun a => absurd rfl a, fun _ => k X _ (w_113_199_i h)⟩, fun a => by omega⟩, fun a => by omega⟩
  · exact ⟨by omega, fun _ => ⟨by omega, fun _ => ⟨by omega, fun _ => ⟨by omega, fun a => absurd rfl a, fun _ => k X _ (w_113_199_i h)⟩, fun a => by omega⟩, fun a => by omega⟩, fun a => by omega⟩
  · exact ⟨by omega, fun _ => ⟨by omega, fun _ => ⟨by omega, fun _ => ⟨by omega, fun _ => k X _ (w_113_199_i h), fun a => by omega⟩, fun a => by omega⟩, fun a => by omega⟩, fun a => by omega⟩
-- VISIT of a leaf
theorem v_0o (et : m 45 27 = t + 1) (ht : 0 ≤ t ∧ t < 1200) (ew : m 67 t = 0) (en : m 68 t = n) (hn : 0 ≤ n ∧ n < 150) (hk : m 52 n = 0) (ea : m 53 n = a) (eN : m 45 16 = N) (eH : m 45 30 = H) (hN : 0 ≤ N ∧ N < 400) (hH : 0 ≤ H ∧ H < 40) (eJ : m 45 36 = J) :
    ∃ m', EM (zu m 45 27 t) m' N 0 a 0 0 0 (H + 1) 0 0 (m 70 0) J ∧ goO f m m' := by
  apply Exists.intro; apply And.intro
  rotate_left
  · apply gm_go et ht ew en; apply Or.inl; apply And.intro rfl; intro X Q k; apply w_115_i; apply And.intro hn; apply And.intro hn
    rw [zu_g (by decide), zu_g (by decide), ea]
    apply And.intro (by omega)
    ((repeat' (refine And.intro ?_ ?_)) <;> intro c <;> first | (exfalso; omega) | skip)
    exact p_116 N (by simp [zu, *]) hN (p_117 H (by simp [zu, *]) hH k)
  · (refine ⟨fun j => ?_, fun j => ?_, fun j => ?_, fun j => ?_, fun j => ?_, ?_, ?_, ?_, fun j h1 h2 h3 => ?_, fun k => ?_, fun k => ?_, fun k hk => by (repeat rw [zu_f (by omega)])⟩ <;> (first | (simp [zu]; done) | ((repeat rw [zu_g (by decide)]); exact ife) | (simp [zu]; (repeat' split) <;> omega)))
theorem v_1o (et : m 45 27 = t + 1) (ht : 0 ≤ t ∧ t < 1200) (ew : m 67 t = 0) (en : m 68 t = n) (hn : 0 ≤ n ∧ n < 150) (hk : m 52 n = 1) (ea : m 53 n = a) (eN : m 45 16 = N) (eH : m 45 30 = H) (hN : 0 ≤ N ∧ N < 400) (hH : 0 ≤ H ∧ H < 40) (eJ : m 45 36 = J) :
    ∃ m', EM (zu m 45 27 t) m' N 1 0 0 0 0 (H + 1) a 0 (m 70 0) J ∧ goO f m m' := by
  apply Exists.intro; apply And.intro
  rotate_left
  · apply gm_go et ht ew en; apply Or.inl; apply And.intro rfl; intro X Q k; apply w_115_i; apply And.intro hn; apply And.intro hn
    rw [zu_g (by decide), zu_g (by decide), ea]
    apply And.intro (by omega)
    ((repeat' (refine And.intro ?_ ?_)) <;> intro c <;> first | (exfalso; omega) | skip)
    exact p_116 N (by simp [zu, *]) hN (p_117 H (by simp [zu, *]) hH k)
  · (refine ⟨fun j => ?_, fun j => ?_, fun j => ?_, fun j => ?_, fun j => ?_, ?_, ?_, ?_, fun j h1 h2 h3 => ?_, fun k => ?_, fun k => ?_, fun k hk => by (repeat rw [zu_f (by omega)])⟩ <;> (first | (simp [zu]; done) | ((repeat rw [zu_g (by decide)]); exact ife) | (simp [zu]; (repeat' split) <;> omega)))
theorem v_2o (et : m 45 27 = t + 1) (ht : 0 ≤ t ∧ t < 1200) (ew : m 67 t = 0) (en : m 68 t = n) (hn : 0 ≤ n ∧ n < 150) (hk : m 52 n = 2) (ea : m 53 n = a) (ha : 0 ≤ a ∧ a < 8) (e1 : m 70 a = t1) (r1 : -1 ≤ t1 ∧ t1 ≤ 7) (eN : m 45 16 = N) (eH : m 45 30 = H) (hN : 0 ≤ N ∧ N < 400) (hH : 0 ≤ H ∧ H < 40) (eJ : m 45 36 = J) (hJ : J = 0 ∨ J = 1) :
    ∃ m', EM (zu m 45 27 t) m' N 2 a 0 0 0 (H + 1) (max t1 0) 0 (m 70 0) (if 0 ≤ t1 then J else 1) ∧ goO f m m' := by
  by_cases q : t1 < 0
  · apply Exists.intro; apply And.intro
    rotate_left
    · apply gm_go et ht ew en; apply Or.inl; apply And.intro rfl; intro X Q k; apply w_115_i; apply And.intro hn; apply And.intro hn
      rw [zu_g (by decide), zu_g (by decide), ea]
      apply And.intro (by omega)
      ((repeat' (refine And.intro ?_ ?_)) <;> intro c <;> first | (exfalso; omega) | skip)
      exact p_116 N (by simp [zu, *]) hN ⟨ha, by simp [zu, e1]; omega, fun _ => w_115_149_i (p_118 J (by simp [zu, *]) hJ (by simp) ⟨ha, p_111 (by simp [zu, e1]; omega) (by omega) (p_117 H (by simp [zu, *]) hH k)⟩), fun a => by simp [zu, e1] at a; omega⟩
    · rw [show (if 0 ≤ t1 then J else 1) = 1 from if_neg (by omega)]
      (refine ⟨fun j => ?_, fun j => ?_, fun j => ?_, fun j => ?_, fun j => ?_, ?_, ?_, ?_, fun j h1 h2 h3 => ?_, fun k => ?_, fun k => ?_, fun k hk => by (repeat rw [zu_f (by omega)])⟩ <;> (first | (simp [zu]; done) | ((repeat rw [zu_g (by decide)]); exact ife) | (simp [zu]; (repeat' split) <;> omega)))
  · apply Exists.intro; apply And.intro
    rotate_left
    · apply gm_go et ht ew en; apply Or.inl; apply And.intro rfl; intro X Q k; apply w_115_i; apply And.intro hn; apply And.intro hn
      rw [zu_g (by decide), zu_g (by decide), ea]
      apply And.intro (by omega)
      ((repeat' (refine And.intro ?_ ?_)) <;> intro c <;> first | (exfalso; omega) | skip)
      exact p_116 N (by simp [zu, *]) hN ⟨ha, by simp [zu, e1]; omega, fun a => by simp [zu, e1] at a; omega, fun _ => w_115_149_i (p_118 J (by simp [zu, *]) hJ (by simp) ⟨ha, p_111 (by simp [zu, e1]; omega) (by omega) (p_117 H (by simp [zu, *]) hH k)⟩)⟩
    · rw [show (if 0 ≤ t1 then J else 1) = J from if_pos (by omega)]
      (refine ⟨fun j => ?_, fun j => ?_, fun j => ?_, fun j => ?_, fun j => ?_, ?_, ?_, ?_, fun j h1 h2 h3 => ?_, fun k => ?_, fun k => ?_, fun k hk => by (repeat rw [zu_f (by omega)])⟩ <;> (first | (simp [zu]; done) | ((repeat rw [zu_g (by decide)]); exact ife) | (simp [zu]; (repeat' split) <;> omega)))
end
