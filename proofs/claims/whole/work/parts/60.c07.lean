section
variable {m : zS} {n f t N H J W a b c t1 t2 K : Int}
-- VISIT of what has parts
theorem v_twoo (et : m 45 27 = t + 1) (ht : 0 ≤ t ∧ t < 1190) (ew : m 67 t = 0) (en : m 68 t = n) (hn : 0 ≤ n ∧ n < 150) (hk : m 52 n = K) (hK : K = 3 ∨ K = 4 ∨ K = 5 ∨ K = 14 ∨ K = 15) (ea : m 53 n = a) (eb : m 54 n = b) :
    ∃ m', (LM m m' t (t + 3) ∧ m' 67 t = 2 ∧ m' 68 t = n ∧ m' 67 (t + 1) = 0 ∧ m' 68 (t + 1) = b ∧ m' 67 (t + 2) = 0 ∧ m' 68 (t + 2) = a) ∧ goO f m m' := by
  have ht : 0 ≤ t ∧ t < 1200 := by omega
  (apply Exists.intro; apply And.intro; rotate_left)
  · (apply gm_go et ht ew en; apply Or.inl; apply And.intro rfl; intro X Q k; apply w_115_i; apply And.intro hn; apply And.intro hn; rw [zu_g (by decide), zu_g (by decide)]; try rw [ea])
    apply And.intro (by omega)
    ((repeat' (refine And.intro ?_ ?_)) <;> intro c <;> first | (exfalso; omega) | skip)
    apply p_114 t (by simp [zu, *]) ht
    have key : w_115_385 X n a (zu (zu (zu (zu m 45 27 t) 67 t 2) 68 t n) 45 27 (t + 1)) Q := by
      apply w_115_385_i; apply And.intro hn
      rw [zu_g (by decide), zu_g (by decide), zu_g (by decide), zu_g (by decide), eb]
      exact p_114 (t + 1) (by simp [zu, *]) (by omega) (w_115_396_i (p_114 (t + 2) (by simp [zu]; omega) (by omega) k))
    rw [zu_g (by decide), zu_g (by decide), zu_g (by decide), zu_g (by decide)]
    exact ⟨hn, by omega, fun _ => key, fun _ => ⟨hn, by omega, fun _ => key, fun _ => ⟨hn, by omega, fun _ => by omega, fun _ => key⟩⟩⟩
  · (refine ⟨⟨by simp [zu]; try omega, fun j h => by simp [zu, h], fun j h => ⟨?_, ?_⟩, fun k h1 h2 h3 => by (repeat rw [zu_f (by omega)])⟩, ?_⟩ <;> (simp [zu]; try ((repeat' split) <;> omega)))
theorem v_oneo (et : m 45 27 = t + 1) (ht : 0 ≤ t ∧ t < 1190) (ew : m 67 t = 0) (en : m 68 t = n) (hn : 0 ≤ n ∧ n < 150) (hk : m 52 n = K) (hK : K = 7 ∨ K = 8 ∨ K = 9 ∨ K = 16) (ea : m 53 n = a) :
    ∃ m', (LM m m' t (t + 2) ∧ m' 67 t = 2 ∧ m' 68 t = n ∧ m' 67 (t + 1) = 0 ∧ m' 68 (t + 1) = a) ∧ goO f m m' := by
  have ht : 0 ≤ t ∧ t < 1200 := by omega
  (apply Exists.intro; apply And.intro; rotate_left)
  · (apply gm_go et ht ew en; apply Or.inl; apply And.intro rfl; intro X Q k; apply w_115_i; apply And.intro hn; apply And.intro hn; rw [zu_g (by decide), zu_g (by decide)]; try rw [ea])
    apply And.intro (by omega)
    ((repeat' (refine And.intro ?_ ?_)) <;> intro c <;> first | (exfalso; omega) | skip)
    apply p_114 t (by simp [zu, *]) ht
    rw [zu_g (by decide), zu_g (by decide), zu_g (by decide), zu_g (by decide)]
    exact ⟨hn, by omega, fun _ => by omega, fun _ => ⟨hn, by omega, fun _ => by omega, fun _ => ⟨hn, by omega, fun _ => w_115_396_i (p_114 (t + 1) (by simp [zu, *]) (by omega) k), fun _ => by omega⟩⟩⟩
  · (refine ⟨⟨by simp [zu]; try omega, fun j h => by simp [zu, h], fun j h => ⟨?_, ?_⟩, fun k h1 h2 h3 => by (repeat rw [zu_f (by omega)])⟩, ?_⟩ <;> (simp [zu]; try ((repeat' split) <;> omega)))
theorem v_6o (et : m 45 27 = t + 1) (ht : 0 ≤ t ∧ t < 1190) (ew : m 67 t = 0) (en : m 68 t = n) (hn : 0 ≤ n ∧ n < 150) (hk : m 52 n = 6) (eb : m 54 n = b) (ec : m 55 n = c) :
    ∃ m', (LM m m' t (t + 3) ∧ m' 67 t = 2 ∧ m' 68 t = n ∧ m' 67 (t + 1) = 0 ∧ m' 68 (t + 1) = c ∧ m' 67 (t + 2) = 0 ∧ m' 68 (t + 2) = b) ∧ goO f m m' := by
  have ht : 0 ≤ t ∧ t < 1200 := by omega
  (apply Exists.intro; apply And.intro; rotate_left)
  · (apply gm_go et ht ew en; apply Or.inl; apply And.intro rfl; intro X Q k; apply w_115_i; apply And.intro hn; apply And.intro hn; rw [zu_g (by decide), zu_g (by decide)]; try rw [ea])
    apply And.intro (by omega)
    ((repeat' (refine And.intro ?_ ?_)) <;> intro c <;> first | (exfalso; omega) | skip)
    apply p_114 t (by simp [zu, *]) ht; apply And.intro hn
    rw [zu_g (by decide), zu_g (by decide), zu_g (by decide), zu_g (by decide), ec]
    apply p_114 (t + 1) (by simp [zu, *]) (by omega); apply And.intro hn
    rw [zu_g (by decide), zu_g (by decide), zu_g (by decide), zu_g (by decide), zu_g (by decide), zu_g (by decide), zu_g (by decide), eb]
    exact p_114 (t + 2) (by simp [zu]; omega) (by omega) k
  · (refine ⟨⟨by simp [zu]; try omega, fun j h => by simp [zu, h], fun j h => ⟨?_, ?_⟩, fun k h1 h2 h3 => by (repeat rw [zu_f (by omega)])⟩, ?_⟩ <;> (simp [zu]; try ((repeat' split) <;> omega)))
theorem v_17o (et : m 45 27 = t + 1) (ht : 0 ≤ t ∧ t < 1190) (ew : m 67 t = 0) (en : m 68 t = n) (hn : 0 ≤ n ∧ n < 150) (hk : m 52 n = 17) (ea : m 53 n = a) (eb : m 54 n = b) :
    ∃ m', (LM m m' t (t + 3) ∧ m' 67 t = 0 ∧ m' 68 t = b ∧ m' 67 (t + 1) = 2 ∧ m' 68 (t + 1) = n ∧ m' 67 (t + 2) = 0 ∧ m' 68 (t + 2) = a) ∧ goO f m m' := by
  have ht : 0 ≤ t ∧ t < 1200 := by omega
  (apply Exists.intro; apply And.intro; rotate_left)
  · (apply gm_go et ht ew en; apply Or.inl; apply And.intro rfl; intro X Q k; apply w_115_i; apply And.intro hn; apply And.intro hn; rw [zu_g (by decide), zu_g (by decide)]; try rw [ea])
    apply And.intro (by omega)
    ((repeat' (refine And.intro ?_ ?_)) <;> intro c <;> first | (exfalso; omega) | skip)
    apply And.intro hn
    rw [zu_g (by decide), eb]
    exact p_114 t (by simp [zu, *]) ht (p_114 (t + 1) (by simp [zu, *]) (by omega) (p_114 (t + 2) (by simp [zu]; omega) (by omega) k))
  · (refine ⟨⟨by simp [zu]; try omega, fun j h => by simp [zu, h], fun j h => ⟨?_, ?_⟩, fun k h1 h2 h3 => by (repeat rw [zu_f (by omega)])⟩, ?_⟩ <;> (simp [zu]; try ((repeat' split) <;> omega)))
theorem v_10o (et : m 45 27 = t + 1) (ht : 0 ≤ t ∧ t < 1190) (ew : m 67 t = 0) (en : m 68 t = n) (hn : 0 ≤ n ∧ n < 150) (hk : m 52 n = 10) (ea : m 53 n = a) (eb : m 54 n = b) (ec : m 55 n = c) :
    ∃ m', (LM m m' t (t + 6) ∧ m' 67 t = 4 ∧ m' 68 t = n ∧ m' 67 (t + 1) = 0 ∧ m' 68 (t + 1) = c ∧ m' 67 (t + 2) = 3 ∧ m' 68 (t + 2) = n ∧ m' 67 (t + 3) = 0 ∧ m' 68 (t + 3) = b ∧ m' 67 (t + 4) = 2 ∧ m' 68 (t + 4) = n ∧ m' 67 (t + 5) = 0 ∧ m' 68 (t + 5) = a) ∧ goO f m m' := by
  have ht : 0 ≤ t ∧ t < 1200 := by omega
  have z : ∀ (u : zS) (T w x : Int), zu (zu (zu u 67 T w) 68 T x) 45 27 (T + 1) 52 = u 52 ∧ zu (zu (zu u 67 T w) 68 T x) 45 27 (T + 1) 54 = u 54 ∧ zu (zu (zu u 67 T w) 68 T x) 45 27 (T + 1) 55 = u 55 := by
    intro u T w x; refine ⟨?_, ?_, ?_⟩ <;> (repeat rw [zu_f (by omega)])
  have z0 : zu m 45 27 t 52 = m 52 ∧ zu m 45 27 t 54 = m 54 ∧ zu m 45 27 t 55 = m 55 := by refine ⟨?_, ?_, ?_⟩ <;> (repeat rw [zu_f (by omega)])
  (apply Exists.intro; apply And.intro; rotate_left)
  · (apply gm_go et ht ew en; apply Or.inl; apply And.intro rfl; intro X Q k; apply w_115_i; apply And.intro hn; apply And.intro hn; rw [zu_g (by decide), zu_g (by decide)]; try rw [ea])
    apply And.intro (by omega)
    ((repeat' (refine And.intro ?_ ?_)) <;> intro c <;> first | (exfalso; omega) | skip)
    apply p_114 t (by simp [zu, *]) ht; apply And.intro hn
    simp only [(z _ _ _ _).1, (z _ _ _ _).2.1, (z _ _ _ _).2.2, z0.1, z0.2.1, z0.2.2, ec]
    apply p_114 (t + 1) (by simp [zu, *]) (by omega); apply And.intro hn
    simp only [(z _ _ _ _).1, (z _ _ _ _).2.1, (z _ _ _ _).2.2, z0.1, z0.2.1, z0.2.2, ec]
    apply And.intro (by omega); apply And.intro (fun q => absurd hk q); intro _
    apply p_114 (t + 2) (by simp [zu]; omega) (by omega)
    apply w_115_234_i; apply And.intro hn
    simp only [(z _ _ _ _).1, (z _ _ _ _).2.1, (z _ _ _ _).2.2, z0.1, z0.2.1, z0.2.2, ec, eb]
    apply And.intro (by omega); apply And.intro (fun q => absurd hk q); intro _; apply And.intro hn
    apply p_114 (t + 3) (by simp [zu]; omega) (by omega)
    apply w_115_256_i
    apply p_114 (t + 4) (by simp [zu]; omega) (by omega); apply And.intro hn
    simp only [(z _ _ _ _).1, (z _ _ _ _).2.1, (z _ _ _ _).2.2, z0.1, z0.2.1, z0.2.2, ec, eb]
    exact ⟨by omega, fun q => absurd hk q, fun _ => w_115_285_i (p_114 (t + 5) (by simp [zu]; omega) (by omega) k)⟩
  · (refine ⟨⟨by simp [zu]; try omega, fun j h => by simp [zu, h], fun j h => ⟨?_, ?_⟩, fun k h1 h2 h3 => by (repeat rw [zu_f (by omega)])⟩, ?_⟩ <;> (simp [zu]; try ((repeat' split) <;> omega)))
theorem v_11o (et : m 45 27 = t + 1) (ht : 0 ≤ t ∧ t < 1190) (ew : m 67 t = 0) (en : m 68 t = n) (hn : 0 ≤ n ∧ n < 150) (hk : m 52 n = 11) (eb : m 54 n = b) (ec : m 55 n = c) :
    ∃ m', (LM m m' t (t + 4) ∧ m' 67 t = 4 ∧ m' 68 t = n ∧ m' 67 (t + 1) = 0 ∧ m' 68 (t + 1) = c ∧ m' 67 (t + 2) = 2 ∧ m' 68 (t + 2) = n ∧ m' 67 (t + 3) = 0 ∧ m' 68 (t + 3) = b) ∧ goO f m m' := by
  have ht : 0 ≤ t ∧ t < 1200 := by omega
  have z : ∀ (u : zS) (T w x : Int), zu (zu (zu u 67 T w) 68 T x) 45 27 (T + 1) 52 = u 52 ∧ zu (zu (zu u 67 T w) 68 T x) 45 27 (T + 1) 54 = u 54 ∧ zu (zu (zu u 67 T w) 68 T x) 45 27 (T + 1) 55 = u 55 := by
    intro u T w x; refine ⟨?_, ?_, ?_⟩ <;> (repeat rw [zu_f (by omega)])
  have z0 : zu m 45 27 t 52 = m 52 ∧ zu m 45 27 t 54 = m 54 ∧ zu m 45 27 t 55 = m 55 := by refine ⟨?_, ?_, ?_⟩ <;> (repeat rw [zu_f (by omega)])
  (apply Exists.intro; apply And.intro; rotate_left)
  · (apply gm_go et ht ew en; apply Or.inl; apply And.intro rfl; intro X Q k; apply w_115_i; apply And.intro hn; apply And.intro hn; rw [zu_g (by decide), zu_g (by decide)]; try rw [ea])
    apply And.intro (by omega)
    ((repeat' (refine And.intro ?_ ?_)) <;> intro c <;> first | (exfalso; omega) | skip)
    apply p_114 t (by simp [zu, *]) ht; apply And.intro hn
    simp only [(z _ _ _ _).1, (z _ _ _ _).2.1, (z _ _ _ _).2.2, z0.1, z0.2.1, z0.2.2, ec]
    apply p_114 (t + 1) (by simp [zu, *]) (by omega); apply And.intro hn
    simp only [(z _ _ _ _).1, (z _ _ _ _).2.1, (z _ _ _ _).2.2, z0.1, z0.2.1, z0.2.2, ec]
    apply And.intro (by omega); refine And.intro ?_ (fun q => by omega); intro _
    apply w_115_234_i; apply And.intro hn
    simp only [(z _ _ _ _).1, (z _ _ _ _).2.1, (z _ _ _ _).2.2, z0.1, z0.2.1, z0.2.2, ec, eb]
    apply And.intro (by omega); refine And.intro ?_ (fun q => by omega); intro _
    apply w_115_256_i
    apply p_114 (t + 2) (by simp [zu]; omega) (by omega); apply And.intro hn
    simp only [(z _ _ _ _).1, (z _ _ _ _).2.1, (z _ _ _ _).2.2, z0.1, z0.2.1, z0.2.2, ec, eb]
    exact ⟨by omega, fun q => ⟨hn, w_115_285_i (p_114 (t + 3) (by simp [zu]; omega) (by omega) k)⟩, fun q => by omega⟩
  · (refine ⟨⟨by simp [zu]; try omega, fun j h => by simp [zu, h], fun j h => ⟨?_, ?_⟩, fun k h1 h2 h3 => by (repeat rw [zu_f (by omega)])⟩, ?_⟩ <;> (simp [zu]; try ((repeat' split) <;> omega)))
theorem v_12o (et : m 45 27 = t + 1) (ht : 0 ≤ t ∧ t < 1190) (ew : m 67 t = 0) (en : m 68 t = n) (hn : 0 ≤ n ∧ n < 150) (hk : m 52 n = 12) (eb : m 54 n = b) (hb : -1 ≤ b ∧ b < 150) :
    ∃ m', (LM m m' t (if b < 0 then t + 1 else t + 2) ∧ m' 67 t = 2 ∧ m' 68 t = n ∧ (0 ≤ b → m' 67 (t + 1) = 1 ∧ m' 68 (t + 1) = b)) ∧ goO f m m' := by
  have ht : 0 ≤ t ∧ t < 1200 := by omega
  by_cases q : b < 0
  · rw [if_pos q]
    (apply Exists.intro; apply And.intro; rotate_left)
    · (apply gm_go et ht ew en; apply Or.inl; apply And.intro rfl; intro X Q k; apply w_115_i; apply And.intro hn; apply And.intro hn; rw [zu_g (by decide), zu_g (by decide)]; try rw [ea])
      apply And.intro (by omega)
      ((repeat' (refine And.intro ?_ ?_)) <;> intro c <;> first | (exfalso; omega) | skip)
      apply p_114 t (by simp [zu, *]) ht; apply And.intro hn
      rw [zu_g (by decide), zu_g (by decide), zu_g (by decide), zu_g (by decide), eb]
      exact ⟨by omega, fun _ => k, fun a => by omega⟩
    · (refine ⟨⟨by simp [zu]; try omega, fun j h => by simp [zu, h], fun j h => ⟨?_, ?_⟩, fun k h1 h2 h3 => by (repeat rw [zu_f (by omega)])⟩, ?_⟩ <;> (simp [zu]; try ((repeat' split) <;> omega)))
  · rw [if_neg q]
    (apply Exists.intro; apply And.intro; rotate_left)
    · (apply gm_go et ht ew en; apply Or.inl; apply And.intro rfl; intro X Q k; apply w_115_i; apply And.intro hn; apply And.intro hn; rw [zu_g (by decide), zu_g (by decide)]; try rw [ea])
      apply And.intro (by omega)
      ((repeat' (refine And.intro ?_ ?_)) <;> intro c <;> first | (exfalso; omega) | skip)
      apply p_114 t (by simp [zu, *]) ht; apply And.intro hn
      rw [zu_g (by decide), zu_g (by decide), zu_g (by decide), zu_g (by decide), eb]
      exact ⟨by omega, fun _ => by omega, fun a => ⟨hn, p_114 (t + 1) (by simp [zu, *]) (by omega) k⟩⟩
    · (refine ⟨⟨by simp [zu]; try omega, fun j h => by simp [zu, h], fun j h => ⟨?_, ?_⟩, fun k h1 h2 h3 => by (repeat rw [zu_f (by omega)])⟩, ?_⟩ <;> (simp [zu]; try ((repeat' split) <;> omega)))
-- ARGUMENTS
theorem v_13o (et : m 45 27 = t + 1) (ht : 0 ≤ t ∧ t < 1190) (ew : m 67 t = 1) (en : m 68 t = n) (hn : 0 ≤ n ∧ n < 150) (ea : m 53 n = a) (eb : m 54 n = b) (hb : -1 ≤ b ∧ b < 150) :
    ∃ m', (LM m m' t (if b < 0 then t + 1 else t + 2) ∧ (b < 0 → m' 67 t = 0 ∧ m' 68 t = a) ∧ (0 ≤ b → m' 67 t = 1 ∧ m' 68 t = b ∧ m' 67 (t + 1) = 0 ∧ m' 68 (t + 1) = a)) ∧ goO f m m' := by
  have ht : 0 ≤ t ∧ t < 1200 := by omega
  have e : m 45 27 - 1 = t := by omega
  by_cases q : b < 0
  · rw [if_pos q]
    (apply Exists.intro; apply And.intro; rotate_left)
    · intro X Q h
      apply w_113_80_i; apply And.intro (by omega); apply And.intro (fun a => by omega); intro _
      rw [e]
      rintro _ rfl
      rw [zu_s, zu_g (by decide), zu_g (by decide), ew, en, zu_g (by decide), eb]
      apply And.intro ht; apply And.intro ht; apply And.intro (by omega)
      refine And.intro (fun _ => ⟨by omega, fun a => by omega, fun _ => ⟨hn, by omega, fun _ => ?_, fun a => by omega⟩⟩) (fun a => by omega)
      apply w_113_154_i; apply And.intro hn
      rw [zu_g (by decide), ea]
      exact p_114 t (by simp [zu, *]) ht (w_113_199_i h)
    · refine ⟨⟨by simp [zu], fun j h => by simp [zu, h], fun j h => ⟨?_, ?_⟩, fun k h1 h2 h3 => by (repeat rw [zu_f (by omega)])⟩, ?_⟩ <;> (simp [zu]; try omega)
  · rw [if_neg q]
    (apply Exists.intro; apply And.intro; rotate_left)
    · intro X Q h
      apply w_113_80_i; apply And.intro (by omega); apply And.intro (fun a => by omega); intro _
      rw [e]
      rintro _ rfl
      rw [zu_s, zu_g (by decide), zu_g (by decide), ew, en, zu_g (by decide), eb]
      apply And.intro ht; apply And.intro ht; apply And.intro (by omega)
      refine And.intro (fun _ => ⟨by omega, fun a => by omega, fun _ => ⟨hn, by omega, fun a => by omega, fun _ => ⟨hn, ?_⟩⟩⟩) (fun a => by omega)
      apply p_114 t (by simp [zu, *]) ht
      apply w_113_154_i; apply And.intro hn
      rw [zu_g (by decide), zu_g (by decide), zu_g (by decide), zu_g (by decide), ea]
      exact p_114 (t + 1) (by simp [zu, *]) (by omega) (w_113_199_i h)
    · refine ⟨⟨by simp [zu]; omega, fun j h => by simp [zu, h], fun j h => ⟨?_, ?_⟩, fun k h1 h2 h3 => by (repeat rw [zu_f (by omega)])⟩, ?_⟩ <;> (simp [zu]; try omega)
end
