section
variable {m : zS} {n f t N H J W a b c t1 t2 K wp : Int}
theorem b_6o (et : m 45 27 = t + 1) (ht : 0 ≤ t ∧ t < 1200) (ew : m 67 t = 2) (en : m 68 t = n) (hn : 0 ≤ n ∧ n < 150) (hk : m 52 n = 6) (ea : m 53 n = a) (ha : 0 ≤ a ∧ a < 8) (eN : m 45 16 = N) (eH : m 45 30 = H) (e1 : m 69 (H - 1) = t1) (e2 : m 69 (H - 2) = t2) (hr : ∀ k, 0 ≤ k → k < H → tI (m 69 k)) (hl : ∀ k, 0 ≤ k → k < 8 → -1 ≤ m 70 k ∧ m 70 k ≤ 7) (r4 : tI (m 46 a)) (r5 : tI (m 47 a)) (hN : 0 ≤ N ∧ N < 400) (hH : 2 ≤ H ∧ H ≤ 16) (eJ : m 45 36 = J) (hJ : J = 0 ∨ J = 1) :
    ∃ m', EM (zu m 45 27 t) m' N 6 a 2 (bm (m 70) 8) (bm (m 69) H.toNat) (H - 1) a 0 (m 70 0) (if t2 = m 46 a ∧ t1 = m 47 a then J else 1) ∧ goO f m m' := by
  have r1 := hr (H - 1) (by omega) (by omega)
  have r2 := hr (H - 2) (by omega) (by omega)
  rw [e1] at r1; rw [e2] at r2
  unfold tI at r1 r2 r4 r5
  have e2' : m 69 (H - 1 - 1) = t2 := by rw [← e2]; congr 1; omega
  have z9 : zu m 45 27 t 69 = m 69 := zu_f (by decide)
  have z0 : zu m 45 27 t 70 = m 70 := zu_f (by decide)
  have pre : ∀ X Q, w_123_57 X n 6 (zu (zu (zu (zu (zu (zu (zu m 45 27 t) 58 N 6) 59 N a) 60 N 2) 61 N (bm (m 70) 8)) 62 N (bm (m 69) H.toNat)) 45 16 (N + 1)) (fun _ s => Q 0 s) → w_119 X n (zu m 45 27 t) Q := by
    intro X Q k
    apply w_119_i; apply And.intro hn; rw [zu_g (by decide), hk]
    refine ⟨by omega, fun _ => ⟨by omega, fun _ => ⟨by omega, fun _ => ⟨by omega, fun _ => ?_, fun a => by omega⟩, fun a => by omega⟩, fun a => by omega⟩, fun a => by omega⟩
    apply w_119_155_i; apply w_123_i; apply And.intro hn; rw [zu_g (by decide), zu_g (by decide), hk, ea]
    refine ⟨by omega, fun a => by omega, fun _ => ⟨hn, ?_⟩⟩
    refine p_121 (N := N) (H := H) (by simp [zu, *]) (by simp [zu, *]) (by omega) hN (by rw [z9]; exact hr) (by rw [z0]; exact hl) ?_
    rw [z9, z0]
    exact k
  by_cases q : t2 = m 46 a ∧ t1 = m 47 a
  · rw [if_pos q]
    (apply Exists.intro; apply And.intro; rotate_left)
    · apply gm_go et ht ew en; apply Or.inr; apply Or.inl; apply And.intro rfl; intro X Q k
      apply pre X Q
      exact w_123_57_i (p_122 H t1 (by simp [zu, *]) (by simp [zu, *]) (by omega) (p_122 (H - 1) t2 (by simp [zu, *]) (by simp [zu, *]) (by omega) ⟨by omega, fun a => by omega, fun _ => ⟨hn, by simp [zu, ea]; omega, by simp [zu, ea]; omega, fun a => absurd q.1 (by simpa [zu, ea] using a), fun _ => ⟨hn, by simp [zu, ea]; omega, by simp [zu, ea]; omega, fun a => absurd q.2 (by simpa [zu, ea] using a), fun _ => w_123_111_i (p_118 J (by simp [zu, *]) hJ (by simp) ⟨hn, p_117 (H - 1 - 1) (by simp [zu, *]) (by omega) k⟩)⟩⟩⟩))
    · (refine ⟨fun j => ?_, fun j => ?_, fun j => ?_, fun j => ?_, fun j => ?_, ?_, ?_, ?_, fun j h1 h2 h3 => ?_, fun k => ?_, fun k => ?_, fun k hk => by (repeat rw [zu_f (by omega)])⟩ <;> (first | (simp [zu]; done) | ((repeat rw [zu_g (by decide)]); exact ife) | (simp [zu]; (repeat' split) <;> omega)))
  · rw [if_neg q]
    (apply Exists.intro; apply And.intro; rotate_left)
    · apply gm_go et ht ew en; apply Or.inr; apply Or.inl; apply And.intro rfl; intro X Q k
      apply pre X Q
      have key := fun (u : zS) (a : u = zu (zu (zu (zu (zu (zu (zu (zu (zu m 45 27 t) 58 N 6) 59 N a) 60 N 2) 61 N (bm (m 70) 8)) 62 N (bm (m 69) H.toNat)) 45 16 (N + 1)) 45 30 (H - 1)) 45 30 (H - 1 - 1)) => (show w_123_111 X n 0 u (fun _ s => Q 0 s) by
        subst a
        exact w_123_111_i (p_118 J (by simp [zu, *]) hJ (by simp) ⟨hn, p_117 (H - 1 - 1) (by simp [zu, *]) (by omega) k⟩))
      exact w_123_57_i (p_122 H t1 (by simp [zu, *]) (by simp [zu, *]) (by omega) (p_122 (H - 1) t2 (by simp [zu, *]) (by simp [zu, *]) (by omega) ⟨by omega, fun a => by omega, fun _ => ⟨hn, by simp [zu, ea]; omega, by simp [zu, ea]; omega, fun a => w_123_110_i (key _ rfl), fun a => ⟨hn, by simp [zu, ea]; omega, by simp [zu, ea]; omega, fun a => w_123_110_i (key _ rfl), fun a' => absurd (by simp [zu, ea] at a a'; exact ⟨a, a'⟩) q⟩⟩⟩))
    · (refine ⟨fun j => ?_, fun j => ?_, fun j => ?_, fun j => ?_, fun j => ?_, ?_, ?_, ?_, fun j h1 h2 h3 => ?_, fun k => ?_, fun k => ?_, fun k hk => by (repeat rw [zu_f (by omega)])⟩ <;> (first | (simp [zu]; done) | ((repeat rw [zu_g (by decide)]); exact ife) | (simp [zu]; (repeat' split) <;> omega)))
theorem b_puto (et : m 45 27 = t + 1) (ht : 0 ≤ t ∧ t < 1200) (ew : m 67 t = 2) (en : m 68 t = n) (hn : 0 ≤ n ∧ n < 150) (hk : m 52 n = K) (hK : K = 14 ∨ K = 15) (eN : m 45 16 = N) (eH : m 45 30 = H) (e1 : m 69 (H - 1) = t1) (e2 : m 69 (H - 2) = t2) (r1 : tI t1) (r2 : tI t2) (r4 : tI (m 46 t2)) (r5 : tI (m 47 t2)) (hN : 0 ≤ N ∧ N < 400) (hH : 2 ≤ H ∧ H ≤ 16) (eJ : m 45 36 = J) (hJ : J = 0 ∨ J = 1) :
    ∃ m', EM (zu m 45 27 t) m' N (K + 1) 0 0 0 0 (H - 1) t1 0 (m 70 0) (if 0 < t2 ∧ t1 = (if K = 14 then m 46 t2 else m 47 t2) then J else 1) ∧ goO f m m' := by
  unfold tI at r1 r2 r4 r5
  have e2' : m 69 (H - 1 - 1) = t2 := by rw [← e2]; congr 1; omega
  have pre : ∀ X Q, w_123_57 X n K (zu (zu (zu (zu (zu (zu (zu m 45 27 t) 58 N (K + 1)) 59 N 0) 60 N 0) 61 N 0) 62 N 0) 45 16 (N + 1)) (fun _ s => Q 0 s) → w_119 X n (zu m 45 27 t) Q := by
    intro X Q k
    apply w_119_i; apply And.intro hn; rw [zu_g (by decide), hk]
    have key : w_119_155 X n (zu m 45 27 t) Q := by
      apply w_119_155_i; apply w_123_i; apply And.intro hn; rw [zu_g (by decide), hk]
      refine ⟨by omega, fun _ => ⟨by omega, fun _ => ⟨by omega, fun _ => ?_, fun _ => ?_⟩, fun a => by omega⟩, fun a => by omega⟩
      · rw [show (16 : Int) = K + 1 by omega]
        exact w_123_53_i (p_116 N (by simp [zu, *]) hN k)
      · rw [show (15 : Int) = K + 1 by omega]
        exact w_123_53_i (p_116 N (by simp [zu, *]) hN k)
    exact ⟨by omega, fun _ => ⟨by omega, fun _ => ⟨by omega, fun _ => ⟨by omega, fun a => by omega, fun _ => ⟨by omega, fun _ => key, fun _ => ⟨by omega, fun _ => by omega, fun _ => key⟩⟩⟩, fun a => by omega⟩, fun a => by omega⟩, fun a => by omega⟩
  generalize eL : (if K = 14 then m 46 t2 else m 47 t2) = L
  have rL : 0 ≤ L ∧ L ≤ 7 := by rw [← eL]; split <;> omega
  -- to the place where it is decided
  have mid : ∀ X Q, (0 < t2 → w_123_189 X t1 t1 L (zu (zu (zu (zu (zu (zu (zu (zu (zu m 45 27 t) 58 N (K + 1)) 59 N 0) 60 N 0) 61 N 0) 62 N 0) 45 16 (N + 1)) 45 30 (H - 1)) 45 30 (H - 1 - 1)) (fun _ s => Q 0 s)) → (t2 ≤ 0 → w_123_196 X t1 (zu (zu (zu (zu (zu (zu (zu (zu (zu m 45 27 t) 58 N (K + 1)) 59 N 0) 60 N 0) 61 N 0) 62 N 0) 45 16 (N + 1)) 45 30 (H - 1)) 45 30 (H - 1 - 1)) (fun _ s => Q 0 s)) → w_119 X n (zu m 45 27 t) Q := by
    intro X Q k1 k2
    apply pre X Q
    refine w_123_57_i (p_122 H t1 (by simp [zu, *]) (by simp [zu, *]) (by omega) (p_122 (H - 1) t2 (by simp [zu, *]) (by simp [zu, *]) (by omega) ⟨by omega, fun _ => ⟨by omega, fun _ => ⟨by omega, k2, fun a => ⟨by omega, fun a' => ⟨by omega, ?_⟩, fun a' => ⟨by omega, ?_⟩⟩⟩, fun a => by omega⟩, fun a => by omega⟩))
    · simp only [zu_g (k := 47) (a := 45) (by decide), zu_g (k := 47) (a := 58) (by decide), zu_g (k := 47) (a := 59) (by decide), zu_g (k := 47) (a := 60) (by decide), zu_g (k := 47) (a := 61) (by decide), zu_g (k := 47) (a := 62) (by decide)]
      rw [if_neg a'] at eL
      rw [eL]
      exact k1 (by omega)
    · simp only [zu_g (k := 46) (a := 45) (by decide), zu_g (k := 46) (a := 58) (by decide), zu_g (k := 46) (a := 59) (by decide), zu_g (k := 46) (a := 60) (by decide), zu_g (k := 46) (a := 61) (by decide), zu_g (k := 46) (a := 62) (by decide)]
      rw [if_pos (by omega)] at eL
      rw [eL]
      exact k1 (by omega)
  by_cases q : 0 < t2 ∧ t1 = L
  · rw [if_pos q]
    (apply Exists.intro; apply And.intro; rotate_left)
    · apply gm_go et ht ew en; apply Or.inr; apply Or.inl; apply And.intro rfl; intro X Q k
      apply mid X Q (fun _ => ?_) (fun a => by omega)
      exact w_123_189_i ⟨by omega, fun a => by omega, fun _ => w_123_197_i (p_118 J (by simp [zu, *]) hJ (by simp) (p_117 (H - 1 - 1) (by simp [zu, *]) (by omega) k))⟩
    · (refine ⟨fun j => ?_, fun j => ?_, fun j => ?_, fun j => ?_, fun j => ?_, ?_, ?_, ?_, fun j h1 h2 h3 => ?_, fun k => ?_, fun k => ?_, fun k hk => by (repeat rw [zu_f (by omega)])⟩ <;> (first | (simp [zu]; done) | ((repeat rw [zu_g (by decide)]); exact ife) | (simp [zu]; (repeat' split) <;> omega)))
  · rw [if_neg q]
    (apply Exists.intro; apply And.intro; rotate_left)
    · apply gm_go et ht ew en; apply Or.inr; apply Or.inl; apply And.intro rfl; intro X Q k
      have key := fun (u : zS) (a : u = zu (zu (zu (zu (zu (zu (zu (zu (zu m 45 27 t) 58 N (K + 1)) 59 N 0) 60 N 0) 61 N 0) 62 N 0) 45 16 (N + 1)) 45 30 (H - 1)) 45 30 (H - 1 - 1)) => (show w_123_197 X t1 0 u (fun _ s => Q 0 s) by
        subst a
        exact w_123_197_i (p_118 J (by simp [zu, *]) hJ (by simp) (p_117 (H - 1 - 1) (by simp [zu, *]) (by omega) k)))
      apply mid X Q (fun _ => ?_) (fun a => w_123_196_i (key _ rfl))
      exact w_123_189_i ⟨by omega, fun a => w_123_196_i (key _ rfl), fun _ => by omega⟩
    · (refine ⟨fun j => ?_, fun j => ?_, fun j => ?_, fun j => ?_, fun j => ?_, ?_, ?_, ?_, fun j h1 h2 h3 => ?_, fun k => ?_, fun k => ?_, fun k hk => by (repeat rw [zu_f (by omega)])⟩ <;> (first | (simp [zu]; done) | ((repeat rw [zu_g (by decide)]); exact ife) | (simp [zu]; (repeat' split) <;> omega)))
end
