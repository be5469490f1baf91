section
variable {m : zS} {n f t N H J W a b c t1 t2 K wp : Int}
-- BEHIND
theorem b_sumo (et : m 45 27 = t + 1) (ht : 0 ≤ t ∧ t < 1200) (ew : m 67 t = 2) (en : m 68 t = n) (hn : 0 ≤ n ∧ n < 150) (hk : m 52 n = K) (hK : K = 3 ∨ K = 4 ∨ K = 5) (eN : m 45 16 = N) (eH : m 45 30 = H) (e1 : m 69 (H - 1) = t1) (e2 : m 69 (H - 2) = t2) (r1 : tI t1) (r2 : tI t2) (hN : 0 ≤ N ∧ N < 400) (hH : 2 ≤ H ∧ H < 40) (eJ : m 45 36 = J) (hJ : J = 0 ∨ J = 1) :
    ∃ m', EM (zu m 45 27 t) m' N K 0 0 0 0 (H - 1) 0 0 (m 70 0) (if t2 = 0 ∧ t1 = 0 then J else 1) ∧ goO f m m' := by
  unfold tI at r1 r2
  have e2' : m 69 (H - 1 - 1) = t2 := by rw [← e2]; congr 1; omega
  by_cases q : t2 = 0 ∧ t1 = 0
  · rw [if_pos q]
    (apply Exists.intro; apply And.intro; rotate_left)
    · (apply gm_go et ht ew en; apply Or.inr; apply Or.inl; apply And.intro rfl; intro X Q k; apply w_119_i; apply And.intro hn; rw [zu_g (by decide)])
      rw [hk]
      refine ⟨by omega, fun _ => ⟨by omega, fun _ => ⟨by omega, fun _ => ⟨by omega, fun _ => ?_, fun a => by omega⟩, fun a => by omega⟩, fun a => by omega⟩, fun a => by omega⟩
      apply w_119_155_i; apply w_123_i; apply And.intro hn; rw [zu_g (by decide), hk]
      refine ⟨by omega, fun _ => ⟨by omega, fun a => by omega, fun _ => ?_⟩, fun a => by omega⟩
      exact w_123_53_i (p_116 N (by simp [zu, *]) hN (w_123_57_i (p_122 H t1 (by simp [zu, *]) (by simp [zu, *]) (by omega) (p_122 (H - 1) t2 (by simp [zu, *]) (by simp [zu, *]) (by omega) ⟨by omega, fun _ => ⟨by omega, fun a => by omega, fun _ => ⟨by omega, fun a => absurd q.1 a, fun _ => ⟨by omega, fun a => absurd q.2 a, fun _ => w_123_148_i (p_118 J (by simp [zu, *]) hJ (by simp) (p_117 (H - 1 - 1) (by simp [zu, *]) (by omega) k))⟩⟩⟩, fun a => by omega⟩))))
    · (refine ⟨fun j => ?_, fun j => ?_, fun j => ?_, fun j => ?_, fun j => ?_, ?_, ?_, ?_, fun j h1 h2 h3 => ?_, fun k => ?_, fun k => ?_, fun k hk => by (repeat rw [zu_f (by omega)])⟩ <;> (first | (simp [zu]; done) | ((repeat rw [zu_g (by decide)]); exact ife) | (simp [zu]; (repeat' split) <;> omega)))
  · rw [if_neg q]
    (apply Exists.intro; apply And.intro; rotate_left)
    · (apply gm_go et ht ew en; apply Or.inr; apply Or.inl; apply And.intro rfl; intro X Q k; apply w_119_i; apply And.intro hn; rw [zu_g (by decide)])
      rw [hk]
      refine ⟨by omega, fun _ => ⟨by omega, fun _ => ⟨by omega, fun _ => ⟨by omega, fun _ => ?_, fun a => by omega⟩, fun a => by omega⟩, fun a => by omega⟩, fun a => by omega⟩
      apply w_119_155_i; apply w_123_i; apply And.intro hn; rw [zu_g (by decide), hk]
      refine ⟨by omega, fun _ => ⟨by omega, fun a => by omega, fun _ => ?_⟩, fun a => by omega⟩
      have key := fun (u : zS) (a : u = zu (zu (zu (zu (zu (zu (zu (zu (zu m 45 27 t) 58 N K) 59 N 0) 60 N 0) 61 N 0) 62 N 0) 45 16 (N + 1)) 45 30 (H - 1)) 45 30 (H - 1 - 1)) => (show w_123_148 X 0 u (fun _ s => Q 0 s) by
        subst a
        exact w_123_148_i (p_118 J (by simp [zu, *]) hJ (by simp) (p_117 (H - 1 - 1) (by simp [zu, *]) (by omega) k)))
      exact w_123_53_i (p_116 N (by simp [zu, *]) hN (w_123_57_i (p_122 H t1 (by simp [zu, *]) (by simp [zu, *]) (by omega) (p_122 (H - 1) t2 (by simp [zu, *]) (by simp [zu, *]) (by omega) ⟨by omega, fun _ => ⟨by omega, fun a => by omega, fun _ => ⟨by omega, fun a => w_123_147_i (key _ rfl), fun _ => ⟨by omega, fun a => w_123_147_i (key _ rfl), fun _ => by omega⟩⟩⟩, fun a => by omega⟩))))
    · (refine ⟨fun j => ?_, fun j => ?_, fun j => ?_, fun j => ?_, fun j => ?_, ?_, ?_, ?_, fun j h1 h2 h3 => ?_, fun k => ?_, fun k => ?_, fun k hk => by (repeat rw [zu_f (by omega)])⟩ <;> (first | (simp [zu]; done) | ((repeat rw [zu_g (by decide)]); exact ife) | (simp [zu]; (repeat' split) <;> omega)))
end
