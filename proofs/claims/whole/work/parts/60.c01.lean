theorem zu_f {s : zS} {a k : Nat} {i v : Int} (h : ¬ k = a) : zu s a i v k = s k := by funext b; simp [zu, h]
theorem zu_g {s : zS} {a k : Nat} {i v b : Int} (h : ¬ k = a) : zu s a i v k b = s k b := by simp [zu, h]
theorem zu_s {s : zS} {a : Nat} {i v : Int} : zu s a i v a i = v := by simp [zu]
theorem zu_n {s : zS} {a : Nat} {i v b : Int} (h : ¬ b = i) : zu s a i v a b = s a b := by simp [zu, h]
theorem zu_id {s : zS} {a : Nat} {i v : Int} (h : s a i = v) : zu s a i v = s := by
  funext k b; simp only [zu]; split
  · next h' => rw [h'.1, h'.2, h]
  · rfl
theorem zu_zu {s : zS} {a : Nat} {i v w : Int} : zu (zu s a i v) a i w = zu s a i w := by
  funext k b; simp only [zu]; split <;> rfl
theorem ife {f : Int → Int} {j N : Int} : f j = if j = N then f N else f j := by
  split
  · next h => rw [h]
  · rfl
section
variable {X : zX} {s m : zS} {Q : Int → zS → Prop} {x0 x1 x2 x3 : Int}
/-! The Weaver's small methods. -/
theorem p_39 (N : Int) (e : s 14 1 = N) (h : 0 ≤ N ∧ N < 400) (k : Q N (zu (zu (zu s 15 N x1) 16 N x2) 14 1 (N + 1))) : w_39 X x1 x2 s Q := by
  subst e
  refine w_39_i ⟨h, ?_⟩
  rintro _ rfl
  refine ⟨h, ?_⟩
  rintro _ rfl _ rfl
  exact k
theorem p_49 (H : Int) (e : s 22 8 = H) (h : 0 ≤ H ∧ H < 16) (k : Q 0 (zu (zu s 27 H x1) 22 8 (H + 1))) : w_49 X x1 s Q := by
  subst e
  refine w_49_i ⟨by omega, fun _ => ⟨h, ?_⟩, fun a => by omega⟩
  rintro _ rfl _ rfl
  exact k
theorem p_51 (J : Int) (e : s 22 10 = J) (h : x1 = 0 ∨ x1 = 1) (k : Q 0 (zu s 22 10 (if x1 = 1 then J else 0))) : w_51 X x1 s Q := by
  refine w_51_i ⟨by omega, fun _ => ?_, fun a => ?_⟩
  · rw [if_pos (by omega), zu_id e] at k; exact k
  · rintro _ rfl
    rwa [if_neg (by omega)] at k
theorem p_54 (H t : Int) (e : s 22 8 = H) (et : s 27 (H - 1) = t) (h : 0 < H ∧ H ≤ 16) (k : Q t (zu s 22 8 (H - 1))) : w_54 X s Q := by
  subst e et
  refine w_54_i ⟨by omega, fun _ => ?_, fun a => by omega⟩
  rintro _ rfl
  exact ⟨by simp [zu]; omega, by simpa [zu] using k⟩
theorem p_53 (H t J : Int) (e : s 22 8 = H) (et : s 27 (H - 1) = t) (eJ : s 22 10 = J) (h : 0 < H ∧ H ≤ 16) (hr : 0 ≤ t ∧ t ≤ 7) (k : Q 0 (zu (zu s 22 8 (H - 1)) 22 10 (if t = 0 then J else 0))) : w_53 X s Q := by
  refine w_53_i (p_54 H t e et h ⟨by omega, fun a => w_53_13_i (p_51 J (by simp [zu, eJ]) (by simp) ?_), fun a => w_53_13_i (p_51 J (by simp [zu, eJ]) (by simp) ?_)⟩)
  · rw [if_neg a] at k; simpa using k
  · rw [if_pos (by omega)] at k; simpa [zu] using k
theorem p_57 (H t J : Int) (e : s 22 8 = H) (et : s 27 (H - 1) = t) (eJ : s 22 10 = J) (h : 0 < H ∧ H ≤ 16) (hr : 0 ≤ t ∧ t ≤ 7) (k : Q t (zu (zu s 22 8 (H - 1)) 22 10 (if 0 < t then J else 0))) : w_57 X s Q := by
  refine w_57_i (p_54 H t e et h ⟨by omega, fun a => w_57_15_i (p_51 J (by simp [zu, eJ]) (by simp) ⟨by omega, fun b => ?_, fun b => ?_⟩), fun a => w_57_15_i (p_51 J (by simp [zu, eJ]) (by simp) ⟨by omega, fun b => ?_, fun b => ?_⟩)⟩)
  · rw [if_neg (by omega), show t = 0 by omega] at k; simpa using k
  · omega
  · omega
  · rw [if_pos (by omega)] at k; simpa [zu] using k
/-! The reference's small methods. -/
theorem p_114 (t : Int) (e : m 45 27 = t) (h : 0 ≤ t ∧ t < 1200) (k : Q 0 (zu (zu (zu m 67 t x1) 68 t x2) 45 27 (t + 1))) : w_114 X x1 x2 m Q := by
  subst e
  refine w_114_i ⟨h, ?_⟩
  rintro _ rfl
  refine ⟨h, ?_⟩
  rintro _ rfl _ rfl
  exact k
theorem p_116 (N : Int) (e : m 45 16 = N) (h : 0 ≤ N ∧ N < 400) (k : Q 0 (zu (zu (zu (zu (zu (zu m 58 N x1) 59 N x2) 60 N 0) 61 N 0) 62 N 0) 45 16 (N + 1))) : w_116 X x1 x2 m Q := by
  subst e
  refine w_116_i ⟨h, ?_⟩
  rintro _ rfl
  refine ⟨h, ?_⟩
  rintro _ rfl
  refine ⟨h, ?_⟩
  rintro _ rfl
  refine ⟨h, ?_⟩
  rintro _ rfl
  refine ⟨h, ?_⟩
  rintro _ rfl _ rfl
  exact k
theorem p_117 (H : Int) (e : m 45 30 = H) (h : 0 ≤ H ∧ H < 40) (k : Q 0 (zu (zu m 69 H x1) 45 30 (H + 1))) : w_117 X x1 m Q := by
  subst e
  refine w_117_i ⟨h, ?_⟩
  rintro _ rfl _ rfl
  exact k
theorem p_118 (J : Int) (e : m 45 36 = J) (h : J = 0 ∨ J = 1) (hx : x1 = 0 ∨ x1 = 1) (k : Q 0 (zu m 45 36 (if x1 = 1 then J else 1))) : w_118 X x1 m Q := by
  subst e
  refine w_118_i ⟨by omega, fun a => w_118_12_i (w_118_17_i ⟨by omega, ?_⟩), fun a => ⟨by omega, fun b => w_118_17_i ⟨by omega, ?_⟩, fun b => w_118_12_i (w_118_17_i ⟨by omega, ?_⟩)⟩⟩
  · rintro _ rfl
    rwa [show (if x1 = 1 then m 45 36 else 1) = 1 by split <;> omega] at k
  · rintro _ rfl
    rwa [show (if x1 = 1 then m 45 36 else 1) = 0 by split <;> omega] at k
  · rintro _ rfl
    rwa [show (if x1 = 1 then m 45 36 else 1) = 1 by split <;> omega] at k
theorem p_122 (H t : Int) (e : m 45 30 = H) (et : m 69 (H - 1) = t) (h : 0 < H ∧ H ≤ 40) (k : Q t (zu m 45 30 (H - 1))) : w_122 X m Q := by
  subst e et
  refine w_122_i ?_
  rintro _ rfl
  exact ⟨by simp [zu]; omega, by simpa [zu] using k⟩
theorem p_111 (h : -2147483648 ≤ x0 ∧ x0 ≤ 2147483647) (h' : -2147483648 ≤ x1 ∧ x1 ≤ 2147483647) (k : Q (max x0 x1) m) : w_111 X x0 x1 m Q := by
  refine w_111_i ?_
  repeat' (first | (intro (q : zS) e; subst e) | (intro h) | refine And.intro ?_ ?_)
  all_goals first | omega | (have e : max x0 x1 = x0 := by omega); rwa [e] at k | (have e : max x0 x1 = x1 := by omega); rwa [e] at k
theorem p_157 (h : -2147483648 ≤ x0 ∧ x0 ≤ 2147483647) (h' : -2147483648 ≤ x1 ∧ x1 ≤ 2147483647) (k : Q (max x0 x1) m) : w_157 X x0 x1 m Q := by
  refine w_157_i ?_
  repeat' (first | (intro (q : zS) e; subst e) | (intro h) | refine And.intro ?_ ?_)
  all_goals first | omega | (have e : max x0 x1 = x0 := by omega); rwa [e] at k | (have e : max x0 x1 = x1 := by omega); rwa [e] at k
theorem p_158 (h : -2147483648 ≤ x0 ∧ x0 ≤ 2147483647) (h' : -2147483648 ≤ x1 ∧ x1 ≤ 2147483647) (k : Q (min x0 x1) m) : w_158 X x0 x1 m Q := by
  refine w_158_i ?_
  repeat' (first | (intro (q : zS) e; subst e) | (intro h) | refine And.intro ?_ ?_)
  all_goals first | omega | (have e : min x0 x1 = x0 := by omega); rwa [e] at k | (have e : min x0 x1 = x1 := by omega); rwa [e] at k
theorem p_31 (h : 0 ≤ x1 ∧ x1 < 150) (h' : 0 ≤ x2 ∧ x2 < 3) (k : Q (s 11 (x1 * 3 + x2)) s) : w_31 X x1 x2 s Q := w_31_i ⟨by omega, k⟩
theorem p_34 (h : 0 ≤ x1 ∧ x1 < 6) (h' : 0 ≤ x2 ∧ x2 < 3) (k : Q (s 8 (x1 * 3 + x2)) s) : w_34 X x1 x2 s Q := w_34_i ⟨by omega, k⟩
end
