section
variable {X : zX} {s m : zS} {Q : Int → zS → Prop} {x0 x1 x2 x3 n y N H J M t t1 t2 a f c : Int}
theorem f_7 (hn : 0 ≤ n ∧ n < 150) (hk : s 10 n = 7) (eN : s 14 1 = N) (eH : s 22 8 = H) (eJ : s 22 10 = J) (e1 : s 27 (H - 1) = t1) (hN : 0 ≤ N ∧ N < 400) (hH : 1 ≤ H ∧ H ≤ 16) (r1 : tI t1)
    (k : ∀ s', EC s s' N 7 0 (s 18 N) (s 14 2) (s 29 N) H (s 4 t1) 0 (s 28 0) (if 0 < t1 then J else 0) → Q 0 s') : w_48 X n y s Q := by
  unfold tI at r1
  refine w_48_i (p_31 hn (by omega) ⟨hn, by omega, ?_⟩)
  ((repeat' (refine And.intro ?_ ?_)) <;> intro c <;> first | (exfalso; omega) | skip)
  refine p_39 N eN hN (p_57 H t1 J (by simp [zu, *]) (by simp [zu, *]) (by simp [zu, *]) (by omega) r1 ⟨by omega, p_49 (H - 1) (by simp [zu, *]) (by omega) (k _ ?_)⟩)
  (refine ⟨fun j => ?_, fun j => ?_, fun j => ?_, fun j => ?_, ?_, ?_, ?_, ?_, ?_, ?_, fun k _ => ?_, fun k => ?_, fun k hk => by (repeat rw [zu_f (by omega)])⟩ <;> (first | (simp [zu]; done) | ((repeat rw [zu_g (by decide)]); exact ife) | (simp [zu]; (repeat' split) <;> omega)))
theorem f_8 (hn : 0 ≤ n ∧ n < 150) (hk : s 10 n = 8) (eN : s 14 1 = N) (eH : s 22 8 = H) (eJ : s 22 10 = J) (e1 : s 27 (H - 1) = t1) (hN : 0 ≤ N ∧ N < 400) (hH : 1 ≤ H ∧ H ≤ 16) (r1 : tI t1)
    (k : ∀ s', EC s s' N 8 0 (s 18 N) (s 14 2) (s 29 N) H (s 5 t1) 0 (s 28 0) (if 0 < t1 then J else 0) → Q 0 s') : w_48 X n y s Q := by
  unfold tI at r1
  refine w_48_i (p_31 hn (by omega) ⟨hn, by omega, ?_⟩)
  ((repeat' (refine And.intro ?_ ?_)) <;> intro c <;> first | (exfalso; omega) | skip)
  refine p_39 N eN hN (p_57 H t1 J (by simp [zu, *]) (by simp [zu, *]) (by simp [zu, *]) (by omega) r1 ⟨by omega, p_49 (H - 1) (by simp [zu, *]) (by omega) (k _ ?_)⟩)
  (refine ⟨fun j => ?_, fun j => ?_, fun j => ?_, fun j => ?_, ?_, ?_, ?_, ?_, ?_, ?_, fun k _ => ?_, fun k => ?_, fun k hk => by (repeat rw [zu_f (by omega)])⟩ <;> (first | (simp [zu]; done) | ((repeat rw [zu_g (by decide)]); exact ife) | (simp [zu]; (repeat' split) <;> omega)))
theorem f_9 (hn : 0 ≤ n ∧ n < 150) (hk : s 10 n = 9) (eN : s 14 1 = N) (eH : s 22 8 = H) (eJ : s 22 10 = J) (e1 : s 27 (H - 1) = t1) (hN : 0 ≤ N ∧ N < 400) (hH : 1 ≤ H ∧ H ≤ 16) (r1 : tI t1)
    (k : ∀ s', EC s s' N 9 0 (s 18 N) (s 14 2) (s 29 N) H 0 0 (s 28 0) (if 0 < t1 then J else 0) → Q 0 s') : w_48 X n y s Q := by
  unfold tI at r1
  refine w_48_i (p_31 hn (by omega) ⟨hn, by omega, ?_⟩)
  ((repeat' (refine And.intro ?_ ?_)) <;> intro c <;> first | (exfalso; omega) | skip)
  refine p_39 N eN hN (p_57 H t1 J (by simp [zu, *]) (by simp [zu, *]) (by simp [zu, *]) (by omega) r1 (p_49 (H - 1) (by simp [zu, *]) (by omega) (k _ ?_)))
  (refine ⟨fun j => ?_, fun j => ?_, fun j => ?_, fun j => ?_, ?_, ?_, ?_, ?_, ?_, ?_, fun k _ => ?_, fun k => ?_, fun k hk => by (repeat rw [zu_f (by omega)])⟩ <;> (first | (simp [zu]; done) | ((repeat rw [zu_g (by decide)]); exact ife) | (simp [zu]; (repeat' split) <;> omega)))
theorem f_16 (hn : 0 ≤ n ∧ n < 150) (hk : s 10 n = 16) (eN : s 14 1 = N) (eH : s 22 8 = H) (eJ : s 22 10 = J) (e1 : s 27 (H - 1) = t1) (hN : 0 ≤ N ∧ N < 400) (hH : 1 ≤ H ∧ H ≤ 16) (r1 : tI t1)
    (k : ∀ s', EC s s' N 17 0 (s 18 N) (s 14 2) (s 29 N) H 0 0 (s 28 0) (if t1 = 0 then J else 0) → Q 0 s') : w_48 X n y s Q := by
  unfold tI at r1
  refine w_48_i (p_31 hn (by omega) ⟨hn, by omega, ?_⟩)
  ((repeat' (refine And.intro ?_ ?_)) <;> intro c <;> first | (exfalso; omega) | skip)
  refine p_39 N eN hN (p_53 H t1 J (by simp [zu, *]) (by simp [zu, *]) (by simp [zu, *]) (by omega) r1 (p_49 (H - 1) (by simp [zu, *]) (by omega) (k _ ?_)))
  (refine ⟨fun j => ?_, fun j => ?_, fun j => ?_, fun j => ?_, ?_, ?_, ?_, ?_, ?_, ?_, fun k _ => ?_, fun k => ?_, fun k hk => by (repeat rw [zu_f (by omega)])⟩ <;> (first | (simp [zu]; done) | ((repeat rw [zu_g (by decide)]); exact ife) | (simp [zu]; (repeat' split) <;> omega)))
theorem f_14 (hn : 0 ≤ n ∧ n < 150) (hk : s 10 n = 14) (eN : s 14 1 = N) (eH : s 22 8 = H) (eJ : s 22 10 = J) (e1 : s 27 (H - 1) = t1) (e2 : s 27 (H - 2) = t2) (hN : 0 ≤ N ∧ N < 400) (hH : 2 ≤ H ∧ H ≤ 16) (r1 : tI t1) (r2 : tI t2) (r4 : tI (s 4 t2))
    (k : ∀ s', EC s s' N 15 0 (s 18 N) (s 14 2) (s 29 N) (H - 1) t1 0 (s 28 0) (if 0 < t2 ∧ t1 = s 4 t2 then J else 0) → Q 0 s') : w_48 X n y s Q := by
  unfold tI at r1 r2 r4
  refine w_48_i (p_31 hn (by omega) ⟨hn, by omega, ?_⟩)
  ((repeat' (refine And.intro ?_ ?_)) <;> intro c <;> first | (exfalso; omega) | skip)
  refine w_60_4_i (p_39 N eN hN (p_54 H t1 (by simp [zu, *]) (by simp [zu, *]) (by omega) (p_57 (H - 1) t2 J (by simp [zu, *]) ?_ (by simp [zu, *]) (by omega) r2 ⟨by omega, by simp [zu]; omega, fun d => w_60_4_31_i (p_51 (if 0 < t2 then J else 0) (by simp [zu, *]) (by simp) (p_49 (H - 1 - 1) (by simp [zu, *]) (by omega) (k _ ?_))), fun d => w_60_4_31_i (p_51 (if 0 < t2 then J else 0) (by simp [zu, *]) (by simp) (p_49 (H - 1 - 1) (by simp [zu, *]) (by omega) (k _ ?_)))⟩)))
  · simp [zu]; rw [← e2]; congr 1; omega
  · simp [zu] at d; rw [show (if 0 < t2 ∧ t1 = s 4 t2 then J else 0) = 0 from if_neg (by omega)]; (refine ⟨fun j => ?_, fun j => ?_, fun j => ?_, fun j => ?_, ?_, ?_, ?_, ?_, ?_, ?_, fun k _ => ?_, fun k => ?_, fun k hk => by (repeat rw [zu_f (by omega)])⟩ <;> (first | (simp [zu]; done) | ((repeat rw [zu_g (by decide)]); exact ife) | (simp [zu]; (repeat' split) <;> omega)))
  · simp [zu] at d; rw [show (if 0 < t2 ∧ t1 = s 4 t2 then J else 0) = (if 0 < t2 then J else 0) by simp [d]]; (refine ⟨fun j => ?_, fun j => ?_, fun j => ?_, fun j => ?_, ?_, ?_, ?_, ?_, ?_, ?_, fun k _ => ?_, fun k => ?_, fun k hk => by (repeat rw [zu_f (by omega)])⟩ <;> (first | (simp [zu]; done) | ((repeat rw [zu_g (by decide)]); exact ife) | (simp [zu]; (repeat' split) <;> omega)))
theorem f_15 (hn : 0 ≤ n ∧ n < 150) (hk : s 10 n = 15) (eN : s 14 1 = N) (eH : s 22 8 = H) (eJ : s 22 10 = J) (e1 : s 27 (H - 1) = t1) (e2 : s 27 (H - 2) = t2) (hN : 0 ≤ N ∧ N < 400) (hH : 2 ≤ H ∧ H ≤ 16) (r1 : tI t1) (r2 : tI t2) (r4 : tI (s 5 t2))
    (k : ∀ s', EC s s' N 16 0 (s 18 N) (s 14 2) (s 29 N) (H - 1) t1 0 (s 28 0) (if 0 < t2 ∧ t1 = s 5 t2 then J else 0) → Q 0 s') : w_48 X n y s Q := by
  unfold tI at r1 r2 r4
  refine w_48_i (p_31 hn (by omega) ⟨hn, by omega, ?_⟩)
  ((repeat' (refine And.intro ?_ ?_)) <;> intro c <;> first | (exfalso; omega) | skip)
  refine w_60_5_i (p_39 N eN hN (p_54 H t1 (by simp [zu, *]) (by simp [zu, *]) (by omega) (p_57 (H - 1) t2 J (by simp [zu, *]) ?_ (by simp [zu, *]) (by omega) r2 ⟨by omega, by simp [zu]; omega, fun d => w_60_5_31_i (p_51 (if 0 < t2 then J else 0) (by simp [zu, *]) (by simp) (p_49 (H - 1 - 1) (by simp [zu, *]) (by omega) (k _ ?_))), fun d => w_60_5_31_i (p_51 (if 0 < t2 then J else 0) (by simp [zu, *]) (by simp) (p_49 (H - 1 - 1) (by simp [zu, *]) (by omega) (k _ ?_)))⟩)))
  · simp [zu]; rw [← e2]; congr 1; omega
  · simp [zu] at d; rw [show (if 0 < t2 ∧ t1 = s 5 t2 then J else 0) = 0 from if_neg (by omega)]; (refine ⟨fun j => ?_, fun j => ?_, fun j => ?_, fun j => ?_, ?_, ?_, ?_, ?_, ?_, ?_, fun k _ => ?_, fun k => ?_, fun k hk => by (repeat rw [zu_f (by omega)])⟩ <;> (first | (simp [zu]; done) | ((repeat rw [zu_g (by decide)]); exact ife) | (simp [zu]; (repeat' split) <;> omega)))
  · simp [zu] at d; rw [show (if 0 < t2 ∧ t1 = s 5 t2 then J else 0) = (if 0 < t2 then J else 0) by simp [d]]; (refine ⟨fun j => ?_, fun j => ?_, fun j => ?_, fun j => ?_, ?_, ?_, ?_, ?_, ?_, ?_, fun k _ => ?_, fun k => ?_, fun k hk => by (repeat rw [zu_f (by omega)])⟩ <;> (first | (simp [zu]; done) | ((repeat rw [zu_g (by decide)]); exact ife) | (simp [zu]; (repeat' split) <;> omega)))
theorem f_11 (hn : 0 ≤ n ∧ n < 150) (hk : s 10 n = 11) (ea : s 11 (n * 3 + 0) = a) (ha : 0 ≤ a ∧ a < 8)
    (k : Q 0 (zu s 28 a (-1))) : w_48 X n y s Q := by
  refine w_48_i (p_31 hn (by omega) ⟨hn, by omega, ?_⟩)
  rw [ea]
  ((repeat' (refine And.intro ?_ ?_)) <;> intro c <;> first | (exfalso; omega) | skip)
  refine ⟨ha, ?_⟩
  rintro _ rfl
  exact k
-- ARG and THEN lay nothing down behind their parts
theorem f_13 (hn : 0 ≤ n ∧ n < 150) (hk : s 10 n = 13 ∨ s 10 n = 17) (k : Q 0 s) : w_48 X n y s Q := by
  refine w_48_i (p_31 hn (by omega) ⟨hn, by omega, ?_⟩)
  ((repeat' (refine And.intro ?_ ?_)) <;> intro c <;> first | (exfalso; omega) | skip)
  exact k
theorem f_10 (hn : 0 ≤ n ∧ n < 150) (hk : s 10 n = 10) (hy : 0 ≤ y ∧ y < 150) (eN : s 14 1 = N) (eH : s 22 8 = H) (eJ : s 22 10 = J) (e1 : s 27 (H - 1) = t1) (e2 : s 26 y = t2) (ey : s 25 y = x1) (hN : 0 ≤ N ∧ N ≤ 400) (hx : 0 ≤ x1 ∧ x1 < N) (hH : 1 ≤ H ∧ H ≤ 16) (r1 : tI t1) (r2 : tI t2)
    (k : Q 0 (zu (zu (zu s 16 x1 N) 27 (H - 1) t2) 22 10 (if t1 = t2 then J else 0))) : w_48 X n y s Q := by
  unfold tI at r1 r2
  have e3 : ∀ w, zu (zu (zu (zu (zu s 22 8 (H - 1)) 22 10 w) 16 x1 N) 27 (H - 1) t2) 22 8 (H - 1 + 1) = zu (zu (zu s 16 x1 N) 27 (H - 1) t2) 22 10 w := by
    intro w
    funext a b; simp only [zu, show H - 1 + 1 = H by omega]; repeat' split
    all_goals first | rfl | omega | (next h => rw [h.1, h.2, eH]) | simp_all
  refine w_48_i (p_31 hn (by omega) ⟨hn, by omega, ?_⟩)
  ((repeat' (refine And.intro ?_ ?_)) <;> intro c <;> first | (exfalso; omega) | skip)
  refine w_58_i (p_54 H t1 eH e1 (by omega) ⟨hy, by simp [zu]; omega, fun d => w_58_19_i (p_51 J (by simp [zu, *]) (by simp) ⟨hy, by simp [zu]; omega, ?_⟩), fun d => w_58_19_i (p_51 J (by simp [zu, *]) (by simp) ⟨hy, by simp [zu]; omega, ?_⟩)⟩)
  · rintro _ rfl
    refine ⟨hy, ?_⟩
    simp [zu] at d
    rw [show (if t1 = t2 then J else 0) = 0 from if_neg (by omega)] at k
    simp only [zu_g (s := zu s 22 8 (H - 1)) (a := 22) (k := 25) (by decide), zu_g (s := s) (a := 22) (k := 25) (by decide), zu_g (s := zu s 22 8 (H - 1)) (a := 22) (k := 14) (by decide), zu_g (s := s) (a := 22) (k := 14) (by decide), eN, ey]
    refine p_49 (H - 1) (by simp [zu, *]) (by omega) ?_
    have e4 : (zu (zu (zu s 22 8 (H - 1)) 22 10 (if (0 : Int) = 1 then J else 0)) 16 x1 N) 26 y = t2 := by simp [zu, e2]
    rw [e4, e3]
    exact k
  · rintro _ rfl
    refine ⟨hy, ?_⟩
    simp [zu] at d
    rw [show (if t1 = t2 then J else 0) = J from if_pos (by omega)] at k
    simp only [zu_g (s := zu s 22 8 (H - 1)) (a := 22) (k := 25) (by decide), zu_g (s := s) (a := 22) (k := 25) (by decide), zu_g (s := zu s 22 8 (H - 1)) (a := 22) (k := 14) (by decide), zu_g (s := s) (a := 22) (k := 14) (by decide), eN, ey]
    refine p_49 (H - 1) (by simp [zu, *]) (by omega) ?_
    have e4 : (zu (zu (zu s 22 8 (H - 1)) 22 10 (if True then J else 0)) 16 x1 N) 26 y = t2 := by simp [zu, e2]
    rw [e4, e3]
    simpa using k
end
