section
variable {X : zX} {s m : zS} {Q : Int → zS → Prop} {x0 x1 x2 x3 n y N H J M t t1 t2 a : Int}
/-! The program: what a node lays down behind its parts. -/
theorem f_0 (hn : 0 ≤ n ∧ n < 150) (hk : s 10 n = 0) (ea : s 11 (n * 3 + 0) = a) (eN : s 14 1 = N) (eH : s 22 8 = H) (hN : 0 ≤ N ∧ N < 400) (hH : 0 ≤ H ∧ H < 16)
    (k : ∀ s', EC s s' N 0 a (s 18 N) (s 14 2) (s 29 N) (H + 1) 0 0 (s 28 0) (s 22 10) → Q 0 s') : w_48 X n y s Q := by
  refine w_48_i (p_31 hn (by omega) ⟨hn, by omega, ?_⟩)
  rw [ea]
  ((repeat' (refine And.intro ?_ ?_)) <;> intro c <;> first | (exfalso; omega) | skip)
  refine p_39 N eN hN (p_49 H (by simp [zu, *]) hH (k _ ?_))
  (refine ⟨fun j => ?_, fun j => ?_, fun j => ?_, fun j => ?_, ?_, ?_, ?_, ?_, ?_, ?_, fun k _ => ?_, fun k => ?_, fun k hk => by (repeat rw [zu_f (by omega)])⟩ <;> (first | (simp [zu]; done) | ((repeat rw [zu_g (by decide)]); exact ife) | (simp [zu]; (repeat' split) <;> omega)))
theorem f_1 (hn : 0 ≤ n ∧ n < 150) (hk : s 10 n = 1) (ea : s 11 (n * 3 + 0) = a) (eN : s 14 1 = N) (eH : s 22 8 = H) (hN : 0 ≤ N ∧ N < 400) (hH : 0 ≤ H ∧ H < 16)
    (k : ∀ s', EC s s' N 1 0 (s 18 N) (s 14 2) (s 29 N) (H + 1) a 0 (s 28 0) (s 22 10) → Q 0 s') : w_48 X n y s Q := by
  refine w_48_i (p_31 hn (by omega) ⟨hn, by omega, ?_⟩)
  rw [ea]
  ((repeat' (refine And.intro ?_ ?_)) <;> intro c <;> first | (exfalso; omega) | skip)
  refine p_39 N eN hN (p_49 H (by simp [zu, *]) hH (k _ ?_))
  (refine ⟨fun j => ?_, fun j => ?_, fun j => ?_, fun j => ?_, ?_, ?_, ?_, ?_, ?_, ?_, fun k _ => ?_, fun k => ?_, fun k hk => by (repeat rw [zu_f (by omega)])⟩ <;> (first | (simp [zu]; done) | ((repeat rw [zu_g (by decide)]); exact ife) | (simp [zu]; (repeat' split) <;> omega)))
theorem f_2 (hn : 0 ≤ n ∧ n < 150) (hk : s 10 n = 2) (ea : s 11 (n * 3 + 0) = a) (ha : 0 ≤ a ∧ a < 8) (et : s 28 a = t) (hr : -1 ≤ t ∧ t ≤ 7) (eN : s 14 1 = N) (eH : s 22 8 = H) (hN : 0 ≤ N ∧ N < 400) (hH : 0 ≤ H ∧ H < 16) (eJ : s 22 10 = J)
    (k : ∀ s', EC s s' N 2 a (s 18 N) (s 14 2) (if t ≤ 0 then 0 else zL 1 a) (H + 1) t 0 (s 28 0) (if 0 ≤ t then J else 0) → Q 0 s') : w_48 X n y s Q := by
  refine w_48_i (p_31 hn (by omega) ⟨hn, by omega, ?_⟩)
  rw [ea]
  ((repeat' (refine And.intro ?_ ?_)) <;> intro c <;> first | (exfalso; omega) | skip)
  refine w_50_i ⟨ha, ?_⟩
  rw [et]
  refine ⟨by omega, fun d => w_50_18_i (p_51 J eJ (by simp) (p_39 N (by simp [zu, *]) hN ⟨by omega, fun d => w_50_47_i ⟨hN, ?_⟩, fun d => by omega⟩)), fun d => w_50_18_i (p_51 J eJ (by simp) (p_39 N (by simp [zu, *]) hN ⟨by omega, fun d => w_50_47_i ⟨hN, ?_⟩, fun d => w_50_47_i ⟨hN, ?_⟩⟩))⟩
  all_goals rintro _ rfl; refine p_49 H (by simp [zu, *]) hH (k _ ?_)
  · rw [show (if t ≤ 0 then (0 : Int) else zL 1 a) = 0 from if_pos (by omega), show (if 0 ≤ t then J else 0) = 0 from if_neg (by omega)]; (refine ⟨fun j => ?_, fun j => ?_, fun j => ?_, fun j => ?_, ?_, ?_, ?_, ?_, ?_, ?_, fun k _ => ?_, fun k => ?_, fun k hk => by (repeat rw [zu_f (by omega)])⟩ <;> (first | (simp [zu]; done) | ((repeat rw [zu_g (by decide)]); exact ife) | (simp [zu]; (repeat' split) <;> omega)))
  · rw [show (if t ≤ 0 then (0 : Int) else zL 1 a) = 0 from if_pos (by omega), show (if 0 ≤ t then J else 0) = J from if_pos (by omega)]; (refine ⟨fun j => ?_, fun j => ?_, fun j => ?_, fun j => ?_, ?_, ?_, ?_, ?_, ?_, ?_, fun k _ => ?_, fun k => ?_, fun k hk => by (repeat rw [zu_f (by omega)])⟩ <;> (first | (simp [zu]; done) | ((repeat rw [zu_g (by decide)]); exact ife) | (simp [zu]; (repeat' split) <;> omega)))
  · rw [show (if t ≤ 0 then (0 : Int) else zL 1 a) = zL 1 a from if_neg (by omega), show (if 0 ≤ t then J else 0) = J from if_pos (by omega)]; (refine ⟨fun j => ?_, fun j => ?_, fun j => ?_, fun j => ?_, ?_, ?_, ?_, ?_, ?_, ?_, fun k _ => ?_, fun k => ?_, fun k hk => by (repeat rw [zu_f (by omega)])⟩ <;> (first | (simp [zu]; done) | ((repeat rw [zu_g (by decide)]); exact ife) | (simp [zu]; (repeat' split) <;> omega)))
theorem f_sum (hn : 0 ≤ n ∧ n < 150) (hk : s 10 n = x1) (hx : x1 = 3 ∨ x1 = 4 ∨ x1 = 5) (eN : s 14 1 = N) (eH : s 22 8 = H) (eJ : s 22 10 = J) (e1 : s 27 (H - 1) = t1) (e2 : s 27 (H - 2) = t2) (hN : 0 ≤ N ∧ N < 400) (hH : 2 ≤ H ∧ H ≤ 16) (r1 : tI t1) (r2 : tI t2)
    (k : ∀ s', EC s s' N x1 0 (s 18 N) (s 14 2) (s 29 N) (H - 1) 0 0 (s 28 0) (if t2 = 0 ∧ t1 = 0 then J else 0) → Q 0 s') : w_48 X n y s Q := by
  have q_sum : ∀ o, (∀ s', EC s s' N o 0 (s 18 N) (s 14 2) (s 29 N) (H - 1) 0 0 (s 28 0) (if t2 = 0 ∧ t1 = 0 then J else 0) → Q 0 s') → w_52 X o s (fun _ s1 => Q 0 s1) := by
    intro o k
    unfold tI at r1 r2
    refine w_52_i (p_39 N eN hN (p_53 H t1 J (by simp [zu, *]) (by simp [zu, *]) (by simp [zu, *]) (by omega) r1 (p_53 (H - 1) t2 (if t1 = 0 then J else 0) (by simp [zu, *]) ?_ (by simp [zu, *]) (by omega) r2 (p_49 (H - 1 - 1) (by simp [zu, *]) (by omega) (k _ ?_)))))
    · simp [zu]; rw [← e2]; congr 1; omega
    · (refine ⟨fun j => ?_, fun j => ?_, fun j => ?_, fun j => ?_, ?_, ?_, ?_, ?_, ?_, ?_, fun k _ => ?_, fun k => ?_, fun k hk => by (repeat rw [zu_f (by omega)])⟩ <;> (first | (simp [zu]; done) | ((repeat rw [zu_g (by decide)]); exact ife) | (simp [zu]; (repeat' split) <;> omega)))
  refine w_48_i (p_31 hn (by omega) ⟨hn, by omega, ?_⟩)
  ((repeat' (refine And.intro ?_ ?_)) <;> intro c <;> first | (exfalso; omega) | skip)
  · exact q_sum _ (by rw [← c, hk]; exact k)
  · exact q_sum _ (by rw [← c, hk]; exact k)
  · exact q_sum _ (by rw [← c, hk]; exact k)
theorem f_6 (hn : 0 ≤ n ∧ n < 150) (hk : s 10 n = 6) (ea : s 11 (n * 3 + 0) = a) (ha : 0 ≤ a ∧ a < 8) (eN : s 14 1 = N) (eH : s 22 8 = H) (eJ : s 22 10 = J) (eM : s 14 2 = M) (e1 : s 27 (H - 1) = t1) (e2 : s 27 (H - 2) = t2) (hN : 0 ≤ N ∧ N < 400) (hH : 2 ≤ H ∧ H ≤ 16) (hr : ∀ k, 0 ≤ k → k < H → tI (s 27 k)) (r4 : tI (s 4 a)) (r5 : tI (s 5 a))
    (k : ∀ s', EC s s' N 6 a (bm (s 27) H.toNat) (M + 1) (s 29 N) (H - 1) a 0 (s 28 0) (if t2 = s 4 a ∧ t1 = s 5 a then J else 0) → Q 0 s') : w_48 X n y s Q := by
  have r1 := hr (H - 1) (by omega) (by omega)
  have r2 := hr (H - 2) (by omega) (by omega)
  rw [e1] at r1; rw [e2] at r2
  unfold tI at r1 r2 r4 r5
  refine w_48_i (p_31 hn (by omega) ⟨hn, by omega, ?_⟩)
  rw [ea]
  ((repeat' (refine And.intro ?_ ?_)) <;> intro c <;> first | (exfalso; omega) | skip)
  refine w_55_i (p_56 eN eH eM (by omega) hN hr (p_54 H t1 (by simp [zu, *]) (by simp [zu, *]) (by omega) ⟨ha, by simp [zu]; omega, fun d => w_55_29_i (p_51 J (by simp [zu, *]) (by simp) (p_54 (H - 1) t2 (by simp [zu, *]) ?_ (by omega) ⟨ha, by simp [zu]; omega, fun d => w_55_54_i (p_51 0 (by simp [zu, *]) (by simp) (p_49 (H - 1 - 1) (by simp [zu, *]) (by omega) (k _ ?_))), fun d => w_55_54_i (p_51 0 (by simp [zu, *]) (by simp) (p_49 (H - 1 - 1) (by simp [zu, *]) (by omega) (k _ ?_)))⟩)), fun d => w_55_29_i (p_51 J (by simp [zu, *]) (by simp) (p_54 (H - 1) t2 (by simp [zu, *]) ?_ (by omega) ⟨ha, by simp [zu]; omega, fun d => w_55_54_i (p_51 J (by simp [zu, *]) (by simp) (p_49 (H - 1 - 1) (by simp [zu, *]) (by omega) (k _ ?_))), fun d => w_55_54_i (p_51 J (by simp [zu, *]) (by simp) (p_49 (H - 1 - 1) (by simp [zu, *]) (by omega) (k _ ?_)))⟩))⟩))
  · simp [zu]; rw [← e2]; congr 1; omega
  · simp [zu] at *; rw [if_neg (by omega)]; (refine ⟨fun j => ?_, fun j => ?_, fun j => ?_, fun j => ?_, ?_, ?_, ?_, ?_, ?_, ?_, fun k _ => ?_, fun k => ?_, fun k hk => by (repeat rw [zu_f (by omega)])⟩ <;> (first | (simp [zu]; done) | ((repeat rw [zu_g (by decide)]); exact ife) | (simp [zu]; (repeat' split) <;> omega)))
  · simp [zu] at *; rw [if_neg (by omega)]; (refine ⟨fun j => ?_, fun j => ?_, fun j => ?_, fun j => ?_, ?_, ?_, ?_, ?_, ?_, ?_, fun k _ => ?_, fun k => ?_, fun k hk => by (repeat rw [zu_f (by omega)])⟩ <;> (first | (simp [zu]; done) | ((repeat rw [zu_g (by decide)]); exact ife) | (simp [zu]; (repeat' split) <;> omega)))
  · simp [zu]; rw [← e2]; congr 1; omega
  · simp [zu] at *; rw [if_neg (by omega)]; (refine ⟨fun j => ?_, fun j => ?_, fun j => ?_, fun j => ?_, ?_, ?_, ?_, ?_, ?_, ?_, fun k _ => ?_, fun k => ?_, fun k hk => by (repeat rw [zu_f (by omega)])⟩ <;> (first | (simp [zu]; done) | ((repeat rw [zu_g (by decide)]); exact ife) | (simp [zu]; (repeat' split) <;> omega)))
  · simp [zu] at *; rw [if_pos (by omega)]; (refine ⟨fun j => ?_, fun j => ?_, fun j => ?_, fun j => ?_, ?_, ?_, ?_, ?_, ?_, ?_, fun k _ => ?_, fun k => ?_, fun k hk => by (repeat rw [zu_f (by omega)])⟩ <;> (first | (simp [zu]; done) | ((repeat rw [zu_g (by decide)]); exact ife) | (simp [zu]; (repeat' split) <;> omega)))
end
