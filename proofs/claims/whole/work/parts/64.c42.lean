-- the top pile, the place and the steps
def TE (s s1 : zS) (T F j H a : Int) : Prop :=
  (∀ k, ¬ (k = 31 ∨ k = 41 ∨ k = 42) → s1 k = s k) ∧ (∀ x, ¬ (x = 6 ∨ x = 9) → s1 31 x = s 31 x) ∧ s1 31 6 = j ∧ s1 31 9 = T + 1 ∧ (∀ g, s1 42 g = if g = F then H else s 42 g) ∧ (∀ x, s1 41 x = if x = F * 16 + (H - 1) then a else s 41 x)
def ME (m m1 : zS) (T F j H b : Int) : Prop :=
  (∀ k, ¬ (k = 45 ∨ k = 81 ∨ k = 83) → m1 k = m k) ∧ (∀ x, ¬ (x = 57 ∨ x = 40) → m1 45 x = m 45 x) ∧ m1 45 57 = j ∧ m1 45 40 = T + 1 ∧ (∀ g, m1 81 g = if g = F then H else m 81 g) ∧ (∀ x, m1 83 x = if x = 16 * F + (H - 1) then b else m 83 x)
section
variable {X : zX} {s m : zS} {Q : Int → zS → Prop} {F H v x T i a b o c : Int}
theorem c_head (hi : 0 ≤ i ∧ i < 400) (ei : s 31 6 = i) (eo : s 15 i = o) (ev : s 16 i = v) (ho : 0 ≤ o ∧ o ≤ 18)
    (k : (o = 0 → w_93 X v (zu (zu s 31 9 T) 31 6 (i + 1)) (fun _ s2 => Q 0 s2)) ∧ (o = 1 → w_93 X 0 (zu (zu s 31 9 T) 31 6 (i + 1)) (fun _ s2 => Q 0 s2)) ∧
      (o = 2 → w_94 X v (zu (zu s 31 9 T) 31 6 (i + 1)) (fun v4 s4 => w_93 X v4 s4 (fun _ s5 => Q 0 s5))) ∧ (o = 3 ∨ o = 4 ∨ o = 5 → w_70 X o (zu (zu s 31 9 T) 31 6 (i + 1)) (fun _ s2 => Q 0 s2)) ∧
      (o = 6 → w_71 X i v (zu (zu s 31 9 T) 31 6 (i + 1)) (fun _ s2 => Q 0 s2)) ∧ (o = 7 → w_76_33 X (zu (zu s 31 9 T) 31 6 (i + 1)) (fun _ s2 => Q 0 s2)) ∧ (o = 8 → w_76_34 X (zu (zu s 31 9 T) 31 6 (i + 1)) (fun _ s2 => Q 0 s2)) ∧
      (o = 9 → w_95 X (zu (zu s 31 9 T) 31 6 (i + 1)) (fun v12 s12 => ((-2147483648 ≤ v12 ∧ v12 ≤ 2147483647) ∧ (¬ v12 = 0 → w_69_289 X 0 s12 Q) ∧ (¬ ¬ v12 = 0 → w_69_289 X 1 s12 Q)))) ∧
      (o = 10 → w_95 X (zu (zu s 31 9 T) 31 6 (i + 1)) (fun v13 s13 => ((-2147483648 ≤ v13 ∧ v13 ≤ 2147483647) ∧ (¬ v13 = 0 → w_69_314 X (s13 31 6) s13 Q) ∧ (¬ ¬ v13 = 0 → w_69_314 X v s13 Q)))) ∧
      (o = 11 → Q 0 (zu (zu (zu s 31 9 T) 31 6 (i + 1)) 31 6 v)) ∧ (o = 12 → w_95 X (zu (zu s 31 9 T) 31 6 (i + 1)) (fun v15 s15 => w_96 X v v15 s15 (fun _ s16 => Q 0 s16))) ∧
      (o = 13 → w_78 X i v (zu (zu s 31 9 T) 31 6 (i + 1)) (fun _ s2 => Q 0 s2)) ∧ (o = 14 → w_79 X (zu (zu s 31 9 T) 31 6 (i + 1)) (fun _ s2 => Q 0 s2)) ∧ (o = 15 → w_77_33 X (zu (zu s 31 9 T) 31 6 (i + 1)) (fun _ s2 => Q 0 s2)) ∧ (o = 16 → w_77_34 X (zu (zu s 31 9 T) 31 6 (i + 1)) (fun _ s2 => Q 0 s2)) ∧
      (o = 17 → w_80 X (zu (zu s 31 9 T) 31 6 (i + 1)) (fun _ s2 => Q 0 s2)) ∧ (o = 18 → w_95 X (zu (zu s 31 9 T) 31 6 (i + 1)) (fun v s2 => Q 0 s2))) : w_69 X (zu s 31 9 T) Q := by
  refine w_69_i ?_
  rw [zu_n (by omega), ei, zu_g (by decide), ev]
  refine ⟨hi, ?_⟩
  rintro _ rfl
  rw [zu_g (by decide), zu_g (by decide), eo]
  obtain ⟨k0, k1, k2, k3, k6, k7, k8, k9, k10, k11, k12, k13, k14, k15, k16, k17, k18⟩ := k
  refine ⟨hi, by omega, fun q => by omega, k0, k1, k2, fun q => ⟨hi, k3 q⟩, k6, k7, k8, k9, k10, ?_, k12, k13, k14, k15, k16, k17, k18⟩
  intro q
  rintro _ rfl
  exact k11 q
def ONE (X : zX) (m : zS) (R : zS → Prop) : Prop :=
  (¬ m 58 (m 45 57) = 13 → ¬ m 58 (m 45 57) = 14 → w_146 X (m 58 (m 45 57)) (m 59 (m 45 57)) (zu m 45 40 (m 45 40 + 1)) (fun _ m2 => R m2)) ∧
  (m 58 (m 45 57) = 14 → w_143 X (zu m 45 40 (m 45 40 + 1)) (fun _ m2 => R m2)) ∧
  (m 58 (m 45 57) = 13 → w_138 X (m 59 (m 45 57)) (m 60 (m 45 57)) (zu m 45 40 (m 45 40 + 1)) (fun _ m2 => R m2))
theorem one_go (e39 : m 45 39 = 0) (hT : 0 ≤ m 45 40 ∧ m 45 40 < 6000) (hi : 0 ≤ m 45 57 ∧ m 45 57 < 400) (ho : 0 ≤ m 58 (m 45 57) ∧ m 58 (m 45 57) ≤ 18) (k : ONE X m (fun m2 => w_137 X m2 Q)) : w_137 X m Q := by
  obtain ⟨k1, k2, k3⟩ := k
  refine w_137_i ⟨by omega, fun q => absurd e39 q, fun _ => ⟨by omega, fun _ => ?_, fun q => by omega⟩⟩
  rintro _ rfl
  have e1 : zu m 45 40 (m 45 40 + 1) 45 57 = m 45 57 := by rw [zu_n (by omega)]
  rw [e1, zu_g (by decide), zu_g (by decide), zu_g (by decide)]
  exact ⟨hi, by omega, fun q => ⟨hi, by omega, fun q' => ⟨hi, hi, k1 q q'⟩, fun q' => k2 (by omega)⟩, fun q => ⟨hi, hi, k3 (by omega)⟩⟩
theorem one_e (hX : okX X) {P : Prop} (k : ONE X m (fun _ => P)) : P := by
  obtain ⟨k1, k2, k3⟩ := k
  by_cases q : m 58 (m 45 57) = 13
  · exact w_138_e hX (k3 q)
  · by_cases q' : m 58 (m 45 57) = 14
    · exact w_143_e hX (k2 q')
    · exact w_146_e hX (k1 q q')
theorem m_head {R : zS → Prop} (e39 : m 45 39 = 0) (eT : m 45 40 = T) (hT : 0 ≤ T ∧ T < 6000) (ei : m 45 57 = i) (hi : 0 ≤ i ∧ i < 400) (eo : m 58 i = o) (ev : m 59 i = v) (ec : m 60 i = c) (ho : 0 ≤ o ∧ o ≤ 18)
    (k : (¬ o = 13 → ¬ o = 14 → w_146 X o v (zu m 45 40 (T + 1)) (fun _ m2 => R m2)) ∧ (o = 14 → w_143 X (zu m 45 40 (T + 1)) (fun _ m2 => R m2)) ∧ (o = 13 → w_138 X v c (zu m 45 40 (T + 1)) (fun _ m2 => R m2))) : ONE X m R := by
  unfold ONE
  rw [ei, eT, eo, ev, ec]
  exact k
-- PUSH, NULL, LOAD
theorem c_0 (eF : s 39 4 = F) (eH : s 42 F = H) (hF : 0 ≤ F ∧ F < 24) (hH : 0 ≤ H ∧ H < 16) (k : ∀ s1, TE s s1 T F (i + 1) (H + 1) a → Q 0 s1) : w_93 X a (zu (zu s 31 9 (T + 1)) 31 6 (i + 1)) (fun _ s2 => Q 0 s2) := by
  refine c_push (F := F) (H := H) (by simp [zu, *]) (by simp [zu, *]) hF hH (k _ ?_)
  (refine ⟨fun k hk => by (repeat rw [zu_f (by omega)]), fun j hj => by (have hj1 : ¬ j = 6 := (by omega); have hj2 : ¬ j = 9 := (by omega); simp [zu, hj1, hj2]), by simp [zu], by simp [zu], fun g => ?_, fun x => ?_⟩ <;> (first | (simp [zu]; done) | ((repeat rw [zu_g (by decide)]); exact ife) | (simp [zu]; (repeat' split) <;> omega)))
theorem m_0 (eF : m 45 56 = F) (eH : m 81 F = H) (hF : 0 ≤ F ∧ F < 24) (hH : 0 ≤ H ∧ H < 16) (k : ∀ m1, ME m m1 T F x (H + 1) b → Q 0 m1) : w_145 X b (zu m 45 40 (T + 1)) (fun _ m2 => w_146_234 X x m2 Q) := by
  refine m_push (F := F) (H := H) (by simp [zu, *]) (by simp [zu, *]) hF hH (w_146_234_i ?_)
  rintro _ rfl
  refine k _ ?_
  (refine ⟨fun k hk => by (repeat rw [zu_f (by omega)]), fun j hj => by (have hj1 : ¬ j = 57 := (by omega); have hj2 : ¬ j = 40 := (by omega); simp [zu, hj1, hj2]), by simp [zu], by simp [zu], fun g => ?_, fun x => ?_⟩ <;> (first | (simp [zu]; done) | ((repeat rw [zu_g (by decide)]); exact ife) | (simp [zu]; (repeat' split) <;> omega)))
-- sums
theorem c_3 {a1 a2 : Int} (eF : s 39 4 = F) (eH : s 42 F = H) (hF : 0 ≤ F ∧ F < 24) (hH : 2 ≤ H ∧ H ≤ 16) (e1 : s 41 (F * 16 + (H - 1)) = a1) (e2 : s 41 (F * 16 + (H - 2)) = a2) (r1 : iI a1) (r2 : iI a2) (ho : o = 3 ∨ o = 4 ∨ o = 5)
    (k : ∀ s1, TE s s1 T F (i + 1) (H - 1) (if o = 3 then zN (a2 + a1) else if o = 4 then zN (a2 - a1) else if a1 ≤ a2 then 0 else 1) → Q 0 s1) : w_70 X o (zu (zu s 31 9 (T + 1)) 31 6 (i + 1)) (fun _ s2 => Q 0 s2) := by
  unfold iI at r1 r2
  have e2' : s 41 (F * 16 + (H - 1 - 1)) = a2 := by rw [← e2]; congr 2; omega
  have fin : ∀ w, w = (if o = 3 then zN (a2 + a1) else if o = 4 then zN (a2 - a1) else if a1 ≤ a2 then 0 else 1) → w_93 X w (zu (zu (zu (zu s 31 9 (T + 1)) 31 6 (i + 1)) 42 F (H - 1)) 42 F (H - 1 - 1)) (fun _ s3 => Q 0 s3) := by
    intro w hw
    rw [← hw] at k
    refine c_push (F := F) (H := H - 1 - 1) (by simp [zu, *]) (by simp [zu, *]) hF (by omega) (k _ ?_)
    (refine ⟨fun k hk => by (repeat rw [zu_f (by omega)]), fun j hj => by (have hj1 : ¬ j = 6 := (by omega); have hj2 : ¬ j = 9 := (by omega); simp [zu, hj1, hj2]), by simp [zu], by simp [zu], fun g => ?_, fun x => ?_⟩ <;> (first | (simp [zu]; done) | ((repeat rw [zu_g (by decide)]); exact ife) | (simp [zu]; (repeat' split) <;> omega)))
  refine w_70_i (c_pop (F := F) (H := H) (v := a1) (by simp [zu, *]) (by simp [zu, *]) (by simp [zu, *]) hF (by omega) (c_pop (F := F) (H := H - 1) (v := a2) (by simp [zu, *]) (by simp [zu, *]) (by simp [zu, *]) hF (by omega) ⟨by omega, fun q => ⟨by omega, fun q' => w_70_84_i (fin _ ?_), fun q' => w_70_84_i (fin _ ?_)⟩, fun q => fin _ ?_, fun q => fin _ ?_⟩))
  · rw [if_neg (by omega), if_neg (by omega), if_pos q']
  · rw [if_neg (by omega), if_neg (by omega), if_neg q']
  · rw [if_pos q]
  · rw [if_neg (by omega), if_pos q]
theorem m_3 {a1 a2 : Int} (eF : m 45 56 = F) (eH : m 81 F = H) (hF : 0 ≤ F ∧ F < 24) (hH : 2 ≤ H ∧ H ≤ 16) (e1 : m 83 (16 * F + (H - 1)) = a1) (e2 : m 83 (16 * F + (H - 2)) = a2) (r1 : iI a1) (r2 : iI a2) (ho : o = 3 ∨ o = 4 ∨ o = 5)
    (k : ∀ m1, ME m m1 T F x (H - 1) (if o = 3 then zN (a2 + a1) else if o = 4 then zN (a2 - a1) else if a1 ≤ a2 then 0 else 1) → Q 0 m1) : w_147 X o (zu m 45 40 (T + 1)) (fun _ m2 => w_146_234 X x m2 Q) := by
  unfold iI at r1 r2
  have e2' : m 83 (16 * F + (H - 1 - 1)) = a2 := by rw [← e2]; congr 2; omega
  have fin : ∀ w, w = (if o = 3 then zN (a2 + a1) else if o = 4 then zN (a2 - a1) else if a1 ≤ a2 then 0 else 1) → w_145 X w (zu (zu (zu m 45 40 (T + 1)) 81 F (H - 1)) 81 F (H - 1 - 1)) (fun _ s3 => w_146_234 X x s3 Q) := by
    intro w hw
    rw [← hw] at k
    refine m_push (F := F) (H := H - 1 - 1) (by simp [zu, *]) (by simp [zu, *]) hF (by omega) (w_146_234_i ?_)
    rintro _ rfl
    refine k _ ?_
    (refine ⟨fun k hk => by (repeat rw [zu_f (by omega)]), fun j hj => by (have hj1 : ¬ j = 57 := (by omega); have hj2 : ¬ j = 40 := (by omega); simp [zu, hj1, hj2]), by simp [zu], by simp [zu], fun g => ?_, fun x => ?_⟩ <;> (first | (simp [zu]; done) | ((repeat rw [zu_g (by decide)]); exact ife) | (simp [zu]; (repeat' split) <;> omega)))
  refine w_147_i (m_pop (F := F) (H := H) (v := a1) (by simp [zu, *]) (by simp [zu, *]) (by simp [zu, *]) hF (by omega) (m_pop (F := F) (H := H - 1) (v := a2) (by simp [zu, *]) (by simp [zu, *]) (by simp [zu, *]) hF (by omega) ⟨by omega, fun q => ⟨by omega, fun q1 => ⟨by omega, fun q' => w_147_43_i (fin _ ?_), fun q' => w_147_43_i (fin _ ?_)⟩, fun q1 => w_147_43_i (fin _ ?_)⟩, fun q => w_147_43_i (fin _ ?_)⟩))
  · rw [if_neg (by omega), if_neg (by omega), if_pos q']
  · rw [if_neg (by omega), if_neg (by omega), if_neg q']
  · rw [if_neg (by omega), if_pos (by omega)]
  · rw [if_pos (by omega)]
-- EMPTY
theorem c_9 {a1 : Int} (eF : s 39 4 = F) (eH : s 42 F = H) (hF : 0 ≤ F ∧ F < 24) (hH : 1 ≤ H ∧ H ≤ 16) (e1 : s 41 (F * 16 + (H - 1)) = a1) (r1 : iI a1)
    (k : ∀ s1, TE s s1 T F (i + 1) H (if a1 = 0 then 1 else 0) → Q 0 s1) : w_95 X (zu (zu s 31 9 (T + 1)) 31 6 (i + 1)) (fun v12 s12 => ((-2147483648 ≤ v12 ∧ v12 ≤ 2147483647) ∧ (¬ v12 = 0 → w_69_289 X 0 s12 Q) ∧ (¬ ¬ v12 = 0 → w_69_289 X 1 s12 Q))) := by
  unfold iI at r1
  refine c_pop (F := F) (H := H) (v := a1) (by simp [zu, *]) (by simp [zu, *]) (by simp [zu, *]) hF (by omega) ⟨by omega, fun q => w_69_289_i (c_push (F := F) (H := H - 1) (by simp [zu, *]) (by simp [zu, *]) hF (by omega) (k _ ?_)), fun q => w_69_289_i (c_push (F := F) (H := H - 1) (by simp [zu, *]) (by simp [zu, *]) hF (by omega) (k _ ?_))⟩
  · rw [if_neg q]; (refine ⟨fun k hk => by (repeat rw [zu_f (by omega)]), fun j hj => by (have hj1 : ¬ j = 6 := (by omega); have hj2 : ¬ j = 9 := (by omega); simp [zu, hj1, hj2]), by simp [zu], by simp [zu], fun g => ?_, fun x => ?_⟩ <;> (first | (simp [zu]; done) | ((repeat rw [zu_g (by decide)]); exact ife) | (simp [zu]; (repeat' split) <;> omega)))
  · rw [if_pos (by omega)]; (refine ⟨fun k hk => by (repeat rw [zu_f (by omega)]), fun j hj => by (have hj1 : ¬ j = 6 := (by omega); have hj2 : ¬ j = 9 := (by omega); simp [zu, hj1, hj2]), by simp [zu], by simp [zu], fun g => ?_, fun x => ?_⟩ <;> (first | (simp [zu]; done) | ((repeat rw [zu_g (by decide)]); exact ife) | (simp [zu]; (repeat' split) <;> omega)))
theorem m_9 {a1 : Int} (eF : m 45 56 = F) (eH : m 81 F = H) (hF : 0 ≤ F ∧ F < 24) (hH : 1 ≤ H ∧ H ≤ 16) (e1 : m 83 (16 * F + (H - 1)) = a1) (r1 : iI a1)
    (k : ∀ m1, ME m m1 T F x H (if a1 < 0 then 1 else 0) → Q 0 m1) : w_144 X (zu m 45 40 (T + 1)) (fun v11 s11 => ((-2147483648 ≤ v11 ∧ v11 ≤ 2147483647) ∧ (0 ≤ v11 → w_146_166 X x 0 s11 Q) ∧ (¬ 0 ≤ v11 → w_146_166 X x 1 s11 Q))) := by
  unfold iI at r1
  refine m_pop (F := F) (H := H) (v := a1) (by simp [zu, *]) (by simp [zu, *]) (by simp [zu, *]) hF (by omega) ⟨by omega, fun q => w_146_166_i (m_push (F := F) (H := H - 1) (by simp [zu, *]) (by simp [zu, *]) hF (by omega) (w_146_234_i ?_)), fun q => w_146_166_i (m_push (F := F) (H := H - 1) (by simp [zu, *]) (by simp [zu, *]) hF (by omega) (w_146_234_i ?_))⟩
  · rintro _ rfl
    refine k _ ?_
    rw [if_neg (by omega)]; (refine ⟨fun k hk => by (repeat rw [zu_f (by omega)]), fun j hj => by (have hj1 : ¬ j = 57 := (by omega); have hj2 : ¬ j = 40 := (by omega); simp [zu, hj1, hj2]), by simp [zu], by simp [zu], fun g => ?_, fun x => ?_⟩ <;> (first | (simp [zu]; done) | ((repeat rw [zu_g (by decide)]); exact ife) | (simp [zu]; (repeat' split) <;> omega)))
  · rintro _ rfl
    refine k _ ?_
    rw [if_pos (by omega)]; (refine ⟨fun k hk => by (repeat rw [zu_f (by omega)]), fun j hj => by (have hj1 : ¬ j = 57 := (by omega); have hj2 : ¬ j = 40 := (by omega); simp [zu, hj1, hj2]), by simp [zu], by simp [zu], fun g => ?_, fun x => ?_⟩ <;> (first | (simp [zu]; done) | ((repeat rw [zu_g (by decide)]); exact ife) | (simp [zu]; (repeat' split) <;> omega)))
-- DROP
theorem c_18 (eF : s 39 4 = F) (eH : s 42 F = H) (hF : 0 ≤ F ∧ F < 24) (hH : 1 ≤ H ∧ H ≤ 16) (k : ∀ s1, TE s s1 T F (i + 1) (H - 1) (s 41 (F * 16 + (H - 1 - 1))) → Q 0 s1) : w_95 X (zu (zu s 31 9 (T + 1)) 31 6 (i + 1)) (fun v s2 => Q 0 s2) := by
  refine c_pop (F := F) (H := H) (by simp [zu, *]) (by simp [zu, *]) rfl hF (by omega) (k _ ?_)
  (refine ⟨fun k hk => by (repeat rw [zu_f (by omega)]), fun j hj => by (have hj1 : ¬ j = 6 := (by omega); have hj2 : ¬ j = 9 := (by omega); simp [zu, hj1, hj2]), by simp [zu], by simp [zu], fun g => ?_, fun x => ?_⟩ <;> (first | (simp [zu]; done) | ((repeat rw [zu_g (by decide)]); exact ife) | (simp [zu]; (repeat' split) <;> omega)))
theorem m_18 (eF : m 45 56 = F) (eH : m 81 F = H) (hF : 0 ≤ F ∧ F < 24) (hH : 1 ≤ H ∧ H ≤ 16) (k : ∀ m1, ME m m1 T F x (H - 1) (m 83 (16 * F + (H - 1 - 1))) → Q 0 m1) : w_144 X (zu m 45 40 (T + 1)) (fun v20 s20 => w_146_234 X x s20 Q) := by
  refine m_pop (F := F) (H := H) (by simp [zu, *]) (by simp [zu, *]) rfl hF (by omega) (w_146_234_i ?_)
  rintro _ rfl
  refine k _ ?_
  (refine ⟨fun k hk => by (repeat rw [zu_f (by omega)]), fun j hj => by (have hj1 : ¬ j = 57 := (by omega); have hj2 : ¬ j = 40 := (by omega); simp [zu, hj1, hj2]), by simp [zu], by simp [zu], fun g => ?_, fun x => ?_⟩ <;> (first | (simp [zu]; done) | ((repeat rw [zu_g (by decide)]); exact ife) | (simp [zu]; (repeat' split) <;> omega)))
-- ZERO, JUMP
theorem c_10 {a1 : Int} (eF : s 39 4 = F) (eH : s 42 F = H) (hF : 0 ≤ F ∧ F < 24) (hH : 1 ≤ H ∧ H ≤ 16) (e1 : s 41 (F * 16 + (H - 1)) = a1) (r1 : iI a1)
    (k : ∀ s1, TE s s1 T F (if a1 = 0 then v else i + 1) (H - 1) (s 41 (F * 16 + (H - 1 - 1))) → Q 0 s1) : w_95 X (zu (zu s 31 9 (T + 1)) 31 6 (i + 1)) (fun v13 s13 => ((-2147483648 ≤ v13 ∧ v13 ≤ 2147483647) ∧ (¬ v13 = 0 → w_69_314 X (s13 31 6) s13 Q) ∧ (¬ ¬ v13 = 0 → w_69_314 X v s13 Q))) := by
  unfold iI at r1
  refine c_pop (F := F) (H := H) (v := a1) (by simp [zu, *]) (by simp [zu, *]) (by simp [zu, *]) hF (by omega) ⟨by omega, fun q => w_69_314_i ?_, fun q => w_69_314_i ?_⟩
  · rintro _ rfl
    refine k _ ?_
    rw [if_neg q]; (refine ⟨fun k hk => by (repeat rw [zu_f (by omega)]), fun j hj => by (have hj1 : ¬ j = 6 := (by omega); have hj2 : ¬ j = 9 := (by omega); simp [zu, hj1, hj2]), by simp [zu], by simp [zu], fun g => ?_, fun x => ?_⟩ <;> (first | (simp [zu]; done) | ((repeat rw [zu_g (by decide)]); exact ife) | (simp [zu]; (repeat' split) <;> omega)))
  · rintro _ rfl
    refine k _ ?_
    rw [if_pos (by omega)]; (refine ⟨fun k hk => by (repeat rw [zu_f (by omega)]), fun j hj => by (have hj1 : ¬ j = 6 := (by omega); have hj2 : ¬ j = 9 := (by omega); simp [zu, hj1, hj2]), by simp [zu], by simp [zu], fun g => ?_, fun x => ?_⟩ <;> (first | (simp [zu]; done) | ((repeat rw [zu_g (by decide)]); exact ife) | (simp [zu]; (repeat' split) <;> omega)))
theorem m_10 {a1 : Int} (eF : m 45 56 = F) (eH : m 81 F = H) (hF : 0 ≤ F ∧ F < 24) (hH : 1 ≤ H ∧ H ≤ 16) (e1 : m 83 (16 * F + (H - 1)) = a1) (r1 : iI a1)
    (k : ∀ m1, ME m m1 T F (if a1 = 0 then v else x) (H - 1) (m 83 (16 * F + (H - 1 - 1))) → Q 0 m1) : w_144 X (zu m 45 40 (T + 1)) (fun v12 s12 => ((-2147483648 ≤ v12 ∧ v12 ≤ 2147483647) ∧ (¬ v12 = 0 → w_146_184 X x s12 Q) ∧ (¬ ¬ v12 = 0 → w_146_184 X v s12 Q))) := by
  unfold iI at r1
  refine m_pop (F := F) (H := H) (v := a1) (by simp [zu, *]) (by simp [zu, *]) (by simp [zu, *]) hF (by omega) ⟨by omega, fun q => w_146_184_i (w_146_234_i ?_), fun q => w_146_184_i (w_146_234_i ?_)⟩
  · rintro _ rfl
    refine k _ ?_
    rw [if_neg q]; (refine ⟨fun k hk => by (repeat rw [zu_f (by omega)]), fun j hj => by (have hj1 : ¬ j = 57 := (by omega); have hj2 : ¬ j = 40 := (by omega); simp [zu, hj1, hj2]), by simp [zu], by simp [zu], fun g => ?_, fun x => ?_⟩ <;> (first | (simp [zu]; done) | ((repeat rw [zu_g (by decide)]); exact ife) | (simp [zu]; (repeat' split) <;> omega)))
  · rintro _ rfl
    refine k _ ?_
    rw [if_pos (by omega)]; (refine ⟨fun k hk => by (repeat rw [zu_f (by omega)]), fun j hj => by (have hj1 : ¬ j = 57 := (by omega); have hj2 : ¬ j = 40 := (by omega); simp [zu, hj1, hj2]), by simp [zu], by simp [zu], fun g => ?_, fun x => ?_⟩ <;> (first | (simp [zu]; done) | ((repeat rw [zu_g (by decide)]); exact ife) | (simp [zu]; (repeat' split) <;> omega)))
end
