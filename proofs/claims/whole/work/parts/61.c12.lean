section
variable {X : zX} {s : zS} {Q : Int → zS → Prop} {n y N H J t1 t2 a f o k K P ch T wp : Int}
theorem gc_down (hT : 0 ≤ T ∧ T < 10000) (eo : s 22 6 = o + 1) (ho : 0 ≤ o ∧ o < 150) (eJ : s 22 10 = 1) (ek : s 24 o = k) (hk : 0 ≤ k ∧ k < 3) (g : w_61 X o s (fun _ s1 => w_46_169 X f T s1 Q)) : w_46_102 X f T s Q := by
  apply w_46_102_i
  rw [eo, eJ, show o + 1 - 1 = o by omega, ek]
  exact ⟨by omega, fun q => by omega, fun _ => ⟨by omega, fun q => by omega, fun _ => ⟨by omega, fun q => by omega, fun _ => ⟨ho, by omega, fun _ => g, fun q => by omega⟩⟩⟩⟩
theorem gc_fin (hT : 0 ≤ T ∧ T < 10000) (eo : s 22 6 = o + 1) (ho : 0 ≤ o ∧ o < 150) (eJ : s 22 10 = 1) (ek : s 24 o = 3) (en : s 23 o = n) (g : w_48 X n o (zu s 22 6 o) (fun _ s1 => w_46_169 X f T s1 Q)) : w_46_102 X f T s Q := by
  apply w_46_102_i
  rw [eo, eJ, show o + 1 - 1 = o by omega, ek]
  refine ⟨by omega, fun q => by omega, fun _ => ⟨by omega, fun q => by omega, fun _ => ⟨by omega, fun q => by omega, fun _ => ⟨ho, by omega, fun q => absurd rfl q, fun _ => ?_⟩⟩⟩⟩
  rintro _ rfl
  rw [zu_g (by decide), en]
  exact ⟨ho, g⟩
end
section
variable {X : zX} {s : zS} {Q : Int → zS → Prop} {n y N H J t1 t2 a f o k K P ch T wp : Int}
theorem p_47 (O : Int) (e : s 22 6 = O) (h : 0 ≤ O ∧ O < 150) (k : Q 0 (zu (zu (zu s 23 O ch) 24 O 0) 22 6 (O + 1))) : w_47 X ch s Q := by
  subst e
  refine w_47_i ⟨h, ?_⟩
  rintro _ rfl
  refine ⟨h, ?_⟩
  rintro _ rfl _ rfl
  exact k
theorem p_30 (hn : 0 ≤ n ∧ n < 150) (hK : s 10 n = K) (hK' : 0 ≤ K ∧ K ≤ 17) (hk : 0 ≤ k ∧ k < 3) (eP : zP (K * 3 + k) = P) (hP : 0 ≤ P ∧ P ≤ 5) (ec : s 11 (n * 3 + k) = ch)
    (g1 : (P = 4 ∨ P = 5) → Q ch s) (g0 : ¬ (P = 4 ∨ P = 5) → Q (-1) s) : w_30 X n k s Q := by
  apply w_30_i
  rw [hK, eP]
  refine ⟨hn, by omega, by omega, fun q => w_30_25_i (p_31 hn hk (by rw [ec]; exact g1 (Or.inl q))), fun q => ⟨by omega, fun q' => g0 (by omega), fun q' => w_30_25_i (p_31 hn hk (by rw [ec]; exact g1 (by omega)))⟩⟩
theorem p_61 (ho : 0 ≤ o ∧ o < 150) (en : s 23 o = n) (ek : s 24 o = k) (hn : 0 ≤ n ∧ n < 150) (hK : s 10 n = K) (hK' : 0 ≤ K ∧ K ≤ 17) (hk : 0 ≤ k ∧ k < 3) (eP : zP (K * 3 + k) = P) (hP : 0 ≤ P ∧ P ≤ 5) (ec : s 11 (n * 3 + k) = ch) (hc : (P = 4 ∨ P = 5) → -1 ≤ ch ∧ ch < 150)
    (g1 : (P = 4 ∨ P = 5) → 0 ≤ ch → w_62 X n k o (zu s 24 o (k + 1)) (fun _ s3 => w_47 X ch s3 (fun _ s4 => Q 0 s4))) (g0 : ¬ ((P = 4 ∨ P = 5) ∧ 0 ≤ ch) → Q 0 (zu s 24 o (k + 1))) : w_61 X o s Q := by
  apply w_61_i
  rw [en, ek]
  refine ⟨ho, ho, ho, ?_⟩
  rintro _ rfl
  refine p_30 (K := K) (P := P) (ch := ch) hn (by simp [zu, hK]) hK' hk eP hP (by simp [zu, ec]) ?_ ?_
  · intro q
    have := hc q
    exact ⟨by omega, fun q' => g0 (by omega), fun q' => g1 q (by omega)⟩
  · intro q
    exact ⟨by omega, fun q' => g0 (fun h => q h.1), fun q' => absurd rfl q'⟩
theorem p_62n (hn : 0 ≤ n ∧ n < 150) (hK : s 10 n = K) (hK' : 0 ≤ K ∧ K ≤ 17) (hk : 0 ≤ k ∧ k < 3) (hs : ¬ (K = 10 ∧ 1 ≤ k) ∧ ¬ (K = 11 ∧ k = 2) ∧ ¬ (K = 17 ∧ k = 1)) (g : Q 0 s) : w_62 X n k o s Q := by
  have h3 : w_62_140 X k K s Q := w_62_140_i ⟨by omega, fun _ => g, fun q => ⟨by omega, fun _ => g, fun q' => by omega⟩⟩
  have h2 : w_62_112 X n k K s Q := w_62_112_i ⟨by omega, fun _ => h3, fun q => ⟨by omega, fun _ => h3, fun q' => by omega⟩⟩
  have h1 : w_62_46 X n k o K s Q := w_62_46_i ⟨by omega, fun _ => h2, fun q => ⟨by omega, fun _ => h2, fun q' => by omega⟩⟩
  apply w_62_i; rw [hK]
  exact ⟨hn, by omega, fun _ => h1, fun q => ⟨by omega, fun _ => h1, fun q' => by omega⟩⟩
theorem p_62z (hn : 0 ≤ n ∧ n < 150) (hK : s 10 n = 10) (ho : 0 ≤ o ∧ o < 150) (eN : s 14 1 = N) (eH : s 22 8 = H) (eJ : s 22 10 = J) (e1 : s 27 (H - 1) = t1) (hN : 0 ≤ N ∧ N < 400) (hH : 1 ≤ H ∧ H ≤ 16) (r1 : tI t1)
    (g : ∀ s', EC (zu s 25 o N) s' N 10 0 (s 18 N) (s 14 2) (s 29 N) (H - 1) (s 27 (H - 1 - 1)) 0 (s 28 0) (if t1 = 0 then J else 0) → Q 0 s') : w_62 X n 1 o s Q := by
  unfold tI at r1
  apply w_62_i; rw [hK]
  refine ⟨hn, by omega, fun q => absurd rfl q, fun q => ⟨by omega, fun q => absurd rfl q, fun _ => p_53 H t1 J eH e1 eJ (by omega) r1 (p_39 N (by simp [zu, *]) hN ⟨ho, ?_⟩)⟩⟩
  rintro _ rfl
  apply g
  refine ⟨fun j => ?_, fun j => ?_, fun j => ?_, fun j => ?_, ?_, ?_, ?_, ?_, ?_, ?_, fun k _ => ?_, fun k => ?_, fun k hk => ?_⟩
  rotate_left 12
  · by_cases c1 : k = 25
    · subst c1; funext b; simp [zu]
    · (repeat rw [zu_f (by omega)])
  all_goals (first | (simp [zu]; done) | ((repeat rw [zu_g (by decide)]); exact ife) | (simp [zu]; (repeat' split) <;> omega))
theorem p_62j (hn : 0 ≤ n ∧ n < 150) (hK : s 10 n = 10) (ho : 0 ≤ o ∧ o < 150) (eN : s 14 1 = N) (eH : s 22 8 = H) (eJ : s 22 10 = J) (e1 : s 27 (H - 1) = t1) (ew : s 25 o = wp) (hw : 0 ≤ wp ∧ wp < N) (hN : 0 ≤ N ∧ N < 400) (hH : 1 ≤ H ∧ H ≤ 16)
    (g : ∀ s', EC (zu (zu (zu s 16 wp (N + 1)) 25 o N) 26 o t1) s' N 11 0 (s 18 N) (s 14 2) (s 29 N) (H - 1) (s 27 (H - 1 - 1)) 0 (s 28 0) J → Q 0 s') : w_62 X n 2 o s Q := by
  apply w_62_i; rw [hK]
  refine ⟨hn, by omega, fun q => absurd rfl q, fun q => ⟨by omega, fun q => ?_, fun q => by omega⟩⟩
  refine w_62_46_i ⟨by omega, fun q => absurd rfl q, fun q => ⟨by omega, fun q => absurd rfl q, fun q => p_54 H t1 eH e1 (by omega) ⟨ho, ?_⟩⟩⟩
  rintro _ rfl
  refine p_39 N (by simp [zu, *]) hN ⟨ho, ?_⟩
  have z1 : zu (zu (zu (zu (zu s 22 8 (H - 1)) 26 o t1) 15 N 11) 16 N 0) 14 1 (N + 1) 25 o = wp := by simp [zu, ew]
  have z2 : zu (zu (zu (zu (zu s 22 8 (H - 1)) 26 o t1) 15 N 11) 16 N 0) 14 1 (N + 1) 14 1 = N + 1 := by simp [zu]
  rw [z1, z2]
  refine ⟨by omega, ?_⟩
  rintro _ rfl
  refine ⟨ho, ?_⟩
  rintro _ rfl
  apply g
  have hw' : ¬ wp = N := by omega
  refine ⟨fun j => ?_, fun j => ?_, fun j => ?_, fun j => ?_, ?_, ?_, ?_, ?_, ?_, ?_, fun k _ => ?_, fun k => ?_, fun k hk => ?_⟩
  rotate_left 1
  · simp [zu]; (repeat' split) <;> omega
  rotate_left 10
  · by_cases c1 : k = 25
    · subst c1; funext b; simp [zu]
    · by_cases c2 : k = 26
      · subst c2; funext b; simp [zu]
      · (repeat rw [zu_f (by omega)])
  all_goals (first | (simp [zu]; done) | ((repeat rw [zu_g (by decide)]); exact ife) | (simp [zu]; (repeat' split) <;> omega))
theorem p_62s (hn : 0 ≤ n ∧ n < 150) (hK : s 10 n = 11) (ea : s 11 (n * 3 + 0) = a) (ha : 0 ≤ a ∧ a < 8) (eN : s 14 1 = N) (eH : s 22 8 = H) (eJ : s 22 10 = J) (e1 : s 27 (H - 1) = t1) (e2 : s 28 a = t2) (r2 : -1 ≤ t2 ∧ t2 ≤ 7) (hN : 0 ≤ N ∧ N < 400) (hH : 1 ≤ H ∧ H ≤ 16)
    (g : ∀ s', EC s s' N 12 a (s 18 N) (s 14 2) (s 29 N) (H - 1) (s 27 (H - 1 - 1)) a t1 (if t2 < 0 then J else 0) → Q 0 s') : w_62 X n 2 o s Q := by
  apply w_62_i; rw [hK]
  refine ⟨hn, by omega, fun q => ?_, fun q => by omega⟩
  refine w_62_46_i ⟨by omega, fun q => ?_, fun q => by omega⟩
  refine w_62_112_i ⟨by omega, fun q => absurd rfl q, fun q => ⟨by omega, fun q => absurd rfl q, fun q => p_31 hn (by omega) ?_⟩⟩
  rw [ea]
  apply w_63_i; rw [e2]
  refine ⟨ha, by omega, fun q => w_63_16_i (p_51 J eJ (by simp) (p_39 N (by simp [zu, *]) hN (p_54 H t1 (by simp [zu, *]) (by simp [zu, *]) (by omega) ⟨ha, ?_⟩))), fun q => w_63_16_i (p_51 J eJ (by simp) (p_39 N (by simp [zu, *]) hN (p_54 H t1 (by simp [zu, *]) (by simp [zu, *]) (by omega) ⟨ha, ?_⟩)))⟩
  · rintro _ rfl
    apply g
    rw [if_neg (by omega), if_neg (by omega)]
    (refine ⟨fun j => ?_, fun j => ?_, fun j => ?_, fun j => ?_, ?_, ?_, ?_, ?_, ?_, ?_, fun k _ => ?_, fun k => ?_, fun k hk => by (repeat rw [zu_f (by omega)])⟩ <;> (first | (simp [zu]; done) | ((repeat rw [zu_g (by decide)]); exact ife) | (simp [zu]; (repeat' split) <;> omega)))
  · rintro _ rfl
    apply g
    rw [if_pos (by omega), if_pos (by omega)]
    (refine ⟨fun j => ?_, fun j => ?_, fun j => ?_, fun j => ?_, ?_, ?_, ?_, ?_, ?_, ?_, fun k _ => ?_, fun k => ?_, fun k hk => by (repeat rw [zu_f (by omega)])⟩ <;> (first | (simp [zu]; done) | ((repeat rw [zu_g (by decide)]); exact ife) | (simp [zu]; (repeat' split) <;> omega)))
theorem p_62d (hn : 0 ≤ n ∧ n < 150) (hK : s 10 n = 17) (eN : s 14 1 = N) (eH : s 22 8 = H) (eJ : s 22 10 = J) (hN : 0 ≤ N ∧ N < 400) (hH : 1 ≤ H ∧ H ≤ 16)
    (g : ∀ s', EC s s' N 18 0 (s 18 N) (s 14 2) (s 29 N) (H - 1) (s 27 (H - 1 - 1)) 0 (s 28 0) J → Q 0 s') : w_62 X n 1 o s Q := by
  apply w_62_i; rw [hK]
  refine ⟨hn, by omega, fun q => ?_, fun q => by omega⟩
  refine w_62_46_i ⟨by omega, fun q => ?_, fun q => by omega⟩
  refine w_62_112_i ⟨by omega, fun q => ?_, fun q => by omega⟩
  refine w_62_140_i ⟨by omega, fun q => absurd rfl q, fun q => ⟨by omega, fun q => absurd rfl q, fun q => p_54 H _ eH rfl (by omega) (p_39 N (by simp [zu, *]) hN (g _ ?_))⟩⟩
  (refine ⟨fun j => ?_, fun j => ?_, fun j => ?_, fun j => ?_, ?_, ?_, ?_, ?_, ?_, ?_, fun k _ => ?_, fun k => ?_, fun k hk => by (repeat rw [zu_f (by omega)])⟩ <;> (first | (simp [zu]; done) | ((repeat rw [zu_g (by decide)]); exact ife) | (simp [zu]; (repeat' split) <;> omega)))
end
