section
variable {G : Int → Nat → Int → Int} {z r s m s' s1 m1 m0 s2 m2 s3 m3 e : zS} {f0 i j k F N o v tk p q t T H a b n f x x0 x1 x2 x3 x4 x5 c c' K P d ch : Int} {U U' : Int → Int → Prop} {φ φ' : Int → Int} {X : zX} {Q : Int → zS → Prop} {D : Prop}
def dK (K k : Int) : Int := if ((K = 3 ∨ K = 4 ∨ K = 5 ∨ K = 13 ∨ K = 14 ∨ K = 15) ∧ k = 1) ∨ (K = 6 ∧ k = 2) then 1 else 0
theorem p_32 (hK : 0 ≤ K ∧ K ≤ 17) (hk : 0 ≤ k ∧ k < 3) (g : Q (dK K k) s) : w_32 X K k s Q := by
  unfold dK at g
  refine w_32_i ⟨by omega, fun q => ?_, fun q => ⟨by omega, fun q' => ?_, fun q' => ?_⟩, fun q => ⟨by omega, fun q' => ?_, fun q' => ?_⟩⟩
  · rw [if_neg (by omega)] at g; exact g
  · rw [if_neg (by omega)] at g; exact g
  · rw [if_pos (by omega)] at g; exact g
  · rw [if_neg (by omega)] at g; exact g
  · rw [if_pos (by omega)] at g; exact g
theorem st_no (hn : 0 ≤ n ∧ n < 150) (hK : s 10 n = K) (hK' : 0 ≤ K ∧ K ≤ 17) (hk : 0 ≤ k ∧ k < 3) (h : ¬ (zP (K * 3 + k) = 4 ∨ zP (K * 3 + k) = 5) ∨ s 11 (n * 3 + k) = -1) (hP : 0 ≤ zP (K * 3 + k) ∧ zP (K * 3 + k) ≤ 5) (g : w_28_15 X n t v (k + 1) s Q) : w_28_15 X n t v k s Q := by
  refine w_28_15_i ⟨by omega, fun q => by omega, fun _ => p_30 hn hK hK' hk rfl hP rfl (fun q => ?_) (fun q => ?_)⟩
  · have e : s 11 (n * 3 + k) = -1 := h.elim (fun w => absurd q w) id
    rw [e]
    exact ⟨by omega, fun _ => w_28_70_i g, fun q => absurd rfl q⟩
  · exact ⟨by omega, fun _ => w_28_70_i g, fun q => absurd rfl q⟩
theorem st_yes (hn : 0 ≤ n ∧ n < 150) (hK : s 10 n = K) (hK' : 0 ≤ K ∧ K ≤ 17) (hk : 0 ≤ k ∧ k < 3) (h : zP (K * 3 + k) = 4 ∨ zP (K * 3 + k) = 5) (ec : s 11 (n * 3 + k) = ch) (hc : 0 ≤ ch ∧ ch < 150) (h13 : 0 ≤ s 13 ch ∧ s 13 ch ≤ 1000) (hv : 0 ≤ v ∧ v ≤ 1000)
    (g : w_28_15 X n (t + s 12 ch) (max v (dK K k + s 13 ch)) (k + 1) s Q) : w_28_15 X n t v k s Q := by
  have hP : 0 ≤ zP (K * 3 + k) ∧ zP (K * 3 + k) ≤ 5 := by omega
  have d01 : 0 ≤ dK K k ∧ dK K k ≤ 1 := by
    unfold dK; split <;> omega
  refine w_28_15_i ⟨by omega, fun q => by omega, fun _ => p_30 hn hK hK' hk rfl hP ec (fun _ => ⟨by omega, fun q => by omega, fun _ => ⟨hc, hn, ?_⟩⟩) (fun q => absurd h q)⟩
  rw [hK]
  exact p_32 hK' hk ⟨hc, p_157 (by omega) (by omega) (w_28_70_i g)⟩
theorem st_end (hn : 0 ≤ n ∧ n < 150) (ht : iI t) (g : Q 0 (zu (zu s 12 n (min t 401)) 13 n v)) : w_28_15 X n t v 3 s Q := by
  refine w_28_15_i ⟨by omega, fun _ => p_158 ht (by omega) ⟨hn, ?_⟩, fun q => by omega⟩
  rintro _ rfl
  refine ⟨hn, ?_⟩
  rintro _ rfl
  exact g
-- the measures of a new node
theorem meas (hn : 0 ≤ n ∧ n < 150) (hK : s 10 n = K) (e0 : s 11 (n * 3 + 0) = a) (e1 : s 11 (n * 3 + 1) = b) (e2 : s 11 (n * 3 + 2) = c) (ok : okN s n K a b c) (h : ∀ x, 0 ≤ x → x < n → (1 ≤ s 12 x ∧ s 12 x ≤ 401) ∧ (1 ≤ s 13 x ∧ s 13 x ≤ x + 1))
    (g : ∀ t v, Nd (zu (zu s 12 n t) 13 n v) n K a b c → Q 0 (zu (zu s 12 n t) 13 n v)) : w_28 X n s Q := by
  obtain ⟨hK', ok1, ok2, ok3, ok4, ok5, ok6, ok7⟩ := ok
  obtain ⟨⟨p0, -, -, -, p4⟩, ⟨q0, q4, q5⟩, ⟨r0, r4⟩⟩ := zP_t hK'
  have p0' : zP (K * 3) = zP (K * 3 + 0) := by rw [Int.add_zero]
  rw [p0'] at p0 p4
  have P1 : 0 ≤ zP (K * 3 + 1) ∧ zP (K * 3 + 1) ≤ 5 := by clear p0 p4 q4 q5 r0 r4; omega
  have P2 : 0 ≤ zP (K * 3 + 2) ∧ zP (K * 3 + 2) ≤ 5 := by clear p0 p4 q0 q4 q5 r4; omega
  have P0 : 0 ≤ zP (K * 3 + 0) ∧ zP (K * 3 + 0) ≤ 5 := by clear p4 q0 q4 q5 r0 r4; omega
  have n05 : ¬ zP (K * 3 + 0) = 5 := by clear p4 q0 q4 q5 r0 r4 P1 P2; omega
  have n25 : ¬ zP (K * 3 + 2) = 5 := by clear p0 p4 q0 q4 q5 r4 P0 P1; omega
  -- what a part brings
  have ee : ∀ x, ex s n x → (0 ≤ x ∧ x < 150) ∧ (1 ≤ s 12 x ∧ s 12 x ≤ 401) ∧ (1 ≤ s 13 x ∧ s 13 x ≤ x + 1) ∧ x < n := fun x w => by
    have := h x w.1 w.2.1
    have := w.1
    have := w.2.1
    exact ⟨by omega, by omega, by omega, by omega⟩
  have ez : ∀ t v x, ex s n x → ex (zu (zu s 12 n t) 13 n v) n x := fun t v x w => ⟨w.1, w.2.1, by rw [zu_g (by decide), zu_g (by decide)]; exact w.2.2⟩
  have az : ∀ t v x, ar s n x → ar (zu (zu s 12 n t) 13 n v) n x := fun t v x w => w.elim Or.inl (fun w => Or.inr ⟨w.1, w.2.1, by rw [zu_g (by decide), zu_g (by decide)]; exact w.2.2⟩)
  have u12 : ∀ t v x, x < n → zu (zu s 12 n t) 13 n v 12 x = s 12 x := fun t v x w => by rw [zu_g (by decide), zu_n (by omega)]
  have u13 : ∀ t v x, x < n → zu (zu s 12 n t) 13 n v 13 x = s 13 x := fun t v x w => by rw [zu_n (by omega), zu_g (by decide)]
  have n12 : ∀ t v, zu (zu s 12 n t) 13 n v 12 n = t := fun t v => by rw [zu_g (by decide), zu_s]
  have n13 : ∀ t v, zu (zu s 12 n t) 13 n v 13 n = v := fun t v => zu_s
  have n36 : ∀ t v, zu (zu s 12 n t) 13 n v 3 6 = s 3 6 := fun t v => by rw [zu_g (by decide), zu_g (by decide)]
  -- one, two, three parts or none
  have S0 : ∀ t v, (K = 0 ∨ K = 1 ∨ K = 2 ∨ K = 6 ∨ K = 11 ∨ K = 12) → w_28_15 X n t v 1 s Q → w_28_15 X n t v 0 s Q := fun t v q w => st_no hn hK hK' (by omega) (Or.inl (fun w => w.elim (fun w => by have := p4.mp w; clear p0 p4 q0 q4 q5 r0 r4 ok1 ok2 ok3 ok4 ok5 ok6 ok7; omega) n05)) P0 w
  have S1 : ∀ t v, (K = 0 ∨ K = 1 ∨ K = 2 ∨ K = 7 ∨ K = 8 ∨ K = 9 ∨ K = 16) ∨ b = -1 → w_28_15 X n t v 2 s Q → w_28_15 X n t v 1 s Q := fun t v q w => st_no hn hK hK' (by omega) (q.elim (fun q => Or.inl (fun w => w.elim (fun w => by have := q4.mp w; clear p0 p4 q0 q4 q5 r0 r4 ok1 ok2 ok3 ok4 ok5 ok6 ok7; omega) (fun w => by have := q5.mp w; clear p0 p4 q0 q4 q5 r0 r4 ok1 ok2 ok3 ok4 ok5 ok6 ok7; omega))) (fun q => Or.inr (by rw [e1]; exact q))) P1 w
  have S2 : ∀ t v, ¬ (K = 6 ∨ K = 10 ∨ K = 11) → w_28_15 X n t v 3 s Q → w_28_15 X n t v 2 s Q := fun t v q w => st_no hn hK hK' (by omega) (Or.inl (fun w => w.elim (fun w => q (r4.mp w)) n25)) P2 w
  have Y0 : ∀ t v, ex s n a → (K = 3 ∨ K = 4 ∨ K = 5 ∨ K = 7 ∨ K = 8 ∨ K = 9 ∨ K = 10 ∨ K = 13 ∨ K = 14 ∨ K = 15 ∨ K = 16 ∨ K = 17) → (0 ≤ v ∧ v ≤ 200) → w_28_15 X n (t + s 12 a) (max v (dK K 0 + s 13 a)) 1 s Q → w_28_15 X n t v 0 s Q := fun t v w q hv g => by
    have := ee a w
    exact st_yes hn hK hK' (by omega) (Or.inl (p4.mpr q)) e0 this.1 (by omega) (by omega) g
  have Y1 : ∀ t v, ((0 ≤ b ∧ b < n) ∧ (1 ≤ s 13 b ∧ s 13 b ≤ b + 1)) → (zP (K * 3 + 1) = 4 ∨ zP (K * 3 + 1) = 5) → (0 ≤ v ∧ v ≤ 400) → w_28_15 X n (t + s 12 b) (max v (dK K 1 + s 13 b)) 2 s Q → w_28_15 X n t v 1 s Q := fun t v w q hv g =>
    st_yes hn hK hK' (by omega) q e1 (by omega) (by omega) (by omega) g
  have Y2 : ∀ t v, ex s n c → (K = 6 ∨ K = 10 ∨ K = 11) → (0 ≤ v ∧ v ≤ 600) → w_28_15 X n (t + s 12 c) (max v (dK K 2 + s 13 c)) 3 s Q → w_28_15 X n t v 2 s Q := fun t v w q hv g => by
    have := ee c w
    exact st_yes hn hK hK' (by omega) (Or.inl (r4.mpr q)) e2 this.1 (by omega) (by omega) g
  refine w_28_i ⟨hn, ?_⟩
  rw [hK]
  refine w_29_i ⟨by clear p0 p4 q0 q4 q5 r0 r4; omega, fun q => ?_, fun q => ?_, fun q => ?_⟩
  · clear p0 r0 q0
    by_cases c1 : K = 0 ∨ K = 1 ∨ K = 2
    · -- no part
      refine S0 _ _ (by clear p4 q4 q5 r4; omega) (S1 _ _ (Or.inl (by clear p4 q4 q5 r4; omega)) (S2 _ _ (by clear p4 q4 q5 r4; omega) (st_end hn (iI_c (by omega)) (g _ _ ?_))))
      unfold Nd
      rw [n12, n13]
      clear p4 q4 q5 r4
      exact ⟨fun w => by omega, fun w => ⟨ok1 (by omega), by omega, by omega⟩, fun w => ⟨ok2 (by omega), by omega, by omega⟩, fun w => by omega, fun w => by omega, fun w => by omega, fun w => by omega, fun w => by omega, fun w => by omega, fun w => by omega, fun w => by omega, by omega, by omega⟩
    by_cases c2 : K = 7 ∨ K = 8 ∨ K = 9 ∨ K = 16
    · have wa := ok4 (by clear p4 q4 q5 r4; omega)
      have va := ee a wa
      have d0 : dK K 0 = 0 := by unfold dK; rw [if_neg (by omega)]
      refine Y0 _ _ wa (by clear p4 q4 q5 r4; omega) (by omega) (S1 _ _ (Or.inl (by clear p4 q4 q5 r4; omega)) (S2 _ _ (by clear p4 q4 q5 r4; omega) (st_end hn (iI_c (by omega)) (g _ _ ?_))))
      unfold Nd
      rw [n12, n13, d0, u12 _ _ a va.2.2.2, u13 _ _ a va.2.2.2]
      clear p4 q4 q5 r4
      exact ⟨fun w => by omega, fun w => by omega, fun w => by omega, fun w => by omega, fun w => by omega, fun w => ⟨ez _ _ _ wa, by omega, by omega⟩, fun w => by omega, fun w => by omega, fun w => by omega, fun w => by omega, fun w => by omega, by omega, by omega⟩
    by_cases c3 : K = 12
    · have wa := ok3 c3
      have wb := ok6 (Or.inl c3)
      by_cases qb : b = -1
      · refine S0 _ _ (by clear p4 q4 q5 r4; omega) (S1 _ _ (Or.inr qb) (S2 _ _ (by clear p4 q4 q5 r4; omega) (st_end hn (iI_c (by omega)) (g _ _ ?_))))
        unfold Nd
        rw [n12, n13, n36]
        clear p4 q4 q5 r4
        exact ⟨fun w => by omega, fun w => by omega, fun w => by omega, fun w => by omega, fun w => by omega, fun w => by omega, fun w => by omega, fun w => by omega, fun w => ⟨wa, az _ _ _ wb, fun _ => by omega, fun w => by omega⟩, fun w => by omega, fun w => by omega, by omega, by omega⟩
      · have wb' : 0 ≤ b ∧ b < n ∧ s 10 b = 13 := wb.elim (fun w => absurd w qb) id
        have vb := h b wb'.1 wb'.2.1
        have d1 : dK K 1 = 0 := by unfold dK; rw [if_neg (by omega)]
        refine S0 _ _ (by clear p4 q4 q5 r4; omega) (Y1 _ _ (by clear p4 q4 q5 r4; omega) (Or.inr (q5.mpr (Or.inl c3))) (by omega) (S2 _ _ (by clear p4 q4 q5 r4; omega) (st_end hn (iI_c (by omega)) (g _ _ ?_))))
        unfold Nd
        rw [n12, n13, n36, d1, u12 _ _ b wb'.2.1, u13 _ _ b wb'.2.1]
        clear p4 q4 q5 r4
        exact ⟨fun w => by omega, fun w => by omega, fun w => by omega, fun w => by omega, fun w => by omega, fun w => by omega, fun w => by omega, fun w => by omega, fun w => ⟨wa, az _ _ _ wb, fun w => by omega, fun _ => by omega⟩, fun w => by omega, fun w => by omega, by omega, by omega⟩
    by_cases c4 : K = 6 ∨ K = 11
    · have wb := ok5 (by clear p4 q4 q5 r4; omega)
      have wc := ok7 (by clear p4 q4 q5 r4; omega)
      have vb := ee b wb
      have vc := ee c wc
      have d1 : dK K 1 = 0 := by unfold dK; rw [if_neg (by omega)]
      have d2 : dK K 2 = if K = 6 then 1 else 0 := by unfold dK; by_cases w : K = 6 <;> simp [w]
      have d2' : 0 ≤ dK K 2 ∧ dK K 2 ≤ 1 := by rw [d2]; split <;> omega
      refine S0 _ _ (by clear p4 q4 q5 r4; omega) (Y1 _ _ (by clear p4 q4 q5 r4; omega) (Or.inl (q4.mpr (by omega))) (by omega) (Y2 _ _ wc (by omega) (by rw [d1]; clear p4 q4 q5 r4; omega) (st_end hn (iI_c (by clear p4 q4 q5 r4; omega)) (g _ _ ?_))))
      unfold Nd
      rw [n12, n13, d1, u12 _ _ b vb.2.2.2, u13 _ _ b vb.2.2.2, u12 _ _ c vc.2.2.2, u13 _ _ c vc.2.2.2]
      clear p4 q4 q5 r4
      refine ⟨fun w => by omega, fun w => by omega, fun w => by omega, fun w => by omega, fun w => ⟨ok1 (by omega), ez _ _ _ wb, ez _ _ _ wc, by omega, ?_⟩, fun w => by omega, fun w => by omega, fun w => ⟨ok2 (by omega), ez _ _ _ wb, ez _ _ _ wc, by omega, ?_⟩, fun w => by omega, fun w => by omega, fun w => by omega, by omega, ?_⟩
      · rw [d2, if_pos w]; omega
      · rw [d2, if_neg (by omega)]; omega
      · omega
    · -- two parts
      have cc : K = 3 ∨ K = 4 ∨ K = 5 ∨ K = 14 ∨ K = 15 ∨ K = 17 := by clear p4 q4 q5 r4; omega
      have wa := ok4 (by clear p4 q4 q5 r4; omega)
      have wb := ok5 (by clear p4 q4 q5 r4; omega)
      have va := ee a wa
      have vb := ee b wb
      have d0 : dK K 0 = 0 := by unfold dK; rw [if_neg (by omega)]
      have d1 : dK K 1 = if K = 17 then 0 else 1 := by
        unfold dK
        by_cases w : K = 17
        · rw [if_neg (by omega), if_pos w]
        · rw [if_pos (by omega), if_neg w]
      have d1' : 0 ≤ dK K 1 ∧ dK K 1 ≤ 1 := by rw [d1]; split <;> omega
      refine Y0 _ _ wa (by clear p4 q4 q5 r4; omega) (by omega) (Y1 _ _ (by clear p4 q4 q5 r4; omega) (Or.inl (q4.mpr (by clear p4 q4 q5 r4; omega))) (by rw [d0]; clear p4 q4 q5 r4; omega) (S2 _ _ (by clear p4 q4 q5 r4; omega) (st_end hn (iI_c (by clear p4 q4 q5 r4; omega)) (g _ _ ?_))))
      unfold Nd
      rw [n12, n13, d0, u12 _ _ b vb.2.2.2, u13 _ _ b vb.2.2.2, u12 _ _ a va.2.2.2, u13 _ _ a va.2.2.2]
      clear p4 q4 q5 r4
      refine ⟨fun w => by omega, fun w => by omega, fun w => by omega, fun w => ⟨ez _ _ _ wa, ez _ _ _ wb, by omega, ?_⟩, fun w => by omega, fun w => by omega, fun w => by omega, fun w => by omega, fun w => by omega, fun w => by omega, fun w => ⟨ez _ _ _ wa, ez _ _ _ wb, by omega, ?_⟩, by omega, ?_⟩
      · rw [d1, if_neg (by omega)]; omega
      · rw [d1, if_pos w]; omega
      · omega
  · -- three parts
    have wa := ok4 (by clear p0 p4 q0 q4 q5 r0 r4; omega)
    have wb := ok5 (by clear p0 p4 q0 q4 q5 r0 r4; omega)
    have wc := ok7 (by clear p0 p4 q0 q4 q5 r0 r4; omega)
    have va := ee a wa
    have vb := ee b wb
    have vc := ee c wc
    have d0 : dK K 0 = 0 := by unfold dK; rw [if_neg (by omega)]
    have d1 : dK K 1 = 0 := by unfold dK; rw [if_neg (by omega)]
    have d2 : dK K 2 = 0 := by unfold dK; rw [if_neg (by omega)]
    refine Y0 _ _ wa (by clear p0 p4 q0 q4 q5 r0 r4; omega) (by omega) (Y1 _ _ (by clear p0 p4 q0 q4 q5 r0 r4; omega) (Or.inl (q4.mpr (by clear p0 p4 q0 q4 q5 r0 r4; omega))) (by rw [d0]; clear p0 p4 q0 q4 q5 r0 r4; omega) (Y2 _ _ wc (by clear p0 p4 q0 q4 q5 r0 r4; omega) (by rw [d0, d1]; clear p0 p4 q0 q4 q5 r0 r4; omega) (st_end hn (iI_c (by clear p0 p4 q0 q4 q5 r0 r4; omega)) (g _ _ ?_))))
    unfold Nd
    rw [n12, n13, d0, d1, d2, u12 _ _ b vb.2.2.2, u13 _ _ b vb.2.2.2, u12 _ _ a va.2.2.2, u13 _ _ a va.2.2.2, u12 _ _ c vc.2.2.2, u13 _ _ c vc.2.2.2]
    clear p0 p4 q0 q4 q5 r0 r4
    exact ⟨fun w => by omega, fun w => by omega, fun w => by omega, fun w => by omega, fun w => by omega, fun w => by omega, fun w => ⟨ez _ _ _ wa, ez _ _ _ wb, ez _ _ _ wc, by omega, by omega⟩, fun w => by omega, fun w => by omega, fun w => by omega, fun w => by omega, by omega, by omega⟩
  · -- an argument
    have wa := ok4 (by clear p0 p4 q0 q4 q5 r0 r4; omega)
    have wb := ok6 (Or.inr q)
    have va := ee a wa
    have d0 : dK K 0 = 0 := by unfold dK; rw [if_neg (by omega)]
    have d1 : dK K 1 = 1 := by unfold dK; rw [if_pos (by omega)]
    by_cases qb : b = -1
    · refine Y0 _ _ wa (by clear p0 p4 q0 q4 q5 r0 r4; omega) (by omega) (S1 _ _ (Or.inr qb) (S2 _ _ (by clear p0 p4 q0 q4 q5 r0 r4; omega) (st_end hn (iI_c (by clear p0 p4 q0 q4 q5 r0 r4; omega)) (g _ _ ?_))))
      unfold Nd
      rw [n12, n13, d0, u12 _ _ a va.2.2.2, u13 _ _ a va.2.2.2]
      clear p0 p4 q0 q4 q5 r0 r4
      exact ⟨fun w => by omega, fun w => by omega, fun w => by omega, fun w => by omega, fun w => by omega, fun w => by omega, fun w => by omega, fun w => by omega, fun w => by omega, fun w => ⟨ez _ _ _ wa, az _ _ _ wb, fun _ => by omega, fun w => by omega⟩, fun w => by omega, by omega, by omega⟩
    · have wb' : 0 ≤ b ∧ b < n ∧ s 10 b = 13 := wb.elim (fun w => absurd w qb) id
      have vb := h b wb'.1 wb'.2.1
      refine Y0 _ _ wa (by clear p0 p4 q0 q4 q5 r0 r4; omega) (by omega) (Y1 _ _ (by clear p0 p4 q0 q4 q5 r0 r4; omega) (Or.inr (q5.mpr (Or.inr q))) (by rw [d0]; clear p0 p4 q0 q4 q5 r0 r4; omega) (S2 _ _ (by clear p0 p4 q0 q4 q5 r0 r4; omega) (st_end hn (iI_c (by clear p0 p4 q0 q4 q5 r0 r4; omega)) (g _ _ ?_))))
      unfold Nd
      rw [n12, n13, d0, d1, u12 _ _ a va.2.2.2, u13 _ _ a va.2.2.2, u12 _ _ b wb'.2.1, u13 _ _ b wb'.2.1]
      clear p0 p4 q0 q4 q5 r0 r4
      exact ⟨fun w => by omega, fun w => by omega, fun w => by omega, fun w => by omega, fun w => by omega, fun w => by omega, fun w => by omega, fun w => by omega, fun w => by omega, fun w => ⟨ez _ _ _ wa, az _ _ _ wb, fun w => by omega, fun _ => by omega⟩, fun w => by omega, by omega, by omega⟩
end
