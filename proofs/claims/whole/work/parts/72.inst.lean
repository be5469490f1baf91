/-! The law's case 6: instruction, which may throw. -/
-- the class's own method, where it answers
theorem w17_i {X : zX} {s : zS} {x1 x2 : Int} (i1 : iI x1) (i2 : iI x2) (hs : s 14 0 = 1 ∧ 0 ≤ x1 ∧ x1 < s 14 1) (hN : s 14 1 ≤ 400) (hx : x2 = 0 ∨ x2 = 1) :
    wW X 17 xm_17 1 (0, [some (.ref 2), some (.int (Int32.ofInt x1)), some (.int (Int32.ofInt x2))], [], zw X s) (fun v s1 => v = (if x2 = 0 then s 15 x1 else s 16 x1) ∧ s1 = s) := by
  intro hZ d hd
  have hM : xi_ml[17]? = some xm_17 := rfl
  have hN' : iI (s 14 1) := ⟨by omega, by omega⟩
  refine gx_r hM hZ 3 (B := (5, [some (.ref 2), some (.int (Int32.ofInt x1)), some (.int (Int32.ofInt x2))], [.int (Int32.ofInt x1), .ref 14], zw X s)) rfl ?_
  refine gi_call hM (s := s) (hj := 0) hZ rfl rfl (by omega) (p_43 (Q := fun v s1 => v = 1 ∧ s1 = s) (Or.inr hs.1) i1 hN' (fun _ => ⟨rfl, rfl⟩) (fun q => absurd hs q)) ?_
  intro v s1 h
  obtain ⟨e1, e2⟩ := h
  subst e1
  subst e2
  refine gi_if1 (tg := 19) hM hZ (fun x => decide (¬ x = 0)) (p := ¬ (1 : Int) = 0) rfl rfl (zd_ne (by decide)) (fun _ => ?_) (fun q => absurd (by decide) q)
  refine gx_r hM hZ 1 (B := (20, [some (.ref 2), some (.int (Int32.ofInt x1)), some (.int (Int32.ofInt x2))], [.int (Int32.ofInt x2)], zw X s1)) rfl ?_
  refine gi_if1 (tg := 36) hM hZ (fun x => decide (x = 0)) (p := x2 = 0) rfl rfl (zd_eq i2) (fun q => ?_) (fun q => ?_)
  · refine gx_r hM hZ 1 (B := (37, [some (.ref 2), some (.int (Int32.ofInt x1)), some (.int (Int32.ofInt x2))], [.int (Int32.ofInt x2)], zw X s1)) rfl ?_
    refine gi_if1 (tg := 52) hM hZ (fun x => decide (¬ x = 0)) (p := ¬ x2 = 0) rfl rfl (zd_ne i2) (fun q' => absurd q q') (fun _ => ?_)
    refine gx_r hM hZ 4 (B := (48, [some (.ref 2), some (.int (Int32.ofInt x1)), some (.int (Int32.ofInt x2))], [.int (Int32.ofInt x1), .ref 15], zw X s1)) rfl ?_
    refine gi_iald (s := s1) (len := 400) hM hZ rfl rfl (by decide) (by omega) ?_
    refine gx_r hM hZ 1 (B := (61, [some (.ref 2), some (.int (Int32.ofInt x1)), some (.int (Int32.ofInt x2))], [.int (Int32.ofInt (s1 15 x1))], zw X s1)) rfl ?_
    exact ⟨_, xi_To.rf _ _ _ _, s1 15 x1, s1, rfl, (if_pos q).symm, rfl⟩
  · refine gx_r hM hZ 2 (B := (25, [some (.ref 2), some (.int (Int32.ofInt x1)), some (.int (Int32.ofInt x2))], [.int (Int32.ofInt 1), .int (Int32.ofInt x2)], zw X s1)) rfl ?_
    refine gi_if2 (tg := 36) hM hZ (fun x y => decide (x = y)) (p := x2 = 1) rfl rfl (zc_eq i2 (by decide)) (fun q1 => ?_) (fun q1 => by omega)
    refine gx_r hM hZ 1 (B := (37, [some (.ref 2), some (.int (Int32.ofInt x1)), some (.int (Int32.ofInt x2))], [.int (Int32.ofInt x2)], zw X s1)) rfl ?_
    refine gi_if1 (tg := 52) hM hZ (fun x => decide (¬ x = 0)) (p := ¬ x2 = 0) rfl rfl (zd_ne i2) (fun _ => ?_) (fun q' => absurd q q')
    refine gx_r hM hZ 4 (B := (60, [some (.ref 2), some (.int (Int32.ofInt x1)), some (.int (Int32.ofInt x2))], [.int (Int32.ofInt x1), .ref 16], zw X s1)) rfl ?_
    refine gi_iald (s := s1) (len := 400) hM hZ rfl rfl (by decide) (by omega) ?_
    exact ⟨_, xi_To.rf _ _ _ _, s1 16 x1, s1, rfl, (if_neg q).symm, rfl⟩
theorem lg_self (x : Int64) : lg_cmp x x = 0 := by
  unfold lg_cmp
  rw [if_neg (Int64.lt_irrefl), if_pos rfl]
section LI
variable {X : zX} {E : xi_S → Prop} {i c k v : Int} {a b : Option Value} {s : zS}
-- the reference, and what it says it throws
theorem law_kf (hZ : okX X) (hi : 0 ≤ i) (hl : i + 6 ≤ (X.1.2.2.2.2.2.2.1.length : Int)) (hS : X.1.2.2.2.2.2.2.1.length ≤ 3072)
    (t : w_130 X (sv X (i + 1).toNat) (sv X (i + 2).toNat) s (fun v' s1 => v' = v ∧ s1 = zu s 45 0 k))
    (K : ∃ C, xi_To X.1 9 0 (428, LL i (some (.int (Int32.ofInt k))) (some (.int (Int32.ofInt v))), [.int (Int32.ofInt k)], zw X (zu s 45 0 k)) C ∧ E C) : ∃ C, xi_To X.1 9 0 (395, LL i a b, [.int (Int32.ofInt k)], zw X s) C ∧ E C := by
  refine gx_r lw_M hZ 2 (B := (398, LL i (some (.int (Int32.ofInt k))) b, [.ref 45], zw X s)) rfl ?_
  refine law_ld (pc := 398) (k := 1) hZ hi (by decide) (by omega) hS rfl rfl rfl ?_
  refine law_ld (pc := 404) (k := 2) hZ hi (by decide) (by omega) hS rfl rfl rfl ?_
  refine gi_call (pc := 410) lw_M (s := s) (hj := 2) hZ rfl rfl (by decide) t ?_
  intro v1 s1 h
  obtain ⟨e1, e2⟩ := h
  subst e1
  subst e2
  refine gx_r lw_M hZ 2 (B := (416, LL i (some (.int (Int32.ofInt k))) (some (.int (Int32.ofInt v1))), [.ref 45], zw X (zu s 45 0 k))) rfl ?_
  refine gi_call (pc := 416) lw_M (s := zu s 45 0 k) (hj := 0) hZ rfl rfl (by decide) (w_99_i (Q := fun v2 s2 => v2 = k ∧ s2 = zu s 45 0 k) ⟨zu_s, rfl⟩) ?_
  intro v2 s2 h
  obtain ⟨e1, e2⟩ := h
  subst e1
  subst e2
  refine gx_r lw_M hZ 1 (B := (421, LL i (some (.int (Int32.ofInt v2))) (some (.int (Int32.ofInt v1))), [.int (Int32.ofInt v2), .int (Int32.ofInt v2)], zw X (zu s 45 0 v2))) rfl ?_
  refine gx_if2 (tg := 426) lw_M hZ (t := fun x y => decide (x = y)) true rfl rfl (decide_eq_true rfl) ?_
  rw [if_pos rfl]
  exact gx_r lw_M hZ 1 (B := (428, LL i (some (.int (Int32.ofInt v2))) (some (.int (Int32.ofInt v1))), [.int (Int32.ofInt v2)], zw X (zu s 45 0 v2))) rfl K
-- both throw
theorem law_k1 (hZ : okX X) (hi : 0 ≤ i) (hl : i + 6 ≤ (X.1.2.2.2.2.2.2.1.length : Int)) (hS : X.1.2.2.2.2.2.2.1.length ≤ 3072) (hk : iI k) (hk0 : ¬ k = 0)
    (t : w_130 X (sv X (i + 1).toNat) (sv X (i + 2).toNat) s (fun v' s1 => v' = v ∧ s1 = zu s 45 0 k))
    (K : ∃ C, xi_To X.1 9 0 (743, LL i (some (.int (Int32.ofInt k))) (some (.int (Int32.ofInt v))), [], zw X (zu s 45 0 k)) C ∧ E C) : ∃ C, xi_To X.1 9 0 (395, LL i a b, [.int (Int32.ofInt k)], zw X s) C ∧ E C := by
  refine law_kf hZ hi hl hS t ?_
  refine gi_if1 (tg := 443) lw_M hZ (fun x => decide (¬ x = 0)) (p := ¬ k = 0) rfl rfl (zd_ne hk) (fun _ => ?_) (fun q => absurd hk0 q)
  exact gx_r lw_M hZ 1 (B := (743, LL i (some (.int (Int32.ofInt k))) (some (.int (Int32.ofInt v))), [], zw X (zu s 45 0 k))) rfl K
-- both answer
theorem law_k0 {Y : xi_Y} {e : List xi_E} (hZ : okX (Y, [(Int32.ofInt v).toInt64], e)) (hi : 0 ≤ i) (hl : i + 6 ≤ (Y.2.2.2.2.2.2.1.length : Int)) (hS : Y.2.2.2.2.2.2.1.length ≤ 3072)
    (t : w_130 (Y, [(Int32.ofInt v).toInt64], e) (sv (Y, [(Int32.ofInt v).toInt64], e) (i + 1).toNat) (sv (Y, [(Int32.ofInt v).toInt64], e) (i + 2).toNat) s (fun v' s1 => v' = v ∧ s1 = zu s 45 0 0))
    (K : ∃ C, xi_To Y 9 0 (743, LL i (some (.int (Int32.ofInt 0))) (some (.int (Int32.ofInt v))), [], zw (Y, [(Int32.ofInt v).toInt64], e) (zu s 45 0 0)) C ∧ E C) : ∃ C, xi_To Y 9 0 (395, LL i a b, [.int (Int32.ofInt 0)], zw (Y, [(Int32.ofInt v).toInt64], e) s) C ∧ E C := by
  refine law_kf (X := (Y, [(Int32.ofInt v).toInt64], e)) hZ hi hl hS t ?_
  refine gi_if1 (X := (Y, [(Int32.ofInt v).toInt64], e)) (tg := 443) lw_M hZ (fun x => decide (¬ x = 0)) (p := ¬ (0 : Int) = 0) rfl rfl (zd_ne (by decide)) (fun q => absurd rfl q) (fun _ => ?_)
  refine gx_r (X := (Y, [(Int32.ofInt v).toInt64], e)) lw_M hZ 6 (B := (438, LL i (some (.int (Int32.ofInt 0))) (some (.int (Int32.ofInt v))), [.int (lg_cmp (Int32.ofInt v).toInt64 (Int32.ofInt v).toInt64)], zw (Y, [(Int32.ofInt v).toInt64], e) (zu s 45 0 0))) rfl ?_
  rw [lg_self]
  exact gx_r (X := (Y, [(Int32.ofInt v).toInt64], e)) lw_M hZ 2 (B := (743, LL i (some (.int (Int32.ofInt 0))) (some (.int (Int32.ofInt v))), [], zw (Y, [(Int32.ofInt v).toInt64], e) (zu s 45 0 0))) rfl K
theorem zw_app {x : xi_E} : zw X s ++ [x] = zw (X.1, X.2.1, X.2.2 ++ [x]) s := List.append_assoc _ _ _
theorem law_c6 (hZ : okX X) (hfl : X.1.2.2.2.2.2.2.2.flags = pinnedFlags ++ [noTraceFlag]) (ho : X.2.1.length = 1) (hi : 0 ≤ i) (hl : i + 6 ≤ (X.1.2.2.2.2.2.2.1.length : Int)) (hS : X.1.2.2.2.2.2.2.1.length ≤ 3072) (hR : RR c s)
    (K : ∀ (o : List Int64) (e : List xi_E) (a' b' : Option Value) (s1 : zS), o.length = 1 → (e = X.2.2 ∨ e = X.2.2 ++ [xe_exc 8] ∨ e = X.2.2 ++ [xe_exc 9]) → RR (c + 1) s1 → ∃ C, xi_To X.1 9 0 (743, LL i a' b', [], zw (X.1, o, e) s1) C ∧ E C) : ∃ C, xi_To X.1 9 0 (378, LL i a b, [], zw X s) C ∧ E C := by
  refine gx_r lw_M hZ 1 (B := (379, LL i a b, [.ref 2], zw X s)) rfl ?_
  refine law_ld (pc := 379) (k := 1) hZ hi (by decide) (by omega) hS rfl rfl rfl ?_
  refine law_ld (pc := 385) (k := 2) hZ hi (by decide) (by omega) hS rfl rfl rfl ?_
  refine gx_r lw_M hZ 1 (B := (392, LL i a b, [.ref 84, .int (Int32.ofInt (sv X (i + 2).toNat)), .int (Int32.ofInt (sv X (i + 1).toNat)), .ref 2], zw X s)) rfl ?_
  have i1 : iI (sv X (i + 1).toNat) := sv_i
  have i2 : iI (sv X (i + 2).toNat) := sv_i
  have hf : (s 14 0 = 0 ∨ (s 14 0 = 1 ∧ 0 ≤ s 14 1 ∧ s 14 1 ≤ 400)) := by
    rcases cst_f hR.2.1 with ⟨c1, c2⟩ | ⟨⟨c1, c2⟩, c3, c4, -, -, -, -⟩
    · exact Or.inl c1
    · exact Or.inr ⟨c1, by omega, by omega⟩
  by_cases hs : s 14 0 = 1 ∧ 0 ≤ sv X (i + 1).toNat ∧ sv X (i + 1).toNat < s 14 1
  · have hN : iI (s 14 1) := ⟨by omega, by omega⟩
    have g0 : ¬ Int32.ofInt (s 14 0) = 0 := by rw [hs.1]; decide
    have g1 : ¬ Int32.ofInt (sv X (i + 1).toNat) < 0 := by rw [zi_0, zi_lt i1 (by decide)]; omega
    have g2 : ¬ Int32.ofInt (s 14 1) ≤ Int32.ofInt (sv X (i + 1).toNat) := by rw [zi_le hN i1]; omega
    by_cases h2 : sv X (i + 2).toNat = 0 ∨ sv X (i + 2).toNat = 1
    · obtain ⟨C, tC, v, s', e1, e2, e3⟩ := w17_i (X := X) i1 i2 hs (by omega) h2 hZ 7 (by decide)
      subst e3
      have hC : xi_C X.1 7 17 [.ref 2, .int (Int32.ofInt (sv X (i + 1).toNat)), .int (Int32.ofInt (sv X (i + 2).toNat))] (zw X s') (some (.int (Int32.ofInt v))) (zw X s') :=
        xi_C.of xt_hit (M := xm_17) rfl tC e1 (by intro u hu; simp only [List.mem_cons, List.not_mem_nil, or_false] at hu; rcases hu with rfl | rfl | rfl <;> rfl) (Nat.le_refl 3)
      have hT := xh_To0 (Y := X.1) (d := 7) (w := zw X s') (L := LL i a b) rfl (x := 0) (o := 82) (fa := [.ref 3, .ref 14, .ref 22, .ref 31]) (f := X.2.1) rfl rfl (by omega) hC (r := []) (Nat.zero_le _)
      refine gx_step hT ?_
      have e4 : X.2.1.set 0 (Int32.ofInt v).toInt64 = [(Int32.ofInt v).toInt64] := by
        match h : X.2.1, ho with
        | [y], _ => rfl
      have e5 : (zw X s').set 82 (.inl (2, .inr (X.2.1.set 0 (Int32.ofInt v).toInt64))) = zw (X.1, [(Int32.ofInt v).toInt64], X.2.2) s' := by
        rw [e4]
        rfl
      rw [e5]
      refine law_k0 (Y := X.1) (e := X.2.2) (v := v) hZ hi hl hS ?_ (K [(Int32.ofInt v).toInt64] X.2.2 _ _ _ rfl (Or.inl rfl) (R_0 hR))
      refine inst_m hR i1 i2 (fun q => absurd hs q) (fun _ q => absurd h2 q) (fun _ q => ⟨?_, rfl⟩) (fun _ q => ⟨?_, rfl⟩)
      · rw [e2]; exact (if_pos q).symm
      · rw [e2]; exact (if_neg (by rw [show sv X (i + 2).toNat = 1 from q]; decide)).symm
    · have hw0 : ¬ Int32.ofInt (sv X (i + 2).toNat) = 0 := by rw [zi_0, zi_eq i2 (by decide)]; omega
      have hw1 : ¬ Int32.ofInt (sv X (i + 2).toNat) = 1 := by rw [show (1 : Int32) = Int32.ofInt 1 from rfl, zi_eq i2 (by decide)]; omega
      have hT := xh_ToA (Y := X.1) (d := 9) (by decide) (w := zw X s) (L := LL i a b) rfl (x := 0) (cd := 12) (o := 84) (fa := [.ref 3, .ref 14, .ref 22, .ref 31]) (fs := [.int (Int32.ofInt (s 14 0)), .int (Int32.ofInt (s 14 1)), .int (Int32.ofInt (s 14 2)), .int (Int32.ofInt (s 14 3)), .ref 15, .ref 16, .ref 17, .ref 18, .ref 19, .ref 20, .ref 21]) rfl rfl rfl rfl rfl g0 g1 g2 hw0 hw1 hfl (r := []) (Nat.zero_le _)
      refine gx_step hT ?_
      rw [zw_app]
      refine law_k1 (X := (X.1, X.2.1, X.2.2 ++ [xe_exc 9])) (k := 2) (v := 0) hZ hi hl hS ⟨by decide, by decide⟩ (by decide) ?_ (K X.2.1 (X.2.2 ++ [xe_exc 9]) _ _ _ ho (Or.inr (Or.inr rfl)) (R_0 hR))
      exact inst_m hR i1 i2 (fun q => absurd hs q) (fun _ _ => ⟨rfl, rfl⟩) (fun _ q => absurd (Or.inl q) h2) (fun _ q => absurd (Or.inr q) h2)
  · have hno : Int32.ofInt (s 14 0) = 0 ∨ Int32.ofInt (sv X (i + 1).toNat) < 0 ∨ Int32.ofInt (s 14 1) ≤ Int32.ofInt (sv X (i + 1).toNat) := by
      rcases hf with h | h
      · exact Or.inl (by rw [h]; rfl)
      · have hN : iI (s 14 1) := ⟨by omega, by omega⟩
        rw [zi_0, zi_lt i1 (by decide), zi_le hN i1]
        omega
    have hT := xh_To (Y := X.1) (d := 9) (by decide) (w := zw X s) (L := LL i a b) rfl (x := 0) (cd := 12) (o := 84) (wh := Int32.ofInt (sv X (i + 2).toNat)) (fa := [.ref 3, .ref 14, .ref 22, .ref 31]) (fs := [.int (Int32.ofInt (s 14 0)), .int (Int32.ofInt (s 14 1)), .int (Int32.ofInt (s 14 2)), .int (Int32.ofInt (s 14 3)), .ref 15, .ref 16, .ref 17, .ref 18, .ref 19, .ref 20, .ref 21]) rfl rfl rfl rfl rfl hno hfl (r := []) (Nat.zero_le _)
    refine gx_step hT ?_
    rw [zw_app]
    refine law_k1 (X := (X.1, X.2.1, X.2.2 ++ [xe_exc 8])) (k := 1) (v := 0) hZ hi hl hS ⟨by decide, by decide⟩ (by decide) ?_ (K X.2.1 (X.2.2 ++ [xe_exc 8]) _ _ _ ho (Or.inr (Or.inl rfl)) (R_0 hR))
    exact inst_m hR i1 i2 (fun _ => ⟨rfl, rfl⟩) (fun q => absurd q hs) (fun q => absurd q hs) (fun q => absurd q hs)
end LI
