/-! The law: one call of its loop, case by case (by wip/whole/mk71.py). -/
def sv (X : zX) (j : Nat) : Int := (X.1.2.2.2.2.2.2.1.getD j 0).toInt
theorem sv_i {X : zX} {j : Nat} : iI (sv X j) := zi_rng _
theorem lw_M : xi_ml[0]? = some xm_0 := rfl
theorem zA_15 (x : Int) : 0 ≤ zA x 15 ∧ zA x 15 ≤ 15 := by
  unfold zA
  have h1 : (Int32.ofInt x &&& Int32.ofInt 15).toBitVec.toNat ≤ 15 := by
    show ((Int32.ofInt x).toBitVec &&& (Int32.ofInt 15).toBitVec).toNat ≤ 15
    rw [BitVec.toNat_and]
    exact Nat.and_le_right
  have h2 : (Int32.ofInt x &&& Int32.ofInt 15).toInt = ((Int32.ofInt x &&& Int32.ofInt 15).toBitVec.toNat : Int) := BitVec.toInt_eq_toNat_of_lt (by omega)
  omega
section LW
variable {X : zX} {E : xi_S → Prop} {i c : Int} {a b : Option Value} {r : List Value} {w : xi_W} {s : zS}
-- script[i + k]
theorem law_ld {pc : Nat} {k : Int} (hZ : okX X) (hi : 0 ≤ i) (hk : 0 ≤ k) (hl : i + k < (X.1.2.2.2.2.2.2.1.length : Int)) (hS : X.1.2.2.2.2.2.2.1.length ≤ 3072)
    (h : xi_runs X.1.2.2.2.2.2.2.1 0 xm_0 3 (pc, LL i a b, r, w) = some (pc + 4, LL i a b, .int (Int32.ofInt k) :: .int (Int32.ofInt i) :: .ref 1 :: r, w))
    (ha : xi_at xt_it 0 (pc + 4) = some .iadd) (hb : xi_at xt_it 0 (pc + 4 + 1) = some .iaload)
    (K : ∃ C, xi_To X.1 9 0 (pc + 6, LL i a b, .int (Int32.ofInt (sv X (i + k).toNat)) :: r, w) C ∧ E C) : ∃ C, xi_To X.1 9 0 (pc, LL i a b, r, w) C ∧ E C := by
  refine gx_r lw_M hZ 3 h ?_
  refine gi_add (x := i) (y := k) lw_M hZ ha ?_
  have h1 := zi_nat (x := i + k) (by omega)
  refine gx_iald lw_M hZ (f := X.1.2.2.2.2.2.2.1) hb rfl ?_ ?_
  · rw [h1, zi_0, zi_lt (by omega) (by decide)]; omega
  · rw [h1]
    unfold sv at K
    rw [Int32.ofInt_toInt] at K
    exact K
-- the two answers are one
theorem law_eq {pc : Nat} {v : Int} {j : Instr} (hZ : okX X) (hc : xi_at xt_it 0 pc = some j) (hs : xi_stp xs_Z X.1.2.2.2.2.2.2.1 xm_0 j (pc, LL i a b, [.int (Int32.ofInt v), .int (Int32.ofInt v)], w) = some (if decide (Int32.ofInt v = Int32.ofInt v) = true then 743 else pc + 3, LL i a b, [], w))
    (K : ∃ C, xi_To X.1 9 0 (743, LL i a b, [], w) C ∧ E C) : ∃ C, xi_To X.1 9 0 (pc, LL i a b, [.int (Int32.ofInt v), .int (Int32.ofInt v)], w) C ∧ E C := by
  refine gx_if2 lw_M hZ (t := fun x y => decide (x = y)) true hc hs (decide_eq_true rfl) ?_
  rw [if_pos rfl]
  exact K
-- to the next round
theorem law_nx (hZ : okX X) (K : ∃ C, xi_To X.1 9 0 (26, LL (i + 6) a b, [.ref 1, .int (Int32.ofInt (i + 6))], w) C ∧ E C) : ∃ C, xi_To X.1 9 0 (743, LL i a b, [], w) C ∧ E C := by
  refine gi_inc (x := i) (q := 4) (m := 6) lw_M hZ rfl rfl ?_
  show ∃ C, xi_To X.1 9 0 (746, LL (i + 6) a b, [], w) C ∧ E C
  have e : ∀ L : xi_L, xi_go1 (-723) 746 L [] w = some (23, L, [], w) := by
    intro L
    unfold xi_go1
    rw [if_pos (by decide)]
    rfl
  refine gx_s lw_M hZ (i := .goto (-723)) (A := (746, LL (i + 6) a b, [], w)) (B := (23, LL (i + 6) a b, [], w)) rfl (e _) ?_
  exact gx_r lw_M hZ 2 (B := (26, LL (i + 6) a b, [.ref 1, .int (Int32.ofInt (i + 6))], w)) rfl K
-- is there a round?
theorem law_tp (hZ : okX X) (hi : 0 ≤ i ∧ i ≤ 100000) (hS : X.1.2.2.2.2.2.2.1.length ≤ 3072) (k1 : ¬ i + 6 ≤ (X.1.2.2.2.2.2.2.1.length : Int) → E (750, LL i a b, [.int 1], w))
    (k2 : i + 6 ≤ (X.1.2.2.2.2.2.2.1.length : Int) → ∃ C, xi_To X.1 9 0 (33, LL i a b, [], w) C ∧ E C) : ∃ C, xi_To X.1 9 0 (26, LL i a b, [.ref 1, .int (Int32.ofInt i)], w) C ∧ E C := by
  have hn : Int32.ofNat X.1.2.2.2.2.2.2.1.length = Int32.ofInt (X.1.2.2.2.2.2.2.1.length : Int) := (Int32.ofInt_eq_ofNat).symm
  refine gx_s lw_M hZ (A := (26, LL i a b, [.ref 1, .int (Int32.ofInt i)], w)) (B := (27, LL i a b, [.int (Int32.ofNat X.1.2.2.2.2.2.2.1.length), .int (Int32.ofInt i)], w)) rfl rfl ?_
  rw [hn]
  refine gi_bip lw_M hZ (m := 6) rfl rfl ?_
  refine gi_sub lw_M hZ rfl ?_
  refine gi_if2 (tg := 749) lw_M hZ (fun x y => decide (y < x)) (p := (X.1.2.2.2.2.2.2.1.length : Int) - 6 < i) rfl rfl (zc_gt (by omega) (by omega)) ?_ ?_
  · intro q
    exact gx_r lw_M hZ 1 (B := (750, LL i a b, [.int 1], w)) rfl ⟨_, xi_To.rf _ _ _ _, k1 (by omega)⟩
  · intro q
    exact k2 (by omega)

theorem law_c0 (hZ : okX X) (hi : 0 ≤ i) (hl : i + 6 ≤ (X.1.2.2.2.2.2.2.1.length : Int)) (hS : X.1.2.2.2.2.2.2.1.length ≤ 3072) (hR : RR c s) (hc : 0 ≤ c ∧ c ≤ 1000) (K : ∀ s1, RR (c + 1) s1 → ∃ C, xi_To X.1 9 0 (743, LL i a b, [], zw X s1) C ∧ E C) : ∃ C, xi_To X.1 9 0 (120, LL i a b, [], zw X s) C ∧ E C := by
  refine gx_r lw_M hZ 1 (B := (121, LL i a b, [.ref 2], zw X s)) rfl ?_
  refine law_ld (pc := 121) (k := 1) hZ hi (by decide) (by omega) hS rfl rfl rfl ?_
  refine law_ld (pc := 127) (k := 2) hZ hi (by decide) (by omega) hS rfl rfl rfl ?_
  refine law_ld (pc := 133) (k := 3) hZ hi (by decide) (by omega) hS rfl rfl rfl ?_
  refine gi_call (pc := 139) lw_M (s := s) (hj := 2) hZ rfl rfl (by decide) (type_ok hR sv_i sv_i sv_i) ?_
  intro v s1 h
  refine gx_r lw_M hZ 1 (B := (143, LL i a b, [.ref 45, .int (Int32.ofInt v)], zw X s1)) rfl ?_
  refine law_ld (pc := 143) (k := 1) hZ hi (by decide) (by omega) hS rfl rfl rfl ?_
  refine law_ld (pc := 149) (k := 2) hZ hi (by decide) (by omega) hS rfl rfl rfl ?_
  refine law_ld (pc := 155) (k := 3) hZ hi (by decide) (by omega) hS rfl rfl rfl ?_
  refine gi_call (pc := 161) lw_M (s := s1) (hj := 1) hZ rfl rfl (by decide) h ?_
  intro v' s2 h2
  obtain ⟨rfl, hR2⟩ := h2
  exact law_eq (pc := 164) hZ rfl rfl (K s2 hR2)
theorem law_c1 (hZ : okX X) (hi : 0 ≤ i) (hl : i + 6 ≤ (X.1.2.2.2.2.2.2.1.length : Int)) (hS : X.1.2.2.2.2.2.2.1.length ≤ 3072) (hR : RR c s) (hc : 0 ≤ c ∧ c ≤ 1000) (K : ∀ s1, RR (c + 1) s1 → ∃ C, xi_To X.1 9 0 (743, LL i a b, [], zw X s1) C ∧ E C) : ∃ C, xi_To X.1 9 0 (169, LL i a b, [], zw X s) C ∧ E C := by
  refine gx_r lw_M hZ 1 (B := (170, LL i a b, [.ref 2], zw X s)) rfl ?_
  refine law_ld (pc := 170) (k := 1) hZ hi (by decide) (by omega) hS rfl rfl rfl ?_
  refine law_ld (pc := 176) (k := 2) hZ hi (by decide) (by omega) hS rfl rfl rfl ?_
  refine law_ld (pc := 182) (k := 3) hZ hi (by decide) (by omega) hS rfl rfl rfl ?_
  refine law_ld (pc := 188) (k := 4) hZ hi (by decide) (by omega) hS rfl rfl rfl ?_
  refine law_ld (pc := 194) (k := 5) hZ hi (by decide) (by omega) hS rfl rfl rfl ?_
  refine gi_call (pc := 200) lw_M (s := s) (hj := 2) hZ rfl rfl (by decide) (function_ok hR sv_i sv_i sv_i sv_i sv_i) ?_
  intro v s1 h
  refine gx_r lw_M hZ 1 (B := (204, LL i a b, [.ref 45, .int (Int32.ofInt v)], zw X s1)) rfl ?_
  refine law_ld (pc := 204) (k := 1) hZ hi (by decide) (by omega) hS rfl rfl rfl ?_
  refine law_ld (pc := 210) (k := 2) hZ hi (by decide) (by omega) hS rfl rfl rfl ?_
  refine law_ld (pc := 216) (k := 3) hZ hi (by decide) (by omega) hS rfl rfl rfl ?_
  refine law_ld (pc := 222) (k := 4) hZ hi (by decide) (by omega) hS rfl rfl rfl ?_
  refine law_ld (pc := 228) (k := 5) hZ hi (by decide) (by omega) hS rfl rfl rfl ?_
  refine gi_call (pc := 234) lw_M (s := s1) (hj := 1) hZ rfl rfl (by decide) h ?_
  intro v' s2 h2
  obtain ⟨rfl, hR2⟩ := h2
  exact law_eq (pc := 237) hZ rfl rfl (K s2 hR2)
theorem law_c2 (hZ : okX X) (hi : 0 ≤ i) (hl : i + 6 ≤ (X.1.2.2.2.2.2.2.1.length : Int)) (hS : X.1.2.2.2.2.2.2.1.length ≤ 3072) (hR : RR c s) (hc : 0 ≤ c ∧ c ≤ 1000) (K : ∀ s1, RR (c + 1) s1 → ∃ C, xi_To X.1 9 0 (743, LL i a b, [], zw X s1) C ∧ E C) : ∃ C, xi_To X.1 9 0 (242, LL i a b, [], zw X s) C ∧ E C := by
  refine gx_r lw_M hZ 1 (B := (243, LL i a b, [.ref 2], zw X s)) rfl ?_
  refine law_ld (pc := 243) (k := 1) hZ hi (by decide) (by omega) hS rfl rfl rfl ?_
  refine law_ld (pc := 249) (k := 2) hZ hi (by decide) (by omega) hS rfl rfl rfl ?_
  refine law_ld (pc := 255) (k := 3) hZ hi (by decide) (by omega) hS rfl rfl rfl ?_
  refine law_ld (pc := 261) (k := 4) hZ hi (by decide) (by omega) hS rfl rfl rfl ?_
  refine gi_call (pc := 267) lw_M (s := s) (hj := 4) hZ rfl rfl (by decide) (node_ok hR sv_i sv_i sv_i sv_i) ?_
  intro v s1 h
  refine gx_r lw_M hZ 1 (B := (271, LL i a b, [.ref 45, .int (Int32.ofInt v)], zw X s1)) rfl ?_
  refine law_ld (pc := 271) (k := 1) hZ hi (by decide) (by omega) hS rfl rfl rfl ?_
  refine law_ld (pc := 277) (k := 2) hZ hi (by decide) (by omega) hS rfl rfl rfl ?_
  refine law_ld (pc := 283) (k := 3) hZ hi (by decide) (by omega) hS rfl rfl rfl ?_
  refine law_ld (pc := 289) (k := 4) hZ hi (by decide) (by omega) hS rfl rfl rfl ?_
  refine gi_call (pc := 295) lw_M (s := s1) (hj := 3) hZ rfl rfl (by decide) h ?_
  intro v' s2 h2
  obtain ⟨rfl, hR2⟩ := h2
  exact law_eq (pc := 298) hZ rfl rfl (K s2 hR2)
theorem law_c3 (hZ : okX X) (hi : 0 ≤ i) (hl : i + 6 ≤ (X.1.2.2.2.2.2.2.1.length : Int)) (hS : X.1.2.2.2.2.2.2.1.length ≤ 3072) (hR : RR c s) (hc : 0 ≤ c ∧ c ≤ 1000) (K : ∀ s1, RR (c + 1) s1 → ∃ C, xi_To X.1 9 0 (743, LL i a b, [], zw X s1) C ∧ E C) : ∃ C, xi_To X.1 9 0 (303, LL i a b, [], zw X s) C ∧ E C := by
  refine gx_r lw_M hZ 1 (B := (304, LL i a b, [.ref 2], zw X s)) rfl ?_
  refine law_ld (pc := 304) (k := 1) hZ hi (by decide) (by omega) hS rfl rfl rfl ?_
  refine law_ld (pc := 310) (k := 2) hZ hi (by decide) (by omega) hS rfl rfl rfl ?_
  refine gi_call (pc := 316) lw_M (s := s) (hj := 3) hZ rfl rfl (by decide) (body_ok hR sv_i sv_i) ?_
  intro v s1 h
  refine gx_r lw_M hZ 1 (B := (320, LL i a b, [.ref 45, .int (Int32.ofInt v)], zw X s1)) rfl ?_
  refine law_ld (pc := 320) (k := 1) hZ hi (by decide) (by omega) hS rfl rfl rfl ?_
  refine law_ld (pc := 326) (k := 2) hZ hi (by decide) (by omega) hS rfl rfl rfl ?_
  refine gi_call (pc := 332) lw_M (s := s1) (hj := 2) hZ rfl rfl (by decide) h ?_
  intro v' s2 h2
  obtain ⟨rfl, hR2⟩ := h2
  exact law_eq (pc := 335) hZ rfl rfl (K s2 hR2)
theorem law_c4 (hZ : okX X) (hi : 0 ≤ i) (hl : i + 6 ≤ (X.1.2.2.2.2.2.2.1.length : Int)) (hS : X.1.2.2.2.2.2.2.1.length ≤ 3072) (hR : RR c s) (hc : 0 ≤ c ∧ c ≤ 1000) (K : ∀ s1, RR (c + 1) s1 → ∃ C, xi_To X.1 9 0 (743, LL i a b, [], zw X s1) C ∧ E C) : ∃ C, xi_To X.1 9 0 (340, LL i a b, [], zw X s) C ∧ E C := by
  refine gx_r lw_M hZ 1 (B := (341, LL i a b, [.ref 2], zw X s)) rfl ?_
  refine gi_call (pc := 341) lw_M (s := s) (hj := 6) hZ rfl rfl (by decide) (lay_R hZ hR) ?_
  intro v s1 h
  refine gx_r lw_M hZ 1 (B := (345, LL i a b, [.ref 45, .int (Int32.ofInt v)], zw X s1)) rfl ?_
  refine gi_call (pc := 345) lw_M (s := s1) (hj := 5) hZ rfl rfl (by decide) h ?_
  intro v' s2 h2
  obtain ⟨rfl, hR2⟩ := h2
  exact law_eq (pc := 348) hZ rfl rfl (K s2 hR2)
theorem law_c5 (hZ : okX X) (hi : 0 ≤ i) (hl : i + 6 ≤ (X.1.2.2.2.2.2.2.1.length : Int)) (hS : X.1.2.2.2.2.2.2.1.length ≤ 3072) (hR : RR c s) (hc : 0 ≤ c ∧ c ≤ 1000) (K : ∀ s1, RR (c + 1) s1 → ∃ C, xi_To X.1 9 0 (743, LL i a b, [], zw X s1) C ∧ E C) : ∃ C, xi_To X.1 9 0 (353, LL i a b, [], zw X s) C ∧ E C := by
  refine gx_r lw_M hZ 1 (B := (354, LL i a b, [.ref 2], zw X s)) rfl ?_
  refine law_ld (pc := 354) (k := 1) hZ hi (by decide) (by omega) hS rfl rfl rfl ?_
  refine gi_call (pc := 360) lw_M (s := s) (hj := 0) hZ rfl rfl (by decide) (laid_ok hR sv_i) ?_
  intro v s1 h
  refine gx_r lw_M hZ 1 (B := (364, LL i a b, [.ref 45, .int (Int32.ofInt v)], zw X s1)) rfl ?_
  refine law_ld (pc := 364) (k := 1) hZ hi (by decide) (by omega) hS rfl rfl rfl ?_
  refine gi_call (pc := 370) lw_M (s := s1) (hj := 1) hZ rfl rfl (by decide) h ?_
  intro v' s2 h2
  obtain ⟨rfl, hR2⟩ := h2
  exact law_eq (pc := 373) hZ rfl rfl (K s2 hR2)
theorem law_c7 (hZ : okX X) (hi : 0 ≤ i) (hl : i + 6 ≤ (X.1.2.2.2.2.2.2.1.length : Int)) (hS : X.1.2.2.2.2.2.2.1.length ≤ 3072) (hR : RR c s) (hc : 0 ≤ c ∧ c ≤ 1000) (K : ∀ s1, RR (c + 1) s1 → ∃ C, xi_To X.1 9 0 (743, LL i a b, [], zw X s1) C ∧ E C) : ∃ C, xi_To X.1 9 0 (446, LL i a b, [], zw X s) C ∧ E C := by
  refine gx_r lw_M hZ 1 (B := (447, LL i a b, [.ref 2], zw X s)) rfl ?_
  refine law_ld (pc := 447) (k := 1) hZ hi (by decide) (by omega) hS rfl rfl rfl ?_
  refine gi_call (pc := 453) lw_M (s := s) (hj := 1) hZ rfl rfl (by decide) (entry_ok hR sv_i) ?_
  intro v s1 h
  refine gx_r lw_M hZ 1 (B := (457, LL i a b, [.ref 45, .int (Int32.ofInt v)], zw X s1)) rfl ?_
  refine law_ld (pc := 457) (k := 1) hZ hi (by decide) (by omega) hS rfl rfl rfl ?_
  refine gi_call (pc := 463) lw_M (s := s1) (hj := 1) hZ rfl rfl (by decide) h ?_
  intro v' s2 h2
  obtain ⟨rfl, hR2⟩ := h2
  exact law_eq (pc := 466) hZ rfl rfl (K s2 hR2)
theorem law_c8 (hZ : okX X) (hi : 0 ≤ i) (hl : i + 6 ≤ (X.1.2.2.2.2.2.2.1.length : Int)) (hS : X.1.2.2.2.2.2.2.1.length ≤ 3072) (hR : RR c s) (hc : 0 ≤ c ∧ c ≤ 1000) (K : ∀ s1, RR (c + 1) s1 → ∃ C, xi_To X.1 9 0 (743, LL i a b, [], zw X s1) C ∧ E C) : ∃ C, xi_To X.1 9 0 (471, LL i a b, [], zw X s) C ∧ E C := by
  refine gx_r lw_M hZ 1 (B := (472, LL i a b, [.ref 2], zw X s)) rfl ?_
  refine law_ld (pc := 472) (k := 1) hZ hi (by decide) (by omega) hS rfl rfl rfl ?_
  refine law_ld (pc := 478) (k := 2) hZ hi (by decide) (by omega) hS rfl rfl rfl ?_
  refine gi_call (pc := 484) lw_M (s := s) (hj := 1) hZ rfl rfl (by decide) (map_ok hR sv_i sv_i) ?_
  intro v s1 h
  refine gx_r lw_M hZ 1 (B := (488, LL i a b, [.ref 45, .int (Int32.ofInt v)], zw X s1)) rfl ?_
  refine law_ld (pc := 488) (k := 1) hZ hi (by decide) (by omega) hS rfl rfl rfl ?_
  refine law_ld (pc := 494) (k := 2) hZ hi (by decide) (by omega) hS rfl rfl rfl ?_
  refine gi_call (pc := 500) lw_M (s := s1) (hj := 2) hZ rfl rfl (by decide) h ?_
  intro v' s2 h2
  obtain ⟨rfl, hR2⟩ := h2
  exact law_eq (pc := 503) hZ rfl rfl (K s2 hR2)
theorem law_c9 (hZ : okX X) (hi : 0 ≤ i) (hl : i + 6 ≤ (X.1.2.2.2.2.2.2.1.length : Int)) (hS : X.1.2.2.2.2.2.2.1.length ≤ 3072) (hR : RR c s) (hc : 0 ≤ c ∧ c ≤ 1000) (K : ∀ s1, RR (c + 1) s1 → ∃ C, xi_To X.1 9 0 (743, LL i a b, [], zw X s1) C ∧ E C) : ∃ C, xi_To X.1 9 0 (508, LL i a b, [], zw X s) C ∧ E C := by
  refine gx_r lw_M hZ 1 (B := (509, LL i a b, [.ref 2], zw X s)) rfl ?_
  refine law_ld (pc := 509) (k := 1) hZ hi (by decide) (by omega) hS rfl rfl rfl ?_
  refine gi_call (pc := 515) lw_M (s := s) (hj := 0) hZ rfl rfl (by decide) (heap_ok hR sv_i) ?_
  intro v s1 h
  refine gx_r lw_M hZ 1 (B := (519, LL i a b, [.ref 45, .int (Int32.ofInt v)], zw X s1)) rfl ?_
  refine law_ld (pc := 519) (k := 1) hZ hi (by decide) (by omega) hS rfl rfl rfl ?_
  refine gi_call (pc := 525) lw_M (s := s1) (hj := 1) hZ rfl rfl (by decide) h ?_
  intro v' s2 h2
  obtain ⟨rfl, hR2⟩ := h2
  exact law_eq (pc := 528) hZ rfl rfl (K s2 hR2)
theorem law_c10 (hZ : okX X) (hi : 0 ≤ i) (hl : i + 6 ≤ (X.1.2.2.2.2.2.2.1.length : Int)) (hS : X.1.2.2.2.2.2.2.1.length ≤ 3072) (hR : RR c s) (hc : 0 ≤ c ∧ c ≤ 1000) (K : ∀ s1, RR (c + 1) s1 → ∃ C, xi_To X.1 9 0 (743, LL i a b, [], zw X s1) C ∧ E C) : ∃ C, xi_To X.1 9 0 (533, LL i a b, [], zw X s) C ∧ E C := by
  refine gx_r lw_M hZ 1 (B := (534, LL i a b, [.ref 2], zw X s)) rfl ?_
  refine law_ld (pc := 534) (k := 1) hZ hi (by decide) (by omega) hS rfl rfl rfl ?_
  refine gi_call (pc := 540) lw_M (s := s) (hj := 0) hZ rfl rfl (by decide) (force_ok hR sv_i) ?_
  intro v s1 h
  refine gx_r lw_M hZ 1 (B := (544, LL i a b, [.ref 45, .int (Int32.ofInt v)], zw X s1)) rfl ?_
  refine law_ld (pc := 544) (k := 1) hZ hi (by decide) (by omega) hS rfl rfl rfl ?_
  refine gi_call (pc := 550) lw_M (s := s1) (hj := 0) hZ rfl rfl (by decide) h ?_
  intro v' s2 h2
  obtain ⟨rfl, hR2⟩ := h2
  exact law_eq (pc := 553) hZ rfl rfl (K s2 hR2)
theorem law_c11 (hZ : okX X) (hi : 0 ≤ i) (hl : i + 6 ≤ (X.1.2.2.2.2.2.2.1.length : Int)) (hS : X.1.2.2.2.2.2.2.1.length ≤ 3072) (hR : RR c s) (hc : 0 ≤ c ∧ c ≤ 1000) (K : ∀ s1, RR (c + 1) s1 → ∃ C, xi_To X.1 9 0 (743, LL i a b, [], zw X s1) C ∧ E C) : ∃ C, xi_To X.1 9 0 (558, LL i a b, [], zw X s) C ∧ E C := by
  refine gx_r lw_M hZ 1 (B := (559, LL i a b, [.ref 2], zw X s)) rfl ?_
  refine law_ld (pc := 559) (k := 1) hZ hi (by decide) (by omega) hS rfl rfl rfl ?_
  refine law_ld (pc := 565) (k := 2) hZ hi (by decide) (by omega) hS rfl rfl rfl ?_
  refine law_ld (pc := 571) (k := 3) hZ hi (by decide) (by omega) hS rfl rfl rfl ?_
  refine law_ld (pc := 577) (k := 4) hZ hi (by decide) (by omega) hS rfl rfl rfl ?_
  refine gi_call (pc := 583) lw_M (s := s) (hj := 6) hZ rfl rfl (by decide) (run_ok hZ hR hc sv_i sv_i sv_i sv_i) ?_
  intro v s1 h
  refine gx_r lw_M hZ 1 (B := (587, LL i a b, [.ref 45, .int (Int32.ofInt v)], zw X s1)) rfl ?_
  refine law_ld (pc := 587) (k := 1) hZ hi (by decide) (by omega) hS rfl rfl rfl ?_
  refine law_ld (pc := 593) (k := 2) hZ hi (by decide) (by omega) hS rfl rfl rfl ?_
  refine law_ld (pc := 599) (k := 3) hZ hi (by decide) (by omega) hS rfl rfl rfl ?_
  refine law_ld (pc := 605) (k := 4) hZ hi (by decide) (by omega) hS rfl rfl rfl ?_
  refine gi_call (pc := 611) lw_M (s := s1) (hj := 6) hZ rfl rfl (by decide) h ?_
  intro v' s2 h2
  obtain ⟨rfl, hR2⟩ := h2
  exact law_eq (pc := 614) hZ rfl rfl (K s2 hR2)
theorem law_c12 (hZ : okX X) (hi : 0 ≤ i) (hl : i + 6 ≤ (X.1.2.2.2.2.2.2.1.length : Int)) (hS : X.1.2.2.2.2.2.2.1.length ≤ 3072) (hR : RR c s) (hc : 0 ≤ c ∧ c ≤ 1000) (K : ∀ s1, RR (c + 1) s1 → ∃ C, xi_To X.1 9 0 (743, LL i a b, [], zw X s1) C ∧ E C) : ∃ C, xi_To X.1 9 0 (619, LL i a b, [], zw X s) C ∧ E C := by
  refine gx_r lw_M hZ 1 (B := (620, LL i a b, [.ref 2], zw X s)) rfl ?_
  refine law_ld (pc := 620) (k := 1) hZ hi (by decide) (by omega) hS rfl rfl rfl ?_
  refine gi_call (pc := 626) lw_M (s := s) (hj := 2) hZ rfl rfl (by decide) (latest_ok hR sv_i) ?_
  intro v s1 h
  refine gx_r lw_M hZ 1 (B := (630, LL i a b, [.ref 45, .int (Int32.ofInt v)], zw X s1)) rfl ?_
  refine law_ld (pc := 630) (k := 1) hZ hi (by decide) (by omega) hS rfl rfl rfl ?_
  refine gi_call (pc := 636) lw_M (s := s1) (hj := 0) hZ rfl rfl (by decide) h ?_
  intro v' s2 h2
  obtain ⟨rfl, hR2⟩ := h2
  exact law_eq (pc := 639) hZ rfl rfl (K s2 hR2)
theorem law_c13 (hZ : okX X) (hi : 0 ≤ i) (hl : i + 6 ≤ (X.1.2.2.2.2.2.2.1.length : Int)) (hS : X.1.2.2.2.2.2.2.1.length ≤ 3072) (hR : RR c s) (hc : 0 ≤ c ∧ c ≤ 1000) (K : ∀ s1, RR (c + 1) s1 → ∃ C, xi_To X.1 9 0 (743, LL i a b, [], zw X s1) C ∧ E C) : ∃ C, xi_To X.1 9 0 (644, LL i a b, [], zw X s) C ∧ E C := by
  refine gx_r lw_M hZ 1 (B := (645, LL i a b, [.ref 2], zw X s)) rfl ?_
  refine law_ld (pc := 645) (k := 1) hZ hi (by decide) (by omega) hS rfl rfl rfl ?_
  refine gi_call (pc := 651) lw_M (s := s) (hj := 1) hZ rfl rfl (by decide) (out_ok hR sv_i) ?_
  intro v s1 h
  refine gx_r lw_M hZ 1 (B := (655, LL i a b, [.ref 45, .int (Int32.ofInt v)], zw X s1)) rfl ?_
  refine law_ld (pc := 655) (k := 1) hZ hi (by decide) (by omega) hS rfl rfl rfl ?_
  refine gi_call (pc := 661) lw_M (s := s1) (hj := 1) hZ rfl rfl (by decide) h ?_
  intro v' s2 h2
  obtain ⟨rfl, hR2⟩ := h2
  exact law_eq (pc := 664) hZ rfl rfl (K s2 hR2)
theorem law_c14 (hZ : okX X) (hi : 0 ≤ i) (hl : i + 6 ≤ (X.1.2.2.2.2.2.2.1.length : Int)) (hS : X.1.2.2.2.2.2.2.1.length ≤ 3072) (hR : RR c s) (hc : 0 ≤ c ∧ c ≤ 1000) (K : ∀ s1, RR (c + 1) s1 → ∃ C, xi_To X.1 9 0 (743, LL i a b, [], zw X s1) C ∧ E C) : ∃ C, xi_To X.1 9 0 (669, LL i a b, [], zw X s) C ∧ E C := by
  refine gx_r lw_M hZ 1 (B := (670, LL i a b, [.ref 2], zw X s)) rfl ?_
  refine law_ld (pc := 670) (k := 1) hZ hi (by decide) (by omega) hS rfl rfl rfl ?_
  refine law_ld (pc := 676) (k := 2) hZ hi (by decide) (by omega) hS rfl rfl rfl ?_
  refine gi_call (pc := 682) lw_M (s := s) (hj := 1) hZ rfl rfl (by decide) (tell_ok hR sv_i sv_i) ?_
  intro v s1 h
  refine gx_r lw_M hZ 1 (B := (686, LL i a b, [.ref 45, .int (Int32.ofInt v)], zw X s1)) rfl ?_
  refine law_ld (pc := 686) (k := 1) hZ hi (by decide) (by omega) hS rfl rfl rfl ?_
  refine law_ld (pc := 692) (k := 2) hZ hi (by decide) (by omega) hS rfl rfl rfl ?_
  refine gi_call (pc := 698) lw_M (s := s1) (hj := 2) hZ rfl rfl (by decide) h ?_
  intro v' s2 h2
  obtain ⟨rfl, hR2⟩ := h2
  exact law_eq (pc := 701) hZ rfl rfl (K s2 hR2)
theorem law_c15 (hZ : okX X) (hi : 0 ≤ i) (hl : i + 6 ≤ (X.1.2.2.2.2.2.2.1.length : Int)) (hS : X.1.2.2.2.2.2.2.1.length ≤ 3072) (hR : RR c s) (hc : 0 ≤ c ∧ c ≤ 1000) (K : ∀ s1, RR (c + 1) s1 → ∃ C, xi_To X.1 9 0 (743, LL i a b, [], zw X s1) C ∧ E C) : ∃ C, xi_To X.1 9 0 (706, LL i a b, [], zw X s) C ∧ E C := by
  refine gx_r lw_M hZ 1 (B := (707, LL i a b, [.ref 2], zw X s)) rfl ?_
  refine law_ld (pc := 707) (k := 1) hZ hi (by decide) (by omega) hS rfl rfl rfl ?_
  refine law_ld (pc := 713) (k := 2) hZ hi (by decide) (by omega) hS rfl rfl rfl ?_
  refine gi_call (pc := 719) lw_M (s := s) (hj := 1) hZ rfl rfl (by decide) (value_ok hR sv_i sv_i) ?_
  intro v s1 h
  refine gx_r lw_M hZ 1 (B := (723, LL i a b, [.ref 45, .int (Int32.ofInt v)], zw X s1)) rfl ?_
  refine law_ld (pc := 723) (k := 1) hZ hi (by decide) (by omega) hS rfl rfl rfl ?_
  refine law_ld (pc := 729) (k := 2) hZ hi (by decide) (by omega) hS rfl rfl rfl ?_
  refine gi_call (pc := 735) lw_M (s := s1) (hj := 2) hZ rfl rfl (by decide) h ?_
  intro v' s2 h2
  obtain ⟨rfl, hR2⟩ := h2
  exact law_eq (pc := 738) hZ rfl rfl (K s2 hR2)
end LW
