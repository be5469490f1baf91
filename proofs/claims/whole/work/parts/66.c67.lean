theorem tb_R2 {x : Int} {k : Int} (h : 0 ≤ k ∧ k < 20) : tb (zR x k) 0 = tb x k.toNat := by
  have e : ∀ j : Nat, j < 20 → (Int32.ofInt (j : Int) &&& 31).toBitVec.smod 32 = BitVec.ofNat 32 j := by decide +kernel
  have e := e k.toNat (by omega)
  rw [show ((k.toNat : Nat) : Int) = k by omega] at e
  unfold tb zR
  rw [Int32.ofInt_toInt, Int32.toBitVec_shiftRight, e]
  rw [BitVec.sshiftRight', BitVec.toNat_ofNat, BitVec.getLsbD_sshiftRight]
  rw [Nat.mod_eq_of_lt (by omega)]
  simp
  omega
theorem tb_U2 {x : Int} {k : Int} (h : 0 ≤ k ∧ k < 20) : tb (zU x k) 0 = tb x k.toNat := by
  have e : ∀ j : Nat, j < 20 → ((Int32.ofInt (j : Int)).toUInt32 &&& Int32.toUInt32 31).toBitVec % 32 = BitVec.ofNat 32 j := by decide +kernel
  have e := e k.toNat (by omega)
  rw [show ((k.toNat : Nat) : Int) = k by omega] at e
  unfold tb zU
  rw [Int32.ofInt_toInt]
  show (UInt32.toBitVec (_ >>> _)).getLsbD 0 = _
  rw [UInt32.toBitVec_shiftRight, e]
  rw [BitVec.ushiftRight_eq', BitVec.toNat_ofNat, BitVec.getLsbD_ushiftRight]
  rw [Nat.mod_eq_of_lt (by omega)]
  rfl
theorem bit_RU {x k : Int} (h : 0 ≤ k ∧ k < 20) : zA (zR x k) 1 = zA (zU x k) 1 := by
  refine tb_eq zA_r zA_r (fun i hi => ?_)
  rw [tb_A, tb_A, tb_1 hi]
  by_cases q : i = 0
  · subst q; rw [tb_R2 h, tb_U2 h]
  · rw [decide_eq_false q]; simp
section
variable {G : Int → Nat → Int → Int} {z r s m s' s1 m1 m0 s2 m2 s3 m3 e : zS} {f0 i j F N o v tk p q t T H a b n f x x0 x1 x2 x3 x4 c c' : Int} {U U' : Int → Int → Prop} {φ φ' : Int → Int} {X : zX} {Q : Int → zS → Prop} {D : Prop}
-- heap, force
theorem heap_ok (hR : RR c s) (i1 : iI x1) : w_10 X x1 s (fun v s1 => w_134 X x1 s1 (fun v' s2 => v = v' ∧ RR (c + 1) s2)) := by
  have no : ¬ (3 ≤ x1 ∧ x1 ≤ 600) → w_134 X x1 s (fun v' s2 => 0 = v' ∧ RR (c + 1) s2) := by
    intro w
    refine w_134_i ?_
    rintro _ rfl
    exact p_101 i1 (iI_c (by omega)) (iI_c (by omega)) (fun w' => absurd w' w) (fun _ => ⟨by omega, fun q => by omega, fun _ => ⟨rfl, R_0 hR⟩⟩)
  refine w_10_i ⟨i1, fun q => w_10_12_i (no (by omega)), fun q => ⟨i1, fun q' => ?_, fun q' => w_10_12_i (no (by omega))⟩⟩
  rintro _ rfl
  refine w_134_i ?_
  rintro _ rfl
  refine p_101 i1 (iI_c (by omega)) (iI_c (by omega)) (fun w' => ⟨by omega, fun _ => ?_, fun q => by omega⟩) (fun w' => by omega)
  rintro _ rfl
  refine ⟨rfl, ?_⟩
  obtain ⟨h1, h2, h3, h4⟩ := hR
  have a1 : ∀ k, ¬ (k = 45 ∨ k = 31) → zu (zu (zu s 31 4 x1) 45 0 0) 45 37 x1 k = s k := fun k hk => by rw [zu_f (by omega), zu_f (by omega), zu_f (by omega)]
  have a2 : ∀ j, ¬ (j = 0 ∨ j = 37) → zu (zu (zu s 31 4 x1) 45 0 0) 45 37 x1 45 j = s 45 j := fun j hj => by rw [zu_n (by omega), zu_n (by omega), zu_g (by decide)]
  have a3 : ∀ j, ¬ j = 4 → zu (zu (zu s 31 4 x1) 45 0 0) 45 37 x1 31 j = s 31 j := fun j hj => by rw [zu_g (by decide), zu_g (by decide), zu_n hj]
  have a4 : zu (zu (zu s 31 4 x1) 45 0 0) 45 37 x1 31 4 = x1 := by simp [zu]
  have ck : Cok s → Cok (zu (zu (zu s 31 4 x1) 45 0 0) 45 37 x1) := fun C => cok_c C (fun k hk => a1 k (by omega)) (fun k hk => a1 k (by omega)) ⟨a2 15 (by omega), a2 16 (by omega), a2 26 (by omega)⟩ (by rw [a1 3 (by omega)]; omega) (fun f _ _ => ⟨by rw [a1 6 (by omega)], by rw [a1 7 (by omega)], fun k _ _ => by rw [a1 8 (by omega)]⟩)
  refine ⟨src_c h1 (fun k hk => a1 k (by omega)) (fun k hk => a1 k (by omega)) ⟨a2 3 (by omega), a2 8 (by omega)⟩, cst_c h2 ⟨by rw [a1 14 (by omega)], a2 15 (by omega)⟩ ck, ⟨⟨by rw [a4, zu_s], by rw [zu_s]; omega⟩, by rw [a3 5 (by omega), a2 38 (by omega)]; exact h3.2.1, by rw [a1 36 (by omega)]; exact h3.2.2.1, by rw [a1 37 (by omega), a1 32 (by omega)]; exact h3.2.2.2.1, by rw [a1 32 (by omega)]; have := h3.2.2.2.2; omega⟩, fin_c h4 ⟨a3 8 (by omega), a2 39 (by omega)⟩ ck (fun O => ovr_c O (fun k hk => a1 k (by omega)) (fun j w1 w2 => a3 j (by omega)) (by rw [a1 32 (by omega)]) (fun j w1 w2 => a2 j (by omega)))⟩
theorem force_ok (hR : RR c s) (i1 : iI x1) : w_11 X x1 s (fun v s1 => w_135 X x1 s1 (fun v' s2 => v = v' ∧ RR (c + 1) s2)) := by
  have i1' := i1
  unfold iI at i1'
  refine w_11_i ⟨i1, fun q' => ?_, fun q' => w_135_i ?_⟩
  · rintro _ rfl
    refine w_135_i ?_
    rintro _ rfl
    refine ⟨i1, fun _ => ?_, fun q => absurd q' q⟩
    rintro _ rfl
    refine ⟨rfl, ?_⟩
    obtain ⟨h1, h2, h3, h4⟩ := hR
    have a1 : ∀ k, ¬ (k = 45 ∨ k = 31) → zu (zu (zu s 31 5 x1) 45 0 0) 45 38 x1 k = s k := fun k hk => by rw [zu_f (by omega), zu_f (by omega), zu_f (by omega)]
    have a2 : ∀ j, ¬ (j = 0 ∨ j = 38) → zu (zu (zu s 31 5 x1) 45 0 0) 45 38 x1 45 j = s 45 j := fun j hj => by rw [zu_n (by omega), zu_n (by omega), zu_g (by decide)]
    have a3 : ∀ j, ¬ j = 5 → zu (zu (zu s 31 5 x1) 45 0 0) 45 38 x1 31 j = s 31 j := fun j hj => by rw [zu_g (by decide), zu_g (by decide), zu_n hj]
    have a4 : zu (zu (zu s 31 5 x1) 45 0 0) 45 38 x1 31 5 = x1 := by simp [zu]
    have ck : Cok s → Cok (zu (zu (zu s 31 5 x1) 45 0 0) 45 38 x1) := fun C => cok_c C (fun k hk => a1 k (by omega)) (fun k hk => a1 k (by omega)) ⟨a2 15 (by omega), a2 16 (by omega), a2 26 (by omega)⟩ (by rw [a1 3 (by omega)]; omega) (fun f _ _ => ⟨by rw [a1 6 (by omega)], by rw [a1 7 (by omega)], fun k _ _ => by rw [a1 8 (by omega)]⟩)
    refine ⟨src_c h1 (fun k hk => a1 k (by omega)) (fun k hk => a1 k (by omega)) ⟨a2 3 (by omega), a2 8 (by omega)⟩, cst_c h2 ⟨by rw [a1 14 (by omega)], a2 15 (by omega)⟩ ck, ⟨by rw [a3 4 (by omega), a2 37 (by omega)]; exact h3.1, ⟨by rw [a4, zu_s], by rw [zu_s]; omega⟩, by rw [a1 36 (by omega)]; exact h3.2.2.1, by rw [a1 37 (by omega), a1 32 (by omega)]; exact h3.2.2.2.1, by rw [a1 32 (by omega)]; have := h3.2.2.2.2; omega⟩, fin_c h4 ⟨a3 8 (by omega), a2 39 (by omega)⟩ ck (fun O => ovr_c O (fun k hk => a1 k (by omega)) (fun j w1 w2 => a3 j (by omega)) (by rw [a1 32 (by omega)]) (fun j w1 w2 => a2 j (by omega)))⟩
  · rintro _ rfl
    exact ⟨i1, fun q => absurd q q', fun _ => ⟨rfl, R_0 hR⟩⟩
-- latest, out
theorem latest_ok (hR : RR c s) (i1 : iI x1) : w_13 X x1 s (fun v s1 => w_152 X x1 s1 (fun v' s2 => v = v' ∧ RR (c + 1) s2)) := by
  have R1 : RR (c + 1) (zu s 45 0 0) := R_0 hR
  have e : ∀ j, ¬ j = 0 → zu s 45 0 0 45 j = s 45 j := fun j hj => zu_n hj
  rcases hR.2.2.2 with ⟨f1, f2⟩ | ⟨-, ⟨f1, f1'⟩, f2, f3, f4, f5, f6, f7, -⟩
  · refine w_13_i (w_81_i ?_)
    rw [f1]
    refine ⟨by omega, fun q => absurd rfl q, fun _ => w_152_i ?_⟩
    rintro _ rfl
    rw [e 39 (by omega), f2]
    exact ⟨by omega, fun q => absurd rfl q, fun _ => ⟨rfl, R1⟩⟩
  · have hm : ∀ v : Int, ((x1 < 0 ∨ 6 < x1) → v = -1) → (x1 = 0 → v = s 45 39) → (x1 = 1 → v = s 45 40) → (x1 = 2 → v = s 45 41) → (x1 = 3 → v = 3 * s 45 48) → (x1 = 4 → v = s 45 42) → (x1 = 5 → v = s 45 43) → (x1 = 6 → v = s 45 44) → w_152 X x1 s (fun v' s2 => v = v' ∧ RR (c + 1) s2) := by
      intro v k k0 k1 k2 k3 k4 k5 k6
      refine w_152_i ?_
      rintro _ rfl
      rw [e 39 (by omega), e 40 (by omega), e 41 (by omega), e 42 (by omega), e 43 (by omega), e 44 (by omega), e 48 (by omega)]
      exact ⟨by omega, fun _ => ⟨i1, fun q => ⟨k q, R1⟩, fun q => ⟨k0 q, R1⟩, fun q => ⟨k1 q, R1⟩, fun q => ⟨k2 q, R1⟩, fun q => ⟨k3 q, R1⟩, fun q => ⟨k4 q, R1⟩, fun q => ⟨k5 q, R1⟩, fun q => ⟨k6 q, R1⟩⟩, fun q => by omega⟩
    refine w_13_i (w_81_i ⟨by omega, fun _ => ⟨i1, fun q => ?_, fun q => ?_, fun q => ?_, fun q => ?_, fun q => w_86_i ?_, fun q => ?_, fun q => ?_, fun q => ?_⟩, fun q => by omega⟩) <;> refine hm _ ?_ ?_ ?_ ?_ ?_ ?_ ?_ ?_ <;> intro q' <;> omega
theorem out_ok (hR : RR c s) (i1 : iI x1) : w_14 X x1 s (fun v s1 => w_153 X x1 s1 (fun v' s2 => v = v' ∧ RR (c + 1) s2)) := by
  have R1 : RR (c + 1) (zu s 45 0 0) := R_0 hR
  have e : ∀ j, ¬ j = 0 → zu s 45 0 0 45 j = s 45 j := fun j hj => zu_n hj
  rcases hR.2.2.2 with ⟨f1, f2⟩ | ⟨-, ⟨f1, f1'⟩, f2, f3, f4, f5, f6, f7, -⟩
  · refine w_14_i (w_82_i ?_)
    rw [f1]
    refine ⟨by omega, fun _ => w_82_29_i (w_153_i ?_), fun q => absurd rfl q⟩
    rintro _ rfl
    rw [e 39 (by omega), f2]
    exact ⟨by omega, fun _ => w_153_35_i ⟨rfl, R1⟩, fun q => by omega⟩
  · have no : ¬ (0 ≤ x1 ∧ x1 < s 45 44) → w_153 X x1 s (fun v' s2 => 0 = v' ∧ RR (c + 1) s2) := by
      intro w
      refine w_153_i ?_
      rintro _ rfl
      rw [e 39 (by omega), e 44 (by omega)]
      exact ⟨by omega, fun q => by omega, fun _ => p_101 i1 (iI_c (by omega)) (iI_c (by omega)) (fun w' => by omega) (fun w' => ⟨by omega, fun _ => w_153_35_i ⟨rfl, R1⟩, fun q => by omega⟩)⟩
    refine w_14_i (w_82_i ?_)
    rw [f6.1]
    refine ⟨by omega, fun q => by omega, fun _ => ⟨i1, fun q => w_82_29_i (no (by omega)), fun q => ⟨⟨i1, by omega⟩, fun q => w_82_29_i (no (by omega)), fun q' => ⟨by omega, w_153_i ?_⟩⟩⟩⟩
    rintro _ rfl
    rw [e 39 (by omega), e 44 (by omega)]
    refine ⟨by omega, fun q => by omega, fun _ => p_101 i1 (iI_c (by omega)) (iI_c (by omega)) (fun w' => ⟨by omega, fun q => by omega, fun _ => ⟨by omega, ?_, R1⟩⟩) (fun w' => by omega)⟩
    rw [zu_g (by decide)]
    exact f6.2.2.2 x1 (by omega) (by omega)
end
