section
variable {G : Int → Nat → Int → Int} {z r s m s' s1 m1 m0 s2 m2 s3 m3 e : zS} {f0 i j F N o v tk p q t T H a b n f x1 x2 x3 x4 c c' : Int} {U U' : Int → Int → Prop} {φ φ' : Int → Int} {X : zX} {Q : Int → zS → Prop} {D : Prop}
theorem cn_z {f : Int → Int} (n : Nat) (h : ∀ k : Int, 0 ≤ k → k < n → f k = 0) : cn f n = 0 := by
  induction n with
  | zero => rfl
  | succ k ih => simp only [cn]; rw [h k (by omega) (by omega), ih (fun j a b => h j a (by omega))]; rfl
theorem mr_start {c0 : zS} (S : Src s) (C : CodeOK z s G) (Sz : Src z) (z36 : z 3 6 ≤ s 3 6) (zk : ∀ f, 0 ≤ f → f < z 3 6 → s 6 f = z 6 f ∧ s 7 f = z 7 f ∧ ∀ k, 0 ≤ k → k < 3 → s 8 (f * 3 + k) = z 8 (f * 3 + k)) (Nm : Num c s)
    (hx : 0 ≤ x1 ∧ x1 < 6) (h19 : ¬ s 19 x1 = -1) (on : onlyI s x1) (i2 : iI x2) (i3 : iI x3) (i4 : iI x4) (he : ∀ k, 45 < k → e k = s k) (he' : ∀ j, 0 < j → e 45 j = s 45 j) (cs : CS s c0 x1 x2 x3 x4) (ms : MS e m x1 x2 x3 x4) : MR G (zu s 31 16 (s 6 x1)) x1 c0 m := by
  obtain ⟨c1, ⟨c2, c2'⟩, ⟨c3, c4, c5, c6, c7⟩, ⟨d6, d7, d8, d9, d10, d11, d12, d14, d16⟩, d4, d5⟩ := cs
  obtain ⟨m1, m2, m3, ⟨n39, n40, n41, n42, n43, n44, n47, n48, n56, n57, n58⟩, m74, m81, m82, m82', m82''⟩ := ms
  obtain ⟨u1, u2, u3, u4, u5⟩ := Nm
  obtain ⟨b1, b2, -⟩ := C.2.2.2.2.2.2.1 x1 hx.1 hx.2
  have xz : x1 < z 3 6 := by
    by_cases w : x1 < z 3 6
    · exact w
    · have := (C.2.2.2.2.2.2.1 x1 hx.1 hx.2).2.2 (by omega); omega
  have xf := S.2.2.2.1 x1 hx.1 (by omega)
  obtain ⟨a0, aN, aH, aF, aL⟩ : 0 ≤ s 64 x1 ∧ s 64 x1 < s 45 16 ∧ G (s 64 x1) 0 0 = 0 ∧ G (s 64 x1) 3 0 = x1 ∧ ∀ k, 0 ≤ k → k < 8 → G (s 64 x1) 2 k = lt z x1 k := by
    rcases b2 xz with w | ⟨-, w1, w2, w3, w4⟩
    · omega
    · exact ⟨w1.1, w1.2, w2, w3, w4⟩
  have h36 : c0 36 = s 36 := c1 36 (by omega)
  have r45 : zu s 31 16 (s 6 x1) 45 = s 45 := zu_f (by decide)
  have e6 : c0 31 6 = s 64 x1 := by rw [d6]; exact b1
  refine ⟨fun _ _ => False, fun _ => 0, ⟨fun v t => ⟨fun w => w.elim, ?_⟩, fun v t w => w.elim, fun v w t u k => k.elim, fun p q1 q2 w => ?_, by rw [h36]; exact u3, ⟨by omega, by omega⟩, by omega, ?_, fun p q1 q2 => Or.inl (m74 p q1 q2)⟩, ⟨⟨by omega, by omega, by omega⟩, ?_, ?_, fun g q1 q2 => by omega, ?_⟩, ⟨?_, ?_, ?_, ?_, ?_, ?_, ?_, ?_, ?_, ?_, ?_⟩, d8, n39⟩
  · rintro ⟨⟨j, q1, q2, q3⟩, -⟩; omega
  · have := m74 p q1 q2; omega
  · rw [n48, cn_z 200 (fun k q1 q2 => m74 k q1 (by omega))]
  · rw [e6, r45, n57, he 64 (by omega)]; exact ⟨a0, aN, rfl⟩
  · rw [c3, e6, zu_f (by decide)]
    refine ⟨⟨by rw [aH]; exact c4, by rw [aH]; exact m81, by omega, by omega⟩, fun k q1 q2 => by omega, fun k q1 q2 => ?_⟩
    have g0 := ((C.2.2.2.2.2.2.2.2 (s 64 x1) a0 aN).2 k (by omega) q2).2
    rw [aL k (by omega) (by omega)] at g0 ⊢
    unfold lt at g0 ⊢
    obtain ⟨zk1, zk2, zk3⟩ := zk x1 hx.1 xz
    by_cases w : (k : Int) < z 7 x1
    · rw [if_pos w]
      have z7 := (Sz.2.2.2.1 x1 hx.1 xz).2.2.2.1
      have := on k (by omega) (by omega)
      rw [zk3 k (by omega) (by omega)] at this
      rw [this]
      have hk : k = 0 ∨ k = 1 ∨ k = 2 := by omega
      refine ⟨fun _ => ?_, fun w => by omega⟩
      rcases hk with rfl | rfl | rfl
      · show c0 40 0 = m 82 0 ∧ iI (c0 40 0)
        rw [c5, m82]; exact ⟨rfl, i2⟩
      · show c0 40 1 = m 82 1 ∧ iI (c0 40 1)
        rw [c6, m82']; exact ⟨rfl, i3⟩
      · show c0 40 2 = m 82 2 ∧ iI (c0 40 2)
        rw [c7, m82'']; exact ⟨rfl, i4⟩
    · rw [if_neg w] at g0; omega
  · rw [pl, c3, if_pos rfl, e6]; exact aF
  · intro k hk; rw [zu_f (by omega)]; exact c1 k (by omega)
  · intro k q1 q2; rw [zu_f (by omega), m1 k (by omega)]; exact he k (by omega)
  · rw [zu_n (by omega), zu_n (by omega), zu_s, d4, d5, d16, m2 37 (by omega), m3, n47, he' 37 (by omega), he' 38 (by omega), he 48 (by omega)]
    exact ⟨rfl, rfl, rfl, u1.1.symm, u2.1.symm, xf.1⟩
  · omega
  · omega
  · omega
  · omega
  · omega
  · exact ⟨by omega, by omega, by omega, fun i q1 q2 => by omega⟩
  · rw [c1 37 (by omega), c2' 6 (by omega)]; exact u4
  · rw [zu_g (by decide), c2' 6 (by omega), n40]; omega
-- what a run leaves
theorem run_R (hR : RR c s) (C : CodeOK z s G) (Sz : Src z) (z36 : z 3 6 ≤ s 3 6) (zk : ∀ f, 0 ≤ f → f < z 3 6 → s 6 f = z 6 f ∧ s 7 f = z 7 f ∧ ∀ k, 0 ≤ k → k < 3 → s 8 (f * 3 + k) = z 8 (f * 3 + k)) (hx : 0 ≤ x1 ∧ x1 < z 3 6)
    (ov : OV (zu s 31 16 (s 6 x1)) s' m) (k1 : ∀ k, k < 45 → m k = s' k) (k2 : ∀ j, kj j → m 45 j = s 45 j) : RR (c + 1) m := by
  obtain ⟨S, -, Nm, -⟩ := hR
  obtain ⟨⟨g1, g2, g3, g4, g5, g6, g7, g8, g9, g10, g11⟩, o1, o2, o3, o4, o5⟩ := ov
  have a1 : ∀ k, k ≤ 30 → m k = s k := fun k hk => by rw [k1 k (by omega), g1 k hk, zu_f (by omega)]
  have a2 : ∀ k, 46 ≤ k → k ≤ 72 → m k = s k := fun k q1 q2 => by rw [g2 k q1 q2, zu_f (by omega)]
  have e31 : m 31 = s' 31 := k1 31 (by omega)
  have e32 : m 32 = s' 32 := k1 32 (by omega)
  have e4 : zu s 31 16 (s 6 x1) 31 4 = s 31 4 := zu_n (by omega)
  have e5 : zu s 31 16 (s 6 x1) 31 5 = s 31 5 := zu_n (by omega)
  have e16 : zu s 31 16 (s 6 x1) 31 16 = s 6 x1 := zu_s
  have e326 : zu s 31 16 (s 6 x1) 32 6 = s 32 6 := zu_g (by decide)
  rw [e4, e5, e16] at g3
  rw [e326] at g11
  obtain ⟨u1, u2, u3, u4, u5⟩ := Nm
  have t6 : tI (s 6 x1) := (S.2.2.2.1 x1 hx.1 (by omega)).2.1
  have ck : Cok m := ⟨z, G, code_c C (fun k hk => a1 k (by omega)) (fun k hk => a2 k (by omega) (by omega)) ⟨k2 15 (by unfold kj; omega), k2 16 (by unfold kj; omega), k2 26 (by unfold kj; omega)⟩, Sz, by rw [a1 3 (by omega)]; exact z36, fun f q1 q2 => by rw [a1 6 (by omega), a1 7 (by omega), a1 8 (by omega)]; exact zk f q1 q2⟩
  refine ⟨src_c S (fun k hk => a1 k (by omega)) (fun k hk => a2 k (by omega) (by omega)) ⟨k2 3 (by unfold kj; omega), k2 8 (by unfold kj; omega)⟩, Or.inr ck, ⟨by rw [e31]; omega, by rw [e31]; omega, by rw [k1 36 (by omega)]; exact o4, by rw [k1 37 (by omega), e32]; exact g10, by rw [e32]; omega⟩, Or.inr ⟨ck, ?_⟩⟩
  refine ⟨by rw [e31]; omega, by rw [e31]; omega, by rw [e31]; omega, by rw [e31]; omega, by rw [e31]; exact g8.1, by rw [e31, k1 44 (by omega)]; exact g9, by rw [e32]; exact o3, fun w => ?_⟩
  rw [e31] at w
  obtain ⟨U, φ, hh, rr⟩ := o5 w
  refine ⟨U, φ, ?_, ?_, ?_, ?_⟩
  · unfold hp at hh ⊢
    rw [a1 20 (by omega), a1 21 (by omega), k1 32 (by omega), k1 33 (by omega), k1 34 (by omega), k1 35 (by omega), k1 36 (by omega)]
    rw [zu_f (by decide), zu_f (by decide)] at hh
    exact hh
  · rw [e31, g3.2.2.1]
    rw [e16] at rr
    exact rr
  · rw [e31]; omega
  · rw [e31, g3.2.2.1]; exact t6
theorem run_ok (hX : okX X) (hR : RR c s) (hc : 0 ≤ c ∧ c ≤ 1000) (i1 : iI x1) (i2 : iI x2) (i3 : iI x3) (i4 : iI x4) : w_12 X x1 x2 x3 x4 s (fun v s1 => w_136 X x1 x2 x3 x4 s1 (fun v' s2 => v = v' ∧ RR (c + 1) s2)) := by
  have hR' := hR
  obtain ⟨S, Cs, Nm, Fi⟩ := hR
  unfold iI at i1
  -- both refuse
  have no : (s 45 15 = 0 ∨ s 45 15 = 1) → (s 45 15 = 0 ∨ ¬ (0 ≤ x1 ∧ x1 ≤ 5) ∨ ((0 ≤ x1 ∧ x1 ≤ 5) ∧ s 64 x1 = -1) ∨ ((0 ≤ x1 ∧ x1 ≤ 5) ∧ (0 ≤ s 64 x1 ∧ s 64 x1 ≤ 400) ∧ (0 ≤ s 49 x1 ∧ s 49 x1 ≤ 3) ∧ (∀ k, 0 ≤ k → k < 3 → iI (s 50 (3 * x1 + k))) ∧ ¬ (∀ k, 0 ≤ k → k < s 49 x1 → s 50 (3 * x1 + k) = 0))) → w_136 X x1 x2 x3 x4 s (fun v' s2 => -1 = v' ∧ RR (c + 1) s2) := by
    intro hb w
    refine w_136_i ?_
    rintro _ rfl
    have e15 : zu s 45 0 0 45 15 = s 45 15 := zu_n (by omega)
    have fin : ∀ x, x = 0 → w_136_83 X x1 x2 x3 x4 x (zu s 45 0 0) (fun v' s2 => -1 = v' ∧ RR (c + 1) s2) := by
      rintro _ rfl
      exact w_136_83_i ⟨by omega, fun q => by omega, fun _ => ⟨rfl, R_0 hR'⟩⟩
    have nay : w_136_34 X x1 x2 x3 x4 (zu s 45 0 0) (fun v' s2 => -1 = v' ∧ RR (c + 1) s2) :=
      w_136_34_i (w_136_35_i (w_136_40_i ⟨by omega, fun _ => fin 0 rfl, fun q => by omega⟩))
    rw [e15]
    refine ⟨by omega, fun _ => nay, fun q => w_101_i ⟨by omega, fun _ => w_101_14_i ⟨by omega, fun _ => nay, fun q => by omega⟩, fun q1 => ⟨by omega, fun _ => w_101_14_i ⟨by omega, fun _ => nay, fun q => by omega⟩, fun q2 => ⟨by omega, fun q => by omega, fun _ => ⟨by omega, ?_⟩⟩⟩⟩⟩
    have e64 : zu s 45 0 0 64 x1 = s 64 x1 := zu_g (by decide)
    rw [e64]
    have w' : s 64 x1 = -1 ∨ ((0 ≤ x1 ∧ x1 ≤ 5) ∧ (0 ≤ s 64 x1 ∧ s 64 x1 ≤ 400) ∧ (0 ≤ s 49 x1 ∧ s 49 x1 ≤ 3) ∧ (∀ k, 0 ≤ k → k < 3 → iI (s 50 (3 * x1 + k))) ∧ ¬ (∀ k, 0 ≤ k → k < s 49 x1 → s 50 (3 * x1 + k) = 0)) := by
      rcases w with w | w | w | w
      · exact absurd w q
      · omega
      · exact Or.inl w.2
      · exact Or.inr w
    rcases w' with w' | ⟨v1, v2, v3, v4, v5⟩
    · exact ⟨by omega, fun _ => nay, fun q => by omega⟩
    · refine ⟨by omega, fun q => by omega, fun _ => w_136_35_i (m_only (by omega) ?_ ?_ ?_ ?_)⟩
      · rw [zu_f (by decide)]; exact v3
      · rw [zu_f (by decide)]; exact v4
      · rw [zu_f (by decide), zu_f (by decide)]; exact fun w => absurd w v5
      · exact fun _ => fin 0 rfl
  rcases Cs with ⟨c1, c2⟩ | ck
  · -- nothing is laid
    refine w_12_i (w_42_i ?_)
    rw [c1]
    exact ⟨by omega, fun _ => w_42_26_i ⟨by omega, fun _ => w_12_23_i (no (by omega) (by omega)), fun q => by omega⟩, fun q => by omega⟩
  obtain ⟨z, G, C, Sz, z36, zk⟩ := ck
  have e14 := C.1.1
  have e15 := C.1.2
  have no := no (by omega)
  by_cases hx : 0 ≤ x1 ∧ x1 ≤ 5
  rotate_left
  · refine w_12_i (w_42_i ?_)
    rw [e14]
    have nn : w_42_26 X s (fun v1 s1 => ((-2147483648 ≤ v1 ∧ v1 ≤ 2147483647) ∧ (v1 = (-1) → w_12_23 X s1 (fun v s1 => w_136 X x1 x2 x3 x4 s1 (fun v' s2 => v = v' ∧ RR (c + 1) s2))) ∧ (¬ v1 = (-1) → (w_36 X x1 s1 (fun v2 s2 => ((-2147483648 ≤ v2 ∧ v2 ≤ 2147483647) ∧ (¬ v2 = 0 → (w_68 X x1 x2 x3 x4 s2 (fun v3 s3 => w_136 X x1 x2 x3 x4 s3 (fun v' s2 => v3 = v' ∧ RR (c + 1) s2)))) ∧ (¬ ¬ v2 = 0 → w_12_23 X s2 (fun v s1 => w_136 X x1 x2 x3 x4 s1 (fun v' s2 => v = v' ∧ RR (c + 1) s2))))))))) := w_42_26_i ⟨by omega, fun _ => w_12_23_i (no (Or.inr (Or.inl hx))), fun q => by omega⟩
    exact ⟨by omega, fun q => by omega, fun _ => ⟨by omega, fun _ => nn, fun q => ⟨by omega, fun _ => nn, fun q' => by omega⟩⟩⟩
  obtain ⟨b1, b2, b3⟩ := C.2.2.2.2.2.2.1 x1 hx.1 (by omega)
  have N400 := C.2.1.2
  by_cases h19 : s 64 x1 = -1
  · refine w_12_i (p_42y e14 (by omega) ?_)
    rw [b1, h19]
    exact ⟨by omega, fun _ => w_12_23_i (no (Or.inr (Or.inr (Or.inl ⟨hx, h19⟩)))), fun q => by omega⟩
  have xz : x1 < z 3 6 := by
    by_cases w : x1 < z 3 6
    · exact w
    · have := b3 (by omega); omega
  have a0 : 0 ≤ s 64 x1 ∧ s 64 x1 < s 45 16 := by
    rcases b2 xz with w | ⟨-, w1, w2, w3, w4⟩
    · omega
    · exact w1
  have xf := S.2.2.2.1 x1 hx.1 (by omega)
  have xg : ∀ k, 0 ≤ k → k < 3 → s 50 (3 * x1 + k) = s 8 (x1 * 3 + k) ∧ iI (s 8 (x1 * 3 + k)) := fun k q1 q2 => by
    have := S.2.2.2.2.1 x1 k hx.1 (by omega) q1 q2
    exact ⟨this.1, this.2.1⟩
  have on_iff : onlyI s x1 ↔ (∀ k, 0 ≤ k → k < s 49 x1 → s 50 (3 * x1 + k) = 0) := by
    unfold onlyI
    rw [xf.2.2.1]
    exact ⟨fun w k q1 q2 => by rw [(xg k q1 (by omega)).1]; exact w k q1 q2, fun w k q1 q2 => by rw [← (xg k q1 (by omega)).1]; exact w k q1 q2⟩
  refine w_12_i (p_42y e14 (by omega) ?_)
  rw [b1]
  refine ⟨by omega, fun q => by omega, fun _ => p_36 (by omega) xf.2.2.2.1 (fun k q1 q2 => (xg k q1 q2).2) (fun on => ⟨by omega, fun _ => ?_, fun q => by omega⟩) (fun on => ⟨by omega, fun q => by omega, fun _ => w_12_23_i (no (Or.inr (Or.inr (Or.inr ⟨hx, by omega, by rw [xf.2.2.1]; exact xf.2.2.2.1, fun k q1 q2 => by rw [(xg k q1 q2).1]; exact (xg k q1 q2).2, fun w => on (on_iff.mpr w)⟩))))⟩)⟩
  -- the run
  refine c_start e14 (by omega) (fun c0 cs => ?_)
  have start : ∀ e m, (∀ k, 45 < k → e k = s k) → (∀ j, 0 < j → e 45 j = s 45 j) → MS e m x1 x2 x3 x4 → MR G (zu s 31 16 (s 6 x1)) x1 c0 m := fun e m w1 w2 ms => mr_start S C Sz z36 zk Nm (by omega) (by omega) on i2 i3 i4 w1 w2 cs ms
  obtain ⟨m0, ms0⟩ := ms_ex s x1 x2 x3 x4
  have RHs : RH z (zu s 31 16 (s 6 x1)) x1 G := by
    refine ⟨code_c C (fun k hk => zu_f (by omega)) (fun k hk => zu_f (by omega)) ⟨zu_g (by decide), zu_g (by decide), zu_g (by decide)⟩, ⟨fun f q1 q2 => (Sz.2.2.2.1 f q1 q2).2.2.2.1, fun t ht => (Sz.2.2.1 t ht).2.2, Sz.1.2.1, fun f q1 q2 => by rw [zu_g (by decide)]; exact (zk f q1 q2).2.1, fun f q1 q2 => (Sz.2.2.2.1 f q1 q2).2.1⟩, ?_, ?_, ?_, ?_⟩
    · rw [zu_g (by decide)]; have := Nm.2.2.2.2; omega
    · rw [zu_n (by omega)]; have := Nm.2.1; omega
    · rw [zu_n (by omega)]; have := Nm.1; omega
    · rw [zu_s]; exact (zk x1 hx.1 xz).1
  refine run_loop hX RHs 6000 c0 m0 (start s m0 (fun _ _ => rfl) (fun _ _ => rfl) ms0) (by have := cs.2.2.2.1; omega) _ (fun s' ks ev rok => ?_)
  refine w_136_i ?_
  rintro _ rfl
  have k1 : ∀ k, 45 ≤ k → s' k = s k := fun k hk => by rw [ks k hk]; exact cs.1 k (by omega)
  have y15 : zu s' 45 0 0 45 15 = 1 := by rw [zu_n (by omega), k1 45 (by omega)]; exact e15
  have y64 : zu s' 45 0 0 64 x1 = s 64 x1 := by rw [zu_g (by decide), k1 64 (by omega)]
  have y49 : zu s' 45 0 0 49 = s 49 := by rw [zu_f (by decide), k1 49 (by omega)]
  have y50 : zu s' 45 0 0 50 = s 50 := by rw [zu_f (by decide), k1 50 (by omega)]
  rw [y15]
  refine ⟨by omega, fun q => by omega, fun q => w_101_i ⟨by omega, fun q => by omega, fun _ => ⟨by omega, fun q => by omega, fun _ => ⟨by omega, fun q => by omega, fun _ => ⟨by omega, ?_⟩⟩⟩⟩⟩
  rw [y64]
  refine ⟨by omega, fun q => by omega, fun _ => w_136_35_i (m_only (by omega) (by rw [y49, xf.2.2.1]; exact xf.2.2.2.1) (fun k q1 q2 => by rw [y50, (xg k q1 q2).1]; exact (xg k q1 q2).2) (fun _ => m_start (by omega) (fun m ms => ?_)) (fun w => absurd (on_iff.mp on) (by rw [y49, y50] at w; exact w)))⟩
  have mr := start (zu s' 45 0 0) m (fun k hk => by rw [zu_f (by omega), k1 k (by omega)]) (fun j hj => by rw [zu_n (by omega), k1 45 (by omega)]) ms
  refine rok m mr _ (fun m' ov kf => ⟨ov.2.2.1.symm, ?_⟩)
  refine run_R hR' C Sz z36 zk ⟨hx.1, xz⟩ ov (fun k hk => ?_) (fun j hj => ?_)
  · rw [kf.1 k hk, ms.1 k (by omega), zu_f (by omega)]
  · have := kj_n hj
    rw [kf.2 j hj, ms.2.1 j (by omega), zu_n (by omega), k1 45 (by omega)]
end
