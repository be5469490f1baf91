-- what stays through a run
def RH (z r : zS) (f0 : Int) (G : Int → Nat → Int → Int) : Prop :=
  CodeOK z r G ∧ ((∀ f, 0 ≤ f → f < z 3 6 → 0 ≤ z 7 f ∧ z 7 f ≤ 3) ∧ (∀ t, tI t → tI (z 4 t) ∧ tI (z 5 t)) ∧ z 3 6 ≤ 6 ∧ (∀ f, 0 ≤ f → f < z 3 6 → r 7 f = z 7 f) ∧ (∀ f, 0 ≤ f → f < z 3 6 → tI (z 6 f))) ∧
  r 32 6 ≤ 900000000 ∧ (0 ≤ r 31 5 ∧ r 31 5 ≤ 2147483647) ∧ (3 ≤ r 31 4 ∧ r 31 4 ≤ 600) ∧ r 31 16 = z 6 f0
section
variable {G : Int → Nat → Int → Int} {z r s m s1 m1 m0 s2 m2 s3 m3 : zS} {f0 i j F N o v tk p q t T H a b e n f x1 a1 a2 b1 b2 w : Int} {U U' : Int → Int → Prop} {φ φ' : Int → Int} {X : zX} {Q : Int → zS → Prop} {D : Prop}
theorem s_step (R : RH z r f0 G) (hm : MR G r f0 s m0) (hT : s 31 9 < 6000)
    (g : ∀ s1, ((∀ k, 45 ≤ k → s1 k = s k) ∧ s1 31 9 = s 31 9 + 1) → StepOK X G r f0 s s1 → Q 0 s1) : w_69 X (zu s 31 9 (s 31 9 + 1)) Q := by
  obtain ⟨C, ⟨h7, hz, h36, hr7, hzr⟩, h32, h5, ha, h16⟩ := R
  have x10 : 0 ≤ r 58 (s 31 6) ∧ r 58 (s 31 6) ≤ 18 := by
    obtain ⟨U0, φ0, hh0, hf0, hg0, o8, o39⟩ := hm
    obtain ⟨-, -, -, -, -, -, -, -, -, x10⟩ := ctx C hf0 hg0 rfl rfl
    exact x10
  by_cases c0 : r 58 (s 31 6) ≤ 2
  · exact s_push C hm hT (by omega) g
  by_cases c1 : r 58 (s 31 6) ≤ 5
  · exact s_sum C hm hT (by omega) g
  by_cases c2 : r 58 (s 31 6) = 6
  · exact s_new C h7 hz h32 h5 ha hm hT c2 g
  by_cases c3 : r 58 (s 31 6) ≤ 8
  · exact s_get C hm hT (by omega) g
  by_cases c4 : r 58 (s 31 6) = 9
  · exact s_empty C hm hT c4 g
  by_cases c5 : r 58 (s 31 6) = 10
  · exact s_zero C hm hT c5 g
  by_cases c6 : r 58 (s 31 6) = 11
  · exact s_jump C hm hT c6 g
  by_cases c7 : r 58 (s 31 6) = 12
  · exact s_store C hm hT c7 g
  by_cases c8 : r 58 (s 31 6) = 13
  · exact s_call C h7 hz h36 hr7 h32 h5 hm hT c8 g
  by_cases c9 : r 58 (s 31 6) = 14
  · exact s_ret C hm hT c9 h16 hzr g
  by_cases c10 : r 58 (s 31 6) ≤ 16
  · exact s_set C hm hT (by omega) g
  by_cases c11 : r 58 (s 31 6) = 17
  · exact s_out C hm hT c11 g
  · exact s_drop C hm hT (by omega) g
-- a whole run: the reference, from every state alike, comes to the same end
def RunOK (X : zX) (G : Int → Nat → Int → Int) (r : zS) (f0 : Int) (s s' : zS) : Prop :=
  ∀ m, MR G r f0 s m → ∀ Q : Int → zS → Prop, (∀ m', OV r s' m' → KF m m' → Q 0 m') → w_137 X m Q
theorem run_end (hm : MR G r f0 s m0) (hT : s 31 9 = 6000) (g : ∀ s', (∀ k, 45 ≤ k → s' k = s k) → (∃ m', OV r s' m') → RunOK X G r f0 s s' → Q (s' 31 8) s') : w_68_78 X s Q := by
  have o8 : s 31 8 = 0 := by
    obtain ⟨U0, φ0, hh0, hf0, hg0, o8, o39⟩ := hm
    exact o8
  have ov : ∀ m, MR G r f0 s m → OV r (zu s 31 8 5) (zu m 45 39 5) := by
    intro m hm
    obtain ⟨U, φ, hh, hf, hg, o8, o39⟩ := hm
    refine ⟨glo_c hg (fun k hk => zu_f (by omega)) (fun j hj => zu_n (by omega)) (zu_g (by decide)) (fun k hk => zu_f (by omega)) (fun j hj => zu_n (by omega)), by rw [zu_s]; omega, by rw [zu_s, zu_s], ?_, by rw [zu_f (by decide)]; exact hh.2.2.2.2.1, fun w => by rw [zu_s] at w; omega⟩
    rw [zu_g (by decide), zu_n (by omega)]
    exact ⟨hh.2.2.2.2.2.1, hh.2.2.2.2.2.2.1⟩
  have go := g (zu s 31 8 5) (fun k hk => zu_f (by omega)) ⟨_, ov m0 hm⟩ (fun m hm' Q' k => by
    have hv := ov m hm'
    obtain ⟨U, φ, hh, hf, hg, o8, o39⟩ := hm'
    have e40 : m 45 40 = 6000 := by rw [← hg.2.2.2.2.1.1]; exact hT
    refine w_137_i ⟨by omega, fun q => absurd o39 q, fun _ => ⟨by omega, fun q => absurd e40 q, fun _ => ?_⟩⟩
    rintro _ rfl
    exact k _ hv ⟨fun k hk => zu_f (by omega), fun j hj => by have := kj_n hj; rw [zu_n (by omega)]⟩)
  refine w_68_78_i ⟨by omega, fun q => absurd o8 q, fun _ => ⟨by omega, fun _ => w_68_112_i ⟨by omega, fun q => absurd o8 q, fun _ => ?_⟩, fun q => by omega⟩⟩
  rintro _ rfl
  exact w_68_124_i go
theorem run_loop (hX : okX X) (R : RH z r f0 G) : ∀ d : Nat, ∀ (s m0 : zS), MR G r f0 s m0 → 6000 ≤ s 31 9 + d →
    ∀ Q : Int → zS → Prop, (∀ s', (∀ k, 45 ≤ k → s' k = s k) → (∃ m', OV r s' m') → RunOK X G r f0 s s' → Q (s' 31 8) s') → w_68_78 X s Q := by
  intro d
  induction d with
  | zero =>
    intro s m0 hm hd Q g
    have : s 31 9 ≤ 6000 := by
      obtain ⟨U0, φ0, hh0, hf0, hg0, o8, o39⟩ := hm
      have := hg0.2.2.2.2.1
      omega
    exact run_end hm (by omega) g
  | succ d ih =>
    intro s m0 hm hd Q g
    by_cases hT : s 31 9 = 6000
    · exact run_end hm hT g
    obtain ⟨b9, b9', o8⟩ : 0 ≤ s 31 9 ∧ s 31 9 ≤ 6000 ∧ s 31 8 = 0 := by
      obtain ⟨U0, φ0, hh0, hf0, hg0, o8, o39⟩ := hm
      have := hg0.2.2.2.2.1
      omega
    refine w_68_78_i ⟨by omega, fun q => absurd o8 q, fun _ => ⟨by omega, fun q => by omega, fun _ => ?_⟩⟩
    rintro _ rfl
    refine s_step R hm (by omega) (fun s1 k1 st => ?_)
    obtain ⟨m1, af⟩ : ∃ m1, AF G r f0 s1 m1 := one_e hX (st m0 hm (fun _ => ∃ m1, AF G r f0 s1 m1) (fun m1 af _ => ⟨m1, af⟩))
    -- the reference's step, before its further steps
    have first : ∀ m, MR G r f0 s m → ∀ Q' : Int → zS → Prop, (∀ m1, AF G r f0 s1 m1 → KF m m1 → w_137 X m1 Q') → w_137 X m Q' := by
      intro m hm' Q' k
      refine one_go ?_ ?_ ?_ ?_ (st m hm' _ k)
      all_goals
        obtain ⟨U0, φ0, hh0, hf0, hg0, o8, o39⟩ := hm'
        obtain ⟨x1, x2, x3, x4, x5, x6, x7, x8, x9, x10⟩ := ctx R.1 hf0 hg0 rfl rfl
      · exact o39
      · rw [x6.2.2.2.2.2]; omega
      · rw [x6.2.1]; omega
      · rw [x6.2.1, x6.2.2.1]; exact x10
    by_cases o1 : s1 31 8 = 0
    · have mr : ∀ m, AF G r f0 s1 m → MR G r f0 s1 m := by
        rintro m (w | w)
        · exact w
        · have := w.2.1; omega
      refine ih s1 m1 (mr m1 af) (by omega) Q (fun s' k2 ev rok => g s' (fun k hk => by rw [k2 k hk, k1.1 k hk]) ev (fun m hm' Q' kq => first m hm' Q' (fun m1 af1 kf => rok m1 (mr m1 af1) Q' (fun m' ov kf' => kq m' ov ⟨fun k hk => by rw [kf'.1 k hk, kf.1 k hk], fun j hj => by rw [kf'.2 j hj, kf.2 j hj]⟩))))
    · have ov1 : ∀ m, AF G r f0 s1 m → OV r s1 m := by
        rintro m (w | w)
        · obtain ⟨U0, φ0, hh0, hf0, hg0, o8, o39⟩ := w
          exact absurd o8 o1
        · exact w
      have ov := ov1 m1 af
      have o5 := ov.2.1
      refine w_68_78_i ⟨by omega, fun _ => w_68_112_i ⟨by omega, fun _ => w_68_124_i ?_, fun q => absurd o1 q⟩, fun q => absurd o1 q⟩
      refine g s1 k1.1 ⟨m1, ov⟩ (fun m hm' Q' kq => first m hm' Q' (fun m1 af1 kf => ?_))
      have hv := ov1 m1 af1
      have e39 := hv.2.2.1
      exact w_137_i ⟨by omega, fun _ => kq m1 hv kf, fun q => by omega⟩
end
