section
variable {G : Int → Nat → Int → Int} {z r s m s' s1 m1 m0 s2 m2 s3 m3 e : zS} {f0 i j k F N o v tk p q t T H a b n f x x0 x1 x2 x3 x4 x5 c c' K P d ch : Int} {U U' : Int → Int → Prop} {φ φ' : Int → Int} {X : zX} {Q : Int → zS → Prop} {D : Prop}
-- what a node's parts must be
def okN (s : zS) (n K a b c : Int) : Prop :=
  (0 ≤ K ∧ K ≤ 17) ∧ (K = 1 ∨ K = 6 → 1 ≤ a ∧ a ≤ 7) ∧ (K = 2 ∨ K = 11 → 0 ≤ a ∧ a ≤ 7) ∧ (K = 12 → 0 ≤ a ∧ a < s 3 6) ∧ (K = 3 ∨ K = 4 ∨ K = 5 ∨ K = 7 ∨ K = 8 ∨ K = 9 ∨ K = 10 ∨ K = 13 ∨ K = 14 ∨ K = 15 ∨ K = 16 ∨ K = 17 → ex s n a) ∧
  (K = 3 ∨ K = 4 ∨ K = 5 ∨ K = 6 ∨ K = 10 ∨ K = 11 ∨ K = 14 ∨ K = 15 ∨ K = 17 → ex s n b) ∧ (K = 12 ∨ K = 13 → ar s n b) ∧ (K = 6 ∨ K = 10 ∨ K = 11 → ex s n c)
theorem zP_t (hK : 0 ≤ K ∧ K ≤ 17) : ((0 ≤ zP (K * 3) ∧ zP (K * 3) ≤ 4) ∧ (zP (K * 3) = 1 ↔ K = 1 ∨ K = 6) ∧ (zP (K * 3) = 2 ↔ K = 2 ∨ K = 11) ∧ (zP (K * 3) = 3 ↔ K = 12) ∧ (zP (K * 3) = 4 ↔ K = 3 ∨ K = 4 ∨ K = 5 ∨ K = 7 ∨ K = 8 ∨ K = 9 ∨ K = 10 ∨ K = 13 ∨ K = 14 ∨ K = 15 ∨ K = 16 ∨ K = 17)) ∧
    ((zP (K * 3 + 1) = 0 ∨ zP (K * 3 + 1) = 4 ∨ zP (K * 3 + 1) = 5) ∧ (zP (K * 3 + 1) = 4 ↔ K = 3 ∨ K = 4 ∨ K = 5 ∨ K = 6 ∨ K = 10 ∨ K = 11 ∨ K = 14 ∨ K = 15 ∨ K = 17) ∧ (zP (K * 3 + 1) = 5 ↔ K = 12 ∨ K = 13)) ∧
    ((zP (K * 3 + 2) = 0 ∨ zP (K * 3 + 2) = 4) ∧ (zP (K * 3 + 2) = 4 ↔ K = 6 ∨ K = 10 ∨ K = 11)) := by
  have h : K = 0 ∨ K = 1 ∨ K = 2 ∨ K = 3 ∨ K = 4 ∨ K = 5 ∨ K = 6 ∨ K = 7 ∨ K = 8 ∨ K = 9 ∨ K = 10 ∨ K = 11 ∨ K = 12 ∨ K = 13 ∨ K = 14 ∨ K = 15 ∨ K = 16 ∨ K = 17 := by omega
  rcases h with rfl | rfl | rfl | rfl | rfl | rfl | rfl | rfl | rfl | rfl | rfl | rfl | rfl | rfl | rfl | rfl | rfl | rfl <;> (refine ⟨⟨?_, ?_, ?_, ?_, ?_⟩, ⟨?_, ?_, ?_⟩, ⟨?_, ?_⟩⟩ <;> decide +kernel)
def okP (s : zS) (p x : Int) : Prop := (p = 1 → 1 ≤ x ∧ x ≤ 7) ∧ (p = 2 → 0 ≤ x ∧ x ≤ 7) ∧ (p = 3 → 0 ≤ x ∧ x < s 3 6) ∧ (p = 4 → ex s (s 3 11) x) ∧ (p = 5 → ar s (s 3 11) x)
theorem p_24 (hp : 0 ≤ p ∧ p ≤ 5) (i1 : iI x) (hn : 0 ≤ s 3 11 ∧ s 3 11 ≤ 150) (hf : 0 ≤ s 3 6 ∧ s 3 6 ≤ 6) (h10 : ∀ n, 0 ≤ n → n < s 3 11 → 0 ≤ s 10 n ∧ s 10 n ≤ 17) (k1 : okP s p x → Q 1 s) (k0 : ¬ okP s p x → Q 0 s) : w_24 X p x s Q := by
  have iN : iI (s 3 11) := iI_c (by omega)
  have iF : iI (s 3 6) := iI_c (by omega)
  refine w_24_i ⟨by omega, fun q => k1 ⟨fun w => by omega, fun w => by omega, fun w => by omega, fun w => by omega, fun w => by omega⟩, fun q => p_20 i1 (fun w => ⟨by omega, k1 ⟨fun _ => w, fun w => by omega, fun w => by omega, fun w => by omega, fun w => by omega⟩⟩) (fun w => ⟨by omega, k0 (fun g => w (g.1 q))⟩), fun q => ⟨i1, fun q' => w_24_55_i (k0 (fun g => by have := g.2.1 q; omega)), fun q' => ⟨i1, fun q'' => w_24_55_i (k0 (fun g => by have := g.2.1 q; omega)), fun q'' => k1 ⟨fun w => by omega, fun _ => by omega, fun w => by omega, fun w => by omega, fun w => by omega⟩⟩⟩,
    fun q => p_25 i1 iF (fun w => ⟨by omega, k1 ⟨fun w => by omega, fun w => by omega, fun _ => w, fun w => by omega, fun w => by omega⟩⟩) (fun w => ⟨by omega, k0 (fun g => w (g.2.2.1 q))⟩), fun q => p_26 i1 hn h10 (fun w => ⟨by omega, k1 ⟨fun w => by omega, fun w => by omega, fun w => by omega, fun _ => w, fun w => by omega⟩⟩) (fun w => ⟨by omega, k0 (fun g => w (g.2.2.2.1 q))⟩),
    fun q => ⟨i1, fun q' => w_24_93_i (k1 ⟨fun w => by omega, fun w => by omega, fun w => by omega, fun w => by omega, fun _ => Or.inl q'⟩), fun q' => p_27 i1 iN (fun w => ⟨by omega, fun q => by omega, fun _ => ⟨by omega, ?_⟩⟩) (fun w => ⟨by omega, fun _ => w_24_97_i (k0 (fun g => ?_)), fun q => by omega⟩)⟩⟩
  · have := h10 x w.1 w.2
    refine ⟨by omega, fun q'' => w_24_97_i (k0 (fun g => ?_)), fun q'' => w_24_93_i (k1 ⟨fun w => by omega, fun w => by omega, fun w => by omega, fun w => by omega, fun _ => Or.inr ⟨w.1, w.2, Classical.not_not.mp q''⟩⟩)⟩
    rcases g.2.2.2.2 q with g | g
    · exact q' g
    · exact q'' g.2.2
  · rcases g.2.2.2.2 q with g | g
    · exact q' g
    · exact w ⟨g.1, g.2.1⟩
theorem okN_iff (hK : 0 ≤ K ∧ K ≤ 17) : okN s (s 3 11) K a b c ↔ okP s (zP (K * 3)) a ∧ okP s (zP (K * 3 + 1)) b ∧ okP s (zP (K * 3 + 2)) c := by
  obtain ⟨⟨p0, p1, p2, p3, p4⟩, ⟨q0, q4, q5⟩, ⟨r0, r4⟩⟩ := zP_t hK
  have n05 : ¬ zP (K * 3) = 5 := by have := p0.2; clear p1 p2 p3 p4 q0 q4 q5 r0 r4; omega
  have n1 : ¬ zP (K * 3 + 1) = 1 ∧ ¬ zP (K * 3 + 1) = 2 ∧ ¬ zP (K * 3 + 1) = 3 := by clear p0 p1 p2 p3 p4 q4 q5 r0 r4; omega
  have n2 : ¬ zP (K * 3 + 2) = 1 ∧ ¬ zP (K * 3 + 2) = 2 ∧ ¬ zP (K * 3 + 2) = 3 ∧ ¬ zP (K * 3 + 2) = 5 := by clear p0 p1 p2 p3 p4 q0 q4 q5 r4; omega
  unfold okN okP
  constructor
  · rintro ⟨h0, h1, h2, h3, h4, h5, h6, h7⟩
    exact ⟨⟨fun w => h1 (p1.mp w), fun w => h2 (p2.mp w), fun w => h3 (p3.mp w), fun w => h4 (p4.mp w), fun w => absurd w n05⟩, ⟨fun w => absurd w n1.1, fun w => absurd w n1.2.1, fun w => absurd w n1.2.2, fun w => h5 (q4.mp w), fun w => h6 (q5.mp w)⟩, ⟨fun w => absurd w n2.1, fun w => absurd w n2.2.1, fun w => absurd w n2.2.2.1, fun w => h7 (r4.mp w), fun w => absurd w n2.2.2.2⟩⟩
  · rintro ⟨⟨h1, h2, h3, h4, -⟩, ⟨-, -, -, h5, h6⟩, ⟨-, -, -, h7, -⟩⟩
    exact ⟨hK, fun w => h1 (p1.mpr w), fun w => h2 (p2.mpr w), fun w => h3 (p3.mpr w), fun w => h4 (p4.mpr w), fun w => h5 (q4.mpr w), fun w => h6 (q5.mpr w), fun w => h7 (r4.mpr w)⟩
-- the reference's check
theorem p_104 (hn : 0 ≤ s 3 11 ∧ s 3 11 ≤ 150) (hf : 0 ≤ s 3 6 ∧ s 3 6 ≤ 6) (h10 : ∀ n, 0 ≤ n → n < s 3 11 → 0 ≤ s 10 n ∧ s 10 n ≤ 17) (e8 : e 45 8 = s 3 11) (e3 : e 45 3 = s 3 6) (e52 : ∀ n, 0 ≤ n → n < s 3 11 → e 52 n = s 10 n) (i0 : iI K) (i1 : iI a) (i2 : iI b) (i3 : iI c)
    (k1 : okN s (s 3 11) K a b c → Q 1 e) (k0 : ¬ okN s (s 3 11) K a b c → Q 0 e) : w_104 X K a b c e Q := by
  have z0 : iI 0 := iI_c (by omega)
  have z1 : iI 1 := iI_c (by omega)
  have z7 : iI 7 := iI_c (by omega)
  have hn' : 0 ≤ e 45 8 ∧ e 45 8 ≤ 150 := by omega
  have r52 : ∀ n, 0 ≤ n → n < e 45 8 → 0 ≤ e 52 n ∧ e 52 n ≤ 17 := fun n q1 q2 => by rw [e52 n q1 (by omega)]; exact h10 n q1 (by omega)
  have tex : ∀ x, (0 ≤ x ∧ x < e 45 8 ∧ ¬ e 52 x = 13) ↔ ex s (s 3 11) x := fun x => by
    rw [e8]
    exact ⟨fun w => ⟨w.1, w.2.1, by rw [← e52 x w.1 w.2.1]; exact w.2.2⟩, fun w => ⟨w.1, w.2.1, by rw [e52 x w.1 w.2.1]; exact w.2.2⟩⟩
  have tar : ∀ x, (x = -1 ∨ 0 ≤ x ∧ x < e 45 8 ∧ e 52 x = 13) ↔ ar s (s 3 11) x := fun x => by
    rw [e8]
    exact ⟨fun w => w.elim Or.inl (fun w => Or.inr ⟨w.1, w.2.1, by rw [← e52 x w.1 w.2.1]; exact w.2.2⟩), fun w => w.elim Or.inl (fun w => Or.inr ⟨w.1, w.2.1, by rw [e52 x w.1 w.2.1]; exact w.2.2⟩)⟩
  have E : ∀ {x : Int} {Q' : Int → zS → Prop}, iI x → (ex s (s 3 11) x → Q' 1 e) → (¬ ex s (s 3 11) x → Q' 0 e) → w_105 X x e Q' := fun ix u1 u0 => p_105 ix hn' r52 (fun w => u1 ((tex _).mp w)) (fun w => u0 (fun w' => w ((tex _).mpr w')))
  have A : ∀ {x : Int} {Q' : Int → zS → Prop}, iI x → (ar s (s 3 11) x → Q' 1 e) → (¬ ar s (s 3 11) x → Q' 0 e) → w_106 X x e Q' := fun ix u1 u0 => p_106 ix hn' r52 (fun w => u1 ((tar _).mp w)) (fun w => u0 (fun w' => w ((tar _).mpr w')))
  refine w_104_i ⟨i0, fun q => k0 (fun g => by have := g.1; omega), fun q => k1 ⟨by omega, fun w => by omega, fun w => by omega, fun w => by omega, fun w => by omega, fun w => by omega, fun w => by omega, fun w => by omega⟩, ?_, ?_, ?_, ?_, ?_, ?_, ?_, ?_, ?_⟩
  · intro q
    exact p_101 i1 z1 z7 (fun w => ⟨by omega, k1 ⟨by omega, fun _ => w, fun w => by omega, fun w => by omega, fun w => by omega, fun w => by omega, fun w => by omega, fun w => by omega⟩⟩) (fun w => ⟨by omega, k0 (fun g => w (g.2.1 (by omega)))⟩)
  · intro q
    exact p_101 i1 z0 z7 (fun w => ⟨by omega, k1 ⟨by omega, fun w => by omega, fun _ => w, fun w => by omega, fun w => by omega, fun w => by omega, fun w => by omega, fun w => by omega⟩⟩) (fun w => ⟨by omega, k0 (fun g => w (g.2.2.1 (by omega)))⟩)
  · intro q
    exact E i1 (fun w => ⟨by omega, fun q => by omega, fun _ => E i2 (fun w' => ⟨by omega, fun q => by omega, fun _ => k1 ⟨by omega, fun w => by omega, fun w => by omega, fun w => by omega, fun _ => w, fun _ => w', fun w => by omega, fun w => by omega⟩⟩) (fun w' => ⟨by omega, fun _ => w_104_279_i (k0 (fun g => w' (g.2.2.2.2.2.1 (by omega)))), fun q => by omega⟩)⟩) (fun w => ⟨by omega, fun _ => w_104_279_i (k0 (fun g => w (g.2.2.2.2.1 (by omega)))), fun q => by omega⟩)
  · intro q
    exact p_101 i1 z1 z7 (fun w => ⟨by omega, fun q => by omega, fun _ => E i2 (fun w' => ⟨by omega, fun q => by omega, fun _ => E i3 (fun w'' => ⟨by omega, fun q => by omega, fun _ => k1 ⟨by omega, fun _ => w, fun w => by omega, fun w => by omega, fun w => by omega, fun _ => w', fun w => by omega, fun _ => w''⟩⟩) (fun w'' => ⟨by omega, fun _ => w_104_137_i (k0 (fun g => w'' (g.2.2.2.2.2.2.2 (by omega)))), fun q => by omega⟩)⟩) (fun w' => ⟨by omega, fun _ => w_104_137_i (k0 (fun g => w' (g.2.2.2.2.2.1 (by omega)))), fun q => by omega⟩)⟩) (fun w => ⟨by omega, fun _ => w_104_137_i (k0 (fun g => w (g.2.1 (by omega)))), fun q => by omega⟩)
  · intro q
    exact E i1 (fun w => ⟨by omega, k1 ⟨by omega, fun w => by omega, fun w => by omega, fun w => by omega, fun _ => w, fun w => by omega, fun w => by omega, fun w => by omega⟩⟩) (fun w => ⟨by omega, k0 (fun g => w (g.2.2.2.2.1 (by omega)))⟩)
  · intro q
    exact E i1 (fun w => ⟨by omega, fun q => by omega, fun _ => E i2 (fun w' => ⟨by omega, fun q => by omega, fun _ => E i3 (fun w'' => ⟨by omega, fun q => by omega, fun _ => k1 ⟨by omega, fun w => by omega, fun w => by omega, fun w => by omega, fun _ => w, fun _ => w', fun w => by omega, fun _ => w''⟩⟩) (fun w'' => ⟨by omega, fun _ => w_104_174_i (k0 (fun g => w'' (g.2.2.2.2.2.2.2 (by omega)))), fun q => by omega⟩)⟩) (fun w' => ⟨by omega, fun _ => w_104_174_i (k0 (fun g => w' (g.2.2.2.2.2.1 (by omega)))), fun q => by omega⟩)⟩) (fun w => ⟨by omega, fun _ => w_104_174_i (k0 (fun g => w (g.2.2.2.2.1 (by omega)))), fun q => by omega⟩)
  · intro q
    exact p_101 i1 z0 z7 (fun w => ⟨by omega, fun q => by omega, fun _ => E i2 (fun w' => ⟨by omega, fun q => by omega, fun _ => E i3 (fun w'' => ⟨by omega, fun q => by omega, fun _ => k1 ⟨by omega, fun w => by omega, fun _ => w, fun w => by omega, fun w => by omega, fun _ => w', fun w => by omega, fun _ => w''⟩⟩) (fun w'' => ⟨by omega, fun _ => w_104_207_i (k0 (fun g => w'' (g.2.2.2.2.2.2.2 (by omega)))), fun q => by omega⟩)⟩) (fun w' => ⟨by omega, fun _ => w_104_207_i (k0 (fun g => w' (g.2.2.2.2.2.1 (by omega)))), fun q => by omega⟩)⟩) (fun w => ⟨by omega, fun _ => w_104_207_i (k0 (fun g => w (g.2.2.1 (by omega)))), fun q => by omega⟩)
  · intro q
    exact p_101 i1 z0 (iI_c (by omega)) (fun w => ⟨by omega, fun q => by omega, fun _ => A i2 (fun w' => ⟨by omega, fun q => by omega, fun _ => k1 ⟨by omega, fun w => by omega, fun w => by omega, fun _ => by omega, fun w => by omega, fun w => by omega, fun _ => w', fun w => by omega⟩⟩) (fun w' => ⟨by omega, fun _ => w_104_235_i (k0 (fun g => w' (g.2.2.2.2.2.2.1 (by omega)))), fun q => by omega⟩)⟩) (fun w => ⟨by omega, fun _ => w_104_235_i (k0 (fun g => w (by have := g.2.2.2.1 (by omega); omega))), fun q => by omega⟩)
  · intro q
    exact E i1 (fun w => ⟨by omega, fun q => by omega, fun _ => A i2 (fun w' => ⟨by omega, fun q => by omega, fun _ => k1 ⟨by omega, fun w => by omega, fun w => by omega, fun w => by omega, fun _ => w, fun w => by omega, fun _ => w', fun w => by omega⟩⟩) (fun w' => ⟨by omega, fun _ => w_104_257_i (k0 (fun g => w' (g.2.2.2.2.2.2.1 (by omega)))), fun q => by omega⟩)⟩) (fun w => ⟨by omega, fun _ => w_104_257_i (k0 (fun g => w (g.2.2.2.2.1 (by omega)))), fun q => by omega⟩)
end
