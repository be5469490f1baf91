section
variable {m : zS} {n f t N H J W a b t1 t2 K wp : Int} {X : zX} {Q : Int → zS → Prop}
theorem p_120l (ha : 0 ≤ a ∧ a < 6) (h1 : -2147483648 ≤ m 51 a ∧ m 51 a ≤ 2147483647) (h9 : 0 ≤ m 49 a ∧ m 49 a ≤ 3) (c : Nat) : ∀ (x y : Int), AR (m 54) c x → 0 ≤ y → y + c ≤ 1000 →
    (∀ J', (J' = 1 ∧ 0 ≤ m 51 a ∧ y + c = m 49 a ∨ J' = 0 ∧ ¬ (0 ≤ m 51 a ∧ y + c = m 49 a)) → w_120_62 X a (y + c) J' m Q) → w_120_17 X a y x m Q := by
  induction c with
  | zero =>
    intro x y hA hy hc k
    simp only [AR] at hA
    simp only [show y + ((0 : Nat) : Int) = y by omega] at k
    exact w_120_17_i ⟨by omega, fun _ => ⟨ha, h1, fun q => w_120_61_i (k 0 (by omega)), fun q => ⟨ha, by omega, fun q' => w_120_61_i (k 0 (by omega)), fun q' => k 1 (by omega)⟩⟩, fun q => by omega⟩
  | succ c ih =>
    intro x y hA hy hc k
    simp only [AR] at hA
    refine w_120_17_i ⟨by omega, fun q => by omega, fun q => ⟨by omega, ih _ _ hA.2.2 (by omega) (by omega) ?_⟩⟩
    rw [show y + 1 + (c : Int) = y + ((c + 1 : Nat) : Int) by omega]
    exact k
-- the loop over the arguments' types
theorem p_120p {B : Int} (hf : 0 ≤ a ∧ a < 6) (i : Nat) : ∀ (J : Int), (J = 0 ∨ J = 1) → 0 ≤ B → B + i ≤ 16 → (∀ k, 0 ≤ k → k < B + i → tI (m 69 k)) → (∀ k, 0 ≤ k → k < 3 → -2147483648 ≤ m 50 (3 * a + k) ∧ m 50 (3 * a + k) ≤ 2147483647) →
    ∃ J', (J' = 0 ∨ J' = 1) ∧ (J' = 0 ↔ J = 0 ∧ ∀ k : Int, 0 ≤ k → k < i → k ≤ 2 → m 69 (B + k) = m 50 (3 * a + k)) ∧
      ∀ (X : zX) (Q : Int → zS → Prop), Q 0 (zu (zu (zu (zu m 45 36 J') 45 30 B) 69 B (m 48 a)) 45 30 (B + 1)) → w_120_78 X a (i - 1) (zu (zu m 45 36 J) 45 30 (B + i)) (fun _ s => Q 0 s) := by
  induction i with
  | zero =>
    intro J hJ hB hi hr hp
    refine ⟨J, hJ, ⟨fun h => ⟨h, fun k a b => by omega⟩, fun h => h.1⟩, fun X Q k => ?_⟩
    have e : zu (zu m 45 36 J) 45 30 (B + ((0 : Nat) : Int)) = zu (zu m 45 36 J) 45 30 B := by rw [show B + ((0 : Nat) : Int) = B by omega]
    rw [e]
    refine w_120_78_i ⟨by omega, fun _ => ⟨hf, ?_⟩, fun q => by omega⟩
    rw [zu_g (by decide), zu_g (by decide)]
    exact p_117 B (by simp [zu, *]) (by omega) k
  | succ i ih =>
    intro J hJ hB hi hr hp
    have e0 : ((i + 1 : Nat) : Int) - 1 = i := by omega
    have hr1 := hr (B + i) (by omega) (by omega)
    unfold tI at hr1
    have e1 : B + ((i + 1 : Nat) : Int) - 1 = B + i := by omega
    -- the flag behind this one
    by_cases q : (2 : Int) < i ∨ m 69 (B + i) = m 50 (3 * a + i)
    · obtain ⟨J', h1, h2, h3⟩ := ih J hJ hB (by omega) (fun k a b => hr k a (by omega)) hp
      refine ⟨J', h1, ?_, fun X Q k => ?_⟩
      · rw [h2]
        refine ⟨fun h => ⟨h.1, fun k a b c => if hk : k = i then by rw [hk]; omega else h.2 k a (by omega) c⟩, fun h => ⟨h.1, fun k a b c => h.2 k a (by omega) c⟩⟩
      · rw [e0]
        have g := h3 X Q k
        have key : w_120_117 X a i 1 (zu (zu (zu m 45 36 J) 45 30 (B + ((i + 1 : Nat) : Int))) 45 30 (B + ((i + 1 : Nat) : Int) - 1)) (fun _ s => Q 0 s) := by
          apply w_120_117_i
          apply p_118 J (by simp [zu, *]) hJ (by simp)
          rw [if_pos rfl, e1, zu_zu, zu_id (by simp [zu]), show (i : Int) + -1 = i - 1 by omega]
          exact g
        refine w_120_78_i ⟨by omega, fun q => by omega, fun _ => p_122 (B + ((i + 1 : Nat) : Int)) (m 69 (B + i)) (by simp [zu, *]) (by rw [e1]; simp [zu]) (by omega) ⟨by omega, fun _ => w_120_112_i key, fun q' => ⟨by omega, ?_⟩⟩⟩
        have hp1 := hp i (by omega) (by omega)
        have z1 : zu (zu (zu m 45 36 J) 45 30 (B + ((i + 1 : Nat) : Int))) 45 30 (B + ((i + 1 : Nat) : Int) - 1) 50 (3 * a + i) = m 50 (3 * a + i) := by simp [zu]
        rw [z1]
        exact ⟨by omega, fun q'' => by omega, fun _ => w_120_112_i key⟩
    · obtain ⟨J', h1, h2, h3⟩ := ih 1 (by omega) hB (by omega) (fun k a b => hr k a (by omega)) hp
      refine ⟨J', h1, ?_, fun X Q k => ?_⟩
      · rw [h2]
        refine ⟨fun h => by omega, fun h => absurd (h.2 i (by omega) (by omega) (by omega)) (by omega)⟩
      · rw [e0]
        have g := h3 X Q k
        have key : w_120_117 X a i 0 (zu (zu (zu m 45 36 J) 45 30 (B + ((i + 1 : Nat) : Int))) 45 30 (B + ((i + 1 : Nat) : Int) - 1)) (fun _ s => Q 0 s) := by
          apply w_120_117_i
          apply p_118 J (by simp [zu, *]) hJ (by simp)
          rw [if_neg (by omega), e1, zu_zu, show (i : Int) + -1 = i - 1 by omega]
          have e : zu (zu (zu m 45 36 J) 45 30 (B + i)) 45 36 1 = zu (zu m 45 36 1) 45 30 (B + i) := by
            funext x y; simp only [zu]; repeat' split
            all_goals first | rfl | omega
          rw [e]
          exact g
        refine w_120_78_i ⟨by omega, fun q => by omega, fun _ => p_122 (B + ((i + 1 : Nat) : Int)) (m 69 (B + i)) (by simp [zu, *]) (by rw [e1]; simp [zu]) (by omega) ⟨by omega, fun q' => by omega, fun q' => ⟨by omega, ?_⟩⟩⟩
        have hp1 := hp i (by omega) (by omega)
        have z1 : zu (zu (zu m 45 36 J) 45 30 (B + ((i + 1 : Nat) : Int))) 45 30 (B + ((i + 1 : Nat) : Int) - 1) 50 (3 * a + i) = m 50 (3 * a + i) := by simp [zu]
        rw [z1]
        exact ⟨by omega, fun _ => key, fun q'' => by omega⟩
theorem b_12o {c : Nat} (et : m 45 27 = t + 1) (ht : 0 ≤ t ∧ t < 1200) (ew : m 67 t = 2) (en : m 68 t = n) (hn : 0 ≤ n ∧ n < 150) (hk : m 52 n = 12) (ea : m 53 n = a) (ha : 0 ≤ a ∧ a < 6) (eN : m 45 16 = N) (eH : m 45 30 = H) (hr : ∀ k, 0 ≤ k → k < H → tI (m 69 k)) (hl : ∀ k, 0 ≤ k → k < 8 → -1 ≤ m 70 k ∧ m 70 k ≤ 7) (hN : 0 ≤ N ∧ N < 400) (hH : 0 ≤ H - c ∧ H ≤ 16)
    (hA : AR (m 54) c (m 54 n)) (h1 : -2147483648 ≤ m 51 a ∧ m 51 a ≤ 2147483647) (h9 : 0 ≤ m 49 a ∧ m 49 a ≤ 3) (hp : ∀ k, 0 ≤ k → k < 3 → -2147483648 ≤ m 50 (3 * a + k) ∧ m 50 (3 * a + k) ≤ 2147483647) (eJ : m 45 36 = J) (hJ : J = 0 ∨ J = 1) :
    ∃ m' J', (J' = 0 ∨ J' = 1) ∧ (J' = 0 ↔ J = 0 ∧ (0 ≤ m 51 a ∧ (c : Int) = m 49 a) ∧ ∀ k : Int, 0 ≤ k → k < c → k ≤ 2 → m 69 (H - c + k) = m 50 (3 * a + k)) ∧
      EM (zu m 45 27 t) m' N 13 a c (bm (m 70) 8) (bm (m 69) H.toNat) (H - c + 1) (m 48 a) 0 (m 70 0) J' ∧ goO f m m' := by
  have z9 : zu m 45 27 t 69 = m 69 := zu_f (by decide)
  have z0 : zu m 45 27 t 70 = m 70 := zu_f (by decide)
  have z4 : zu m 45 27 t 54 = m 54 := zu_f (by decide)
  have z3 : zu m 45 27 t 53 = m 53 := zu_f (by decide)
  have z51 : zu m 45 27 t 51 = m 51 := zu_f (by decide)
  have z49 : zu m 45 27 t 49 = m 49 := zu_f (by decide)
  -- the flag behind the first need
  obtain ⟨J0, x0, hJ0, hx0, hJ0'⟩ : ∃ J0 x0 : Int, (J0 = 0 ∨ J0 = 1) ∧ (x0 = 1 ∧ 0 ≤ m 51 a ∧ (c : Int) = m 49 a ∧ J0 = J ∨ x0 = 0 ∧ ¬ (0 ≤ m 51 a ∧ (c : Int) = m 49 a) ∧ J0 = 1) ∧ J0 = (if x0 = 1 then J else 1) := by
    by_cases q : 0 ≤ m 51 a ∧ (c : Int) = m 49 a
    · exact ⟨J, 1, hJ, Or.inl ⟨rfl, q.1, q.2, rfl⟩, by simp⟩
    · exact ⟨1, 0, Or.inr rfl, Or.inr ⟨rfl, q, rfl⟩, by simp⟩
  generalize eu : zu (zu (zu (zu (zu (zu (zu m 45 27 t) 58 N 13) 59 N a) 60 N (c : Int)) 61 N (bm (m 70) 8)) 62 N (bm (m 69) H.toNat)) 45 16 (N + 1) = u
  have u9 : u 69 = m 69 := by rw [← eu]; (repeat rw [zu_f (by decide)])
  have u50 : u 50 = m 50 := by rw [← eu]; (repeat rw [zu_f (by decide)])
  have u48 : u 48 = m 48 := by rw [← eu]; (repeat rw [zu_f (by decide)])
  obtain ⟨J', g1, g2, g3⟩ := p_120p (m := u) (B := H - c) (a := a) ha c J0 hJ0 hH.1 (by omega) (by rw [u9]; intro k a b; exact hr k a (by omega)) (by rw [u50]; exact hp)
  refine ⟨zu (zu (zu (zu u 45 36 J') 45 30 (H - c)) 69 (H - c) (u 48 a)) 45 30 (H - c + 1), J', g1, ?_, ?_, gm_go et ht ew en (Or.inr (Or.inl ⟨rfl, fun X Q k => ?_⟩))⟩
  · rw [g2, u9, u50]
    constructor
    · intro h
      exact ⟨by omega, by omega, h.2⟩
    · intro h
      exact ⟨by omega, h.2.2⟩
  rotate_left
  · apply w_119_i; apply And.intro hn; rw [zu_g (by decide), hk]
    refine ⟨by omega, fun q => by omega, fun _ => ?_⟩
    apply w_120_i; rw [z3, z4, ea]
    refine ⟨hn, hn, p_120l (m := zu m 45 27 t) ha (by rw [z51]; exact h1) (by rw [z49]; exact h9) c _ _ (by rw [z4]; exact hA) (by omega) (by omega) ?_⟩
    rw [z51, z49, show (0 : Int) + c = c by omega]
    intro x hx
    apply w_120_62_i
    apply p_118 J (by simp [zu, *]) hJ (by omega)
    rw [show (if x = 1 then J else 1) = J0 by rw [hJ0', show x = x0 by omega]]
    refine p_121 (N := N) (H := H) (by simp [zu, *]) (by simp [zu, *]) (by omega) hN ?_ ?_ ?_
    · rw [zu_f (by decide), z9]; exact hr
    · rw [zu_f (by decide), z0]; exact hl
    · rw [zu_f (k := 69) (by decide), zu_f (k := 70) (by decide), z9, z0]
      have e : zu (zu (zu (zu (zu (zu (zu (zu m 45 27 t) 45 36 J0) 58 N 13) 59 N a) 60 N (c : Int)) 61 N (bm (m 70) 8)) 62 N (bm (m 69) H.toNat)) 45 16 (N + 1) = zu (zu u 45 36 J0) 45 30 (H - c + c) := by
        rw [← eu, show H - c + c = H by omega]
        funext x y; simp only [zu]; repeat' split
        all_goals first | rfl | omega | (rename_i q; rw [q.1, q.2]; exact eH)
      rw [e]
      exact g3 X Q k
  · rw [u48, ← eu]
    (refine ⟨fun j => ?_, fun j => ?_, fun j => ?_, fun j => ?_, fun j => ?_, ?_, ?_, ?_, fun j h1 h2 h3 => ?_, fun k => ?_, fun k => ?_, fun k hk => by (repeat rw [zu_f (by omega)])⟩ <;> (first | (simp [zu]; done) | ((repeat rw [zu_g (by decide)]); exact ife) | (simp [zu]; (repeat' split) <;> omega)))
end

/-! The same, whatever lies in the other side's cells. -/
def mx' (a m : zS) : zS := fun k => if k < 45 ∨ k = 56 ∨ k = 57 then a k else m k
theorem mx_lo {a m : zS} {k : Nat} (h : k < 45 ∨ k = 56 ∨ k = 57) : mx' a m k = a k := if_pos h
theorem mx_hi {a m : zS} {k : Nat} (h : 45 ≤ k ∧ ¬ k = 56 ∧ ¬ k = 57) : mx' a m k = m k := if_neg (by omega)
theorem mx_zu {a m : zS} {k : Nat} {i v : Int} (h : 45 ≤ k ∧ ¬ k = 56 ∧ ¬ k = 57) : zu (mx' a m) k i v = mx' a (zu m k i v) := by
  funext c j
  by_cases q : c < 45 ∨ c = 56 ∨ c = 57
  · rw [mx_lo q, zu_g (by omega), mx_lo q]
  · rw [mx_hi (by omega)]
    simp only [zu]
    rw [mx_hi (by omega)]
theorem mx_id {m : zS} : mx' m m = m := by funext k; simp [mx']
theorem mx_mx {a b m : zS} : mx' a (mx' b m) = mx' a m := by
  funext k
  by_cases q : k < 45 ∨ k = 56 ∨ k = 57
  · rw [mx_lo q, mx_lo q]
  · rw [mx_hi (by omega), mx_hi (by omega), mx_hi (by omega)]
def goM (f : Int) (m m' : zS) : Prop := ∀ a, goO f (mx' a m) (mx' a m')
theorem goM.rf {f : Int} {m : zS} : goM f m m := fun _ => goO.rf
theorem goM.tr {f : Int} {m m' m'' : zS} (a : goM f m m') (b : goM f m' m'') : goM f m m'' := fun x => (a x).tr (b x)
section
variable {a0 m0 m1 m2 m : zS} {f N o v tk lm pm H ty lx lt J t T : Int}
theorem EM.uq (h1 : EM m0 m1 N o v tk lm pm H ty lx lt J) (h2 : EM (mx' a0 m0) m2 N o v tk lm pm H ty lx lt J) : m2 = mx' a0 m1 := by
  obtain ⟨b1, b2, b3, b4, b5, b6, b7, b8, b9, b10, b11, b12⟩ := h1
  obtain ⟨c1, c2, c3, c4, c5, c6, c7, c8, c9, c10, c11, c12⟩ := h2
  funext k
  by_cases q : k < 45 ∨ k = 56 ∨ k = 57
  · rw [c12 k (by omega), mx_lo q, mx_lo q]
  rw [mx_hi (by omega)]
  by_cases q1 : k < 45 ∨ 46 ≤ k ∧ k ≤ 57 ∨ 63 ≤ k ∧ k ≤ 68 ∨ 71 ≤ k
  · rw [c12 k q1, b12 k q1, mx_hi (by omega)]
  have : k = 45 ∨ k = 58 ∨ k = 59 ∨ k = 60 ∨ k = 61 ∨ k = 62 ∨ k = 69 ∨ k = 70 := by omega
  funext j
  rcases this with rfl | rfl | rfl | rfl | rfl | rfl | rfl | rfl
  · by_cases e1 : j = 16
    · rw [e1, c6, b6]
    by_cases e2 : j = 30
    · rw [e2, c7, b7]
    by_cases e3 : j = 36
    · rw [e3, c8, b8]
    rw [c9 j e1 e2 e3, b9 j e1 e2 e3]; rfl
  · rw [c1, b1]; rfl
  · rw [c2, b2]; rfl
  · rw [c3, b3]; rfl
  · rw [c4, b4]; rfl
  · rw [c5, b5]; rfl
  · rw [c10, b10]; rfl
  · rw [c11, b11]; rfl
theorem up_EM {B : zS → zS} (hB : ∀ a, B (mx' a m) = mx' a (B m)) (h : ∀ a, ∃ m', EM (B (mx' a m)) m' N o v tk lm pm H ty lx lt J ∧ goO f (mx' a m) m') : ∃ m', EM (B m) m' N o v tk lm pm H ty lx lt J ∧ goM f m m' := by
  obtain ⟨m', e, -⟩ := h m
  rw [mx_id] at e
  refine ⟨m', e, fun a => ?_⟩
  obtain ⟨m2, e2, g2⟩ := h a
  rw [hB] at e2
  rw [← EM.uq e e2]
  exact g2
theorem up_LM {E : zS → Prop} (hE : ∀ m1 m2 : zS, E m1 → E m2 → ∀ j, t ≤ j → j < T → m1 67 j = m2 67 j ∧ m1 68 j = m2 68 j) (h : ∀ a, ∃ m', (LM (mx' a m) m' t T ∧ E m') ∧ goO f (mx' a m) m') : ∃ m', (LM m m' t T ∧ E m') ∧ goM f m m' := by
  obtain ⟨m', ⟨l, e⟩, -⟩ := h m
  rw [mx_id] at l
  refine ⟨m', ⟨l, e⟩, fun a => ?_⟩
  obtain ⟨m2, ⟨l2, e2⟩, g2⟩ := h a
  have : m2 = mx' a m' := by
    obtain ⟨a1, a2, a3, a4⟩ := l
    obtain ⟨c1, c2, c3, c4⟩ := l2
    funext k
    by_cases q : k < 45 ∨ k = 56 ∨ k = 57
    · rw [c4 k (by omega) (by omega) (by omega), mx_lo q, mx_lo q]
    rw [mx_hi (by omega)]
    by_cases q1 : ¬ k = 45 ∧ ¬ k = 67 ∧ ¬ k = 68
    · rw [c4 k q1.1 q1.2.1 q1.2.2, a4 k q1.1 q1.2.1 q1.2.2, mx_hi (by omega)]
    have : k = 45 ∨ k = 67 ∨ k = 68 := by omega
    funext j
    rcases this with rfl | rfl | rfl
    · by_cases e1 : j = 27
      · rw [e1, c1, a1]
      rw [c2 j e1, a2 j e1]; rfl
    · by_cases e1 : j < t ∨ T ≤ j
      · rw [(c3 j e1).1, (a3 j e1).1]; rfl
      · exact (hE m2 m' e2 e j (by omega) (by omega)).1
    · by_cases e1 : j < t ∨ T ≤ j
      · rw [(c3 j e1).2, (a3 j e1).2]; rfl
      · exact (hE m2 m' e2 e j (by omega) (by omega)).2
  rw [← this]
  exact g2
end
section
variable {m : zS} {n f t N H J W a b c t1 t2 K wp : Int}
theorem v_0 (et : m 45 27 = t + 1) (ht : 0 ≤ t ∧ t < 1200) (ew : m 67 t = 0) (en : m 68 t = n) (hn : 0 ≤ n ∧ n < 150) (hk : m 52 n = 0) (ea : m 53 n = a) (eN : m 45 16 = N) (eH : m 45 30 = H) (hN : 0 ≤ N ∧ N < 400) (hH : 0 ≤ H ∧ H < 40) (eJ : m 45 36 = J) :
    ∃ m', EM (zu m 45 27 t) m' N 0 a 0 0 0 (H + 1) 0 0 (m 70 0) J ∧ goM f m m' := by
  refine up_EM (B := fun m => zu m 45 27 t) (fun x => ?_) (fun x => v_0o (f := f) (m := mx' x m) et ht ew en hn hk ea eN eH hN hH eJ)
  simp only [mx_zu (k := 45) (by decide), mx_zu (k := 59) (by decide), mx_zu (k := 71) (by decide), mx_zu (k := 72) (by decide)]
theorem v_1 (et : m 45 27 = t + 1) (ht : 0 ≤ t ∧ t < 1200) (ew : m 67 t = 0) (en : m 68 t = n) (hn : 0 ≤ n ∧ n < 150) (hk : m 52 n = 1) (ea : m 53 n = a) (eN : m 45 16 = N) (eH : m 45 30 = H) (hN : 0 ≤ N ∧ N < 400) (hH : 0 ≤ H ∧ H < 40) (eJ : m 45 36 = J) :
    ∃ m', EM (zu m 45 27 t) m' N 1 0 0 0 0 (H + 1) a 0 (m 70 0) J ∧ goM f m m' := by
  refine up_EM (B := fun m => zu m 45 27 t) (fun x => ?_) (fun x => v_1o (f := f) (m := mx' x m) et ht ew en hn hk ea eN eH hN hH eJ)
  simp only [mx_zu (k := 45) (by decide), mx_zu (k := 59) (by decide), mx_zu (k := 71) (by decide), mx_zu (k := 72) (by decide)]
theorem v_2 (et : m 45 27 = t + 1) (ht : 0 ≤ t ∧ t < 1200) (ew : m 67 t = 0) (en : m 68 t = n) (hn : 0 ≤ n ∧ n < 150) (hk : m 52 n = 2) (ea : m 53 n = a) (ha : 0 ≤ a ∧ a < 8) (e1 : m 70 a = t1) (r1 : -1 ≤ t1 ∧ t1 ≤ 7) (eN : m 45 16 = N) (eH : m 45 30 = H) (hN : 0 ≤ N ∧ N < 400) (hH : 0 ≤ H ∧ H < 40) (eJ : m 45 36 = J) (hJ : J = 0 ∨ J = 1) :
    ∃ m', EM (zu m 45 27 t) m' N 2 a 0 0 0 (H + 1) (max t1 0) 0 (m 70 0) (if 0 ≤ t1 then J else 1) ∧ goM f m m' := by
  refine up_EM (B := fun m => zu m 45 27 t) (fun x => ?_) (fun x => v_2o (f := f) (m := mx' x m) et ht ew en hn hk ea ha e1 r1 eN eH hN hH eJ hJ)
  simp only [mx_zu (k := 45) (by decide), mx_zu (k := 59) (by decide), mx_zu (k := 71) (by decide), mx_zu (k := 72) (by decide)]
theorem v_two (et : m 45 27 = t + 1) (ht : 0 ≤ t ∧ t < 1190) (ew : m 67 t = 0) (en : m 68 t = n) (hn : 0 ≤ n ∧ n < 150) (hk : m 52 n = K) (hK : K = 3 ∨ K = 4 ∨ K = 5 ∨ K = 14 ∨ K = 15) (ea : m 53 n = a) (eb : m 54 n = b) :
    ∃ m', (LM m m' t (t + 3) ∧ m' 67 t = 2 ∧ m' 68 t = n ∧ m' 67 (t + 1) = 0 ∧ m' 68 (t + 1) = b ∧ m' 67 (t + 2) = 0 ∧ m' 68 (t + 2) = a) ∧ goM f m m' := by
  refine up_LM ?_ (fun x => v_twoo (f := f) (m := mx' x m) et ht ew en hn hk hK ea eb)
  intro m1 m2 h1 h2 j ja jb
  (have hj : j = t ∨ j = t + 1 ∨ j = t + 2 ∨ j = t + 3 ∨ j = t + 4 ∨ j = t + 5 := (by (try split at jb) <;> omega); rcases hj with rfl | rfl | rfl | rfl | rfl | rfl <;> first | (exfalso; (try split at jb) <;> omega) | (simp [h1, h2]; done) | (by_cases q : b < 0 <;> simp [h1, h2, q]; done) | (by_cases q : b < 0; (exfalso; simp [q] at jb; omega); have q0 : 0 ≤ b := (by omega); simp [h1, h2, q0]))
theorem v_one (et : m 45 27 = t + 1) (ht : 0 ≤ t ∧ t < 1190) (ew : m 67 t = 0) (en : m 68 t = n) (hn : 0 ≤ n ∧ n < 150) (hk : m 52 n = K) (hK : K = 7 ∨ K = 8 ∨ K = 9 ∨ K = 16) (ea : m 53 n = a) :
    ∃ m', (LM m m' t (t + 2) ∧ m' 67 t = 2 ∧ m' 68 t = n ∧ m' 67 (t + 1) = 0 ∧ m' 68 (t + 1) = a) ∧ goM f m m' := by
  refine up_LM ?_ (fun x => v_oneo (f := f) (m := mx' x m) et ht ew en hn hk hK ea)
  intro m1 m2 h1 h2 j ja jb
  (have hj : j = t ∨ j = t + 1 ∨ j = t + 2 ∨ j = t + 3 ∨ j = t + 4 ∨ j = t + 5 := (by (try split at jb) <;> omega); rcases hj with rfl | rfl | rfl | rfl | rfl | rfl <;> first | (exfalso; (try split at jb) <;> omega) | (simp [h1, h2]; done) | (by_cases q : b < 0 <;> simp [h1, h2, q]; done) | (by_cases q : b < 0; (exfalso; simp [q] at jb; omega); have q0 : 0 ≤ b := (by omega); simp [h1, h2, q0]))
theorem v_6 (et : m 45 27 = t + 1) (ht : 0 ≤ t ∧ t < 1190) (ew : m 67 t = 0) (en : m 68 t = n) (hn : 0 ≤ n ∧ n < 150) (hk : m 52 n = 6) (eb : m 54 n = b) (ec : m 55 n = c) :
    ∃ m', (LM m m' t (t + 3) ∧ m' 67 t = 2 ∧ m' 68 t = n ∧ m' 67 (t + 1) = 0 ∧ m' 68 (t + 1) = c ∧ m' 67 (t + 2) = 0 ∧ m' 68 (t + 2) = b) ∧ goM f m m' := by
  refine up_LM ?_ (fun x => v_6o (f := f) (m := mx' x m) et ht ew en hn hk eb ec)
  intro m1 m2 h1 h2 j ja jb
  (have hj : j = t ∨ j = t + 1 ∨ j = t + 2 ∨ j = t + 3 ∨ j = t + 4 ∨ j = t + 5 := (by (try split at jb) <;> omega); rcases hj with rfl | rfl | rfl | rfl | rfl | rfl <;> first | (exfalso; (try split at jb) <;> omega) | (simp [h1, h2]; done) | (by_cases q : b < 0 <;> simp [h1, h2, q]; done) | (by_cases q : b < 0; (exfalso; simp [q] at jb; omega); have q0 : 0 ≤ b := (by omega); simp [h1, h2, q0]))
theorem v_17 (et : m 45 27 = t + 1) (ht : 0 ≤ t ∧ t < 1190) (ew : m 67 t = 0) (en : m 68 t = n) (hn : 0 ≤ n ∧ n < 150) (hk : m 52 n = 17) (ea : m 53 n = a) (eb : m 54 n = b) :
    ∃ m', (LM m m' t (t + 3) ∧ m' 67 t = 0 ∧ m' 68 t = b ∧ m' 67 (t + 1) = 2 ∧ m' 68 (t + 1) = n ∧ m' 67 (t + 2) = 0 ∧ m' 68 (t + 2) = a) ∧ goM f m m' := by
  refine up_LM ?_ (fun x => v_17o (f := f) (m := mx' x m) et ht ew en hn hk ea eb)
  intro m1 m2 h1 h2 j ja jb
  (have hj : j = t ∨ j = t + 1 ∨ j = t + 2 ∨ j = t + 3 ∨ j = t + 4 ∨ j = t + 5 := (by (try split at jb) <;> omega); rcases hj with rfl | rfl | rfl | rfl | rfl | rfl <;> first | (exfalso; (try split at jb) <;> omega) | (simp [h1, h2]; done) | (by_cases q : b < 0 <;> simp [h1, h2, q]; done) | (by_cases q : b < 0; (exfalso; simp [q] at jb; omega); have q0 : 0 ≤ b := (by omega); simp [h1, h2, q0]))
theorem v_10 (et : m 45 27 = t + 1) (ht : 0 ≤ t ∧ t < 1190) (ew : m 67 t = 0) (en : m 68 t = n) (hn : 0 ≤ n ∧ n < 150) (hk : m 52 n = 10) (ea : m 53 n = a) (eb : m 54 n = b) (ec : m 55 n = c) :
    ∃ m', (LM m m' t (t + 6) ∧ m' 67 t = 4 ∧ m' 68 t = n ∧ m' 67 (t + 1) = 0 ∧ m' 68 (t + 1) = c ∧ m' 67 (t + 2) = 3 ∧ m' 68 (t + 2) = n ∧ m' 67 (t + 3) = 0 ∧ m' 68 (t + 3) = b ∧ m' 67 (t + 4) = 2 ∧ m' 68 (t + 4) = n ∧ m' 67 (t + 5) = 0 ∧ m' 68 (t + 5) = a) ∧ goM f m m' := by
  refine up_LM ?_ (fun x => v_10o (f := f) (m := mx' x m) et ht ew en hn hk ea eb ec)
  intro m1 m2 h1 h2 j ja jb
  (have hj : j = t ∨ j = t + 1 ∨ j = t + 2 ∨ j = t + 3 ∨ j = t + 4 ∨ j = t + 5 := (by (try split at jb) <;> omega); rcases hj with rfl | rfl | rfl | rfl | rfl | rfl <;> first | (exfalso; (try split at jb) <;> omega) | (simp [h1, h2]; done) | (by_cases q : b < 0 <;> simp [h1, h2, q]; done) | (by_cases q : b < 0; (exfalso; simp [q] at jb; omega); have q0 : 0 ≤ b := (by omega); simp [h1, h2, q0]))
theorem v_11 (et : m 45 27 = t + 1) (ht : 0 ≤ t ∧ t < 1190) (ew : m 67 t = 0) (en : m 68 t = n) (hn : 0 ≤ n ∧ n < 150) (hk : m 52 n = 11) (eb : m 54 n = b) (ec : m 55 n = c) :
    ∃ m', (LM m m' t (t + 4) ∧ m' 67 t = 4 ∧ m' 68 t = n ∧ m' 67 (t + 1) = 0 ∧ m' 68 (t + 1) = c ∧ m' 67 (t + 2) = 2 ∧ m' 68 (t + 2) = n ∧ m' 67 (t + 3) = 0 ∧ m' 68 (t + 3) = b) ∧ goM f m m' := by
  refine up_LM ?_ (fun x => v_11o (f := f) (m := mx' x m) et ht ew en hn hk eb ec)
  intro m1 m2 h1 h2 j ja jb
  (have hj : j = t ∨ j = t + 1 ∨ j = t + 2 ∨ j = t + 3 ∨ j = t + 4 ∨ j = t + 5 := (by (try split at jb) <;> omega); rcases hj with rfl | rfl | rfl | rfl | rfl | rfl <;> first | (exfalso; (try split at jb) <;> omega) | (simp [h1, h2]; done) | (by_cases q : b < 0 <;> simp [h1, h2, q]; done) | (by_cases q : b < 0; (exfalso; simp [q] at jb; omega); have q0 : 0 ≤ b := (by omega); simp [h1, h2, q0]))
theorem v_12 (et : m 45 27 = t + 1) (ht : 0 ≤ t ∧ t < 1190) (ew : m 67 t = 0) (en : m 68 t = n) (hn : 0 ≤ n ∧ n < 150) (hk : m 52 n = 12) (eb : m 54 n = b) (hb : -1 ≤ b ∧ b < 150) :
    ∃ m', (LM m m' t (if b < 0 then t + 1 else t + 2) ∧ m' 67 t = 2 ∧ m' 68 t = n ∧ (0 ≤ b → m' 67 (t + 1) = 1 ∧ m' 68 (t + 1) = b)) ∧ goM f m m' := by
  refine up_LM ?_ (fun x => v_12o (f := f) (m := mx' x m) et ht ew en hn hk eb hb)
  intro m1 m2 h1 h2 j ja jb
  by_cases q : b < 0
  · rw [if_pos q] at jb
    obtain rfl : j = t := by omega
    rw [h1.1, h2.1, h1.2.1, h2.2.1]; exact ⟨rfl, rfl⟩
  · rw [if_neg q] at jb
    have hj : j = t ∨ j = t + 1 := by omega
    rcases hj with rfl | rfl
    · rw [h1.1, h2.1, h1.2.1, h2.2.1]; exact ⟨rfl, rfl⟩
    · rw [(h1.2.2 (by omega)).1, (h2.2.2 (by omega)).1, (h1.2.2 (by omega)).2, (h2.2.2 (by omega)).2]; exact ⟨rfl, rfl⟩
theorem v_13 (et : m 45 27 = t + 1) (ht : 0 ≤ t ∧ t < 1190) (ew : m 67 t = 1) (en : m 68 t = n) (hn : 0 ≤ n ∧ n < 150) (ea : m 53 n = a) (eb : m 54 n = b) (hb : -1 ≤ b ∧ b < 150) :
    ∃ m', (LM m m' t (if b < 0 then t + 1 else t + 2) ∧ (b < 0 → m' 67 t = 0 ∧ m' 68 t = a) ∧ (0 ≤ b → m' 67 t = 1 ∧ m' 68 t = b ∧ m' 67 (t + 1) = 0 ∧ m' 68 (t + 1) = a)) ∧ goM f m m' := by
  refine up_LM ?_ (fun x => v_13o (f := f) (m := mx' x m) et ht ew en hn ea eb hb)
  intro m1 m2 h1 h2 j ja jb
  by_cases q : b < 0
  · rw [if_pos q] at jb
    obtain rfl : j = t := by omega
    rw [(h1.1 q).1, (h2.1 q).1, (h1.1 q).2, (h2.1 q).2]; exact ⟨rfl, rfl⟩
  · rw [if_neg q] at jb
    obtain ⟨r1, r2, r3, r4⟩ := h1.2 (by omega)
    obtain ⟨r5, r6, r7, r8⟩ := h2.2 (by omega)
    have hj : j = t ∨ j = t + 1 := by omega
    rcases hj with rfl | rfl
    · rw [r1, r2, r5, r6]; exact ⟨rfl, rfl⟩
    · rw [r3, r4, r7, r8]; exact ⟨rfl, rfl⟩
theorem b_sum (et : m 45 27 = t + 1) (ht : 0 ≤ t ∧ t < 1200) (ew : m 67 t = 2) (en : m 68 t = n) (hn : 0 ≤ n ∧ n < 150) (hk : m 52 n = K) (hK : K = 3 ∨ K = 4 ∨ K = 5) (eN : m 45 16 = N) (eH : m 45 30 = H) (e1 : m 69 (H - 1) = t1) (e2 : m 69 (H - 2) = t2) (r1 : tI t1) (r2 : tI t2) (hN : 0 ≤ N ∧ N < 400) (hH : 2 ≤ H ∧ H < 40) (eJ : m 45 36 = J) (hJ : J = 0 ∨ J = 1) :
    ∃ m', EM (zu m 45 27 t) m' N K 0 0 0 0 (H - 1) 0 0 (m 70 0) (if t2 = 0 ∧ t1 = 0 then J else 1) ∧ goM f m m' := by
  refine up_EM (B := fun m => zu m 45 27 t) (fun x => ?_) (fun x => b_sumo (f := f) (m := mx' x m) et ht ew en hn hk hK eN eH e1 e2 r1 r2 hN hH eJ hJ)
  simp only [mx_zu (k := 45) (by decide), mx_zu (k := 59) (by decide), mx_zu (k := 71) (by decide), mx_zu (k := 72) (by decide)]
theorem b_6 (et : m 45 27 = t + 1) (ht : 0 ≤ t ∧ t < 1200) (ew : m 67 t = 2) (en : m 68 t = n) (hn : 0 ≤ n ∧ n < 150) (hk : m 52 n = 6) (ea : m 53 n = a) (ha : 0 ≤ a ∧ a < 8) (eN : m 45 16 = N) (eH : m 45 30 = H) (e1 : m 69 (H - 1) = t1) (e2 : m 69 (H - 2) = t2) (hr : ∀ k, 0 ≤ k → k < H → tI (m 69 k)) (hl : ∀ k, 0 ≤ k → k < 8 → -1 ≤ m 70 k ∧ m 70 k ≤ 7) (r4 : tI (m 46 a)) (r5 : tI (m 47 a)) (hN : 0 ≤ N ∧ N < 400) (hH : 2 ≤ H ∧ H ≤ 16) (eJ : m 45 36 = J) (hJ : J = 0 ∨ J = 1) :
    ∃ m', EM (zu m 45 27 t) m' N 6 a 2 (bm (m 70) 8) (bm (m 69) H.toNat) (H - 1) a 0 (m 70 0) (if t2 = m 46 a ∧ t1 = m 47 a then J else 1) ∧ goM f m m' := by
  refine up_EM (B := fun m => zu m 45 27 t) (fun x => ?_) (fun x => b_6o (f := f) (m := mx' x m) et ht ew en hn hk ea ha eN eH e1 e2 hr hl r4 r5 hN hH eJ hJ)
  simp only [mx_zu (k := 45) (by decide), mx_zu (k := 59) (by decide), mx_zu (k := 71) (by decide), mx_zu (k := 72) (by decide)]
theorem b_put (et : m 45 27 = t + 1) (ht : 0 ≤ t ∧ t < 1200) (ew : m 67 t = 2) (en : m 68 t = n) (hn : 0 ≤ n ∧ n < 150) (hk : m 52 n = K) (hK : K = 14 ∨ K = 15) (eN : m 45 16 = N) (eH : m 45 30 = H) (e1 : m 69 (H - 1) = t1) (e2 : m 69 (H - 2) = t2) (r1 : tI t1) (r2 : tI t2) (r4 : tI (m 46 t2)) (r5 : tI (m 47 t2)) (hN : 0 ≤ N ∧ N < 400) (hH : 2 ≤ H ∧ H ≤ 16) (eJ : m 45 36 = J) (hJ : J = 0 ∨ J = 1) :
    ∃ m', EM (zu m 45 27 t) m' N (K + 1) 0 0 0 0 (H - 1) t1 0 (m 70 0) (if 0 < t2 ∧ t1 = (if K = 14 then m 46 t2 else m 47 t2) then J else 1) ∧ goM f m m' := by
  refine up_EM (B := fun m => zu m 45 27 t) (fun x => ?_) (fun x => b_puto (f := f) (m := mx' x m) et ht ew en hn hk hK eN eH e1 e2 r1 r2 r4 r5 hN hH eJ hJ)
  simp only [mx_zu (k := 45) (by decide), mx_zu (k := 59) (by decide), mx_zu (k := 71) (by decide), mx_zu (k := 72) (by decide)]
theorem b_17 (et : m 45 27 = t + 1) (ht : 0 ≤ t ∧ t < 1200) (ew : m 67 t = 2) (en : m 68 t = n) (hn : 0 ≤ n ∧ n < 150) (hk : m 52 n = 17) (eN : m 45 16 = N) (eH : m 45 30 = H) (hN : 0 ≤ N ∧ N < 400) (hH : 1 ≤ H ∧ H ≤ 16) (eJ : m 45 36 = J) :
    ∃ m', EM (zu m 45 27 t) m' N 18 0 0 0 0 (H - 1) (m 69 (H - 1 - 1)) 0 (m 70 0) J ∧ goM f m m' := by
  refine up_EM (B := fun m => zu m 45 27 t) (fun x => ?_) (fun x => b_17o (f := f) (m := mx' x m) et ht ew en hn hk eN eH hN hH eJ)
  simp only [mx_zu (k := 45) (by decide), mx_zu (k := 59) (by decide), mx_zu (k := 71) (by decide), mx_zu (k := 72) (by decide)]
theorem b_16 (et : m 45 27 = t + 1) (ht : 0 ≤ t ∧ t < 1200) (ew : m 67 t = 2) (en : m 68 t = n) (hn : 0 ≤ n ∧ n < 150) (hk : m 52 n = 16) (eN : m 45 16 = N) (eH : m 45 30 = H) (e1 : m 69 (H - 1) = t1) (r1 : tI t1) (hN : 0 ≤ N ∧ N < 400) (hH : 1 ≤ H ∧ H ≤ 16) (eJ : m 45 36 = J) (hJ : J = 0 ∨ J = 1) :
    ∃ m', EM (zu m 45 27 t) m' N 17 0 0 0 0 H 0 0 (m 70 0) (if t1 = 0 then J else 1) ∧ goM f m m' := by
  refine up_EM (B := fun m => zu m 45 27 t) (fun x => ?_) (fun x => b_16o (f := f) (m := mx' x m) et ht ew en hn hk eN eH e1 r1 hN hH eJ hJ)
  simp only [mx_zu (k := 45) (by decide), mx_zu (k := 59) (by decide), mx_zu (k := 71) (by decide), mx_zu (k := 72) (by decide)]
theorem b_one (et : m 45 27 = t + 1) (ht : 0 ≤ t ∧ t < 1200) (ew : m 67 t = 2) (en : m 68 t = n) (hn : 0 ≤ n ∧ n < 150) (hk : m 52 n = K) (hK : K = 7 ∨ K = 8 ∨ K = 9) (eN : m 45 16 = N) (eH : m 45 30 = H) (e1 : m 69 (H - 1) = t1) (r1 : tI t1) (hN : 0 ≤ N ∧ N < 400) (hH : 1 ≤ H ∧ H ≤ 16) (eJ : m 45 36 = J) (hJ : J = 0 ∨ J = 1) :
    ∃ m', EM (zu m 45 27 t) m' N K 0 0 0 0 H (if K = 9 then 0 else if K = 7 then m 46 t1 else m 47 t1) 0 (m 70 0) (if 0 < t1 then J else 1) ∧ goM f m m' := by
  refine up_EM (B := fun m => zu m 45 27 t) (fun x => ?_) (fun x => b_oneo (f := f) (m := mx' x m) et ht ew en hn hk hK eN eH e1 r1 hN hH eJ hJ)
  simp only [mx_zu (k := 45) (by decide), mx_zu (k := 59) (by decide), mx_zu (k := 71) (by decide), mx_zu (k := 72) (by decide)]
theorem b_10 (et : m 45 27 = t + 1) (ht : 0 ≤ t ∧ t < 1200) (ew : m 67 t = 2) (en : m 68 t = n) (hn : 0 ≤ n ∧ n < 150) (hk : m 52 n = 10) (eN : m 45 16 = N) (eH : m 45 30 = H) (e1 : m 69 (H - 1) = t1) (r1 : tI t1) (hN : 0 ≤ N ∧ N < 400) (hH : 1 ≤ H ∧ H ≤ 16) (eW : m 45 33 = W) (hW : 0 ≤ W ∧ W < 160) (eJ : m 45 36 = J) (hJ : J = 0 ∨ J = 1) :
    ∃ m', EM (zu (zu (zu m 45 27 t) 71 W N) 45 33 (W + 1)) m' N 10 0 0 0 0 (H - 1) (m 69 (H - 1 - 1)) 0 (m 70 0) (if t1 = 0 then J else 1) ∧ goM f m m' := by
  refine up_EM (B := fun m => zu (zu (zu m 45 27 t) 71 W N) 45 33 (W + 1)) (fun x => ?_) (fun x => b_10o (f := f) (m := mx' x m) et ht ew en hn hk eN eH e1 r1 hN hH eW hW eJ hJ)
  simp only [mx_zu (k := 45) (by decide), mx_zu (k := 59) (by decide), mx_zu (k := 71) (by decide), mx_zu (k := 72) (by decide)]
theorem b_3 (et : m 45 27 = t + 1) (ht : 0 ≤ t ∧ t < 1200) (ew : m 67 t = 3) (en : m 68 t = n) (eN : m 45 16 = N) (eH : m 45 30 = H) (e1 : m 69 (H - 1) = t1) (hN : 0 ≤ N ∧ N < 400) (hH : 1 ≤ H ∧ H ≤ 16) (eW : m 45 33 = W + 1) (hW : 0 ≤ W ∧ W < 160) (ep : m 71 W = wp) (hp : 0 ≤ wp ∧ wp < N) (eJ : m 45 36 = J) :
    ∃ m', EM (zu (zu (zu (zu m 45 27 t) 59 wp (N + 1)) 71 W N) 72 W t1) m' N 11 0 0 0 0 (H - 1) (m 69 (H - 1 - 1)) 0 (m 70 0) J ∧ goM f m m' := by
  refine up_EM (B := fun m => zu (zu (zu (zu m 45 27 t) 59 wp (N + 1)) 71 W N) 72 W t1) (fun x => ?_) (fun x => b_3o (f := f) (m := mx' x m) et ht ew en eN eH e1 hN hH eW hW ep hp eJ)
  simp only [mx_zu (k := 45) (by decide), mx_zu (k := 59) (by decide), mx_zu (k := 71) (by decide), mx_zu (k := 72) (by decide)]
theorem b_4 (et : m 45 27 = t + 1) (ht : 0 ≤ t ∧ t < 1200) (ew : m 67 t = 4) (en : m 68 t = n) (hn : 0 ≤ n ∧ n < 150) (hk : m 52 n = 10) (eN : m 45 16 = N) (eH : m 45 30 = H) (e1 : m 69 (H - 1) = t1) (r1 : tI t1) (hN : 0 ≤ N ∧ N ≤ 400) (hH : 1 ≤ H ∧ H ≤ 16) (eW : m 45 33 = W + 1) (hW : 0 ≤ W ∧ W < 160) (ep : m 71 W = wp) (hp : 0 ≤ wp ∧ wp < N) (e2 : m 72 W = t2) (r2 : tI t2) (eJ : m 45 36 = J) (hJ : J = 0 ∨ J = 1) :
    goM f m (zu (zu (zu (zu m 45 27 t) 45 33 W) 59 wp N) 45 36 (if t1 = t2 then J else 1)) := by
  intro x
  have h := b_4o (f := f) (m := mx' x m) et ht ew en hn hk eN eH e1 r1 hN hH eW hW ep hp e2 r2 eJ hJ
  simp only [mx_zu (k := 45) (by decide), mx_zu (k := 59) (by decide), mx_zu (k := 70) (by decide)] at h
  exact h
theorem b_11 (et : m 45 27 = t + 1) (ht : 0 ≤ t ∧ t < 1200) (ew : m 67 t = 2) (en : m 68 t = n) (hn : 0 ≤ n ∧ n < 150) (hk : m 52 n = 11) (ea : m 53 n = a) (ha : 0 ≤ a ∧ a < 8) (eN : m 45 16 = N) (eH : m 45 30 = H) (e1 : m 69 (H - 1) = t1) (e2 : m 70 a = t2) (r2 : -1 ≤ t2 ∧ t2 ≤ 7) (hN : 0 ≤ N ∧ N < 400) (hH : 1 ≤ H ∧ H ≤ 16) (eJ : m 45 36 = J) (hJ : J = 0 ∨ J = 1) :
    ∃ m', EM (zu m 45 27 t) m' N 12 a 0 0 0 (H - 1) (m 69 (H - 1 - 1)) a t1 (if t2 < 0 then J else 1) ∧ goM f m m' := by
  refine up_EM (B := fun m => zu m 45 27 t) (fun x => ?_) (fun x => b_11o (f := f) (m := mx' x m) et ht ew en hn hk ea ha eN eH e1 e2 r2 hN hH eJ hJ)
  simp only [mx_zu (k := 45) (by decide), mx_zu (k := 59) (by decide), mx_zu (k := 71) (by decide), mx_zu (k := 72) (by decide)]
theorem b_5 (et : m 45 27 = t + 1) (ht : 0 ≤ t ∧ t < 1200) (ew : m 67 t = 4) (en : m 68 t = n) (hn : 0 ≤ n ∧ n < 150) (hk : m 52 n = 11) (ea : m 53 n = a) (ha : 0 ≤ a ∧ a < 8) :
    goM f m (zu (zu m 45 27 t) 70 a (-1)) := by
  intro x
  have h := b_5o (f := f) (m := mx' x m) et ht ew en hn hk ea ha
  simp only [mx_zu (k := 45) (by decide), mx_zu (k := 59) (by decide), mx_zu (k := 70) (by decide)] at h
  exact h
theorem b_12 {c : Nat} (et : m 45 27 = t + 1) (ht : 0 ≤ t ∧ t < 1200) (ew : m 67 t = 2) (en : m 68 t = n) (hn : 0 ≤ n ∧ n < 150) (hk : m 52 n = 12) (ea : m 53 n = a) (ha : 0 ≤ a ∧ a < 6) (eN : m 45 16 = N) (eH : m 45 30 = H) (hr : ∀ k, 0 ≤ k → k < H → tI (m 69 k)) (hl : ∀ k, 0 ≤ k → k < 8 → -1 ≤ m 70 k ∧ m 70 k ≤ 7) (hN : 0 ≤ N ∧ N < 400) (hH : 0 ≤ H - c ∧ H ≤ 16)
    (hA : AR (m 54) c (m 54 n)) (h1 : -2147483648 ≤ m 51 a ∧ m 51 a ≤ 2147483647) (h9 : 0 ≤ m 49 a ∧ m 49 a ≤ 3) (hp : ∀ k, 0 ≤ k → k < 3 → -2147483648 ≤ m 50 (3 * a + k) ∧ m 50 (3 * a + k) ≤ 2147483647) (eJ : m 45 36 = J) (hJ : J = 0 ∨ J = 1) :
    ∃ m' J', (J' = 0 ∨ J' = 1) ∧ (J' = 0 ↔ J = 0 ∧ (0 ≤ m 51 a ∧ (c : Int) = m 49 a) ∧ ∀ k : Int, 0 ≤ k → k < c → k ≤ 2 → m 69 (H - c + k) = m 50 (3 * a + k)) ∧
      EM (zu m 45 27 t) m' N 13 a c (bm (m 70) 8) (bm (m 69) H.toNat) (H - c + 1) (m 48 a) 0 (m 70 0) J' ∧ goM f m m' := by
  obtain ⟨m', J', j1, j2, e, -⟩ := b_12o (c := c) (f := f) et ht ew en hn hk ea ha eN eH hr hl hN hH hA h1 h9 hp eJ hJ
  refine ⟨m', J', j1, j2, e, fun x => ?_⟩
  obtain ⟨m2, J2, k1, k2, e2, g2⟩ := b_12o (c := c) (f := f) (m := mx' x m) et ht ew en hn hk ea ha eN eH hr hl hN hH hA h1 h9 hp eJ hJ
  have : J2 = J' := by
    rcases j1 with j1 | j1
    · rw [j1]; exact k2.mpr (j2.mp j1)
    · rcases k1 with k1 | k1
      · exact absurd (j2.mpr (k2.mp k1)) (by omega)
      · omega
  subst this
  rw [mx_zu (by decide)] at e2
  rw [← EM.uq e e2]
  exact g2
end
