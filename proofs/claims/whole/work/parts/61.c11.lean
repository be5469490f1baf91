section
variable {m : zS} {n f t N H J W a b t1 t2 K wp : Int} {X : zX} {Q : Int → zS → Prop}
theorem p_120l (ha : 0 ≤ a ∧ a < 6) (h1 : -2147483648 ≤ m 51 a ∧ m 51 a ≤ 2147483647) (h9 : 0 ≤ m 49 a ∧ m 49 a ≤ 3) (c : Nat) : ∀ (x y : Int), AR (m 54) c x → 0 ≤ y → y + c ≤ 1000 →
    (∀ J', (J' = 1 ∧ 0 ≤ m 51 a ∧ y + c = m 49 a ∨ J' = 0 ∧ ¬ (0 ≤ m 51 a ∧ y + c = m 49 a)) → w_120_62 X a (y + c) J' m Q) → w_120_17 X a y x m Q := by
  induction c with
  | zero =>
    intro x y hA hy hc k
    simp only [AR] at hA
    simp only [show y + ((0 : Nat) : Int) = y by omega] at k
    exact w_120_17_i ⟨by omega, fun _ => ⟨ha, h1, fun q => w_120_61_i (k 0 (by omega)), fun q => ⟨ha, by omega, fun q' => w_120_61_i (k 0 (by omega)), fun q' => k 1 (by omega)⟩⟩, fun q => by omega⟩
  | succ c ih =>
    intro x y hA hy hc k
    simp only [AR] at hA
    refine w_120_17_i ⟨by omega, fun q => by omega, fun q => ⟨by omega, ih _ _ hA.2.2 (by omega) (by omega) ?_⟩⟩
    rw [show y + 1 + (c : Int) = y + ((c + 1 : Nat) : Int) by omega]
    exact k
-- the loop over the arguments' types
theorem p_120p {B : Int} (hf : 0 ≤ a ∧ a < 6) (i : Nat) : ∀ (J : Int), (J = 0 ∨ J = 1) → 0 ≤ B → B + i ≤ 16 → (∀ k, 0 ≤ k → k < B + i → tI (m 69 k)) → (∀ k, 0 ≤ k → k < 3 → -2147483648 ≤ m 50 (3 * a + k) ∧ m 50 (3 * a + k) ≤ 2147483647) →
    ∃ J', (J' = 0 ∨ J' = 1) ∧ (J' = 0 ↔ J = 0 ∧ ∀ k : Int, 0 ≤ k → k < i → k ≤ 2 → m 69 (B + k) = m 50 (3 * a + k)) ∧
      ∀ (X : zX) (Q : Int → zS → Prop), Q 0 (zu (zu (zu (zu m 45 36 J') 45 30 B) 69 B (m 48 a)) 45 30 (B + 1)) → w_120_78 X a (i - 1) (zu (zu m 45 36 J) 45 30 (B + i)) (fun _ s => Q 0 s) := by
  induction i with
  | zero =>
    intro J hJ hB hi hr hp
    refine ⟨J, hJ, ⟨fun h => ⟨h, fun k a b => by omega⟩, fun h => h.1⟩, fun X Q k => ?_⟩
    have e : zu (zu m 45 36 J) 45 30 (B + ((0 : Nat) : Int)) = zu (zu m 45 36 J) 45 30 B := by rw [show B + ((0 : Nat) : Int) = B by omega]
    rw [e]
    refine w_120_78_i ⟨by omega, fun _ => ⟨hf, ?_⟩, fun q => by omega⟩
    rw [zu_g (by decide), zu_g (by decide)]
    exact p_117 B (by simp [zu, *]) (by omega) k
  | succ i ih =>
    intro J hJ hB hi hr hp
    have e0 : ((i + 1 : Nat) : Int) - 1 = i := by omega
    have hr1 := hr (B + i) (by omega) (by omega)
    unfold tI at hr1
    have e1 : B + ((i + 1 : Nat) : Int) - 1 = B + i := by omega
    -- the flag behind this one
    by_cases q : (2 : Int) < i ∨ m 69 (B + i) = m 50 (3 * a + i)
    · obtain ⟨J', h1, h2, h3⟩ := ih J hJ hB (by omega) (fun k a b => hr k a (by omega)) hp
      refine ⟨J', h1, ?_, fun X Q k => ?_⟩
      · rw [h2]
        refine ⟨fun h => ⟨h.1, fun k a b c => if hk : k = i then by rw [hk]; omega else h.2 k a (by omega) c⟩, fun h => ⟨h.1, fun k a b c => h.2 k a (by omega) c⟩⟩
      · rw [e0]
        have g := h3 X Q k
        have key : w_120_117 X a i 1 (zu (zu (zu m 45 36 J) 45 30 (B + ((i + 1 : Nat) : Int))) 45 30 (B + ((i + 1 : Nat) : Int) - 1)) (fun _ s => Q 0 s) := by
          apply w_120_117_i
          apply p_118 J (by simp [zu, *]) hJ (by simp)
          rw [if_pos rfl, e1, zu_zu, zu_id (by simp [zu]), show (i : Int) + -1 = i - 1 by omega]
          exact g
        refine w_120_78_i ⟨by omega, fun q => by omega, fun _ => p_122 (B + ((i + 1 : Nat) : Int)) (m 69 (B + i)) (by simp [zu, *]) (by rw [e1]; simp [zu]) (by omega) ⟨by omega, fun _ => w_120_112_i key, fun q' => ⟨by omega, ?_⟩⟩⟩
        have hp1 := hp i (by omega) (by omega)
        have z1 : zu (zu (zu m 45 36 J) 45 30 (B + ((i + 1 : Nat) : Int))) 45 30 (B + ((i + 1 : Nat) : Int) - 1) 50 (3 * a + i) = m 50 (3 * a + i) := by simp [zu]
        rw [z1]
        exact ⟨by omega, fun q'' => by omega, fun _ => w_120_112_i key⟩
    · obtain ⟨J', h1, h2, h3⟩ := ih 1 (by omega) hB (by omega) (fun k a b => hr k a (by omega)) hp
      refine ⟨J', h1, ?_, fun X Q k => ?_⟩
      · rw [h2]
        refine ⟨fun h => by omega, fun h => absurd (h.2 i (by omega) (by omega) (by omega)) (by omega)⟩
      · rw [e0]
        have g := h3 X Q k
        have key : w_120_117 X a i 0 (zu (zu (zu m 45 36 J) 45 30 (B + ((i + 1 : Nat) : Int))) 45 30 (B + ((i + 1 : Nat) : Int) - 1)) (fun _ s => Q 0 s) := by
          apply w_120_117_i
          apply p_118 J (by simp [zu, *]) hJ (by simp)
          rw [if_neg (by omega), e1, zu_zu, show (i : Int) + -1 = i - 1 by omega]
          have e : zu (zu (zu m 45 36 J) 45 30 (B + i)) 45 36 1 = zu (zu m 45 36 1) 45 30 (B + i) := by
            funext x y; simp only [zu]; repeat' split
            all_goals first | rfl | omega
          rw [e]
          exact g
        refine w_120_78_i ⟨by omega, fun q => by omega, fun _ => p_122 (B + ((i + 1 : Nat) : Int)) (m 69 (B + i)) (by simp [zu, *]) (by rw [e1]; simp [zu]) (by omega) ⟨by omega, fun q' => by omega, fun q' => ⟨by omega, ?_⟩⟩⟩
        have hp1 := hp i (by omega) (by omega)
        have z1 : zu (zu (zu m 45 36 J) 45 30 (B + ((i + 1 : Nat) : Int))) 45 30 (B + ((i + 1 : Nat) : Int) - 1) 50 (3 * a + i) = m 50 (3 * a + i) := by simp [zu]
        rw [z1]
        exact ⟨by omega, fun _ => key, fun q'' => by omega⟩
theorem b_12 {c : Nat} (et : m 45 27 = t + 1) (ht : 0 ≤ t ∧ t < 1200) (ew : m 67 t = 2) (en : m 68 t = n) (hn : 0 ≤ n ∧ n < 150) (hk : m 52 n = 12) (ea : m 53 n = a) (ha : 0 ≤ a ∧ a < 6) (eN : m 45 16 = N) (eH : m 45 30 = H) (hr : ∀ k, 0 ≤ k → k < H → tI (m 69 k)) (hl : ∀ k, 0 ≤ k → k < 8 → -1 ≤ m 70 k ∧ m 70 k ≤ 7) (hN : 0 ≤ N ∧ N < 400) (hH : 0 ≤ H - c ∧ H ≤ 16)
    (hA : AR (m 54) c (m 54 n)) (h1 : -2147483648 ≤ m 51 a ∧ m 51 a ≤ 2147483647) (h9 : 0 ≤ m 49 a ∧ m 49 a ≤ 3) (hp : ∀ k, 0 ≤ k → k < 3 → -2147483648 ≤ m 50 (3 * a + k) ∧ m 50 (3 * a + k) ≤ 2147483647) (eJ : m 45 36 = J) (hJ : J = 0 ∨ J = 1) :
    ∃ m' J', (J' = 0 ∨ J' = 1) ∧ (J' = 0 ↔ J = 0 ∧ (0 ≤ m 51 a ∧ (c : Int) = m 49 a) ∧ ∀ k : Int, 0 ≤ k → k < c → k ≤ 2 → m 69 (H - c + k) = m 50 (3 * a + k)) ∧
      EM (zu m 45 27 t) m' N 13 a c (bm (m 70) 8) (bm (m 69) H.toNat) (H - c + 1) (m 48 a) 0 (m 70 0) J' ∧ goM f m m' := by
  have z9 : zu m 45 27 t 69 = m 69 := zu_f (by decide)
  have z0 : zu m 45 27 t 70 = m 70 := zu_f (by decide)
  have z4 : zu m 45 27 t 54 = m 54 := zu_f (by decide)
  have z3 : zu m 45 27 t 53 = m 53 := zu_f (by decide)
  have z51 : zu m 45 27 t 51 = m 51 := zu_f (by decide)
  have z49 : zu m 45 27 t 49 = m 49 := zu_f (by decide)
  -- the flag behind the first need
  obtain ⟨J0, x0, hJ0, hx0, hJ0'⟩ : ∃ J0 x0 : Int, (J0 = 0 ∨ J0 = 1) ∧ (x0 = 1 ∧ 0 ≤ m 51 a ∧ (c : Int) = m 49 a ∧ J0 = J ∨ x0 = 0 ∧ ¬ (0 ≤ m 51 a ∧ (c : Int) = m 49 a) ∧ J0 = 1) ∧ J0 = (if x0 = 1 then J else 1) := by
    by_cases q : 0 ≤ m 51 a ∧ (c : Int) = m 49 a
    · exact ⟨J, 1, hJ, Or.inl ⟨rfl, q.1, q.2, rfl⟩, by simp⟩
    · exact ⟨1, 0, Or.inr rfl, Or.inr ⟨rfl, q, rfl⟩, by simp⟩
  generalize eu : zu (zu (zu (zu (zu (zu (zu m 45 27 t) 58 N 13) 59 N a) 60 N (c : Int)) 61 N (bm (m 70) 8)) 62 N (bm (m 69) H.toNat)) 45 16 (N + 1) = u
  have u9 : u 69 = m 69 := by rw [← eu]; (repeat rw [zu_f (by decide)])
  have u50 : u 50 = m 50 := by rw [← eu]; (repeat rw [zu_f (by decide)])
  have u48 : u 48 = m 48 := by rw [← eu]; (repeat rw [zu_f (by decide)])
  obtain ⟨J', g1, g2, g3⟩ := p_120p (m := u) (B := H - c) (a := a) ha c J0 hJ0 hH.1 (by omega) (by rw [u9]; intro k a b; exact hr k a (by omega)) (by rw [u50]; exact hp)
  refine ⟨zu (zu (zu (zu u 45 36 J') 45 30 (H - c)) 69 (H - c) (u 48 a)) 45 30 (H - c + 1), J', g1, ?_, ?_, gm_go et ht ew en (Or.inr (Or.inl ⟨rfl, fun X Q k => ?_⟩))⟩
  · rw [g2, u9, u50]
    constructor
    · intro h
      exact ⟨by omega, by omega, h.2⟩
    · intro h
      exact ⟨by omega, h.2.2⟩
  rotate_left
  · apply w_119_i; apply And.intro hn; rw [zu_g (by decide), hk]
    refine ⟨by omega, fun q => by omega, fun _ => ?_⟩
    apply w_120_i; rw [z3, z4, ea]
    refine ⟨hn, hn, p_120l (m := zu m 45 27 t) ha (by rw [z51]; exact h1) (by rw [z49]; exact h9) c _ _ (by rw [z4]; exact hA) (by omega) (by omega) ?_⟩
    rw [z51, z49, show (0 : Int) + c = c by omega]
    intro x hx
    apply w_120_62_i
    apply p_118 J (by simp [zu, *]) hJ (by omega)
    rw [show (if x = 1 then J else 1) = J0 by rw [hJ0', show x = x0 by omega]]
    refine p_121 (N := N) (H := H) (by simp [zu, *]) (by simp [zu, *]) (by omega) hN ?_ ?_ ?_
    · rw [zu_f (by decide), z9]; exact hr
    · rw [zu_f (by decide), z0]; exact hl
    · rw [zu_f (k := 69) (by decide), zu_f (k := 70) (by decide), z9, z0]
      have e : zu (zu (zu (zu (zu (zu (zu (zu m 45 27 t) 45 36 J0) 58 N 13) 59 N a) 60 N (c : Int)) 61 N (bm (m 70) 8)) 62 N (bm (m 69) H.toNat)) 45 16 (N + 1) = zu (zu u 45 36 J0) 45 30 (H - c + c) := by
        rw [← eu, show H - c + c = H by omega]
        funext x y; simp only [zu]; repeat' split
        all_goals first | rfl | omega | (rename_i q; rw [q.1, q.2]; exact eH)
      rw [e]
      exact g3 X Q k
  · rw [u48, ← eu]
    (refine ⟨fun j => ?_, fun j => ?_, fun j => ?_, fun j => ?_, fun j => ?_, ?_, ?_, ?_, fun j h1 h2 h3 => ?_, fun k => ?_, fun k => ?_, fun k hk => by (repeat rw [zu_f (by omega)])⟩ <;> (first | (simp [zu]; done) | ((repeat rw [zu_g (by decide)]); exact ife) | (simp [zu]; (repeat' split) <;> omega)))
end
