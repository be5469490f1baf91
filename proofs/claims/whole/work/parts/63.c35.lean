def mx (z : zS) : Nat → Int
  | 0 => 0
  | k + 1 => if z 9 k = -1 then mx z k else max (mx z k) (z 13 (z 9 k))
def sq (m z : zS) : Nat → Int
  | 0 => 0
  | k + 1 => sq m z k + (if z 9 k = -1 then 0 else m 56 (z 9 k) + 1)
section
variable {s m z : zS} {N n f : Int} {X : zX} {Q : Int → zS → Prop} {G : Int → Nat → Int → Int}
theorem mx_r (S : Src z) (n : Nat) (h : (n : Int) ≤ z 3 6) : 0 ≤ mx z n ∧ mx z n ≤ 150 := by
  induction n with
  | zero => simp [mx]
  | succ k ih =>
    have ih := ih (by omega)
    simp only [mx]
    obtain ⟨-, -, -, -, -, h9, -⟩ := S.2.2.2.1 k (by omega) (by omega)
    split
    · exact ih
    · have := (S.2.2.2.2.2 (z 9 k) (by omega) (by omega)).2.2.2.2.2.2.2.2.2.2.2.2.2.2.2.2.2.2.2
      have := S.2.1
      omega
theorem mx_le (S : Src z) (d n : Nat) (h : ((n + 1 + d : Nat) : Int) ≤ z 3 6) (hb : 0 ≤ z 9 n) : z 13 (z 9 n) ≤ mx z (n + 1 + d) := by
  induction d with
  | zero =>
    show z 13 (z 9 n) ≤ mx z (n + 1)
    simp only [mx]
    rw [if_neg (by omega)]
    omega
  | succ d ih =>
    have := ih (by omega)
    rw [show n + 1 + (d + 1) = n + 1 + d + 1 by omega]
    simp only [mx]
    split <;> omega
theorem sm_le (S : Src z) (n : Nat) (h : (n : Int) ≤ z 3 6) : sm z n ≤ 402 * n := by
  induction n with
  | zero => simp [sm]
  | succ k ih =>
    have ih := ih (by omega)
    simp only [sm]
    obtain ⟨-, -, -, -, -, h9, -⟩ := S.2.2.2.1 k (by omega) (by omega)
    split
    · omega
    · have := (S.2.2.2.2.2 (z 9 k) (by omega) (by omega)).2.2.2.2.2.2.2.2.2.2.2.2.2.2.2.2.2.2.2
      omega
theorem sq_r (S : Src z) (hk : ∀ x, 0 ≤ x → x < z 3 11 → ms m z x) (n : Nat) (h : (n : Int) ≤ z 3 6) : (0 ≤ sq m z n ∧ sq m z n ≤ 1001 * n) ∧ (sq m z n = sm z n ∨ 400 < sq m z n ∧ 400 < sm z n) := by
  induction n with
  | zero => simp [sq, sm]
  | succ k ih =>
    obtain ⟨ih1, ih2⟩ := ih (by omega)
    have p := sm_pos S k (by omega)
    simp only [sq, sm]
    obtain ⟨-, -, -, -, -, h9, -⟩ := S.2.2.2.1 k (by omega) (by omega)
    by_cases q : z 9 k = -1
    · rw [if_pos q, if_pos q]; exact ⟨by omega, by omega⟩
    · rw [if_neg q, if_neg q]
      obtain ⟨m1, m2, m3⟩ := hk (z 9 k) (by omega) (by omega)
      exact ⟨by omega, by omega⟩
theorem p_45a (S : Src z) (e : ∀ k, 3 ≤ k → k ≤ 13 → s k = z k)
    (g0 : (400 < sm z (z 3 6).toNat ∨ 16 < mx z (z 3 6).toNat) → Q (-2) s) (g1 : ¬ (400 < sm z (z 3 6).toNat ∨ 16 < mx z (z 3 6).toNat) → w_45_95 X (mx z (z 3 6).toNat) 0 s Q) (d : Nat) :
    ∀ f : Nat, ((f + d : Nat) : Int) = z 3 6 → w_45_13 X (sm z f) (mx z f) f s Q := by
  have e3 : s 3 6 = z 3 6 := by rw [e 3 (by omega) (by omega)]
  have S1 := S.1
  induction d with
  | zero =>
    intro f hf
    have r1 := mx_r S f (by omega)
    have r2 := sm_pos S f (by omega)
    have r3 := sm_le S f (by omega)
    have ef : f = (z 3 6).toNat := by omega
    rw [← ef] at g0 g1
    refine w_45_13_i ⟨by omega, fun _ => ⟨by omega, fun q => w_45_90_i (g0 (Or.inl q)), fun q => ⟨by omega, fun q' => g1 (by omega), fun q' => w_45_90_i (g0 (by omega))⟩⟩, fun q => by omega⟩
  | succ d ih =>
    intro f hf
    obtain ⟨-, -, -, -, -, h9, -⟩ := S.2.2.2.1 f (by omega) (by omega)
    have h := ih (f + 1) (by omega)
    simp only [sm, mx] at h
    have r1 := mx_r S f (by omega)
    have S2 := S.2.1
    refine w_45_13_i ⟨by omega, fun q => by omega, fun _ => ⟨by omega, ?_⟩⟩
    rw [e 9 (by omega) (by omega), e 13 (by omega) (by omega), e 12 (by omega) (by omega)]
    refine ⟨by omega, fun q => w_45_71_i ?_, fun q => ⟨by omega, by omega, ?_⟩⟩
    · rw [if_pos q, if_pos q, Int.add_zero] at h
      exact h
    · rw [if_neg q, if_neg q] at h
      have z13 := (S.2.2.2.2.2 (z 9 f) (by omega) (by omega)).2.2.2.2.2.2.2.2.2.2.2.2.2.2.2.2.2.2.2
      exact p_157 (by omega) (by omega) (w_45_71_i h)
theorem p_109b (S : Src z) (e : ∀ k, 46 ≤ k → k ≤ 55 → m k = z k) (e3 : m 45 3 = z 45 3) (hk : ∀ x, 0 ≤ x → x < z 3 11 → ms m z x)
    (g0 : (400 < sm z (z 3 6).toNat ∨ 16 < mx z (z 3 6).toNat) → Q 1 (zu m 45 26 (mx z (z 3 6).toNat))) (g1 : ¬ (400 < sm z (z 3 6).toNat ∨ 16 < mx z (z 3 6).toNat) → Q 0 (zu m 45 26 (mx z (z 3 6).toNat))) (d : Nat) :
    ∀ f : Nat, ((f + d : Nat) : Int) = z 3 6 → w_109_27 X (sq m z f) (mx z f) f m Q := by
  have S1 := S.1
  induction d with
  | zero =>
    intro f hf
    have r1 := mx_r S f (by omega)
    obtain ⟨r2, r3⟩ := sq_r S hk f (by omega)
    have ef : f = (z 3 6).toNat := by omega
    rw [← ef] at g0 g1
    refine w_109_27_i ⟨by omega, fun _ => ?_, fun q => by omega⟩
    rintro _ rfl
    exact ⟨by omega, fun q => w_109_103_i (g0 (by omega)), fun q => ⟨by omega, fun q' => g1 (by omega), fun q' => w_109_103_i (g0 (by omega))⟩⟩
  | succ d ih =>
    intro f hf
    obtain ⟨-, -, -, -, h51, h9, -⟩ := S.2.2.2.1 f (by omega) (by omega)
    have h := ih (f + 1) (by omega)
    simp only [sq, mx] at h
    have r1 := mx_r S f (by omega)
    have S2 := S.2.1
    refine w_109_27_i ⟨by omega, fun q => by omega, fun _ => ⟨by omega, ?_⟩⟩
    rw [e 51 (by omega) (by omega), h51]
    refine ⟨by omega, fun q => ⟨by omega, by omega, by omega, by omega, ?_⟩, fun q => w_109_79_i ?_⟩
    · rw [if_neg (by omega), if_neg (by omega)] at h
      obtain ⟨m1, m2, m3⟩ := hk (z 9 f) (by omega) (by omega)
      have z13 := (S.2.2.2.2.2 (z 9 f) (by omega) (by omega)).2.2.2.2.2.2.2.2.2.2.2.2.2.2.2.2.2.2.2
      rw [m3]
      exact p_111 (by omega) (by omega) (w_109_79_i h)
    · rw [if_pos (by omega), if_pos (by omega), Int.add_zero] at h
      exact h
theorem p_109a (S : Src z) (g : ∀ m', (∀ k, ¬ (k = 56 ∨ k = 57) → m' k = m k) → (∀ x, 0 ≤ x → x < z 3 11 → ms m' z x) → w_109_27 X 0 0 0 m' Q) (e : ∀ k, 46 ≤ k → k ≤ 55 → m k = z k) (e8 : m 45 8 = z 3 11) (d : Nat) :
    ∀ (n : Nat) (m' : zS), ((n + d : Nat) : Int) = z 3 11 → (∀ k, ¬ (k = 56 ∨ k = 57) → m' k = m k) → (∀ x : Int, 0 ≤ x → x < n → ms m' z x) → w_109_6 X 0 0 n m' Q := by
  have S2 := S.2.1
  induction d with
  | zero =>
    intro n m' hn h1 h2
    have e8' : m' 45 8 = z 3 11 := by rw [h1 45 (by omega)]; exact e8
    refine w_109_6_i ⟨by omega, fun _ => g m' h1 (fun x a b => h2 x a (by omega)), fun q => by omega⟩
  | succ d ih =>
    intro n m' hn h1 h2
    have e8' : m' 45 8 = z 3 11 := by rw [h1 45 (by omega)]; exact e8
    refine w_109_6_i ⟨by omega, fun q => by omega, fun _ => p_110 S (by omega) (fun k a b => by rw [h1 k (by omega)]; exact e k a b) h2 ?_⟩
    intro m2 a b c
    have := ih (n + 1) m2 (by omega) (fun k hk => by rw [a k hk, h1 k hk]) (fun x p q => ?_)
    · simpa using this
    · by_cases ex : x = n
      · rw [ex]; exact c
      · obtain ⟨b1, b2⟩ := b x ex
        have := h2 x p (by omega)
        unfold ms at this ⊢
        rw [b1, b2]; exact this
theorem p_109 (S : Src z) (e : ∀ k, 46 ≤ k → k ≤ 55 → m k = z k) (e3 : m 45 3 = z 45 3) (e8 : m 45 8 = z 3 11)
    (g : ∀ m' v, (∀ k, ¬ (k = 56 ∨ k = 57 ∨ k = 45) → m' k = m k) → (∀ j, ¬ j = 26 → m' 45 j = m 45 j) → m' 45 26 = mx z (z 3 6).toNat → ((400 < sm z (z 3 6).toNat ∨ 16 < mx z (z 3 6).toNat) ∧ v = 1 ∨ ¬ (400 < sm z (z 3 6).toNat ∨ 16 < mx z (z 3 6).toNat) ∧ v = 0) → Q v m') : w_109 X m Q := by
  have S1 := S.1
  have S2 := S.2.1
  refine w_109_i (p_109a S ?_ e e8 (z 3 11).toNat 0 m (by omega) (fun _ _ => rfl) (fun x a b => by omega))
  intro m1 h1 h2
  have f45 : m1 45 = m 45 := h1 45 (by omega)
  refine p_109b S (fun k a b => by rw [h1 k (by omega)]; exact e k a b) (by rw [f45]; exact e3) h2 (fun q => g _ 1 ?_ ?_ zu_s (Or.inl ⟨q, rfl⟩)) (fun q => g _ 0 ?_ ?_ zu_s (Or.inr ⟨q, rfl⟩)) (z 3 6).toNat 0 (by omega)
  · intro k hk; rw [zu_f (by omega)]; exact h1 k (by omega)
  · intro j hj; rw [zu_n hj, f45]
  · intro k hk; rw [zu_f (by omega)]; exact h1 k (by omega)
  · intro j hj; rw [zu_n hj, f45]
end
