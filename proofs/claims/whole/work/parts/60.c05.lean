-- the program has found it ill
def CI (s s' : zS) : Prop := s' 22 10 = 0 ∧ (s' 14 0 = s 14 0 ∧ s' 22 6 = s 22 6) ∧ (∀ k, k < 14 ∨ 19 ≤ k ∧ k ≤ 21 ∨ 31 ≤ k → s' k = s k)
-- so many arguments hang at x
def AR (b : Int → Int) : Nat → Int → Prop
  | 0, x => x = -1
  | c + 1, x => 0 ≤ x ∧ x < 150 ∧ AR b c (b x)
section
variable {X : zX} {s m : zS} {Q : Int → zS → Prop} {x0 x1 x2 x3 n y N H J M t t1 t2 a f : Int}
theorem CI.tr {s1 s2 s3 : zS} (h : (s2 14 0 = s1 14 0 ∧ s2 22 6 = s1 22 6) ∧ (∀ k, k < 14 ∨ 19 ≤ k ∧ k ≤ 21 ∨ 31 ≤ k → s2 k = s1 k)) (h' : CI s2 s3) : CI s1 s3 :=
  ⟨h'.1, ⟨by rw [h'.2.1.1, h.1.1], by rw [h'.2.1.2, h.1.2]⟩, fun k hk => by rw [h'.2.2 k hk, h.2 k hk]⟩
theorem CI.of {s s' : zS} {N o v pm M pl H t lx lt : Int} (h : EC s s' N o v pm M pl H t lx lt 0) : CI s s' := by
  obtain ⟨-, -, -, -, -, -, h1, -, h2, h4, -, -, h3⟩ := h
  exact ⟨h2, ⟨h1, h4⟩, fun k hk => h3 k (by omega)⟩
theorem p_49i (h : s 22 10 = 0) (hH : 0 ≤ s 22 8 ∧ s 22 8 ≤ 16) (k : ∀ s', CI s s' → Q 0 s') : w_49 X x1 s Q := by
  refine w_49_i ⟨by omega, fun _ => ⟨by omega, ?_⟩, fun a => ?_⟩
  · rintro _ rfl _ rfl
    refine k _ ⟨by simp [zu, h], ⟨by simp [zu], by simp [zu]⟩, fun k hk => by (repeat rw [zu_f (by omega)])⟩
  · rintro _ rfl
    refine k _ ⟨by simp [zu], ⟨by simp [zu], by simp [zu]⟩, fun k hk => by (repeat rw [zu_f (by omega)])⟩
theorem p_35l (c : Nat) : ∀ x y : Int, AR (fun x => s 11 (x * 3 + 1)) c x → 0 ≤ y → y + c ≤ 150 → Q (y + c) s → w_35_9 X y x s Q := by
  induction c with
  | zero =>
    intro x y ha hy hc k
    simp only [AR] at ha
    exact w_35_9_i ⟨by omega, fun _ => w_35_34_i (by simpa using k), fun a => absurd ha a⟩
  | succ c ih =>
    intro x y ha hy hc k
    simp only [AR] at ha
    refine w_35_9_i ⟨by omega, fun a => by omega, fun a => ⟨by omega, fun a => by omega, fun a => p_31 (by omega) (by omega) (ih _ _ ha.2.2 (by omega) (by omega) ?_)⟩⟩
    rw [show y + 1 + (c : Int) = y + ((c + 1 : Nat) : Int) by omega]
    exact k
theorem p_35 {c : Nat} (hn : 0 ≤ n ∧ n < 150) (ha : AR (fun x => s 11 (x * 3 + 1)) c (s 11 (n * 3 + 1))) (hc : c ≤ 150) (k : Q c s) : w_35 X n s Q :=
  w_35_i (p_31 hn (by omega) (p_35l c _ _ ha (by omega) (by omega) (by simpa using k)))
-- the loop over the arguments' types
theorem p_59l {B : Int} (hf : 0 ≤ f ∧ f < 6) (hJ : s 22 10 = 1) (hp : ∀ k, 0 ≤ k → k < 3 → -2147483648 ≤ s 8 (f * 3 + k) ∧ s 8 (f * 3 + k) ≤ 2147483647)
    (i : Nat) (hi : i ≤ 3) (hB : 0 ≤ B ∧ B + i ≤ 16) (hr : ∀ k, 0 ≤ k → k < B + i → tI (s 27 k))
    (k : (∀ j : Int, 0 ≤ j → j < i → s 27 (B + j) = s 8 (f * 3 + j)) → w_59_88 X f (zu s 22 8 B) Q)
    (k0 : (¬ ∀ j : Int, 0 ≤ j → j < i → s 27 (B + j) = s 8 (f * 3 + j)) → ∀ s', CI s s' → Q 0 s') : w_59_46 X f (i - 1) (zu s 22 8 (B + i)) Q := by
  induction i with
  | zero =>
    refine w_59_46_i ⟨by omega, fun _ => by simpa using k (fun j a b => by omega), fun a => by omega⟩
  | succ i ih =>
    have h1 := hr (B + i) (by omega) (by omega)
    unfold tI at h1
    have h2 := hp i (by omega) (by omega)
    refine w_59_46_i ⟨by omega, fun a => by omega, fun _ => ⟨by simp [zu, hJ], fun a => by simp [zu, hJ] at a, fun _ => ?_⟩⟩
    refine p_54 (B + (i + 1 : Nat)) (s 27 (B + i)) (by simp [zu]) ?_ (by omega) (p_34 hf (by omega) ⟨⟨by omega, ?_⟩, fun a => ?_, fun a => ?_⟩)
    · simp [zu]; congr 1; omega
    · rw [show ((i + 1 : Nat) : Int) - 1 = i by omega]; simpa [zu] using h2
    · rw [show ((i + 1 : Nat) : Int) - 1 = i by omega] at a
      have na : ¬ ∀ j : Int, 0 ≤ j → j < ((i + 1 : Nat) : Int) → s 27 (B + j) = s 8 (f * 3 + j) := fun q => by
        have := q i (by omega) (by omega)
        simp [zu] at a
        exact a this
      refine w_59_79_i (p_51 1 (by simp [zu, hJ]) (by simp) ?_)
      have e : w_59_88 X f (zu (zu (zu s 22 8 (B + (i + 1 : Nat))) 22 8 (B + (i + 1 : Nat) - 1)) 22 10 (if (0 : Int) = 1 then 1 else 0)) Q := by
        refine w_59_88_i ⟨hf, p_49i (by simp [zu]) (by simp [zu]; omega) (fun s' h => k0 na s' ?_)⟩
        refine CI.tr ⟨⟨by simp [zu], by simp [zu]⟩, fun k hk => by (repeat rw [zu_f (by omega)])⟩ h
      refine w_59_46_i ⟨by omega, fun _ => e, fun _ => ⟨by simp [zu], fun _ => e, fun a => by simp [zu] at a⟩⟩
    · refine w_59_79_i (p_51 1 (by simp [zu, hJ]) (by simp) ?_)
      have a' : s 27 (B + i) = s 8 (f * 3 + i) := by
        rw [show ((i + 1 : Nat) : Int) - 1 = i by omega] at a
        have := Classical.not_not.mp a
        simpa [zu] using this
      have g := ih (by omega) (by omega) (fun k a b => hr k a (by omega)) (fun q => k (fun j a b => if hj : j = i then by rw [hj]; exact a' else q j a (by omega))) (fun q => k0 (fun q' => q (fun j a b => q' j a (by omega))))
      rw [show ((i + 1 : Nat) : Int) - 1 + -1 = (i : Int) - 1 by omega]
      have e : (zu (zu (zu s 22 8 (B + (i + 1 : Nat))) 22 8 (B + (i + 1 : Nat) - 1)) 22 10 (if (1 : Int) = 1 then 1 else 0)) = zu s 22 8 (B + i) := by
        rw [show B + (i + 1 : Nat) - 1 = B + i by omega, zu_zu, if_pos rfl]
        exact zu_id (by simp [zu, hJ])
      rw [e]
      exact g
theorem f_12 {c : Nat} (hn : 0 ≤ n ∧ n < 150) (hk : s 10 n = 12) (ea : s 11 (n * 3 + 0) = f) (hf : 0 ≤ f ∧ f < 6) (eN : s 14 1 = N) (eH : s 22 8 = H) (eJ : s 22 10 = 1) (eM : s 14 2 = M) (hN : 0 ≤ N ∧ N < 400) (hH : 0 ≤ H - c ∧ H ≤ 16 ∧ H - c < 16)
    (ha : AR (fun x => s 11 (x * 3 + 1)) c (s 11 (n * 3 + 1))) (hc : c ≤ 150)
    (hr : ∀ k, 0 ≤ k → k < H → tI (s 27 k)) (hp : ∀ k, 0 ≤ k → k < 3 → -2147483648 ≤ s 8 (f * 3 + k) ∧ s 8 (f * 3 + k) ≤ 2147483647)
    (h9 : -2147483648 ≤ s 9 f ∧ s 9 f ≤ 2147483647) (h7 : 0 ≤ s 7 f ∧ s 7 f ≤ 3)
    (k : ¬ s 9 f = -1 → s 7 f = c → (∀ j : Int, 0 ≤ j → j < c → s 27 (H - c + j) = s 8 (f * 3 + j)) → ∀ s', EC s s' N 13 f (bm (s 27) H.toNat) (M + 1) (s 29 N) (H - c + 1) (s 6 f) 0 (s 28 0) 1 → Q 0 s')
    (k0 : ¬ (¬ s 9 f = -1 ∧ s 7 f = c ∧ (∀ j : Int, 0 ≤ j → j < c → s 27 (H - c + j) = s 8 (f * 3 + j))) → ∀ s', CI s s' → Q 0 s') : w_48 X n y s Q := by
  refine w_48_i (p_31 hn (by omega) ⟨hn, by omega, ?_⟩)
  rw [ea]
  have hi : w_59 X f c s (fun _ s1 => Q 0 s1) := by
    refine w_59_i (p_56 eN eH eM (by omega) hN hr ?_)
    generalize eu : zu (zu (zu (zu (zu s 15 N 13) 16 N f) 14 1 (N + 1)) 18 N (bm (s 27) H.toNat)) 14 2 (M + 1) = u
    have g : ∀ k, k < 14 ∨ k = 17 ∨ 19 ≤ k → u k = s k := by
      intro k hk; rw [← eu]; (repeat rw [zu_f (by omega)])
    have g0 : u 14 0 = s 14 0 := by rw [← eu]; simp [zu]
    have ci : ∀ s', CI u s' → CI s s' := fun s' h => CI.tr ⟨⟨g0, by rw [g 22 (by omega)]⟩, fun k hk => g k (by omega)⟩ h
    have bad : ¬ (¬ s 9 f = -1 ∧ s 7 f = c) → w_59_39 X f c 0 u (fun _ s1 => Q 0 s1) := by
      intro hb
      have k1 := k0 (fun q => hb ⟨q.1, q.2.1⟩)
      refine w_59_39_i (p_51 1 (by rw [g 22 (by omega)]; exact eJ) (by simp) ?_)
      have e : w_59_88 X f (zu u 22 10 (if (0 : Int) = 1 then 1 else 0)) (fun _ s1 => Q 0 s1) := by
        refine w_59_88_i ⟨hf, p_49i (by simp [zu]) (by simp [zu]; rw [g 22 (by omega)]; omega) (fun s' h => k1 s' (ci s' ?_))⟩
        refine CI.tr ⟨⟨by simp [zu], by simp [zu]⟩, fun k hk => by (repeat rw [zu_f (by omega)])⟩ h
      refine w_59_46_i ⟨by omega, fun _ => e, fun _ => ⟨by simp [zu], fun _ => e, fun a => by simp [zu] at a⟩⟩
    rw [g 9 (by omega), g 7 (by omega)]
    refine ⟨hf, h9, fun d => w_59_38_i (bad (fun q => q.1 d)), fun d => ⟨hf, by omega, fun d' => w_59_38_i (bad (fun q => d' (by omega))), fun d' => ?_⟩⟩
    refine w_59_39_i (p_51 1 (by rw [g 22 (by omega)]; exact eJ) (by simp) ?_)
    rw [show zu u 22 10 (if (1 : Int) = 1 then 1 else 0) = u from zu_id (by rw [g 22 (by omega)]; simpa using eJ)]
    have hc7 : s 7 f = c := by omega
    have := p_59l (X := X) (s := u) (Q := fun _ s1 => Q 0 s1) (B := H - c) (f := f) hf (by rw [g 22 (by omega)]; exact eJ) (by rw [g 8 (by omega)]; exact hp) c (by omega) (by omega) (by rw [g 27 (by omega)]; intro k a b; exact hr k a (by omega)) ?_ ?_
    · rw [show zu u 22 8 (H - c + c) = u from zu_id (by rw [g 22 (by omega), eH]; omega)] at this
      exact this
    · rw [g 27 (by omega), g 8 (by omega)]
      intro q
      refine w_59_88_i ⟨hf, p_49 (H - c) (by simp [zu]) (by omega) (k d hc7 q _ ?_)⟩
      rw [zu_g (by decide), g 6 (by omega), ← eu]
      (refine ⟨fun j => ?_, fun j => ?_, fun j => ?_, fun j => ?_, ?_, ?_, ?_, ?_, ?_, ?_, fun k _ => ?_, fun k => ?_, fun k hk => by (repeat rw [zu_f (by omega)])⟩ <;> (first | (simp [zu]; done) | ((repeat rw [zu_g (by decide)]); exact ife) | (simp [zu]; (repeat' split) <;> omega)))
    · rw [g 27 (by omega), g 8 (by omega)]
      exact fun q s' h => k0 (fun q' => q q'.2.2) s' (ci s' h)
  ((repeat' (refine And.intro ?_ ?_)) <;> intro c <;> first | (exfalso; omega) | skip)
  exact p_35 hn ha hc hi
end
