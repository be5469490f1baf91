section
variable {G : Int → Nat → Int → Int} {z r s m s1 m1 m0 s2 m2 : zS} {f0 i j F N o v tk p q t T H a b e n f x1 : Int} {U : Int → Int → Prop} {φ : Int → Int} {X : zX} {Q : Int → zS → Prop}
-- a frame is opened
def CE (s2 s3 : zS) (F H tk i pl' : Int) : Prop :=
  (∀ c, ¬ (c = 31 ∨ c = 39 ∨ c = 40 ∨ c = 42 ∨ c = 43) → s3 c = s2 c) ∧ (∀ j, ¬ (j = 6 ∨ j = 12) → s3 31 j = s2 31 j) ∧ s3 31 6 = pl' ∧ s3 31 12 = max (s2 31 12) (F + 1 + 1) ∧ s3 39 4 = F + 1 ∧ (∀ g, s3 42 g = if g = F + 1 then 0 else if g = F then H - tk else s2 42 g) ∧ (∀ g, s3 43 g = if g = F then i else s2 43 g) ∧ (∀ x, x < (F + 1) * 8 → s3 40 x = s2 40 x) ∧ (∀ k, 0 ≤ k → k < tk → s3 40 ((F + 1) * 8 + k) = s2 41 (F * 16 + H - tk + k))
def DE (m2 m3 : zS) (F H tk i pl' : Int) : Prop :=
  (∀ c, ¬ (c = 45 ∨ c = 80 ∨ c = 81 ∨ c = 82) → m3 c = m2 c) ∧ (∀ j, ¬ (j = 56 ∨ j = 57 ∨ j = 43) → m3 45 j = m2 45 j) ∧ m3 45 57 = pl' ∧ m3 45 43 = max (m2 45 43) (F + 1 + 1) ∧ m3 45 56 = F + 1 ∧ (∀ g, m3 81 g = if g = F + 1 then 0 else if g = F then H - tk else m2 81 g) ∧ (∀ g, m3 80 g = if g = F + 1 then i + 1 else m2 80 g) ∧ (∀ x, x < 8 * (F + 1) → m3 82 x = m2 82 x) ∧ (∀ k, 0 ≤ k → k < tk → m3 82 (8 * (F + 1) + k) = m2 83 (16 * F + (H - tk) + k))
theorem c_call (eF : s2 39 4 = F) (hF : 0 ≤ F ∧ F + 1 < 24) (eH : s2 42 F = H) (hH : 0 ≤ H - tk ∧ H ≤ 16) (htk : 0 ≤ tk ∧ tk ≤ 3) (hv : 0 ≤ v ∧ v < 6) (e7 : s2 7 v = tk) (e12 : 1 ≤ s2 31 12 ∧ s2 31 12 ≤ 24) (e14 : s2 14 0 = 1)
    (k : ∀ s3, CE s2 s3 F H tk i (s2 19 v) → Q 0 s3) : w_78_12 X i v s2 Q := by
  have loop : ∀ d : Nat, ∀ (j : Int) (s' : zS), 0 ≤ j → j + d = tk → (∀ c, ¬ c = 40 → s' c = s2 c) → (∀ x, x < (F + 1) * 8 → s' 40 x = s2 40 x) → (∀ k, 0 ≤ k → k < j → s' 40 ((F + 1) * 8 + k) = s2 41 (F * 16 + H - tk + k)) →
      w_97_34 X i tk (F * 16 + H - tk) ((F + 1) * 8) j s' (fun _ s1 => (w_157 X (s1 31 12) ((s1 39 4) + 1) s1 (fun v2 s2 => (∀ s3 : zS, s3 = zu s2 31 12 v2 → (w_42 X v s3 (fun v4 s4 => (∀ s5 : zS, s5 = zu s4 31 6 v4 → Q 0 s5))))))) := by
    intro d
    induction d with
    | zero =>
      intro j s' h0 hj f1 f2 f3
      have e39 : s' 39 4 = F := by rw [f1 39 (by omega)]; exact eF
      have e42 : s' 42 F = H := by rw [f1 42 (by omega)]; exact eH
      refine w_97_34_i ⟨by omega, fun _ => ?_, fun q => by omega⟩
      rw [e39, e42]
      refine ⟨by omega, by omega, ?_⟩
      rintro _ rfl
      have a1 : zu s' 42 F (H - tk) 39 4 = F := by rw [zu_g (by decide)]; exact e39
      rw [a1]
      refine ⟨by omega, ?_⟩
      rintro _ rfl
      have a2 : zu (zu s' 42 F (H - tk)) 43 F i 39 4 = F := by rw [zu_g (by decide)]; exact a1
      rw [a2]
      rintro _ rfl
      rw [zu_s]
      refine ⟨by omega, ?_⟩
      rintro _ rfl
      generalize es : zu (zu (zu (zu s' 42 F (H - tk)) 43 F i) 39 4 (F + 1)) 42 (F + 1) 0 = u
      have u1 : ∀ c, ¬ (c = 39 ∨ c = 42 ∨ c = 43) → u c = s' c := fun c hc => by rw [← es]; (repeat rw [zu_f (by omega)])
      have u39 : u 39 4 = F + 1 := by rw [← es, zu_g (by decide), zu_s]
      have u12 : u 31 12 = s2 31 12 := by rw [u1 31 (by omega), f1 31 (by omega)]
      rw [u39, u12]
      refine p_157 (by omega) (by omega) ?_
      rintro _ rfl
      have w14 : zu u 31 12 (max (s2 31 12) (F + 1 + 1)) 14 0 = 1 := by rw [zu_g (by decide), u1 14 (by omega), f1 14 (by omega)]; exact e14
      refine w_42_i ?_
      rw [w14]
      refine ⟨by omega, fun q => by omega, fun _ => ⟨by omega, fun q => by omega, fun _ => ⟨by omega, fun q => by omega, fun _ => ⟨hv, ?_⟩⟩⟩⟩
      rintro _ rfl
      have w19 : zu u 31 12 (max (s2 31 12) (F + 1 + 1)) 19 v = s2 19 v := by rw [zu_g (by decide), u1 19 (by omega), f1 19 (by omega)]
      rw [w19]
      refine k _ ⟨fun c hc => by rw [zu_f (by omega), zu_f (by omega), u1 c (by omega), f1 c (by omega)], fun x hx => by rw [zu_n (by omega), zu_n (by omega), u1 31 (by omega), f1 31 (by omega)], zu_s, by rw [zu_n (by omega), zu_s], by rw [zu_g (by decide), zu_g (by decide)]; exact u39, fun g => ?_, fun g => ?_, fun x hx => by rw [zu_g (by decide), zu_g (by decide), u1 40 (by omega)]; exact f2 x hx, fun x q1 q2 => by rw [zu_g (by decide), zu_g (by decide), u1 40 (by omega)]; exact f3 x q1 (by omega)⟩
      · rw [zu_g (by decide), zu_g (by decide), ← es]
        by_cases c1 : g = F + 1
        · rw [c1, zu_s, if_pos rfl]
        · rw [zu_n c1, if_neg c1, zu_g (by decide), zu_g (by decide)]
          by_cases c2 : g = F
          · rw [c2, zu_s, if_pos rfl]
          · rw [zu_n c2, if_neg c2, f1 42 (by omega)]
      · rw [zu_g (by decide), zu_g (by decide), ← es, zu_g (by decide), zu_g (by decide)]
        by_cases c2 : g = F
        · rw [c2, zu_s, if_pos rfl]
        · rw [zu_n c2, if_neg c2, zu_g (by decide), f1 43 (by omega)]
    | succ d ih =>
      intro j s' h0 hj f1 f2 f3
      refine w_97_34_i ⟨by omega, fun q => by omega, fun _ => ⟨by omega, by omega, ?_⟩⟩
      rintro _ rfl
      rw [f1 41 (by omega)]
      refine ih (j + 1) _ (by omega) (by omega) (fun c hc => by rw [zu_f hc]; exact f1 c hc) (fun x hx => by rw [zu_n (by omega)]; exact f2 x hx) (fun x q1 q2 => ?_)
      by_cases e : x = j
      · rw [e, zu_s]
      · rw [zu_n (by omega)]; exact f3 x q1 (by omega)
  refine w_78_12_i ?_
  rw [eF, e7]
  refine ⟨by omega, fun _ => ⟨hv, w_97_i ?_⟩, fun q => by omega⟩
  rw [eF, eH]
  exact ⟨by omega, loop tk.toNat 0 s2 (by omega) (by omega) (fun _ _ => rfl) (fun _ _ => rfl) (fun k q1 q2 => by omega)⟩
theorem m_call (eF : m2 45 56 = F) (hF : 0 ≤ F ∧ F + 1 < 24) (eH : m2 81 F = H) (hH : 0 ≤ H - tk ∧ H ≤ 16) (htk : 0 ≤ tk ∧ tk ≤ 3) (hv : 0 ≤ v ∧ v < 6) (e43 : 1 ≤ m2 45 43 ∧ m2 45 43 ≤ 24) (ei : m2 45 57 = i)
    (k : ∀ m3, DE m2 m3 F H tk i (m2 64 v) → Q 0 m3) : w_138_12 X v tk m2 Q := by
  refine w_138_12_i ?_
  rw [eF]
  refine ⟨by omega, fun _ => ⟨by omega, by omega, ?_⟩, fun q => by omega⟩
  rw [eH]
  rintro _ rfl
  have a1 : zu m2 81 F (H - tk) 45 56 = F := by rw [zu_g (by decide)]; exact eF
  rw [a1]
  rintro _ rfl
  have a2 : zu (zu m2 81 F (H - tk)) 45 56 (F + 1) 45 43 = m2 45 43 := by rw [zu_n (by omega), zu_g (by decide)]
  rw [a2, zu_s]
  refine p_111 (by omega) (by omega) ?_
  rintro _ rfl
  generalize es : zu (zu (zu m2 81 F (H - tk)) 45 56 (F + 1)) 45 43 (max (m2 45 43) (F + 1 + 1)) = u
  have u1 : ∀ c, ¬ (c = 45 ∨ c = 81) → u c = m2 c := fun c hc => by rw [← es]; (repeat rw [zu_f (by omega)])
  have u45 : ∀ x, ¬ (x = 56 ∨ x = 43) → u 45 x = m2 45 x := fun x hx => by rw [← es, zu_n (by omega), zu_n (by omega), zu_g (by decide)]
  have u56 : u 45 56 = F + 1 := by rw [← es, zu_n (by omega), zu_s]
  have u43 : u 45 43 = max (m2 45 43) (F + 1 + 1) := by rw [← es, zu_s]
  have u81 : ∀ g, u 81 g = if g = F then H - tk else m2 81 g := fun g => by rw [← es]; simp [zu]
  have loop : ∀ d : Nat, ∀ (j : Int) (m' : zS), 0 ≤ j → j + d = 8 → (∀ c, ¬ c = 82 → m' c = u c) → (∀ x, x < 8 * (F + 1) → m' 82 x = m2 82 x) → (∀ k, 0 ≤ k → k < j → k < tk → m' 82 (8 * (F + 1) + k) = m2 83 (16 * F + (H - tk) + k)) → w_138_74 X v tk F j m' Q := by
    intro d
    induction d with
    | zero =>
      intro j m' h0 hj f1 f2 f3
      have e56 : m' 45 56 = F + 1 := by rw [f1 45 (by omega)]; exact u56
      have e57 : m' 45 57 = i := by rw [f1 45 (by omega), u45 57 (by omega)]; exact ei
      refine w_138_74_i ⟨by omega, fun _ => ?_, fun q => by omega⟩
      rw [e56]
      refine ⟨by omega, ?_⟩
      rintro _ rfl
      have b1 : zu m' 81 (F + 1) 0 45 56 = F + 1 := by rw [zu_g (by decide)]; exact e56
      have b2 : zu m' 81 (F + 1) 0 45 57 = i := by rw [zu_g (by decide)]; exact e57
      rw [b1, b2]
      refine ⟨by omega, ?_⟩
      rintro _ rfl
      refine ⟨hv, ?_⟩
      have b3 : zu (zu m' 81 (F + 1) 0) 80 (F + 1) (i + 1) 64 v = m2 64 v := by rw [zu_g (by decide), zu_g (by decide), f1 64 (by omega), u1 64 (by omega)]
      rw [b3]
      rintro _ rfl
      refine k _ ⟨fun c hc => by rw [zu_f (by omega), zu_f (by omega), zu_f (by omega), f1 c (by omega), u1 c (by omega)], fun x hx => by rw [zu_n (by omega), zu_g (by decide), zu_g (by decide), f1 45 (by omega), u45 x (by omega)], zu_s, by rw [zu_n (by omega), zu_g (by decide), zu_g (by decide), f1 45 (by omega), u43], by rw [zu_n (by omega), zu_g (by decide), zu_g (by decide)]; exact e56, fun g => ?_, fun g => ?_, fun x hx => by rw [zu_g (by decide), zu_g (by decide), zu_g (by decide)]; exact f2 x hx, fun x q1 q2 => by rw [zu_g (by decide), zu_g (by decide), zu_g (by decide)]; exact f3 x q1 (by omega) q2⟩
      · rw [zu_g (by decide), zu_g (by decide)]
        by_cases c1 : g = F + 1
        · rw [c1, zu_s, if_pos rfl]
        · rw [zu_n c1, if_neg c1, f1 81 (by omega), u81]
      · rw [zu_g (by decide)]
        by_cases c1 : g = F + 1
        · rw [c1, zu_s, if_pos rfl]
        · rw [zu_n c1, if_neg c1, zu_g (by decide), f1 80 (by omega), u1 80 (by omega)]
    | succ d ih =>
      intro j m' h0 hj f1 f2 f3
      have e56 : m' 45 56 = F + 1 := by rw [f1 45 (by omega)]; exact u56
      have e81 : m' 81 F = H - tk := by rw [f1 81 (by omega), u81, if_pos rfl]
      have nxt : ∀ w, (j < tk → w = m2 83 (16 * F + (H - tk) + j)) → w_138_124 X v tk F j (8 * (F + 1) + j) w m' Q := by
        intro w hw
        refine w_138_124_i ⟨by omega, ?_⟩
        rintro _ rfl
        refine ih (j + 1) _ (by omega) (by omega) (fun c hc => by rw [zu_f hc]; exact f1 c hc) (fun x hx => by rw [zu_n (by omega)]; exact f2 x hx) (fun x q1 q2 q3 => ?_)
        by_cases e : x = j
        · rw [e, zu_s]; exact hw (by omega)
        · rw [zu_n (by omega)]; exact f3 x q1 (by omega) q3
      refine w_138_74_i ⟨by omega, fun q => by omega, fun _ => ?_⟩
      rw [e56, e81, f1 83 (by omega), u1 83 (by omega)]
      exact ⟨by omega, fun q => nxt 0 (fun w => by omega), fun q => ⟨by omega, by omega, nxt _ (fun _ => rfl)⟩⟩
  exact loop 8 0 u (by omega) rfl (fun _ _ => rfl) (fun x hx => by rw [u1 82 (by omega)]) (fun k q1 q2 => by omega)
end
