section
variable {G : Int → Nat → Int → Int} {z r s m s1 m1 m0 s2 m2 : zS} {f0 i j F N o v tk p q t T H a b e n f x1 : Int} {U U' : Int → Int → Prop} {φ φ' : Int → Int} {X : zX} {Q : Int → zS → Prop} {D : Prop}
theorem rl_mono (h : ∀ a t, U a t → U' a t ∧ φ' a = φ a) (k : rl U φ t a b) : rl U' φ' t a b := by
  refine ⟨k.1, fun w => ?_⟩
  rcases k.2 w with c | ⟨c1, c2⟩
  · exact Or.inl c
  · exact Or.inr ⟨(h a t c1).1, by rw [(h a t c1).2]; exact c2⟩
def CG (D : Prop) (s s2 : zS) (T i n : Int) : Prop := (¬ D ∧ s2 = sc s T i n) ∨ (D ∧ KC (sc s T i n) s2 i)
theorem cg_k (h : CG D s s2 T i n) : (∀ c, ¬ (c = 31 ∨ c = 32 ∨ c = 36 ∨ c = 37 ∨ c = 38) → s2 c = s c) ∧ (∀ j, ¬ (j = 6 ∨ j = 7 ∨ j = 9 ∨ j = 10 ∨ j = 11) → s2 31 j = s 31 j) ∧ s2 31 9 = T + 1 := by
  rcases h with ⟨-, rfl⟩ | ⟨-, k1, k2, -⟩
  · exact ⟨fun c hc => sc_k c (by omega), fun j hj => sc_j (by omega), by rw [sc]; simp [zu]⟩
  · exact ⟨fun c hc => by rw [k1 c hc, sc_k c (by omega)], fun j hj => by rw [k2 j (by omega), sc_j (by omega)], by rw [k2 9 (by omega), sc]; simp [zu]⟩
-- what a NEW makes
def NC (s2 s3 : zS) (F H w t a b : Int) : Prop :=
  (∀ c, ¬ (c = 32 ∨ c = 33 ∨ c = 34 ∨ c = 35 ∨ c = 41 ∨ c = 42) → s3 c = s2 c) ∧ (∀ j, ¬ j = 4 → s3 32 j = s2 32 j) ∧ s3 32 4 = s2 32 4 + 1 ∧ (∀ x, s3 33 x = if x = w then a else s2 33 x) ∧ (∀ x, s3 34 x = if x = w then b else s2 34 x) ∧ (∀ x, s3 35 x = if x = w then t else s2 35 x) ∧ (∀ g, s3 42 g = if g = F then H - 1 else s2 42 g) ∧ (∀ x, s3 41 x = if x = F * 16 + (H - 2) then w else s2 41 x)
def NM (m2 m3 : zS) (F H p t a b j : Int) : Prop :=
  (∀ c, ¬ (c = 45 ∨ c = 74 ∨ c = 75 ∨ c = 76 ∨ c = 77 ∨ c = 81 ∨ c = 83) → m3 c = m2 c) ∧ (∀ x, ¬ (x = 48 ∨ x = 57) → m3 45 x = m2 45 x) ∧ m3 45 57 = j ∧ m3 45 48 = m2 45 48 + 1 ∧ m3 74 = zu m2 74 p 1 74 ∧ (∀ x, m3 76 x = if x = p then a else m2 76 x) ∧ (∀ x, m3 77 x = if x = p then b else m2 77 x) ∧ (∀ x, m3 75 x = if x = p then t else m2 75 x) ∧ (∀ g, m3 81 g = if g = F then H - 1 else m2 81 g) ∧ (∀ x, m3 83 x = if x = 16 * F + (H - 2) then p else m2 83 x)
theorem c_new {cnt a1 a2 w : Int} (eF : s2 39 4 = F) (hF : 0 ≤ F ∧ F < 24) (eH : s2 42 F = H) (hH : 2 ≤ H ∧ H ≤ 16) (e1 : s2 41 (F * 16 + (H - 1)) = a1) (e2 : s2 41 (F * 16 + (H - 2)) = a2) (ec : s2 32 4 = cnt) (hc : 0 ≤ cnt ∧ cnt ≤ 200) (ew : s2 36 cnt = w) (hw : cnt < 200 → 1 ≤ w ∧ w ≤ 200) (e4 : s2 31 4 = a) (ha : 3 ≤ a ∧ a ≤ 600)
    (k1 : cnt * 3 + 3 ≤ a → ∀ s3, NC s2 s3 F H w t a2 a1 → Q 0 s3) (k0 : a < cnt * 3 + 3 → Q 0 (zu s2 31 8 3)) : w_71_19 X t s2 Q := by
  have e2' : s2 41 (F * 16 + (H - 1 - 1)) = a2 := by rw [← e2]; congr 2; omega
  refine w_71_19_i (w_73_i (w_86_i ?_))
  rw [ec, e4]
  refine ⟨by omega, fun q => ⟨by omega, fun _ => ?_, fun q' => by omega⟩, fun q => ⟨by omega, fun q' => by omega, fun _ => ?_⟩⟩
  · refine c_pop (F := F) (H := H) (v := a1) eF eH e1 hF (by omega) (c_pop (F := F) (H := H - 1) (v := a2) (by simp [zu, *]) (by simp [zu, *]) (by simp [zu, *]) hF (by omega) (w_90_i ?_))
    have ec' : zu (zu s2 42 F (H - 1)) 42 F (H - 1 - 1) 32 4 = cnt := by rw [zu_g (by decide), zu_g (by decide)]; exact ec
    have ew' : zu (zu s2 42 F (H - 1)) 42 F (H - 1 - 1) 36 cnt = w := by rw [zu_g (by decide), zu_g (by decide)]; exact ew
    have hw' := hw (by omega)
    rw [ec', ew']
    refine ⟨by omega, ?_⟩
    rintro _ rfl
    refine ⟨by omega, ?_⟩
    rintro _ rfl
    refine ⟨by omega, ?_⟩
    rintro _ rfl
    refine ⟨by omega, ?_⟩
    rintro _ rfl
    refine c_push (F := F) (H := H - 1 - 1) (by simp [zu, *]) (by simp [zu, *]) hF (by omega) (k1 q _ ?_)
    refine ⟨fun c hc => by (repeat rw [zu_f (by omega)]), fun j hj => by simp [zu, hj], by rw [ec]; simp [zu], fun x => by simp [zu], fun x => by simp [zu], fun x => by simp [zu], fun g => ?_, fun x => ?_⟩
    · simp [zu]; split <;> omega
    · simp [zu]; rw [show H - 1 - 1 = H - 2 by omega]
  · rintro _ rfl
    exact k0 (by omega)
theorem m_new {cnt b1 b2 : Int} (eF : m2 45 56 = F) (hF : 0 ≤ F ∧ F < 24) (eH : m2 81 F = H) (hH : 2 ≤ H ∧ H ≤ 16) (e1 : m2 83 (16 * F + (H - 1)) = b1) (e2 : m2 83 (16 * F + (H - 2)) = b2) (ec : m2 45 48 = cnt) (hc : 0 ≤ cnt ∧ cnt ≤ 200) (ecn : m2 45 48 = cn (m2 74) 200) (h74 : ∀ p, 0 ≤ p → p < 200 → m2 74 p = 0 ∨ m2 74 p = 1) (e4 : m2 45 37 = a) (ha : 3 ≤ a ∧ a ≤ 600)
    (k1 : cnt * 3 + 3 ≤ a → ∀ p m3, (0 ≤ p ∧ p < 200) → m2 74 p = 0 → NM m2 m3 F H p t b2 b1 j → Q 0 m3) (k0 : a < cnt * 3 + 3 → Q 0 (zu (zu m2 45 39 3) 45 57 j)) : w_148_15 X t m2 (fun _ s8 => w_146_234 X j s8 Q) := by
  have e2' : m2 83 (16 * F + (H - 1 - 1)) = b2 := by rw [← e2]; congr 2; omega
  refine w_148_15_i (w_149_i ?_)
  rw [ec, e4]
  refine ⟨by omega, fun q => ⟨by omega, fun q' => by omega, fun _ => ?_⟩, fun q => ⟨by omega, fun _ => ?_, fun q' => by omega⟩⟩
  · rintro _ rfl
    refine w_146_234_i ?_
    rintro _ rfl
    exact k0 (by omega)
  · have loop : ∀ d : Nat, ∀ x : Int, 0 ≤ x → x + d = 200 → (∀ y, 0 ≤ y → y < x → m2 74 y = 1) → w_148_30 X t x m2 (fun _ s8 => w_146_234 X j s8 Q) := by
      intro d
      induction d with
      | zero =>
        intro x h0 hx h1
        have : cn (m2 74) 200 = cn (fun _ => 1) 200 := cn_c 200 (fun y p q => h1 y p (by omega))
        have e200 : ∀ n : Nat, cn (fun _ => (1 : Int)) n = n := by
          intro n; induction n with
          | zero => rfl
          | succ k ih => simp only [cn]; rw [ih]; omega
        rw [e200] at this
        omega
      | succ d ih =>
        intro x h0 hx h1
        have r74 := h74 x h0 (by omega)
        refine w_148_30_i ⟨by omega, by omega, fun qx => ⟨by omega, ?_⟩, fun qx => ih (x + 1) (by omega) (by omega) (fun y p q => ?_)⟩
        · rintro _ rfl
          have c48 : zu m2 74 x 1 45 48 = cnt := by rw [zu_g (by decide)]; exact ec
          rw [c48]
          rintro _ rfl
          refine ⟨by omega, ?_⟩
          rintro _ rfl
          refine m_pop (F := F) (H := H) (v := b1) (by simp [zu, *]) (by simp [zu, *]) (by simp [zu, *]) hF (by omega) ⟨by omega, ?_⟩
          rintro _ rfl
          refine m_pop (F := F) (H := H - 1) (v := b2) (by simp [zu, *]) (by simp [zu, *]) (by simp [zu, *]) hF (by omega) ⟨by omega, ?_⟩
          rintro _ rfl
          refine m_push (F := F) (H := H - 1 - 1) (by simp [zu, *]) (by simp [zu, *]) hF (by omega) (w_146_234_i ?_)
          rintro _ rfl
          refine k1 (by omega) x _ ⟨h0, by omega⟩ qx ⟨fun c hc => by (repeat rw [zu_f (by omega)]), fun y hy => by simp [zu, show ¬ y = 48 by omega, show ¬ y = 57 by omega], by simp [zu], by rw [ec]; simp [zu], ?_, fun y => by simp [zu], fun y => by simp [zu], fun y => by simp [zu], fun g => ?_, fun y => ?_⟩
          · (repeat rw [zu_f (k := 74) (a := 45) (by decide)])
            rw [zu_f (by decide), zu_f (by decide), zu_f (by decide), zu_f (by decide), zu_f (by decide), zu_f (by decide), zu_f (by decide), zu_f (by decide)]
          · simp [zu]; split <;> omega
          · simp [zu]; rw [show H - 1 - 1 = H - 2 by omega]
        · by_cases e : y = x
          · rw [e]; omega
          · exact h1 y p (by omega)
    exact loop 200 0 (by omega) rfl (fun y p q => by omega)
end
