def OV (r s m : zS) : Prop :=
  glo r s m ∧ (1 ≤ s 31 8 ∧ s 31 8 ≤ 5) ∧ m 45 39 = s 31 8 ∧ ((0 ≤ s 32 4 ∧ s 32 4 ≤ 200) ∧ m 45 48 = s 32 4) ∧
  ((∀ j, 0 ≤ j → j < 200 → 1 ≤ s 36 j ∧ s 36 j ≤ 200) ∧ (∀ i j, 0 ≤ i → i < 200 → 0 ≤ j → j < 200 → s 36 i = s 36 j → i = j)) ∧
  (s 31 8 = 1 → ∃ U φ, hp U φ r s m ∧ rl U φ (r 31 16) (s 31 15) (m 45 46))
def AF (G : Int → Nat → Int → Int) (r : zS) (f0 : Int) (s m : zS) : Prop := MR G r f0 s m ∨ OV r s m
-- what a run of the reference leaves as it is
def kj (j : Int) : Prop := j = 3 ∨ j = 8 ∨ j = 15 ∨ j = 16 ∨ j = 26
def KF (m m1 : zS) : Prop := (∀ k, k < 45 → m1 k = m k) ∧ (∀ j, kj j → m1 45 j = m 45 j)
theorem kj_n {j : Int} (h : kj j) : ¬ (j = 0 ∨ 37 ≤ j) := by unfold kj at h; omega
def StepOK (X : zX) (G : Int → Nat → Int → Int) (r : zS) (f0 : Int) (s s1 : zS) : Prop := ∀ m, MR G r f0 s m → ∀ R : zS → Prop, (∀ m1, AF G r f0 s1 m1 → KF m m1 → R m1) → ONE X m R
section
variable {G : Int → Nat → Int → Int} {z r s m s1 m1 m0 : zS} {f0 i j F N o v tk p q t T H a b : Int} {U : Int → Int → Prop} {φ : Int → Int} {X : zX} {Q : Int → zS → Prop}
theorem ctx (C : CodeOK z r G) (hf : frs U φ G r s m f0) (hg : glo r s m) (eF : s 39 4 = F) (ei : s 31 6 = i) :
    ((0 ≤ i ∧ i < r 45 16) ∧ r 45 16 ≤ 400) ∧ okI z G i (r 58 i) (r 59 i) (r 60 i) ∧ (s 15 i = r 58 i ∧ s 16 i = r 59 i) ∧ (0 ≤ F ∧ F < 24) ∧ (s 42 F = G i 0 0 ∧ m 81 F = G i 0 0 ∧ 0 ≤ G i 0 0 ∧ G i 0 0 ≤ 16) ∧
    (m 45 56 = F ∧ m 45 57 = i ∧ m 58 i = r 58 i ∧ m 59 i = r 59 i ∧ m 60 i = r 60 i ∧ m 45 40 = s 31 9) ∧ (∀ k, 0 ≤ k → k < G i 0 0 → rl U φ (G i 1 k) (s 41 (F * 16 + k)) (m 83 (16 * F + k))) ∧
    (∀ k : Nat, k < 8 → tb (r 63 i) k = true → rl U φ (G i 2 k) (s 40 (F * 8 + k)) (m 82 (8 * F + k))) ∧ (0 ≤ s 31 9) ∧ (0 ≤ r 58 i ∧ r 58 i ≤ 18) := by
  obtain ⟨c1, c2, c3, c4, c5, c6, c7, c8, c9⟩ := C
  obtain ⟨f1, f2, f3, f4, f5⟩ := hf
  obtain ⟨g1, g2, g3, g4, g5, g6, g7, g8, g9, g10, g11⟩ := hg
  rw [eF, ei] at f3
  rw [ei] at f2
  rw [eF] at f1
  have ok := (c6 i f2.1 f2.2.1).1
  obtain ⟨h1, h2, -⟩ := c3 i f2.1 f2.2.1
  have h18 : 0 ≤ r 58 i ∧ r 58 i ≤ 18 := by
    obtain ⟨-, -, -, -, -, -, -, -, -, -, -, -, -, -, -, -, -, w, -⟩ := ok
    exact w
  refine ⟨⟨⟨f2.1, f2.2.1⟩, c2.2.2⟩, ok, ⟨by rw [g1 15 (by omega)]; exact h1, by rw [g1 16 (by omega)]; exact h2⟩, ⟨f1.1, f1.2.1⟩, f3.1, ⟨f1.2.2, f2.2.2, by rw [g2 58 (by omega) (by omega)], by rw [g2 59 (by omega) (by omega)], by rw [g2 60 (by omega) (by omega)], g5.1.symm⟩, f3.2.1, f3.2.2, by omega, h18⟩
theorem sim_top (C : CodeOK z r G) (hh : hp U φ r s m) (hf : frs U φ G r s m f0) (hg : glo r s m) (o8 : s 31 8 = 0) (o39 : m 45 39 = 0) (eF : s 39 4 = F) (ei : s 31 6 = i) (eT : s 31 9 = T) (hT : T < 6000)
    (te : TE s s1 T F j H a) (me : ME m m1 T F j H b) (E : nx (G i) (G j) (G i 2) p q t) (hj : (¬ r 58 i = 14 ∧ ¬ r 58 i = 11 ∧ j = i + 1) ∨ ((r 58 i = 10 ∨ r 58 i = 11) ∧ j = r 59 i)) (h12 : ¬ r 58 i = 12) (hp0 : 0 ≤ p) (jN : 0 ≤ j ∧ j < r 45 16) (eH : H = G j 0 0)
    (hq : q = 0 ∧ a = s 41 (F * 16 + (H - 1)) ∧ b = m 83 (16 * F + (H - 1)) ∨ q = 1 ∧ rl U φ t a b) : MR G r f0 s1 m1 := by
  obtain ⟨x1, x2, x3, x4, x5, x6, x7, x8, x9, x10⟩ := ctx C hf hg eF ei
  obtain ⟨t1, t2, t3, t4, t5, t6⟩ := te
  obtain ⟨n1, n2, n3, n4, n5, n6⟩ := me
  obtain ⟨c1, c2, c3, c4, c5, c6, c7, c8, c9⟩ := C
  have okj := (c6 j jN.1 jN.2).1
  have hHj : 0 ≤ G j 0 0 ∧ G j 0 0 ≤ 16 := by
    obtain ⟨-, -, -, -, -, -, -, -, -, -, -, -, -, -, -, -, -, -, w, -⟩ := okj
    exact w
  have h2 : r 58 i = 12 ∨ r 58 i = 2 → 0 ≤ r 59 i ∧ r 59 i < 16 := by
    intro h
    rcases h with h | h
    · exact absurd h h12
    · obtain ⟨-, -, w, -⟩ := x2
      have := (w h).1; omega
  have E0 := E.2.1
  have E1 := E.1
  have top : fr U φ G s1 m1 F j (G j 0 0) (r 63 j) := by
    refine fr_next (s := s) (m := m) (i := i) (p := p) (q := q) (t := t) E (fun k hk ht => lv_edge (c9 i x1.1.1 x1.1.2).1 hj h2 k (by omega) ht (fun w => h12 w.1)) (c9 j jN.1 jN.2).2 ⟨x5, x7, x8⟩ hp0 hHj (by omega) (by rw [t5, if_pos rfl, eH]) (by rw [n5, if_pos rfl, eH]) (fun k p1 p2 => ⟨?_, ?_⟩) (fun w => ?_) (fun k p1 p2 => by rw [t1 40 (by omega), n1 82 (by omega)]; exact ⟨rfl, rfl⟩)
    · rw [t6]
      split
      · next e =>
        rcases hq with ⟨q1, q2, q3⟩ | ⟨q1, q2⟩
        · rw [q2, e]
        · omega
      · rfl
    · rw [n6]
      split
      · next e =>
        rcases hq with ⟨q1, q2, q3⟩ | ⟨q1, q2⟩
        · rw [q3, e]
        · omega
      · rfl
    · rw [t6, n6, if_pos (by omega), if_pos (by omega)]
      rcases hq with ⟨q1, q2, q3⟩ | ⟨q1, q2⟩
      · omega
      · exact q2
  have a4 : ∀ x, x < F * 16 → s1 41 x = s 41 x := by
    intro x hx
    rw [t6]
    split
    · next e =>
      rcases hq with ⟨q1, q2, q3⟩ | ⟨q1, q2⟩
      · rw [q2, e]
      · omega
    · rfl
  have b4 : ∀ x, x < F * 16 → m1 83 x = m 83 x := by
    intro x hx
    rw [n6]
    split
    · next e =>
      rcases hq with ⟨q1, q2, q3⟩ | ⟨q1, q2⟩
      · rw [q3, e]
      · omega
    · rfl
  obtain ⟨w1, w2, w3⟩ := top_only (s1 := s1) (m1 := m1) (j := j) hh hf hg eF ei (fun k hk => t1 k (by omega)) t2 (fun g hg' => by rw [t5, if_neg (by omega)]) a4 (fun x hx => by rw [t1 40 (by omega)]) (fun k hk => n1 k (by omega)) n2 (fun g hg' => by rw [n5, if_neg (by omega)]) b4 (fun x hx => by rw [n1 82 (by omega)]) t3 n3 jN (by rw [t4, eT]) (by rw [n4, x6.2.2.2.2.2, eT]) (by rw [x6.2.2.2.2.2, eT]; exact hT) E.2.2.2.2.2 top
  exact ⟨U, φ, w1, w2, w3, by rw [t2 8 (by omega)]; exact o8, by rw [n2 39 (by omega)]; exact o39⟩
theorem TE.fr (te : TE s s1 T F j H a) : (∀ k, 45 ≤ k → s1 k = s k) ∧ s1 31 9 = T + 1 := ⟨fun k hk => te.1 k (by omega), te.2.2.2.1⟩
theorem ME.fr (me : ME m m1 T F j H b) : KF m m1 := ⟨fun k hk => me.1 k (by omega), fun j hj => me.2.1 j (by have := kj_n hj; omega)⟩
theorem rl_int (h : rl U φ 0 a b) : a = b ∧ iI a := h.1 rfl
-- instructions that touch the top frame alone
theorem s_push (C : CodeOK z r G) (hm : MR G r f0 s m0) (hT : s 31 9 < 6000) (ho : r 58 (s 31 6) = 0 ∨ r 58 (s 31 6) = 1 ∨ r 58 (s 31 6) = 2)
    (g : ∀ s1, ((∀ k, 45 ≤ k → s1 k = s k) ∧ s1 31 9 = s 31 9 + 1) → StepOK X G r f0 s s1 → Q 0 s1) : w_69 X (zu s 31 9 (s 31 9 + 1)) Q := by
  obtain ⟨U0, φ0, hh0, hf0, hg0, o8, o39⟩ := hm
  generalize eT : s 31 9 = T at *
  generalize ei : s 31 6 = i at *
  generalize eF : s 39 4 = F at *
  obtain ⟨x1, x2, x3, x4, x5, x6, x7, x8, x9, x10⟩ := ctx C hf0 hg0 eF ei
  have k0 := x2.1
  have k2 := x2.2.2.1
  have nxt := (C.2.2.2.2.2.1 i x1.1.1 x1.1.2).2.2 (by omega)
  have lv := (C.2.2.2.2.2.2.2.2 i x1.1.1 x1.1.2).1
  have hj : (¬ r 58 i = 14 ∧ ¬ r 58 i = 11 ∧ i + 1 = i + 1) ∨ ((r 58 i = 10 ∨ r 58 i = 11) ∧ i + 1 = r 59 i) := Or.inl ⟨by omega, by omega, rfl⟩
  have hH : G i 0 0 < 16 ∧ G (i + 1) 0 0 = G i 0 0 + 1 := by
    have okj := (C.2.2.2.2.2.1 (i + 1) (by omega) nxt).1
    obtain ⟨-, -, -, -, -, -, -, -, -, -, -, -, -, -, -, -, -, -, w, -⟩ := okj
    rcases ho with q | q | q
    · have := (k0 q).2.2.1; omega
    · obtain ⟨t, -, e⟩ := x2.2.1 q
      have := e.2.1; omega
    · have := (k2 q).2.2.2.1; omega
  refine c_head (i := i) (o := r 58 i) (v := r 59 i) (by omega) ei x3.1 x3.2 x10 ⟨?_, ?_, ?_, ?_, ?_, ?_, ?_, ?_, ?_, ?_, ?_, ?_, ?_, ?_, ?_, ?_, ?_⟩ <;> intro c <;> first | (exfalso; omega) | skip
  · refine c_0 eF x5.1 x4 (by omega) (fun s1 te => g s1 te.fr (fun m hm Q' k => ?_))
    obtain ⟨U, φ, hh, hf, hg, o8, o39⟩ := hm
    obtain ⟨-, -, -, -, y5, y6, y7, y8, -, -⟩ := ctx C hf hg eF ei
    refine m_head o39 (by rw [y6.2.2.2.2.2, eT]) (by omega) y6.2.1 (by omega) y6.2.2.1 y6.2.2.2.1 y6.2.2.2.2.1 x10 ⟨fun _ _ => w_146_i ⟨by omega, ?_⟩, fun q => by omega, fun q => by omega⟩
    rw [zu_n (by omega), y6.2.1]
    ((repeat' (refine And.intro ?_ ?_)) <;> intro c <;> first | (exfalso; omega) | skip)
    exact m_0 y6.1 y5.2.1 x4 (by omega) (fun m1 me => k m1 (Or.inl (sim_top C hh hf hg o8 o39 eF ei eT hT te me (k0 c).2 hj (by omega) (by omega) (by omega) (by omega) (Or.inr ⟨rfl, ⟨fun _ => ⟨rfl, (k0 c).1⟩, fun w => by omega⟩⟩))) me.fr)
  · obtain ⟨t, ht, e⟩ := x2.2.1 c
    refine c_0 eF x5.1 x4 (by omega) (fun s1 te => g s1 te.fr (fun m hm Q' k => ?_))
    obtain ⟨U, φ, hh, hf, hg, o8, o39⟩ := hm
    obtain ⟨-, -, -, -, y5, y6, y7, y8, -, -⟩ := ctx C hf hg eF ei
    refine m_head o39 (by rw [y6.2.2.2.2.2, eT]) (by omega) y6.2.1 (by omega) y6.2.2.1 y6.2.2.2.1 y6.2.2.2.2.1 x10 ⟨fun _ _ => w_146_i ⟨by omega, ?_⟩, fun q => by omega, fun q => by omega⟩
    rw [zu_n (by omega), y6.2.1]
    ((repeat' (refine And.intro ?_ ?_)) <;> intro c <;> first | (exfalso; omega) | skip)
    exact m_0 y6.1 y5.2.1 x4 (by omega) (fun m1 me => k m1 (Or.inl (sim_top C hh hf hg o8 o39 eF ei eT hT te me e hj (by omega) (by omega) (by omega) (by omega) (Or.inr ⟨rfl, ⟨fun w => by omega, fun _ => Or.inl ⟨rfl, rfl⟩⟩⟩))) me.fr)
  · obtain ⟨v1, v2, e⟩ := k2 c
    refine w_94_i ?_
    have e39 : zu (zu s 31 9 (T + 1)) 31 6 (i + 1) 39 4 = F := by rw [zu_g (by decide), zu_g (by decide)]; exact eF
    rw [e39, zu_g (by decide), zu_g (by decide)]
    refine ⟨by omega, c_0 eF x5.1 x4 (by omega) (fun s1 te => g s1 te.fr (fun m hm Q' k => ?_))⟩
    obtain ⟨U, φ, hh, hf, hg, o8, o39⟩ := hm
    obtain ⟨-, -, -, -, y5, y6, y7, y8, -, -⟩ := ctx C hf hg eF ei
    refine m_head o39 (by rw [y6.2.2.2.2.2, eT]) (by omega) y6.2.1 (by omega) y6.2.2.1 y6.2.2.2.1 y6.2.2.2.2.1 x10 ⟨fun _ _ => w_146_i ⟨by omega, ?_⟩, fun q => by omega, fun q => by omega⟩
    have e56 : zu m 45 40 (T + 1) 45 56 = F := by rw [zu_n (by omega)]; exact y6.1
    rw [e56, zu_n (by omega), y6.2.1]
    ((repeat' (refine And.intro ?_ ?_)) <;> intro c <;> first | (exfalso; omega) | skip)
    rw [zu_g (by decide)]
    refine ⟨by omega, ?_⟩
    have live : tb (r 63 i) (r 59 i).toNat = true := by
      rw [lv, afM, if_pos c, tb_O, tb_L (by omega) (by omega)]
      rw [decide_eq_true (by omega), Bool.or_true]
    have rr := y8 (r 59 i).toNat (by omega) live
    rw [show (((r 59 i).toNat : Nat) : Int) = r 59 i by omega] at rr
    exact m_0 y6.1 y5.2.1 x4 (by omega) (fun m1 me => k m1 (Or.inl (sim_top C hh hf hg o8 o39 eF ei eT hT te me e hj (by omega) (by omega) (by omega) (by omega) (Or.inr ⟨rfl, rr⟩))) me.fr)
end
