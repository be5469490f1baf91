section
variable {G : Int → Nat → Int → Int} {z r s m s1 m1 m0 s2 m2 : zS} {f0 i j F N o v tk p q t T H a b e n f x1 : Int} {U : Int → Int → Prop} {φ : Int → Int} {X : zX} {Q : Int → zS → Prop}
def due (n f : Int) : Prop := 0 < f ∧ zM (n + 1) f = 0
theorem zM_r {x y : Int} : -2147483648 ≤ zM x y ∧ zM x y ≤ 2147483647 := by
  unfold zM
  have := Int32.le_toInt (Int32.ofInt x - Int32.ofInt x / Int32.ofInt y * Int32.ofInt y)
  have := Int32.toInt_lt (Int32.ofInt x - Int32.ofInt x / Int32.ofInt y * Int32.ofInt y)
  omega
theorem c_forced (e7 : s 31 7 = n) (e5 : s 31 5 = f) (hf : 0 ≤ f ∧ f ≤ 2147483647) (k1 : due n f → Q 1 (zu s 31 7 (n + 1))) (k0 : ¬ due n f → Q 0 (zu s 31 7 (n + 1))) : w_72 X s Q := by
  refine w_72_i ?_
  rw [e7]
  rintro _ rfl
  have a1 : zu s 31 7 (n + 1) 31 5 = f := by rw [zu_n (by omega)]; exact e5
  rw [a1, zu_s]
  refine ⟨by omega, fun q => w_72_33_i (k0 (fun w => by have := w.1; omega)), fun q => ⟨⟨by omega, by omega⟩, zM_r, fun q' => w_72_33_i (k0 (fun w => q' w.2)), fun q' => k1 ⟨by omega, Classical.not_not.mp q'⟩⟩⟩
theorem m_due (e7 : m 45 58 = n) (e5 : m 45 38 = f) (hf : 0 ≤ f ∧ f ≤ 2147483647) (hx : x1 = 0 ∨ x1 = 1) (k1 : (due n f ∨ x1 = 0) → Q 1 (zu m 45 58 (n + 1))) (k0 : ¬ (due n f ∨ x1 = 0) → Q 0 (zu m 45 58 (n + 1))) : w_139 X x1 m Q := by
  refine w_139_i ?_
  rw [e7]
  rintro _ rfl
  have a1 : zu m 45 58 (n + 1) 45 38 = f := by rw [zu_n (by omega)]; exact e5
  have nd : ¬ due n f → w_139_29 X x1 (zu m 45 58 (n + 1)) Q := fun w => w_139_29_i ⟨by omega, fun q => k0 (fun c => c.elim w q), fun q => w_139_33_i (k1 (Or.inr (Classical.not_not.mp q)))⟩
  rw [a1, zu_s]
  exact ⟨by omega, fun q => nd (fun w => by have := w.1; omega), fun q => ⟨⟨by omega, by omega⟩, zM_r, fun q' => w_139_33_i (k1 (Or.inl ⟨by omega, q'⟩)), fun q' => nd (fun w => q' w.2)⟩⟩
-- at a NEW or a CALL, behind the collection if there was one
def AA (s : zS) (i : Int) : Int → Int := fun g => if g = s 39 4 then i else s 43 g
def HH (G : Int → Nat → Int → Int) (r s : zS) (i : Int) : Int → Int := fun g => if g = s 39 4 then G i 0 0 else G (s 43 g) 0 0 - r 60 (s 43 g)
def MC (G : Int → Nat → Int → Int) (r s m s2 m2 : zS) (i T : Int) : Prop :=
  ∃ U φ, hp U φ r s2 m2 ∧ (∀ g, 0 ≤ g → g ≤ s 39 4 → fr U φ G s2 m2 g (AA s i g) (HH G r s i g) (r 63 (AA s i g + 1))) ∧ glo r s2 m2 ∧
    (s2 31 8 = 0 ∧ m2 45 39 = 0 ∧ s2 39 = s 39 ∧ s2 43 = s 43 ∧ m2 80 = m 80 ∧ m2 45 56 = m 45 56 ∧ m2 45 57 = i ∧ s2 31 6 = i + 1 ∧ s2 31 9 = T + 1) ∧ KF m m2
-- the states before the collection
def sc (s : zS) (T i n : Int) : zS := zu (zu (zu s 31 9 (T + 1)) 31 6 (i + 1)) 31 7 (n + 1)
def mc (m : zS) (T n : Int) : zS := zu (zu m 45 40 (T + 1)) 45 58 (n + 1)
theorem sc_k (k : Nat) (h : ¬ k = 31) : sc s T i n k = s k := by rw [sc, zu_f h, zu_f h, zu_f h]
theorem mc_k (k : Nat) (h : ¬ k = 45) : mc m T n k = m k := by rw [mc, zu_f h, zu_f h]
theorem sc_j (h : ¬ (j = 6 ∨ j = 7 ∨ j = 9)) : sc s T i n 31 j = s 31 j := by rw [sc, zu_n (by omega), zu_n (by omega), zu_n (by omega)]
theorem mc_j (h : ¬ (j = 40 ∨ j = 58)) : mc m T n 45 j = m 45 j := by rw [mc, zu_n (by omega), zu_n (by omega)]
theorem fam_of (C : CodeOK z r G) (h7 : ∀ f, 0 ≤ f → f < z 3 6 → 0 ≤ z 7 f ∧ z 7 f ≤ 3) (hf : frs U φ G r s m f0) (hg : glo r s m) (ei : s 31 6 = i) (ho : r 58 i = 6 ∨ r 58 i = 13) : fam U φ G r (sc s T i n) (mc m T n) i (AA s i) (HH G r s i) := by
  obtain ⟨f1, f2, f3, f4, f5⟩ := hf
  intro g q1 q2
  rw [sc_k 39 (by omega)] at q2
  have frc : ∀ g at' H L, fr U φ G s m g at' H L → fr U φ G (sc s T i n) (mc m T n) g at' H L := by
    intro g at' H L h
    unfold fr
    rw [sc_k 40 (by omega), sc_k 41 (by omega), sc_k 42 (by omega), mc_k 81 (by omega), mc_k 82 (by omega), mc_k 83 (by omega)]
    exact h
  unfold atC atM AA HH
  rw [sc_k 39 (by omega), sc_k 43 (by omega), mc_j (by omega), mc_j (by omega), mc_k 80 (by omega), f1.2.2, f2.2.2, ei]
  by_cases e : g = s 39 4
  · rw [if_pos e, if_pos e, if_pos e]
    rw [ei] at f2 f3
    obtain ⟨-, -, -, b4, b5⟩ := bits C ⟨f2.1, f2.2.1⟩ ho
    refine ⟨rfl, rfl, ⟨f2.1, f2.2.1⟩, ho, by omega, frc _ _ _ _ ?_⟩
    rw [← b4, e]; exact f3
  · rw [if_neg e, if_neg e, if_neg e]
    obtain ⟨⟨g1, g2, g3, g4⟩, -, g6⟩ := f4 g q1 (by omega)
    have ok := (C.2.2.2.2.2.1 _ g1 g2).1
    obtain ⟨c1, -, c3, -, c5⟩ := ok.2.2.2.2.2.2.2.2.2.2.2.1 g3
    have h7' := h7 _ c1.1 c1.2
    rw [g4]
    have h6 := g6.1
    refine ⟨rfl, by omega, ⟨g1, g2⟩, Or.inr g3, by omega, frc _ _ _ _ g6⟩
theorem hp_sc (hh : hp U φ r s m) : hp U φ r (sc s T i n) (mc m T n) := hp_c hh (fun k hk => sc_k k (by omega)) (fun k hk => mc_k k (by omega)) (mc_j (by omega))
theorem glo_sc (hg : glo r s m) (eT : s 31 9 = T) (hT : T < 6000) (en : s 31 7 = n) : glo r (sc s T i n) (mc m T n) := by
  obtain ⟨g1, g2, g3, g4, g5, g6, g7, g8, g9, g10, g11⟩ := hg
  have t1 : sc s T i n 31 9 = T + 1 := by rw [sc]; simp [zu]
  have t2 : sc s T i n 31 7 = n + 1 := by rw [sc, zu_s]
  have t3 : mc m T n 45 40 = T + 1 := by rw [mc]; simp [zu]
  have t4 : mc m T n 45 58 = n + 1 := by rw [mc, zu_s]
  refine ⟨fun k hk => by rw [sc_k k (by omega)]; exact g1 k hk, fun k p q => by rw [mc_k k (by omega)]; exact g2 k p q, ?_, ?_, ?_, ?_, ?_, ?_, ?_, ?_, ?_⟩
  · rw [sc_j (by omega), sc_j (by omega), sc_j (by omega), mc_j (by omega), mc_j (by omega), mc_j (by omega)]; exact g3
  · rw [t2, t4, t3]; omega
  · rw [t1, t3]; omega
  · rw [sc_j (by omega), mc_j (by omega), t3]; omega
  · rw [sc_j (by omega), mc_j (by omega)]; exact g7
  · rw [sc_j (by omega), mc_j (by omega)]; exact g8
  · rw [sc_j (by omega), mc_j (by omega), sc_k 44 (by omega), mc_k 73 (by omega)]; exact g9
  · rw [sc_k 37 (by omega), sc_k 32 (by omega)]; exact g10
  · rw [sc_k 32 (by omega), t3]; omega
theorem mc_no (C : CodeOK z r G) (h7 : ∀ f, 0 ≤ f → f < z 3 6 → 0 ≤ z 7 f ∧ z 7 f ≤ 3) (hh : hp U φ r s m) (hf : frs U φ G r s m f0) (hg : glo r s m) (o8 : s 31 8 = 0) (o39 : m 45 39 = 0) (ei : s 31 6 = i) (ho : r 58 i = 6 ∨ r 58 i = 13) (eT : s 31 9 = T) (hT : T < 6000) (en : s 31 7 = n) : MC G r s m (sc s T i n) (mc m T n) i T := by
  have F := fam_of (T := T) (n := n) C h7 hf hg ei ho
  refine ⟨U, φ, hp_sc hh, fun g q1 q2 => (F g q1 (by rw [sc_k 39 (by omega)]; exact q2)).2.2.2.2.2, glo_sc hg eT hT en, ⟨by rw [sc_j (by omega)]; exact o8, by rw [mc_j (by omega)]; exact o39, sc_k 39 (by omega), sc_k 43 (by omega), mc_k 80 (by omega), mc_j (by omega), ?_, ?_, ?_⟩, ⟨fun k hk => mc_k k (by omega), fun j hj => mc_j (by have := kj_n hj; omega)⟩⟩
  · rw [mc_j (by omega), hf.2.1.2.2]; exact ei
  · rw [sc]; simp [zu]
  · rw [sc]; simp [zu]
theorem mc_col (C : CodeOK z r G) (h7 : ∀ f, 0 ≤ f → f < z 3 6 → 0 ≤ z 7 f ∧ z 7 f ≤ 3) (hz : ∀ t, tI t → tI (z 4 t) ∧ tI (z 5 t)) (hh : hp U φ r s m) (hf : frs U φ G r s m f0) (hg : glo r s m) (o8 : s 31 8 = 0) (o39 : m 45 39 = 0) (ei : s 31 6 = i) (ho : r 58 i = 6 ∨ r 58 i = 13) (eT : s 31 9 = T) (hT : T < 6000) (en : s 31 7 = n) (kc : KC (sc s T i n) s2 i) (km : KM (mc m T n) m2) : MC G r s m s2 m2 i T := by
  have F := fam_of (T := T) (n := n) C h7 hf hg ei ho
  have G0 := glo_sc (i := i) hg eT hT en
  have e56 : mc m T n 45 56 = sc s T i n 39 4 := by rw [mc_j (by omega), sc_k 39 (by omega)]; exact hf.1.2.2
  obtain ⟨h1, h2⟩ := col_hp C hz (hp_sc (T := T) (i := i) (n := n) hh) G0.1 G0.2.1 e56 F kc km
  obtain ⟨k1, k2, k3, k4, k5, k6, k7, k8, k9⟩ := kc
  obtain ⟨n1, n2, n3, n4, n5, n6, n7⟩ := km
  obtain ⟨g1, g2, g3, g4, g5, g6, g7, g8, g9, g10, g11⟩ := G0
  have b6 := hg.2.2.2.2.2.1
  have b5 := hg.2.2.2.2.1
  have t3 : mc m T n 45 40 = T + 1 := by rw [mc]; simp [zu]
  have c1 : sc s T i n 31 10 = s 31 10 := sc_j (by omega)
  have c2 : mc m T n 45 41 = m 45 41 := mc_j (by omega)
  have c3 : sc s T i n 32 6 = s 32 6 := by rw [sc_k 32 (by omega)]
  have b11 := hg.2.2.2.2.2.2.2.2.2.2
  have cnt := h1.2.2.2.2.2.2.1
  refine ⟨_, φ, h1, fun g q1 q2 => h2 g q1 (by rw [sc_k 39 (by omega)]; exact q2), ⟨fun k hk => by rw [k1 k (by omega)]; exact g1 k hk, fun k p q => by rw [n1 k (by omega)]; exact g2 k p q, ?_, ?_, ?_, ?_, ?_, ?_, ?_, ?_, ?_⟩, ⟨by rw [k2 8 (by omega), sc_j (by omega)]; exact o8, by rw [n2 39 (by omega), mc_j (by omega)]; exact o39, by rw [k1 39 (by omega), sc_k 39 (by omega)], by rw [k1 43 (by omega), sc_k 43 (by omega)], by rw [n1 80 (by omega), mc_k 80 (by omega)], by rw [n2 56 (by omega), mc_j (by omega)], by rw [n2 57 (by omega), mc_j (by omega), hf.2.1.2.2]; exact ei, ?_, ?_⟩, ⟨fun k hk => by rw [n1 k (by omega), mc_k k (by omega)], fun j hj => by have := kj_n hj; rw [n2 j (by omega), mc_j (by omega)]⟩⟩
  · rw [k2 4 (by omega), k2 5 (by omega), k2 16 (by omega), n2 37 (by omega), n2 38 (by omega), n2 47 (by omega)]; exact g3
  · rw [k2 7 (by omega), n2 58 (by omega), n2 40 (by omega)]; exact g4
  · rw [k2 9 (by omega), n2 40 (by omega)]; exact g5
  · rw [k3, n3, n2 40 (by omega), t3, c1, c2]; omega
  · rw [k4, n4, cnt]; omega
  · rw [k2 12 (by omega), n2 43 (by omega)]; exact g8
  · rw [k2 14 (by omega), n2 44 (by omega), k1 44 (by omega), n1 73 (by omega)]; exact g9
  · exact k6
  · rw [k5, n2 40 (by omega), t3, c3]; omega
  · rw [k2 6 (by omega), sc]; simp [zu]
  · rw [k2 9 (by omega), sc]; simp [zu]
-- the program may collect here
theorem col_c (C : CodeOK z r G) (h7 : ∀ f, 0 ≤ f → f < z 3 6 → 0 ≤ z 7 f ∧ z 7 f ≤ 3) (hz : ∀ t, tI t → tI (z 4 t) ∧ tI (z 5 t)) (h32 : r 32 6 ≤ 900000000) (hh : hp U φ r s m) (hf : frs U φ G r s m f0) (hg : glo r s m) (ei : s 31 6 = i) (ho : r 58 i = 6 ∨ r 58 i = 13) (eT : s 31 9 = T) (hT : T < 6000) (en : s 31 7 = n)
    (k : ∀ s2, KC (sc s T i n) s2 i → Q 0 s2) : w_74 X i (sc s T i n) Q := by
  have F := fam_of (T := T) (n := n) C h7 hf hg ei ho
  have G0 := glo_sc (i := i) hg eT hT en
  have H0 := hp_sc (T := T) (i := i) (n := n) hh
  have e56 : mc m T n 45 56 = sc s T i n 39 4 := by rw [mc_j (by omega), sc_k 39 (by omega)]; exact hf.1.2.2
  obtain ⟨⟨gC, rC⟩, -, -, -⟩ := tie C hz H0 G0.1 G0.2.1 e56 F
  have hF : 0 ≤ sc s T i n 39 4 ∧ sc s T i n 39 4 < 24 := by rw [sc_k 39 (by omega)]; exact ⟨hf.1.1, hf.1.2.1⟩
  have r400 := C.2.1.2.2
  refine k_74 (U := fun v => ∃ t, U v t) hF (fun g q1 q2 => ?_) (fun g q1 q2 => ?_) gC rC H0.2.2.2.2.1 H0.2.2.2.2.2.1 ?_ G0.2.2.2.2.2.2.2.2.2.1 (fun s2 a b c d e f' g' h' i' => k s2 ⟨a, b, c, d, e, f', g', h', i'⟩)
  · obtain ⟨a1, -, a3, -⟩ := F g q1 q2
    rw [a1]; omega
  · obtain ⟨-, -, -, -, -, f1, -⟩ := F g q1 q2
    rw [f1.1]; exact f1.2.2
  · have := G0.2.2.2.2.2.2.2.2.2.2
    have := G0.2.2.2.2.1
    omega
theorem col_m (C : CodeOK z r G) (h7 : ∀ f, 0 ≤ f → f < z 3 6 → 0 ≤ z 7 f ∧ z 7 f ≤ 3) (hz : ∀ t, tI t → tI (z 4 t) ∧ tI (z 5 t)) (hh : hp U φ r s m) (hf : frs U φ G r s m f0) (hg : glo r s m) (ei : s 31 6 = i) (ho : r 58 i = 6 ∨ r 58 i = 13) (eT : s 31 9 = T) (hT : T < 6000) (en : s 31 7 = n)
    (k : ∀ m2, KM (mc m T n) m2 → Q 0 m2) : w_140 X (mc m T n) Q := by
  have F := fam_of (T := T) (n := n) C h7 hf hg ei ho
  have G0 := glo_sc (i := i) hg eT hT en
  have H0 := hp_sc (T := T) (i := i) (n := n) hh
  have e56 : mc m T n 45 56 = sc s T i n 39 4 := by rw [mc_j (by omega), sc_k 39 (by omega)]; exact hf.1.2.2
  obtain ⟨-, ⟨gM, rM⟩, lo, -⟩ := tie C hz H0 G0.1 G0.2.1 e56 F
  have r400 := C.2.1.2.2
  refine k_140 (U := fun p => ∃ v t, U v t ∧ φ v = p) (by rw [e56, sc_k 39 (by omega)]; exact ⟨hf.1.1, hf.1.2.1⟩) (fun g q1 q2 => ?_) (fun g q1 q2 => ?_) gM rM lo H0.2.2.2.2.2.2.2.2 (fun m2 a b c d e f' g' => k m2 ⟨a, b, c, d, e, f', g'⟩)
  · obtain ⟨-, a2, a3, -⟩ := F g q1 (by rw [← e56]; exact q2)
    rw [a2]; omega
  · obtain ⟨-, -, -, -, -, f1, -⟩ := F g q1 (by rw [← e56]; exact q2)
    rw [f1.2.1]; exact f1.2.2
end
