section
variable {G : Int → Nat → Int → Int} {z r s m s1 m1 m0 s2 m2 s3 m3 : zS} {f0 i j F N o v tk p q t T H a b e n f x1 a1 a2 b1 b2 w : Int} {U U' : Int → Int → Prop} {φ φ' : Int → Int} {X : zX} {Q : Int → zS → Prop} {D : Prop}
def U3 (U : Int → Int → Prop) (w t : Int) : Int → Int → Prop := fun u τ => (u = w ∧ τ = t) ∨ U u τ
def φ3 (φ : Int → Int) (w p : Int) : Int → Int := fun u => if u = w then p else φ u
theorem hp_w (h : hp U φ r s2 m2) (hc : s2 32 4 < 200) (ew : s2 36 (s2 32 4) = w) (v t : Int) (k : U v t) : ¬ v = w := by
  obtain ⟨⟨j, p1, p2, p3⟩, -⟩ := (h.1 v t).mp k
  intro e
  have := h.2.2.2.2.1.2 j (s2 32 4) p1 (by omega) h.2.2.2.2.2.1.1 hc (by omega)
  omega
theorem mono3 (h : hp U φ r s2 m2) (hc : s2 32 4 < 200) (ew : s2 36 (s2 32 4) = w) : ∀ a t', U a t' → U3 U w t a t' ∧ φ3 φ w p a = φ a := by
  intro a t' k
  refine ⟨Or.inr k, ?_⟩
  rw [φ3, if_neg (hp_w h hc ew a t' k)]
theorem hp_new (h : hp U φ r s2 m2) (hc : s2 32 4 < 200) (ew : s2 36 (s2 32 4) = w) (hp0 : 0 ≤ p ∧ p < 200) (h74 : m2 74 p = 0) (ht : 1 ≤ t ∧ t ≤ 7) (r1 : rl U φ (r 20 t) a2 b2) (r2 : rl U φ (r 21 t) a1 b1)
    (nc : NC s2 s3 F H w t a2 a1) (nm : NM m2 m3 F H p t b2 b1 j) : hp (U3 U w t) (φ3 φ w p) r s3 m3 := by
  have nw := hp_w h hc ew
  have mo := mono3 (t := t) (p := p) h hc ew
  obtain ⟨h1, h2, h3, h4, h5, h6⟩ := h
  obtain ⟨n1, n2, n3, n4, n5, n6, n7, n8⟩ := nc
  obtain ⟨k1, k2, k3, k4, k5, k6, k7, k8, k9, k10⟩ := nm
  have e36 : s3 36 = s2 36 := n1 36 (by omega)
  have e74 : ∀ x, m3 74 x = if x = p then 1 else m2 74 x := fun x => by rw [k5]; simp [zu]
  have fw : φ3 φ w p w = p := by rw [φ3, if_pos rfl]
  have fv : ∀ v t', U v t' → ¬ φ v = p := fun v t' k e => by
    have := (h2 v t' k).1.2.2
    rw [e] at this; omega
  refine ⟨fun v τ => ?_, fun v τ k => ?_, fun v u τ σ kv ku e => ?_, fun x q1 q2 e => ?_, by rw [e36]; exact h5, ?_⟩
  · rw [e36, n3, n6]
    constructor
    · rintro (⟨rfl, rfl⟩ | k)
      · exact ⟨⟨s2 32 4, h6.1.1, by omega, ew⟩, by rw [if_pos rfl]⟩
      · obtain ⟨⟨x, p1, p2, p3⟩, p4⟩ := (h1 v τ).mp k
        exact ⟨⟨x, p1, by omega, p3⟩, by rw [if_neg (nw v τ k)]; exact p4⟩
    · rintro ⟨⟨x, p1, p2, p3⟩, p4⟩
      by_cases c : v = w
      · rw [if_pos c] at p4
        exact Or.inl ⟨c, p4.symm⟩
      · rw [if_neg c] at p4
        refine Or.inr ((h1 v τ).mpr ⟨⟨x, p1, ?_, p3⟩, p4⟩)
        by_cases c2 : x = s2 32 4
        · rw [c2, ew] at p3; exact absurd p3.symm c
        · omega
  · rcases k with ⟨rfl, rfl⟩ | k
    · rw [fw, n4, n5, if_pos rfl, if_pos rfl, k8, k6, k7, if_pos rfl, if_pos rfl, if_pos rfl, e74, if_pos rfl]
      exact ⟨⟨hp0.1, hp0.2, rfl⟩, ht, rfl, rl_mono mo r1, rl_mono mo r2⟩
    · obtain ⟨⟨a1', a2', a3'⟩, a4, a5, a6, a7⟩ := h2 v τ k
      have nv := nw v τ k
      have np := fv v τ k
      rw [(mo v τ k).2, n4, n5, if_neg nv, if_neg nv, k8, k6, k7, if_neg np, if_neg np, if_neg np, e74, if_neg np]
      exact ⟨⟨a1', a2', a3'⟩, a4, a5, rl_mono mo a6, rl_mono mo a7⟩
  · rcases kv with ⟨rfl, rfl⟩ | kv <;> rcases ku with ⟨c1, c2⟩ | ku
    · exact c1.symm
    · rw [fw, (mo u σ ku).2] at e
      exact absurd e.symm (fv u σ ku)
    · rw [c1, fw, (mo v τ kv).2] at e
      exact absurd e (fv v τ kv)
    · rw [(mo v τ kv).2, (mo u σ ku).2] at e
      exact h3 v u τ σ kv ku e
  · rw [e74] at e
    by_cases c : x = p
    · exact ⟨w, t, Or.inl ⟨rfl, rfl⟩, by rw [fw, c]⟩
    · rw [if_neg c] at e
      obtain ⟨v, τ, kv, ev⟩ := h4 x q1 q2 e
      exact ⟨v, τ, Or.inr kv, by rw [(mo v τ kv).2]; exact ev⟩
  · rw [n3, k4]
    refine ⟨⟨by omega, by omega⟩, by omega, ?_, fun x q1 q2 => ?_⟩
    · have := cn_up (f := m2 74) (g := m3 74) 200 hp0 (fun k _ _ hk => by rw [e74, if_neg hk])
      rw [this, e74, if_pos rfl, h74, h6.2.2.1]; omega
    · rw [e74]
      by_cases c : x = p
      · rw [if_pos c]; exact Or.inr rfl
      · rw [if_neg c]; exact h6.2.2.2 x q1 q2
set_option maxHeartbeats 1000000 in
theorem s_new (C : CodeOK z r G) (h7 : ∀ f, 0 ≤ f → f < z 3 6 → 0 ≤ z 7 f ∧ z 7 f ≤ 3) (hz : ∀ t, tI t → tI (z 4 t) ∧ tI (z 5 t)) (h32 : r 32 6 ≤ 900000000) (h5 : 0 ≤ r 31 5 ∧ r 31 5 ≤ 2147483647) (ha : 3 ≤ r 31 4 ∧ r 31 4 ≤ 600) (hm : MR G r f0 s m0) (hT : s 31 9 < 6000) (ho : r 58 (s 31 6) = 6)
    (g : ∀ s1, ((∀ k, 45 ≤ k → s1 k = s k) ∧ s1 31 9 = s 31 9 + 1) → StepOK X G r f0 s s1 → Q 0 s1) : w_69 X (zu s 31 9 (s 31 9 + 1)) Q := by
  obtain ⟨U0, φ0, hh0, hf0, hg0, o8, o39⟩ := hm
  generalize eT : s 31 9 = T at *
  generalize ei : s 31 6 = i at *
  generalize eF : s 39 4 = F at *
  generalize en : s 31 7 = n at *
  obtain ⟨x1, x2, x3, x4, x5, x6, x7, x8, x9, x10⟩ := ctx C hf0 hg0 eF ei
  obtain ⟨y1, y2, y3, e⟩ := x2.2.2.2.2.1 ho
  unfold top at y2 y3
  have hH := e.1
  have hH2 := e.2.1
  have nxt := (C.2.2.2.2.2.1 i x1.1.1 x1.1.2).2.2 (by omega)
  obtain ⟨g1, g2, g3, g4, g5, g6, g7, g8, g9, g10, g11⟩ := id hg0
  have h20 := C.2.2.2.2.2.2.2.1 (r 59 i) ⟨by omega, by omega⟩
  have D : ∃ D : Prop, D = (due n (r 31 5) ∨ r 31 4 < s 32 4 * 3 + 3) := ⟨_, rfl⟩
  obtain ⟨D, eD⟩ := D
  refine c_head (i := i) (o := r 58 i) (v := r 59 i) (by omega) ei x3.1 x3.2 x10 ⟨?_, ?_, ?_, ?_, ?_, ?_, ?_, ?_, ?_, ?_, ?_, ?_, ?_, ?_, ?_, ?_, ?_⟩ <;> intro c <;> first | (exfalso; omega) | skip
  -- what the reference does, once the program has come to s3
  have mod : ∀ s2 s3, CG D s s2 T i n → ((r 31 4 < s2 32 4 * 3 + 3 ∧ s3 = zu s2 31 8 3) ∨ (s2 32 4 * 3 + 3 ≤ r 31 4 ∧ NC s2 s3 F (G i 0 0) (s2 36 (s2 32 4)) (r 59 i) (s2 41 (F * 16 + (G i 0 0 - 2))) (s2 41 (F * 16 + (G i 0 0 - 1))))) → StepOK X G r f0 s s3 := by
    intro s2 s3 cf hs3 m hm Q' k
    obtain ⟨U, φ, hh, hf, hg, o8, o39⟩ := hm
    obtain ⟨-, -, -, -, v5, v6, v7, v8, -, -⟩ := ctx C hf hg eF ei
    obtain ⟨k1, k2, k3⟩ := cg_k cf
    refine m_head o39 (by rw [v6.2.2.2.2.2, eT]) (by omega) v6.2.1 (by omega) v6.2.2.1 v6.2.2.2.1 v6.2.2.2.2.1 x10 ⟨fun _ _ => w_146_i ⟨by omega, ?_⟩, fun q => by omega, fun q => by omega⟩
    rw [zu_n (by omega), v6.2.1]
    ((repeat' (refine And.intro ?_ ?_)) <;> intro c <;> first | (exfalso; omega) | skip)
    -- behind the collection
    have after : ∀ m2, MC G r s m s2 m2 i T → w_148_15 X (r 59 i) m2 (fun _ s8 => w_146_234 X (i + 1) s8 (fun _ m2 => Q' m2)) := by
      rintro m2 ⟨U2, φ2, hp2, fr2, gl2, ⟨d1, d2, d3, d4, d5, d6, d7, d8, d9⟩, dk⟩
      obtain ⟨l1, l2, l3, l4, l5, l6, l7, l8, l9, l10, l11⟩ := id gl2
      have e56 : m2 45 56 = F := by rw [d6]; exact v6.1
      have ft := fr2 F (by omega) (by rw [eF]; omega)
      have aF : AA s i F = i := by rw [AA, eF, if_pos rfl]
      have hF' : HH G r s i F = G i 0 0 := by rw [HH, eF, if_pos rfl]
      rw [aF, hF'] at ft
      have c6 := hp2.2.2.2.2.2
      refine m_new (F := F) (H := G i 0 0) (cnt := s2 32 4) (a := r 31 4) e56 x4 ft.1.2.1 (by omega) rfl rfl c6.2.1 c6.1 c6.2.2.1 c6.2.2.2 l3.2.2.2.1 ha (fun qr p m3 hp0 h74 nm => ?_) (fun qr => ?_)
      · -- a new pair
        rcases hs3 with ⟨qF, -⟩ | ⟨qF, nc⟩
        · omega
        have hc : s2 32 4 < 200 := by omega
        have mo := mono3 (t := r 59 i) (p := p) hp2 hc rfl
        have ra := ft.2.1 (G i 0 0 - 2) (by omega) (by omega)
        have rb := ft.2.1 (G i 0 0 - 1) (by omega) (by omega)
        rw [y2, ← h20.1] at ra
        rw [y3, ← h20.2.1] at rb
        have hp3 := hp_new hp2 hc rfl hp0 h74 y1 ra rb nc nm
        have fw : φ3 φ2 (s2 36 (s2 32 4)) p (s2 36 (s2 32 4)) = p := by rw [φ3, if_pos rfl]
        obtain ⟨n1, n2, n3, n4, n5, n6, n7, n8⟩ := nc
        obtain ⟨q1, q2, q3, q4, q5, q6, q7, q8, q9, q10⟩ := nm
        refine k m3 (Or.inl ⟨_, _, hp3, ?_, ?_, by rw [n1 31 (by omega)]; exact d1, by rw [q2 39 (by omega)]; exact d2⟩) ⟨fun k hk => by rw [q1 k (by omega)]; exact dk.1 k hk, fun j hj => by have := kj_n hj; rw [q2 j (by omega)]; exact dk.2 j hj⟩
        · have lk := (C.2.2.2.2.2.2.2.2 (i + 1) (by omega) nxt).2
          have e39 : s3 39 = s 39 := by rw [n1 39 (by omega), d3]
          have e43 : s3 43 = s 43 := by rw [n1 43 (by omega), d4]
          have e80 : m3 80 = m 80 := by rw [q1 80 (by omega), d5]
          have e6 : s3 31 6 = i + 1 := by rw [n1 31 (by omega)]; exact d8
          have epl : ∀ x, G (pl s3 x) 3 0 = G (pl s x) 3 0 := by
            intro x
            simp only [pl, e39, e43]
            by_cases q : x = s 39 4
            · rw [if_pos q, if_pos q, e6, e.2.2.2.2.2, ei]
            · rw [if_neg q, if_neg q]
          refine ⟨by rw [e39, q2 56 (by omega), d6]; exact hf.1, by rw [e6, q3]; exact ⟨by omega, nxt, rfl⟩, ?_, fun x z1 z2 => ?_, by rw [epl]; exact hf.2.2.2.2⟩
          · rw [e39, eF, e6]
            refine ⟨⟨by rw [n7, if_pos rfl]; omega, by rw [q9, if_pos rfl]; omega, by omega, by omega⟩, fun x w1 w2 => ?_, fun x w1 w2 => ?_⟩
            · rw [n8, q10]
              by_cases c : x = G i 0 0 - 2
              · rw [c, if_pos rfl, if_pos rfl, e.2.2.2.1 rfl]
                exact ⟨fun w => by omega, fun _ => Or.inr ⟨Or.inl ⟨rfl, rfl⟩, fw⟩⟩
              · rw [if_neg (by omega), if_neg (by omega), e.2.2.1 x w1 (by omega)]
                exact rl_mono mo (ft.2.1 x w1 (by omega))
            · rw [n1 40 (by omega), q1 82 (by omega)]
              have g0 := (lk x (by omega) w2).2
              rcases e.2.2.2.2.1 x (by omega) (by omega) with w | w
              · rw [w]; exact rl_mono mo (ft.2.2 x w1 w2)
              · omega
          · rw [e39, eF] at z2
            obtain ⟨t1, t2, -⟩ := hf.2.2.2.1 x z1 (by rw [eF]; omega)
            have fx := fr2 x z1 (by rw [eF]; omega)
            have aX : AA s i x = s 43 x := by rw [AA, eF, if_neg (by omega)]
            have hX : HH G r s i x = G (s 43 x) 0 0 - r 60 (s 43 x) := by rw [HH, eF, if_neg (by omega)]
            rw [aX, hX] at fx
            rw [e43, e80, epl]
            refine ⟨t1, t2, ⟨?_, fun y w1 w2 => ?_, fun y w1 w2 => ?_⟩⟩
            · rw [n7, q9, if_neg (by omega), if_neg (by omega)]; exact fx.1
            · have := fx.1
              rw [n8, q10, if_neg (by omega), if_neg (by omega)]; exact rl_mono mo (fx.2.1 y w1 w2)
            · rw [n1 40 (by omega), q1 82 (by omega)]; exact rl_mono mo (fx.2.2 y w1 w2)
        · exact glo_c gl2 (fun k hk => n1 k (by omega)) (fun x hx => by rw [n1 31 (by omega)]) (n2 6 (by omega)) (fun k hk => q1 k (by omega)) (fun x hx => q2 x (by omega))
      · -- no room
        rcases hs3 with ⟨qF, rfl⟩ | ⟨qF, -⟩
        rotate_left
        · omega
        refine k _ (Or.inr ?_) ⟨fun k hk => by rw [zu_f (by omega), zu_f (by omega)]; exact dk.1 k hk, fun j hj => by have := kj_n hj; rw [zu_n (by omega), zu_n (by omega)]; exact dk.2 j hj⟩
        refine ⟨glo_c gl2 (fun k hk => zu_f (by omega)) (fun j hj => zu_n (by omega)) (zu_g (by decide)) (fun k hk => by rw [zu_f (by omega), zu_f (by omega)]) (fun j hj => by rw [zu_n (by omega), zu_n (by omega)]), by rw [zu_s]; omega, by rw [zu_n (by omega), zu_s, zu_s], ?_, by rw [zu_f (by decide)]; exact hp2.2.2.2.2.1, fun w => by rw [zu_s] at w; omega⟩
        rw [zu_g (by decide), zu_n (by omega), zu_n (by omega)]
        exact ⟨c6.1, c6.2.1⟩
    have en2 : m 45 58 = n := by rw [← hg.2.2.2.1.1]; exact en
    have e38 : m 45 38 = r 31 5 := hg.2.2.1.2.2.2.2.1
    have e48 : m 45 48 = s 32 4 := hh.2.2.2.2.2.2.1
    have c48 := hh.2.2.2.2.2.1
    have e37 : m 45 37 = r 31 4 := hg.2.2.1.2.2.2.1
    have go : ∀ x1 : Int, (x1 = 0 ∨ x1 = 1) → (x1 = 0 ↔ r 31 4 < s 32 4 * 3 + 3) → w_139 X x1 (zu m 45 40 (T + 1)) (fun v2 s2 => ((-2147483648 ≤ v2 ∧ v2 ≤ 2147483647) ∧ (v2 = 0 → w_148_15 X (r 59 i) s2 (fun _ s8 => w_146_234 X (i + 1) s8 (fun _ m2 => Q' m2))) ∧ (¬ v2 = 0 → (w_140 X s2 (fun _ s3 => w_148_15 X (r 59 i) s3 (fun _ s8 => w_146_234 X (i + 1) s8 (fun _ m2 => Q' m2))))))) := by
      intro x1 hx1 hx
      refine m_due (n := n) (f := r 31 5) (by rw [zu_n (by omega)]; exact en2) (by rw [zu_n (by omega)]; exact e38) h5 hx1 (fun hd => ⟨by omega, fun q => by omega, fun _ => ?_⟩) (fun hd => ⟨by omega, fun _ => ?_, fun q => by omega⟩)
      · have hd : D := by rw [eD]; rw [← hx]; exact hd
        have kc : KC (sc s T i n) s2 i := by
          rcases cf with w | w
          · exact absurd hd w.1
          · exact w.2
        exact col_m C h7 hz hh hf hg ei (Or.inl ho) eT hT en (fun m2 km => after m2 (mc_col C h7 hz hh hf hg o8 o39 ei (Or.inl ho) eT hT en kc km))
      · have hd : ¬ D := by rw [eD]; rw [← hx]; exact hd
        have es2 : s2 = sc s T i n := by
          rcases cf with w | w
          · exact w.2
          · exact absurd w.1 hd
        subst es2
        exact after _ (mc_no C h7 hh hf hg o8 o39 ei (Or.inl ho) eT hT en)
    refine w_148_i (w_149_i ?_)
    have f1 : zu m 45 40 (T + 1) 45 48 = s 32 4 := by rw [zu_n (by omega)]; exact e48
    have f2 : zu m 45 40 (T + 1) 45 37 = r 31 4 := by rw [zu_n (by omega)]; exact e37
    rw [f1, f2]
    exact ⟨by omega, fun q => go 0 (Or.inl rfl) ⟨fun _ => by omega, fun _ => rfl⟩, fun q => go 1 (Or.inr rfl) ⟨fun w => by omega, fun w => by omega⟩⟩
  -- the program
  have cls : ∀ s2, CG D s s2 T i n → (0 ≤ s2 32 4 ∧ s2 32 4 ≤ 200) → nums s2 → w_71_19 X (r 59 i) s2 (fun _ s2 => Q 0 s2) := by
    intro s2 cf hc hn
    obtain ⟨k1, k2, k3⟩ := cg_k cf
    have e39 : s2 39 4 = F := by rw [k1 39 (by omega)]; exact eF
    refine c_new (F := F) (H := G i 0 0) (cnt := s2 32 4) (w := s2 36 (s2 32 4)) (a := r 31 4) e39 x4 (by rw [k1 42 (by omega)]; exact x5.1) (by omega) rfl rfl rfl hc rfl (fun q => hn.1 _ hc.1 q) (by rw [k2 4 (by omega)]; exact g3.1) ha (fun q s3 nc => ?_) (fun q => ?_)
    · exact g s3 ⟨fun k hk => by rw [nc.1 k (by omega), k1 k (by omega)], by rw [nc.1 31 (by omega)]; exact k3⟩ (mod s2 s3 cf (Or.inr ⟨q, nc⟩))
    · exact g _ ⟨fun k hk => by rw [zu_f (by omega), k1 k (by omega)], by rw [zu_n (by omega)]; exact k3⟩ (mod s2 _ cf (Or.inl ⟨q, rfl⟩))
  have e5 : s 31 5 = r 31 5 := g3.2.1
  have c4 := hh0.2.2.2.2.2.1
  have go : D → w_71_14 X i (r 59 i) (sc s T i n) (fun _ s2 => Q 0 s2) := fun hd => w_71_14_i (col_c C h7 hz h32 hh0 hf0 hg0 ei (Or.inl ho) eT hT en (fun s2 kc => cls s2 (Or.inr ⟨hd, kc⟩) (by have := kc.2.2.2.2.2.2.2.1; rw [sc_k 32 (by omega)] at this; omega) kc.2.2.2.2.2.2.1))
  refine w_71_i (c_forced (n := n) (f := r 31 5) (by rw [zu_n (by omega), zu_n (by omega)]; exact en) (by rw [zu_n (by omega), zu_n (by omega)]; exact e5) h5 (fun hd => ⟨by omega, fun _ => go (by rw [eD]; exact Or.inl hd), fun q => by omega⟩) (fun hd => ⟨by omega, fun q => by omega, fun _ => w_73_i (w_86_i ?_)⟩))
  have f1 : sc s T i n 32 4 = s 32 4 := by rw [sc_k 32 (by omega)]
  have f2 : sc s T i n 31 4 = r 31 4 := by rw [sc_j (by omega)]; exact g3.1
  show ((_ ∧ _) ∧ (_ ∧ _)) ∧ _ ∧ _
  have goal : (((-2147483648 ≤ (sc s T i n 32 4 * 3 + 3) ∧ (sc s T i n 32 4 * 3 + 3) ≤ 2147483647) ∧ (-2147483648 ≤ (sc s T i n 31 4) ∧ (sc s T i n 31 4) ≤ 2147483647)) ∧ ((sc s T i n 32 4 * 3 + 3) ≤ (sc s T i n 31 4) → (-2147483648 ≤ (0:Int) ∧ (0:Int) ≤ 2147483647) ∧ ((0:Int) = 0 → w_71_19 X (r 59 i) (sc s T i n) (fun _ s2 => Q 0 s2)) ∧ (¬ (0:Int) = 0 → w_71_14 X i (r 59 i) (sc s T i n) (fun _ s2 => Q 0 s2))) ∧ (¬ (sc s T i n 32 4 * 3 + 3) ≤ (sc s T i n 31 4) → (-2147483648 ≤ (1:Int) ∧ (1:Int) ≤ 2147483647) ∧ ((1:Int) = 0 → w_71_19 X (r 59 i) (sc s T i n) (fun _ s2 => Q 0 s2)) ∧ (¬ (1:Int) = 0 → w_71_14 X i (r 59 i) (sc s T i n) (fun _ s2 => Q 0 s2)))) := by
    rw [f1, f2]
    refine ⟨by omega, fun q => ⟨by omega, fun _ => cls _ (Or.inl ⟨?_, rfl⟩) ?_ ?_, fun q => by omega⟩, fun q => ⟨by omega, fun q => by omega, fun _ => go ?_⟩⟩
    · rw [eD]; rintro (w | w)
      · exact hd w
      · omega
    · rw [f1]; exact c4
    · unfold nums; rw [sc_k 36 (by omega)]; exact hh0.2.2.2.2.1
    · rw [eD]; exact Or.inr (by omega)
  exact goal
end
