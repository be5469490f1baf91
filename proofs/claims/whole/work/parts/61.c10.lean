section
variable {m : zS} {n f t N H J W a b c t1 t2 K wp : Int}
theorem b_pre1 (hn : 0 ≤ n ∧ n < 150) (hk : m 52 n = K) (hK : K = 7 ∨ K = 8 ∨ K = 9 ∨ K = 16 ∨ K = 17) {X : zX} {Q : Int → zS → Prop} (k : w_124 X n (zu m 45 27 t) (fun _ s => Q 0 s)) : w_119 X n (zu m 45 27 t) Q := by
  apply w_119_i; apply And.intro hn; rw [zu_g (by decide), hk]
  exact ⟨by omega, fun _ => ⟨by omega, fun _ => ⟨by omega, fun _ => ⟨by omega, fun a => by omega, fun _ => ⟨by omega, fun a => by omega, fun _ => ⟨by omega, fun _ => k, fun a => by omega⟩⟩⟩, fun a => by omega⟩, fun a => by omega⟩, fun a => by omega⟩
theorem b_17o (et : m 45 27 = t + 1) (ht : 0 ≤ t ∧ t < 1200) (ew : m 67 t = 2) (en : m 68 t = n) (hn : 0 ≤ n ∧ n < 150) (hk : m 52 n = 17) (eN : m 45 16 = N) (eH : m 45 30 = H) (hN : 0 ≤ N ∧ N < 400) (hH : 1 ≤ H ∧ H ≤ 16) (eJ : m 45 36 = J) :
    ∃ m', EM (zu m 45 27 t) m' N 18 0 0 0 0 (H - 1) (m 69 (H - 1 - 1)) 0 (m 70 0) J ∧ goO f m m' := by
  (apply Exists.intro; apply And.intro; rotate_left)
  · apply gm_go et ht ew en; apply Or.inr; apply Or.inl; apply And.intro rfl; intro X Q k
    apply b_pre1 hn hk (by omega)
    apply w_124_i; apply And.intro hn
    apply p_122 H _ (by simp [zu, *]) rfl (by omega)
    rw [zu_g (by decide), hk]
    exact ⟨by omega, fun _ => ⟨by omega, fun a => by omega, fun _ => p_116 N (by simp [zu, *]) hN k⟩, fun a => by omega⟩
  · (refine ⟨fun j => ?_, fun j => ?_, fun j => ?_, fun j => ?_, fun j => ?_, ?_, ?_, ?_, fun j h1 h2 h3 => ?_, fun k => ?_, fun k => ?_, fun k hk => by (repeat rw [zu_f (by omega)])⟩ <;> (first | (simp [zu]; done) | ((repeat rw [zu_g (by decide)]); exact ife) | (simp [zu]; (repeat' split) <;> omega)))
theorem b_16o (et : m 45 27 = t + 1) (ht : 0 ≤ t ∧ t < 1200) (ew : m 67 t = 2) (en : m 68 t = n) (hn : 0 ≤ n ∧ n < 150) (hk : m 52 n = 16) (eN : m 45 16 = N) (eH : m 45 30 = H) (e1 : m 69 (H - 1) = t1) (r1 : tI t1) (hN : 0 ≤ N ∧ N < 400) (hH : 1 ≤ H ∧ H ≤ 16) (eJ : m 45 36 = J) (hJ : J = 0 ∨ J = 1) :
    ∃ m', EM (zu m 45 27 t) m' N 17 0 0 0 0 H 0 0 (m 70 0) (if t1 = 0 then J else 1) ∧ goO f m m' := by
  unfold tI at r1
  by_cases q : t1 = 0
  · rw [if_pos q]
    (apply Exists.intro; apply And.intro; rotate_left)
    · apply gm_go et ht ew en; apply Or.inr; apply Or.inl; apply And.intro rfl; intro X Q k
      apply b_pre1 hn hk (by omega)
      apply w_124_i; apply And.intro hn
      apply p_122 H t1 (by simp [zu, *]) (by simp [zu, *]) (by omega)
      rw [zu_g (by decide), hk]
      exact ⟨by omega, fun a => by omega, fun _ => p_116 N (by simp [zu, *]) hN ⟨by omega, fun a => by omega, fun _ => w_124_35_i (p_118 J (by simp [zu, *]) hJ (by simp) (p_117 (H - 1) (by simp [zu, *]) (by omega) k))⟩⟩
    · (refine ⟨fun j => ?_, fun j => ?_, fun j => ?_, fun j => ?_, fun j => ?_, ?_, ?_, ?_, fun j h1 h2 h3 => ?_, fun k => ?_, fun k => ?_, fun k hk => by (repeat rw [zu_f (by omega)])⟩ <;> (first | (simp [zu]; done) | ((repeat rw [zu_g (by decide)]); exact ife) | (simp [zu]; (repeat' split) <;> omega)))
  · rw [if_neg q]
    (apply Exists.intro; apply And.intro; rotate_left)
    · apply gm_go et ht ew en; apply Or.inr; apply Or.inl; apply And.intro rfl; intro X Q k
      apply b_pre1 hn hk (by omega)
      apply w_124_i; apply And.intro hn
      apply p_122 H t1 (by simp [zu, *]) (by simp [zu, *]) (by omega)
      rw [zu_g (by decide), hk]
      exact ⟨by omega, fun a => by omega, fun _ => p_116 N (by simp [zu, *]) hN ⟨by omega, fun a => w_124_35_i (p_118 J (by simp [zu, *]) hJ (by simp) (p_117 (H - 1) (by simp [zu, *]) (by omega) k)), fun a => by omega⟩⟩
    · (refine ⟨fun j => ?_, fun j => ?_, fun j => ?_, fun j => ?_, fun j => ?_, ?_, ?_, ?_, fun j h1 h2 h3 => ?_, fun k => ?_, fun k => ?_, fun k hk => by (repeat rw [zu_f (by omega)])⟩ <;> (first | (simp [zu]; done) | ((repeat rw [zu_g (by decide)]); exact ife) | (simp [zu]; (repeat' split) <;> omega)))
theorem b_oneo (et : m 45 27 = t + 1) (ht : 0 ≤ t ∧ t < 1200) (ew : m 67 t = 2) (en : m 68 t = n) (hn : 0 ≤ n ∧ n < 150) (hk : m 52 n = K) (hK : K = 7 ∨ K = 8 ∨ K = 9) (eN : m 45 16 = N) (eH : m 45 30 = H) (e1 : m 69 (H - 1) = t1) (r1 : tI t1) (hN : 0 ≤ N ∧ N < 400) (hH : 1 ≤ H ∧ H ≤ 16) (eJ : m 45 36 = J) (hJ : J = 0 ∨ J = 1) :
    ∃ m', EM (zu m 45 27 t) m' N K 0 0 0 0 H (if K = 9 then 0 else if K = 7 then m 46 t1 else m 47 t1) 0 (m 70 0) (if 0 < t1 then J else 1) ∧ goO f m m' := by
  unfold tI at r1
  have pre : ∀ (X : zX) (Q : Int → zS → Prop), (∀ x, (0 < t1 ∧ x = 1 ∨ t1 ≤ 0 ∧ x = 0) → w_124_78 X K t1 x (zu (zu (zu (zu (zu (zu (zu (zu m 45 27 t) 45 30 (H - 1)) 58 N K) 59 N 0) 60 N 0) 61 N 0) 62 N 0) 45 16 (N + 1)) (fun _ s => Q 0 s)) → w_119 X n (zu m 45 27 t) Q := by
    intro X Q k
    apply b_pre1 hn hk (by omega)
    apply w_124_i; apply And.intro hn
    apply p_122 H t1 (by simp [zu, *]) (by simp [zu, *]) (by omega)
    rw [zu_g (by decide), hk]
    exact ⟨by omega, fun _ => ⟨by omega, fun _ => p_116 N (by simp [zu, *]) hN ⟨by omega, fun a => k 0 (by omega), fun a => k 1 (by omega)⟩, fun a => by omega⟩, fun a => by omega⟩
  have post : ∀ (X : zX) (Q : Int → zS → Prop) (x J' : Int), (x = 0 ∨ x = 1) → J' = (if x = 1 then J else 1) → Q 0 (zu (zu (zu (zu (zu (zu (zu (zu (zu (zu (zu m 45 27 t) 45 30 (H - 1)) 58 N K) 59 N 0) 60 N 0) 61 N 0) 62 N 0) 45 16 (N + 1)) 45 36 J') 69 (H - 1) (if K = 9 then 0 else if K = 7 then m 46 t1 else m 47 t1)) 45 30 (H - 1 + 1)) → w_124_78 X K t1 x (zu (zu (zu (zu (zu (zu (zu (zu m 45 27 t) 45 30 (H - 1)) 58 N K) 59 N 0) 60 N 0) 61 N 0) 62 N 0) 45 16 (N + 1)) (fun _ s => Q 0 s) := by
    intro X Q x J' hx eJ' k
    apply w_124_78_i
    apply p_118 J (by simp [zu, *]) hJ hx
    rw [← eJ']
    have e46 : ∀ u : zS, zu (zu (zu (zu (zu (zu (zu (zu (zu m 45 27 t) 45 30 (H - 1)) 58 N K) 59 N 0) 60 N 0) 61 N 0) 62 N 0) 45 16 (N + 1)) 45 36 J' 46 = m 46 := fun _ => by (repeat rw [zu_f (by decide)])
    have e47 : ∀ u : zS, zu (zu (zu (zu (zu (zu (zu (zu (zu m 45 27 t) 45 30 (H - 1)) 58 N K) 59 N 0) 60 N 0) 61 N 0) 62 N 0) 45 16 (N + 1)) 45 36 J' 47 = m 47 := fun _ => by (repeat rw [zu_f (by decide)])
    rw [e46 m, e47 m]
    have g : ∀ v, v = (if K = 9 then 0 else if K = 7 then m 46 t1 else m 47 t1) → w_124_113 X v (zu (zu (zu (zu (zu (zu (zu (zu (zu m 45 27 t) 45 30 (H - 1)) 58 N K) 59 N 0) 60 N 0) 61 N 0) 62 N 0) 45 16 (N + 1)) 45 36 J') (fun _ s => Q 0 s) := by
      intro v hv
      subst hv
      exact w_124_113_i (p_117 (H - 1) (by simp [zu, *]) (by omega) k)
    refine ⟨by omega, fun a => ⟨by omega, fun a' => ⟨by omega, g _ ?_⟩, fun a' => ⟨by omega, g _ ?_⟩⟩, fun a => g _ ?_⟩
    · rw [if_neg a, if_neg a']
    · rw [if_neg a, if_pos (by omega)]
    · rw [if_pos (by omega)]
  refine ⟨_, ?_, gm_go et ht ew en (Or.inr (Or.inl ⟨rfl, fun X Q k => pre X Q (fun x hx => post X Q x (if 0 < t1 then J else 1) (by omega) ?_ k)⟩))⟩
  · generalize (if K = 9 then 0 else if K = 7 then m 46 t1 else m 47 t1) = L
    generalize (if 0 < t1 then J else 1) = L2
    (refine ⟨fun j => ?_, fun j => ?_, fun j => ?_, fun j => ?_, fun j => ?_, ?_, ?_, ?_, fun j h1 h2 h3 => ?_, fun k => ?_, fun k => ?_, fun k hk => by (repeat rw [zu_f (by omega)])⟩ <;> (first | (simp [zu]; done) | ((repeat rw [zu_g (by decide)]); exact ife) | (simp [zu]; (repeat' split) <;> omega)))
  · rcases hx with ⟨h1, h2⟩ | ⟨h1, h2⟩
    · rw [if_pos h1, if_pos h2]
    · rw [if_neg (by omega), if_neg (by omega)]
-- IF: behind its a, behind its b, behind its c
theorem b_10o (et : m 45 27 = t + 1) (ht : 0 ≤ t ∧ t < 1200) (ew : m 67 t = 2) (en : m 68 t = n) (hn : 0 ≤ n ∧ n < 150) (hk : m 52 n = 10) (eN : m 45 16 = N) (eH : m 45 30 = H) (e1 : m 69 (H - 1) = t1) (r1 : tI t1) (hN : 0 ≤ N ∧ N < 400) (hH : 1 ≤ H ∧ H ≤ 16) (eW : m 45 33 = W) (hW : 0 ≤ W ∧ W < 160) (eJ : m 45 36 = J) (hJ : J = 0 ∨ J = 1) :
    ∃ m', EM (zu (zu (zu m 45 27 t) 71 W N) 45 33 (W + 1)) m' N 10 0 0 0 0 (H - 1) (m 69 (H - 1 - 1)) 0 (m 70 0) (if t1 = 0 then J else 1) ∧ goO f m m' := by
  unfold tI at r1
  have pre : ∀ (X : zX) (Q : Int → zS → Prop), (∀ x, (t1 = 0 ∧ x = 1 ∨ ¬ t1 = 0 ∧ x = 0) → w_119_40 X x (zu (zu m 45 27 t) 45 30 (H - 1)) Q) → w_119 X n (zu m 45 27 t) Q := by
    intro X Q k
    apply w_119_i; apply And.intro hn; rw [zu_g (by decide), hk]
    exact ⟨by omega, fun _ => ⟨by omega, fun a => by omega, fun _ => p_122 H t1 (by simp [zu, *]) (by simp [zu, *]) (by omega) ⟨by omega, fun a => k 0 (by omega), fun a => k 1 (by omega)⟩⟩, fun a => by omega⟩
  have post : ∀ (X : zX) (Q : Int → zS → Prop) (x J' : Int), (x = 0 ∨ x = 1) → J' = (if x = 1 then J else 1) → Q 0 (zu (zu (zu (zu (zu (zu (zu (zu (zu (zu (zu m 45 27 t) 45 30 (H - 1)) 45 36 J') 71 W N) 45 33 (W + 1)) 58 N 10) 59 N 0) 60 N 0) 61 N 0) 62 N 0) 45 16 (N + 1)) → w_119_40 X x (zu (zu m 45 27 t) 45 30 (H - 1)) Q := by
    intro X Q x J' hx eJ' k
    apply w_119_40_i
    apply p_118 J (by simp [zu, *]) hJ hx
    rw [← eJ']
    have e1 : zu (zu (zu m 45 27 t) 45 30 (H - 1)) 45 36 J' 45 33 = W := (by simp [zu, *])
    have e2 : zu (zu (zu m 45 27 t) 45 30 (H - 1)) 45 36 J' 45 16 = N := (by simp [zu, *])
    rw [e1, e2]
    refine ⟨hW, ?_⟩
    rintro _ rfl
    have e3 : zu (zu (zu (zu m 45 27 t) 45 30 (H - 1)) 45 36 J') 71 W N 45 33 = W := (by simp [zu, *])
    rw [e3]
    rintro _ rfl
    exact p_116 N (by simp [zu, *]) hN k
  refine ⟨_, ?_, gm_go et ht ew en (Or.inr (Or.inl ⟨rfl, fun X Q k => pre X Q (fun x hx => post X Q x (if t1 = 0 then J else 1) (by omega) ?_ k)⟩))⟩
  · generalize (if t1 = 0 then J else 1) = L2
    refine ⟨fun j => ?_, fun j => ?_, fun j => ?_, fun j => ?_, fun j => ?_, ?_, ?_, ?_, fun j h1 h2 h3 => ?_, fun k => ?_, fun k => ?_, fun k hk => ?_⟩
    rotate_left 11
    · by_cases c1 : k = 71
      · subst c1; funext b; simp [zu]
      · (repeat rw [zu_f (by omega)])
    all_goals (first | (simp [zu]; done) | ((repeat rw [zu_g (by decide)]); exact ife) | (simp [zu]; (repeat' split) <;> omega))
  · rcases hx with ⟨h1, h2⟩ | ⟨h1, h2⟩
    · rw [if_pos h1, if_pos h2]
    · rw [if_neg (by omega), if_neg (by omega)]
theorem b_3o (et : m 45 27 = t + 1) (ht : 0 ≤ t ∧ t < 1200) (ew : m 67 t = 3) (en : m 68 t = n) (eN : m 45 16 = N) (eH : m 45 30 = H) (e1 : m 69 (H - 1) = t1) (hN : 0 ≤ N ∧ N < 400) (hH : 1 ≤ H ∧ H ≤ 16) (eW : m 45 33 = W + 1) (hW : 0 ≤ W ∧ W < 160) (ep : m 71 W = wp) (hp : 0 ≤ wp ∧ wp < N) (eJ : m 45 36 = J) :
    ∃ m', EM (zu (zu (zu (zu m 45 27 t) 59 wp (N + 1)) 71 W N) 72 W t1) m' N 11 0 0 0 0 (H - 1) (m 69 (H - 1 - 1)) 0 (m 70 0) J ∧ goO f m m' := by
  have q : W + 1 - 1 = W := by omega
  have pre : ∀ (X : zX) (Q : Int → zS → Prop), Q 0 (zu (zu (zu (zu (zu (zu (zu (zu (zu (zu (zu m 45 27 t) 58 N 11) 59 N 0) 60 N 0) 61 N 0) 62 N 0) 45 16 (N + 1)) 59 wp (N + 1)) 71 W N) 45 30 (H - 1)) 72 W t1) → w_125 X n (zu m 45 27 t) Q := by
    intro X Q k
    apply w_125_i
    apply p_116 N (by simp [zu, *]) hN
    have z1 : zu (zu (zu (zu (zu (zu (zu m 45 27 t) 58 N 11) 59 N 0) 60 N 0) 61 N 0) 62 N 0) 45 16 (N + 1) 45 33 - 1 = W := by simp [zu, eW]
    have z2 : zu (zu (zu (zu (zu (zu (zu m 45 27 t) 58 N 11) 59 N 0) 60 N 0) 61 N 0) 62 N 0) 45 16 (N + 1) 71 W = wp := by simp [zu, ep]
    have z3 : zu (zu (zu (zu (zu (zu (zu m 45 27 t) 58 N 11) 59 N 0) 60 N 0) 61 N 0) 62 N 0) 45 16 (N + 1) 45 16 = N + 1 := by simp [zu]
    have z4 : zu m 45 27 t 45 16 = N := by simp [zu, eN]
    rw [z1, z2, z3, z4]
    refine ⟨hW, by omega, ?_⟩
    rintro _ rfl
    have z5 : zu (zu (zu (zu (zu (zu (zu (zu m 45 27 t) 58 N 11) 59 N 0) 60 N 0) 61 N 0) 62 N 0) 45 16 (N + 1)) 59 wp (N + 1) 45 33 - 1 = W := by simp [zu, eW]
    rw [z5]
    refine ⟨hW, ?_⟩
    rintro _ rfl
    have z6 : zu (zu (zu (zu (zu (zu (zu (zu (zu m 45 27 t) 58 N 11) 59 N 0) 60 N 0) 61 N 0) 62 N 0) 45 16 (N + 1)) 59 wp (N + 1)) 71 W N 45 33 - 1 = W := by simp [zu, eW]
    rw [z6]
    apply p_122 H t1 (by simp [zu, *]) (by simp [zu, *]) (by omega)
    refine ⟨hW, ?_⟩
    rintro _ rfl
    exact k
  refine ⟨_, ?_, gm_go et ht ew en (Or.inr (Or.inr (Or.inl ⟨rfl, pre⟩)))⟩
  have hw : ¬ wp = N := by omega
  refine ⟨fun j => ?_, fun j => ?_, fun j => ?_, fun j => ?_, fun j => ?_, ?_, ?_, ?_, fun j h1 h2 h3 => ?_, fun k => ?_, fun k => ?_, fun k hk => ?_⟩
  rotate_left 1
  · simp [zu]; (repeat' split) <;> omega
  rotate_left 9
  · by_cases c1 : k = 71
    · subst c1; funext b; simp [zu]
    · by_cases c2 : k = 72
      · subst c2; funext b; simp [zu]
      · (repeat rw [zu_f (by omega)])
  all_goals (first | (simp [zu]; done) | ((repeat rw [zu_g (by decide)]); exact ife) | (simp [zu]; (repeat' split) <;> omega))
theorem b_4o (et : m 45 27 = t + 1) (ht : 0 ≤ t ∧ t < 1200) (ew : m 67 t = 4) (en : m 68 t = n) (hn : 0 ≤ n ∧ n < 150) (hk : m 52 n = 10) (eN : m 45 16 = N) (eH : m 45 30 = H) (e1 : m 69 (H - 1) = t1) (r1 : tI t1) (hN : 0 ≤ N ∧ N ≤ 400) (hH : 1 ≤ H ∧ H ≤ 16) (eW : m 45 33 = W + 1) (hW : 0 ≤ W ∧ W < 160) (ep : m 71 W = wp) (hp : 0 ≤ wp ∧ wp < N) (e2 : m 72 W = t2) (r2 : tI t2) (eJ : m 45 36 = J) (hJ : J = 0 ∨ J = 1) :
    goO f m (zu (zu (zu (zu m 45 27 t) 45 33 W) 59 wp N) 45 36 (if t1 = t2 then J else 1)) := by
  unfold tI at r1 r2
  have q : W + 1 - 1 = W := by omega
  apply gm_go et ht ew en; apply Or.inr; apply Or.inr; apply Or.inr; apply And.intro rfl; intro X Q k
  apply w_126_i; apply And.intro hn; rw [zu_g (by decide), hk]
  refine ⟨by omega, fun _ => ?_, fun a => by omega⟩
  have z1 : zu m 45 27 t 45 33 - 1 = W := by simp [zu, eW]
  rw [z1]
  rintro _ rfl
  have z2 : zu (zu m 45 27 t) 45 33 W 45 33 = W := by simp [zu]
  have z3 : zu (zu m 45 27 t) 45 33 W 71 W = wp := by simp [zu, ep]
  have z4 : zu (zu m 45 27 t) 45 33 W 45 16 = N := by simp [zu, eN]
  rw [z2, z3, z4]
  refine ⟨hW, by omega, ?_⟩
  rintro _ rfl
  have z5 : zu (zu (zu m 45 27 t) 45 33 W) 59 wp N 45 30 = H := by simp [zu, eH]
  have z6 : zu (zu (zu m 45 27 t) 45 33 W) 59 wp N 45 33 = W := by simp [zu]
  have z7 : zu (zu (zu m 45 27 t) 45 33 W) 59 wp N 69 (H - 1) = t1 := by simp [zu, e1]
  have z8 : zu (zu (zu m 45 27 t) 45 33 W) 59 wp N 72 W = t2 := by simp [zu, e2]
  rw [z5, z6, z7, z8]
  refine ⟨by omega, hW, by omega, fun a => w_126_81_i (p_118 J (by simp [zu, *]) hJ (by simp) ?_), fun a => w_126_81_i (p_118 J (by simp [zu, *]) hJ (by simp) ?_)⟩
  · rw [if_neg a] at k; simpa using k
  · rw [if_pos (by omega)] at k; simpa using k
-- LET: behind its b, behind its c
theorem b_11o (et : m 45 27 = t + 1) (ht : 0 ≤ t ∧ t < 1200) (ew : m 67 t = 2) (en : m 68 t = n) (hn : 0 ≤ n ∧ n < 150) (hk : m 52 n = 11) (ea : m 53 n = a) (ha : 0 ≤ a ∧ a < 8) (eN : m 45 16 = N) (eH : m 45 30 = H) (e1 : m 69 (H - 1) = t1) (e2 : m 70 a = t2) (r2 : -1 ≤ t2 ∧ t2 ≤ 7) (hN : 0 ≤ N ∧ N < 400) (hH : 1 ≤ H ∧ H ≤ 16) (eJ : m 45 36 = J) (hJ : J = 0 ∨ J = 1) :
    ∃ m', EM (zu m 45 27 t) m' N 12 a 0 0 0 (H - 1) (m 69 (H - 1 - 1)) a t1 (if t2 < 0 then J else 1) ∧ goO f m m' := by
  have pre : ∀ (X : zX) (Q : Int → zS → Prop), (∀ x, (t2 < 0 ∧ x = 1 ∨ 0 ≤ t2 ∧ x = 0) → w_119_119 X n t1 x (zu (zu (zu (zu (zu (zu (zu (zu m 45 27 t) 45 30 (H - 1)) 58 N 12) 59 N a) 60 N 0) 61 N 0) 62 N 0) 45 16 (N + 1)) Q) → w_119 X n (zu m 45 27 t) Q := by
    intro X Q k
    apply w_119_i; apply And.intro hn; rw [zu_g (by decide), hk]
    refine ⟨by omega, fun _ => ⟨by omega, fun _ => ⟨by omega, fun a => by omega, fun _ => p_122 H t1 (by simp [zu, *]) (by simp [zu, *]) (by omega) ⟨hn, ?_⟩⟩, fun a => by omega⟩, fun a => by omega⟩
    rw [zu_g (by decide), zu_g (by decide), ea]
    apply p_116 N (by simp [zu, *]) hN
    have z1 : zu (zu (zu (zu (zu (zu (zu (zu m 45 27 t) 45 30 (H - 1)) 58 N 12) 59 N a) 60 N 0) 61 N 0) 62 N 0) 45 16 (N + 1) 53 n = a := by simp [zu, ea]
    have z2 : zu (zu (zu (zu (zu (zu (zu (zu m 45 27 t) 45 30 (H - 1)) 58 N 12) 59 N a) 60 N 0) 61 N 0) 62 N 0) 45 16 (N + 1) 70 a = t2 := by simp [zu, e2]
    rw [z1, z2]
    exact ⟨hn, ha, by omega, fun a => k 0 (by omega), fun a => k 1 (by omega)⟩
  have post : ∀ (X : zX) (Q : Int → zS → Prop) (x J' : Int), (x = 0 ∨ x = 1) → J' = (if x = 1 then J else 1) → Q 0 (zu (zu (zu (zu (zu (zu (zu (zu (zu (zu m 45 27 t) 45 30 (H - 1)) 58 N 12) 59 N a) 60 N 0) 61 N 0) 62 N 0) 45 16 (N + 1)) 45 36 J') 70 a t1) → w_119_119 X n t1 x (zu (zu (zu (zu (zu (zu (zu (zu m 45 27 t) 45 30 (H - 1)) 58 N 12) 59 N a) 60 N 0) 61 N 0) 62 N 0) 45 16 (N + 1)) Q := by
    intro X Q x J' hx eJ' k
    apply w_119_119_i
    apply p_118 J (by simp [zu, *]) hJ hx
    rw [← eJ']
    have z1 : zu (zu (zu (zu (zu (zu (zu (zu (zu m 45 27 t) 45 30 (H - 1)) 58 N 12) 59 N a) 60 N 0) 61 N 0) 62 N 0) 45 16 (N + 1)) 45 36 J' 53 n = a := by simp [zu, ea]
    rw [z1]
    refine ⟨hn, ha, ?_⟩
    rintro _ rfl
    exact k
  refine ⟨_, ?_, gm_go et ht ew en (Or.inr (Or.inl ⟨rfl, fun X Q k => pre X Q (fun x hx => post X Q x (if t2 < 0 then J else 1) (by omega) ?_ k)⟩))⟩
  · generalize (if t2 < 0 then J else 1) = L2
    (refine ⟨fun j => ?_, fun j => ?_, fun j => ?_, fun j => ?_, fun j => ?_, ?_, ?_, ?_, fun j h1 h2 h3 => ?_, fun k => ?_, fun k => ?_, fun k hk => by (repeat rw [zu_f (by omega)])⟩ <;> (first | (simp [zu]; done) | ((repeat rw [zu_g (by decide)]); exact ife) | (simp [zu]; (repeat' split) <;> omega)))
  · rcases hx with ⟨h1, h2⟩ | ⟨h1, h2⟩
    · rw [if_pos h1, if_pos h2]
    · rw [if_neg (by omega), if_neg (by omega)]
theorem b_5o (et : m 45 27 = t + 1) (ht : 0 ≤ t ∧ t < 1200) (ew : m 67 t = 4) (en : m 68 t = n) (hn : 0 ≤ n ∧ n < 150) (hk : m 52 n = 11) (ea : m 53 n = a) (ha : 0 ≤ a ∧ a < 8) :
    goO f m (zu (zu m 45 27 t) 70 a (-1)) := by
  apply gm_go et ht ew en; apply Or.inr; apply Or.inr; apply Or.inr; apply And.intro rfl; intro X Q k
  have z1 : zu m 45 27 t 53 n = a := by simp [zu, ea]
  apply w_126_i; apply And.intro hn; rw [zu_g (by decide), hk, z1]
  refine ⟨by omega, fun a => by omega, fun _ => ⟨hn, ha, ?_⟩⟩
  rintro _ rfl
  exact k
end
