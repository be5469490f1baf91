/-! The source, and how the two sides stand to each other while a function is laid. -/
def ex (z : zS) (n x : Int) : Prop := 0 ≤ x ∧ x < n ∧ ¬ z 10 x = 13
def ar (z : zS) (n x : Int) : Prop := x = -1 ∨ 0 ≤ x ∧ x < n ∧ z 10 x = 13
def iI (x : Int) : Prop := -2147483648 ≤ x ∧ x ≤ 2147483647
def Nd (z : zS) (n K a b c : Int) : Prop :=
  (K = 0 → z 12 n = 1 ∧ z 13 n = 1) ∧
  (K = 1 → (1 ≤ a ∧ a ≤ 7) ∧ z 12 n = 1 ∧ z 13 n = 1) ∧
  (K = 2 → (0 ≤ a ∧ a ≤ 7) ∧ z 12 n = 1 ∧ z 13 n = 1) ∧
  (K = 3 ∨ K = 4 ∨ K = 5 ∨ K = 14 ∨ K = 15 → ex z n a ∧ ex z n b ∧ z 12 n = min (z 12 a + z 12 b + 1) 401 ∧ z 13 n = max (z 13 a) (1 + z 13 b)) ∧
  (K = 6 → (1 ≤ a ∧ a ≤ 7) ∧ ex z n b ∧ ex z n c ∧ z 12 n = min (z 12 b + z 12 c + 1) 401 ∧ z 13 n = max (z 13 b) (1 + z 13 c)) ∧
  (K = 7 ∨ K = 8 ∨ K = 9 ∨ K = 16 → ex z n a ∧ z 12 n = min (z 12 a + 1) 401 ∧ z 13 n = z 13 a) ∧
  (K = 10 → ex z n a ∧ ex z n b ∧ ex z n c ∧ z 12 n = min (z 12 a + z 12 b + z 12 c + 2) 401 ∧ z 13 n = max (z 13 a) (max (z 13 b) (z 13 c))) ∧
  (K = 11 → (0 ≤ a ∧ a ≤ 7) ∧ ex z n b ∧ ex z n c ∧ z 12 n = min (z 12 b + z 12 c + 1) 401 ∧ z 13 n = max (z 13 b) (z 13 c)) ∧
  (K = 12 → (0 ≤ a ∧ a < z 3 6) ∧ ar z n b ∧ (b = -1 → z 12 n = 1 ∧ z 13 n = 1) ∧ (0 ≤ b → z 12 n = min (z 12 b + 1) 401 ∧ z 13 n = z 13 b)) ∧
  (K = 13 → ex z n a ∧ ar z n b ∧ (b = -1 → z 12 n = z 12 a ∧ z 13 n = z 13 a) ∧ (0 ≤ b → z 12 n = min (z 12 a + z 12 b) 401 ∧ z 13 n = max (z 13 a) (1 + z 13 b))) ∧
  (K = 17 → ex z n a ∧ ex z n b ∧ z 12 n = min (z 12 a + z 12 b + 1) 401 ∧ z 13 n = max (z 13 a) (z 13 b)) ∧
  (1 ≤ z 12 n ∧ z 12 n ≤ 401) ∧ (1 ≤ z 13 n ∧ z 13 n ≤ n + 1)
def Src (z : zS) : Prop :=
  (0 ≤ z 3 6 ∧ z 3 6 ≤ 6 ∧ z 45 3 = z 3 6) ∧ (0 ≤ z 3 11 ∧ z 3 11 ≤ 150 ∧ z 45 8 = z 3 11) ∧
  (∀ t, tI t → z 46 t = z 4 t ∧ z 47 t = z 5 t ∧ tI (z 4 t) ∧ tI (z 5 t)) ∧
  (∀ f, 0 ≤ f → f < z 3 6 → z 48 f = z 6 f ∧ tI (z 6 f) ∧ z 49 f = z 7 f ∧ (0 ≤ z 7 f ∧ z 7 f ≤ 3) ∧ z 51 f = z 9 f ∧ (-1 ≤ z 9 f ∧ z 9 f < z 3 11) ∧ (0 ≤ z 9 f → ¬ z 10 (z 9 f) = 13)) ∧
  (∀ f k, 0 ≤ f → f < z 3 6 → 0 ≤ k → k < 3 → z 50 (3 * f + k) = z 8 (f * 3 + k) ∧ iI (z 8 (f * 3 + k)) ∧ (k < z 7 f → tI (z 8 (f * 3 + k)))) ∧
  (∀ n, 0 ≤ n → n < z 3 11 → z 52 n = z 10 n ∧ (0 ≤ z 10 n ∧ z 10 n ≤ 17) ∧ z 53 n = z 11 (n * 3 + 0) ∧ z 54 n = z 11 (n * 3 + 1) ∧ z 55 n = z 11 (n * 3 + 2) ∧
    iI (z 11 (n * 3 + 0)) ∧ iI (z 11 (n * 3 + 1)) ∧ iI (z 11 (n * 3 + 2)) ∧ Nd z n (z 10 n) (z 11 (n * 3 + 0)) (z 11 (n * 3 + 1)) (z 11 (n * 3 + 2)))
-- the types at a place: height, pile, locals, function
def tyOf (m : zS) (f : Int) : Nat → Int → Int := fun c k => if c = 0 then m 45 30 else if c = 1 then m 69 k else if c = 2 then m 70 k else f
def nx (E E' : Nat → Int → Int) (L : Int → Int) (p q t : Int) : Prop :=
  p ≤ E 0 0 ∧ E' 0 0 = E 0 0 - p + q ∧ (∀ k, 0 ≤ k → k < E 0 0 - p → E' 1 k = E 1 k) ∧ (q = 1 → E' 1 (E 0 0 - p) = t) ∧
  (∀ k, 0 ≤ k → k < 8 → E' 2 k = L k ∨ E' 2 k = -1) ∧ E' 3 0 = E 3 0
def top (E : Nat → Int → Int) (j : Int) : Int := E 1 (E 0 0 - j)
def okI (z : zS) (G : Int → Nat → Int → Int) (i o v tk : Int) : Prop :=
  (o = 0 → iI v ∧ nx (G i) (G (i + 1)) (G i 2) 0 1 0) ∧
  (o = 1 → ∃ t, (1 ≤ t ∧ t ≤ 7) ∧ nx (G i) (G (i + 1)) (G i 2) 0 1 t) ∧
  (o = 2 → (0 ≤ v ∧ v ≤ 7) ∧ 0 ≤ G i 2 v ∧ nx (G i) (G (i + 1)) (G i 2) 0 1 (G i 2 v)) ∧
  (o = 3 ∨ o = 4 ∨ o = 5 → top (G i) 1 = 0 ∧ top (G i) 2 = 0 ∧ nx (G i) (G (i + 1)) (G i 2) 2 1 0) ∧
  (o = 6 → (1 ≤ v ∧ v ≤ 7) ∧ top (G i) 2 = z 4 v ∧ top (G i) 1 = z 5 v ∧ nx (G i) (G (i + 1)) (G i 2) 2 1 v) ∧
  (o = 7 → 1 ≤ top (G i) 1 ∧ nx (G i) (G (i + 1)) (G i 2) 1 1 (z 4 (top (G i) 1))) ∧
  (o = 8 → 1 ≤ top (G i) 1 ∧ nx (G i) (G (i + 1)) (G i 2) 1 1 (z 5 (top (G i) 1))) ∧
  (o = 9 → 1 ≤ top (G i) 1 ∧ nx (G i) (G (i + 1)) (G i 2) 1 1 0) ∧
  (o = 10 → top (G i) 1 = 0 ∧ nx (G i) (G (i + 1)) (G i 2) 1 0 0 ∧ i < v ∧ nx (G i) (G v) (G i 2) 1 0 0) ∧
  (o = 11 → i < v ∧ nx (G i) (G v) (G i 2) 0 0 0) ∧
  (o = 12 → (0 ≤ v ∧ v ≤ 7) ∧ nx (G i) (G (i + 1)) (fun k => if k = v then top (G i) 1 else G i 2 k) 1 0 0) ∧
  (o = 13 → (0 ≤ v ∧ v < z 3 6) ∧ 0 ≤ z 9 v ∧ tk = z 7 v ∧ (∀ k, 0 ≤ k → k < tk → G i 1 (G i 0 0 - tk + k) = z 8 (v * 3 + k)) ∧ nx (G i) (G (i + 1)) (G i 2) tk 1 (z 6 v)) ∧
  (o = 14 → G i 0 0 = 1 ∧ G i 1 0 = z 6 (G i 3 0)) ∧
  (o = 15 → 1 ≤ top (G i) 2 ∧ top (G i) 1 = z 4 (top (G i) 2) ∧ nx (G i) (G (i + 1)) (G i 2) 2 1 (top (G i) 1)) ∧
  (o = 16 → 1 ≤ top (G i) 2 ∧ top (G i) 1 = z 5 (top (G i) 2) ∧ nx (G i) (G (i + 1)) (G i 2) 2 1 (top (G i) 1)) ∧
  (o = 17 → top (G i) 1 = 0 ∧ nx (G i) (G (i + 1)) (G i 2) 1 1 0) ∧
  (o = 18 → nx (G i) (G (i + 1)) (G i 2) 1 0 0) ∧ (0 ≤ o ∧ o ≤ 18) ∧
  (0 ≤ G i 0 0 ∧ G i 0 0 ≤ 16) ∧ (∀ k, 0 ≤ k → k < G i 0 0 → tI (G i 1 k)) ∧ (∀ k, 0 ≤ k → k < 8 → -1 ≤ G i 2 k ∧ G i 2 k ≤ 7)
def cm (f : Int → Int) : Nat → Int
  | 0 => 0
  | k + 1 => cm f k + (if f k = 6 ∨ f k = 13 then 1 else 0)
theorem cm_c {f g : Int → Int} (n : Nat) (h : ∀ k : Int, 0 ≤ k → k < n → f k = g k) : cm f n = cm g n := by
  induction n with
  | zero => rfl
  | succ k ih => simp only [cm]; rw [h k (by omega) (by omega), ih (fun j a b => h j a (by omega))]
def Com (z m : zS) : Prop :=
  (∀ k, 46 ≤ k → k ≤ 55 → m k = z k) ∧ (∀ k, 0 ≤ k → k < m 45 30 → tI (m 69 k)) ∧ (∀ k, 0 ≤ k → k < 8 → -1 ≤ m 70 k ∧ m 70 k ≤ 7) ∧
  (m 45 36 = 0 ∨ m 45 36 = 1) ∧ 0 ≤ m 45 16 ∧ 0 ≤ m 45 30 ∧ 0 ≤ m 45 33
def Rel (f : Int) (s m : zS) (G : Int → Nat → Int → Int) : Prop :=
  s 22 10 = 1 ∧ s 14 1 = m 45 16 ∧ s 22 8 = m 45 30 ∧ (∀ k, 0 ≤ k → k < m 45 30 → s 27 k = m 69 k) ∧ (∀ k, 0 ≤ k → k < 8 → s 28 k = m 70 k) ∧
  (∀ i, 0 ≤ i → i < m 45 16 → s 15 i = m 58 i ∧ s 16 i = m 59 i ∧ (m 58 i = 6 ∨ m 58 i = 13 → s 18 i = m 62 i ∧ m 61 i = bm (G i 2) 8 ∧ m 62 i = bm (G i 1) (G i 0 0).toNat) ∧ (m 58 i = 2 → s 29 i = if G i 2 (m 59 i) ≤ 0 then 0 else zL 1 (m 59 i))) ∧
  s 14 2 = cm (m 58) (m 45 16).toNat ∧ G (m 45 16) = tyOf m f
def gs (G : Int → Nat → Int → Int) (j : Int) (E : Nat → Int → Int) : Int → Nat → Int → Int := fun i => if i = j then E else G i
theorem gs_s {G : Int → Nat → Int → Int} {j : Int} {E : Nat → Int → Int} : gs G j E j = E := by simp [gs]
theorem gs_n {G : Int → Nat → Int → Int} {i j : Int} {E : Nat → Int → Int} (h : ¬ i = j) : gs G j E i = G i := by simp [gs, h]
section
variable {z s m s' m' : zS} {G : Int → Nat → Int → Int} {f N o v pm M pl H t lx lt tk lm pm' : Int}
theorem Rel.emit (R : Rel f s m G) (c0 : 0 ≤ m 45 16) (hm : m 45 16 = N) (a : EC s s' N o v pm M pl H t lx lt 1) (b : EM m m' N o v tk lm pm' H t lx lt 0)
    (hH : 0 ≤ H ∧ H ≤ m 45 30 + 1) (h1 : o = 6 ∨ o = 13 → pm = pm' ∧ lm = bm (m 70) 8 ∧ pm' = bm (m 69) (m 45 30).toNat) (h2 : M = s 14 2 + (if o = 6 ∨ o = 13 then 1 else 0)) (h3 : o = 2 → pl = if m 70 v ≤ 0 then 0 else zL 1 v) : Rel f s' m' (gs G (N + 1) (tyOf m' f)) := by
  obtain ⟨r1, r2, r3, r4, r5, r6, r7, r8⟩ := R
  obtain ⟨a1, a2, a3, a4, a5, a6, a7, a8, a9, a10, a11, a12, -⟩ := a
  obtain ⟨b1, b2, b3, b4, b5, b6, b7, b8, b9, b10, b11, -⟩ := b
  refine ⟨a9, by rw [a5, b6], by rw [a8, b7], ?_, ?_, ?_, ?_, ?_⟩
  · intro k h0 hk
    rw [b7] at hk
    rw [a11 k h0, b10]
    split
    · rfl
    · exact r4 k h0 (by omega)
  · intro k h0 hk
    rw [a12, b11, r5 k h0 hk]
  · intro i h0 hi
    rw [b6] at hi
    rw [gs_n (by omega)]
    by_cases q : i = N
    · subst q
      have e2 : G i 2 = m 70 := by rw [← hm, r8]; rfl
      rw [a1, b1, a2, b2, a3, b5, b4, a4]
      simp only [if_true]
      refine ⟨trivial, trivial, fun h => ?_, fun h => ?_⟩
      · have e1 : G i 1 = m 69 := by rw [← hm, r8]; rfl
        have e0 : G i 0 0 = m 45 30 := by rw [← hm, r8]; rfl
        rw [e2, e1, e0]; exact h1 h
      · rw [e2]; exact h3 h
    · rw [a1, b1, a2, b2, a3, b5, b4, a4]
      simp only [if_neg q]
      exact r6 i h0 (by omega)
  · rw [a6, b6, h2, r7, hm, show (N + 1).toNat = N.toNat + 1 by omega]
    simp only [cm]
    rw [b1, show ((N.toNat : Nat) : Int) = N by omega, if_pos rfl]
    rw [cm_c (f := m' 58) (g := m 58) N.toNat (fun k a b => by rw [b1, if_neg (by omega)])]
  · rw [b6, gs_s]
theorem nx_of {E : Nat → Int → Int} {m0 : zS} {p q : Int} {J : Int} (b : EM m0 m' N o v tk lm pm' H t lx lt J) (e0 : E 0 0 = m0 45 30) (e1 : ∀ k, E 1 k = m0 69 k) (e3 : E 3 0 = f) (hp : p ≤ m0 45 30) (hH : H = m0 45 30 - p + q) (hq : q = 0 ∧ t = m0 69 (H - 1) ∨ q = 1) : nx E (tyOf m' f) (fun k => if k = lx then lt else m0 70 k) p q t := by
  obtain ⟨-, -, -, -, -, -, b7, -, -, b10, b11, -⟩ := b
  refine ⟨by omega, ?_, ?_, ?_, ?_, ?_⟩
  · show m' 45 30 = _
    rw [b7, e0, hH]
  · intro k h0 hk
    show m' 69 k = _
    rw [b10, e1]
    rcases hq with ⟨rfl, ht⟩ | rfl
    · rw [ht]; exact ife.symm
    · rw [if_neg (by omega)]
  · intro h
    show m' 69 _ = _
    rw [b10, if_pos (by omega)]
  · intro k _ _
    left
    show m' 70 k = _
    rw [b11]
  · rw [e3]; rfl
theorem nx.L {E E' : Nat → Int → Int} {L L' : Int → Int} {p q t : Int} (h : nx E E' L p q t) (e : ∀ k, 0 ≤ k → k < 8 → L k = L' k) : nx E E' L' p q t :=
  ⟨h.1, h.2.1, h.2.2.1, h.2.2.2.1, fun k a b => by rw [← e k a b]; exact h.2.2.2.2.1 k a b, h.2.2.2.2.2⟩
end
