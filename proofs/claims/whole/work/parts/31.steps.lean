/-! One step at a time. -/
def xi_Row (M : xi_M) (pc pc' : Nat) (ls : Array Slot) (a b : List Value) : Prop := ∀ (p : Program) (l : Launch) (e : Env) (R : Room) (s : State) (m : MethodId) (args : Array Value) (below : List Frame) (meth : Method) (c : Code) (H : Heap) (locs : List Loc) (cells slots : Nat) (Q : State → Prop),
  p.tables.exec = Jvm.exec → c.code = M.2.1 → W p l e R s m args below meth c H locs cells slots Q (F0 m pc' ls b) → W p l e R s m args below meth c H locs cells slots Q (F0 m pc ls a)
def xi_RowS (Y : xi_Y) (M : xi_M) (L : xi_L) (k pc pc' : Nat) (v : Value) : Prop := ∀ (p : Program) (l : Launch) (e : Env) (R : Room) (s : State) (m : MethodId) (args : Array Value) (below : List Frame) (meth : Method) (c : Code) (H : Heap) (locs : List Loc) (cells slots : Nat) (Q : State → Prop) (ls : Array Slot) (rest : List Value),
  p.tables.exec = Jvm.exec → c.code = M.2.1 → lv_has ls L.length (xi_prs Y L) → k < L.length →
  (∀ ls' : Array Slot, lv_has ls' L.length ((k, xi_v Y v) :: (xi_prs Y L).filter (fun q => !(q.1 == k) && !(q.1 + 1 == k && q.2.category == 2))) → W p l e R s m args below meth c H locs cells slots Q (F0 m pc' ls' rest)) → W p l e R s m args below meth c H locs cells slots Q (F0 m pc ls (xi_v Y v :: rest))
section XS
variable {Y : xi_Y} {d n : Nat} {M : xi_M} {pc pc' : Nat} {L : xi_L} {st st' : List Value} {w : xi_W} {B : xi_S}
theorem xi_row (hM : xi_ml[n]? = some M) (h : ∀ ls, xi_lv Y L ls → xi_Row M pc pc' ls (st.map (xi_v Y)) (st'.map (xi_v Y))) : xi_To Y d n (pc, L, st, w) (pc', L, st', w) :=
  xi_To.same fun p l e R s m args below meth c Q hF H locs cells slots ls hH hS hl k => by
    obtain ⟨M', hM', hx, hb, -⟩ := hF
    cases hM.symm.trans hM'
    exact h ls hl p l e R s m args below meth c H locs cells slots Q hx hb (k ls hl)
theorem xi_sto (hM : xi_ml[n]? = some M) {k : Nat} {v : Value} {r : List Value} (hk : k < L.length) (hc : v.category = 1) (hrow : xi_RowS Y M L k pc pc' v) : xi_To Y d n (pc, L, v :: r, w) (pc', L.set k (some v), r, w) :=
  xi_To.same fun p l e R s m args below meth c Q hF H locs cells slots ls hH hS hl kk => by
    obtain ⟨M', hM', hx, hb, -⟩ := hF
    cases hM.symm.trans hM'
    exact hrow p l e R s m args below meth c H locs cells slots Q ls _ hx hb hl.has hk (fun ls' h' => kk ls' (hl.store hk hc h'))
theorem xi_ldi_ok (hM : xi_ml[n]? = some M) {k len : Nat} (hrow : ∀ (ls : Array Slot) (rest : List Value) (x : Int32), ls[k]? = some (.val (.int x)) → xi_Row M pc (pc + len) ls rest (.int x :: rest)) (h : xi_ldi k len pc L st w = some B) : xi_To Y d n (pc, L, st, w) B := by
  unfold xi_ldi at h
  split at h
  · next x hx =>
    cases h
    exact xi_row hM fun ls hl => hrow ls _ x (hl.2.2 k _ (hl.at hx)).1
  · cases h
theorem xi_lda_ok (hM : xi_ml[n]? = some M) {k len : Nat} (hrow : ∀ (ls : Array Slot) (rest : List Value) (x : Nat), ls[k]? = some (.val (.ref x)) → xi_Row M pc (pc + len) ls rest (.ref x :: rest)) (h : xi_lda k len pc L st w = some B) : xi_To Y d n (pc, L, st, w) B := by
  unfold xi_lda at h
  split at h
  · next x hx =>
    cases h
    exact xi_row hM fun ls hl => hrow ls _ (xi_ad Y x) (hl.2.2 k _ (hl.at hx)).1
  · cases h
theorem xi_sti_ok (hM : xi_ml[n]? = some M) {k len : Nat} (hrow : ∀ x : Int32, xi_RowS Y M L k pc (pc + len) (.int x)) (h : xi_sti k len pc L st w = some B) : xi_To Y d n (pc, L, st, w) B := by
  unfold xi_sti at h
  split at h
  · split at h
    · next hk => cases h; exact xi_sto hM hk rfl (hrow _)
    · cases h
  · cases h
theorem xi_sta_ok (hM : xi_ml[n]? = some M) {k len : Nat} (hrow : ∀ x : Nat, xi_RowS Y M L k pc (pc + len) (.ref x)) (h : xi_sta k len pc L st w = some B) : xi_To Y d n (pc, L, st, w) B := by
  unfold xi_sta at h
  split at h
  · split at h
    · next hk => cases h; exact xi_sto hM hk rfl (hrow _)
    · cases h
  · cases h
theorem xi_inc_ok (hM : xi_ml[n]? = some M) {k : Nat} {z : Int} (hd : decode M.2.1 pc = .ok (.iinc k z, 3)) (h : xi_inc k z pc L st w = some B) : xi_To Y d n (pc, L, st, w) B := by
  unfold xi_inc at h
  split at h
  · next x hx =>
    cases h
    refine xi_To.same fun p l e R s m args below meth c Q hF H locs cells slots ls hH hS hl kk => ?_
    obtain ⟨M', hM', hx', hb, -⟩ := hF
    cases hM.symm.trans hM'
    have hat := hl.at hx
    have hk : k < L.length := (List.getElem?_eq_some_iff.mp hat).1
    obtain ⟨q, hq⟩ := List.getElem?_of_mem (xi_prs_mem (Y := Y) hat)
    exact lv_iinc hx' hb hd hl.has hq rfl hk rfl fun ls' h' => kk ls' (hl.store (v := .int (x + Int32.ofInt z)) hk rfl h')
  · cases h
theorem xi_bin_ok (hM : xi_ml[n]? = some M) {op : Int32 → Int32 → Int32} (hrow : ∀ (ls : Array Slot) (rest : List Value) (x y : Int32), xi_Row M pc (pc + 1) ls (.int y :: .int x :: rest) (.int (op x y) :: rest)) (h : xi_bin op pc L st w = some B) : xi_To Y d n (pc, L, st, w) B := by
  unfold xi_bin at h
  split at h
  · cases h
    exact xi_row hM fun ls hl => hrow ls _ _ _
  · cases h
theorem xi_rem_ok (hM : xi_ml[n]? = some M) (hd : decode M.2.1 pc = .ok (.irem, 1)) (h : xi_rem pc L st w = some B) : xi_To Y d n (pc, L, st, w) B := by
  unfold xi_rem at h
  split at h
  · split at h
    · cases h
    · next hy =>
      cases h
      exact xi_row hM fun ls hl p l e R s m args below meth c H locs cells slots Q hx hb k => lv_irem hx hb hd hy k
  · cases h
theorem xi_i2l_ok (hM : xi_ml[n]? = some M) (hd : decode M.2.1 pc = .ok (.i2l, 1)) (h : xi_i2l pc L st w = some B) : xi_To Y d n (pc, L, st, w) B := by
  unfold xi_i2l at h
  split at h
  · cases h
    exact xi_row hM fun ls hl p l e R s m args below meth c H locs cells slots Q hx hb k => lv_i2l hx hb hd rfl k
  · cases h
theorem xi_lcmp_ok (hM : xi_ml[n]? = some M) (hd : decode M.2.1 pc = .ok (.lcmp, 1)) (h : xi_lcmp pc L st w = some B) : xi_To Y d n (pc, L, st, w) B := by
  unfold xi_lcmp at h
  split at h
  · cases h
    exact xi_row hM fun ls hl p l e R s m args below meth c H locs cells slots Q hx hb k => W.lcmp hx hb hd k
  · cases h
theorem xi_dup_ok (hM : xi_ml[n]? = some M) (hd : decode M.2.1 pc = .ok (.dup, 1)) (h : xi_dup pc L st w = some B) : xi_To Y d n (pc, L, st, w) B := by
  unfold xi_dup at h
  split at h
  · split at h
    · next hc =>
      cases h
      exact xi_row hM fun ls hl p l e R s m args below meth c H locs cells slots Q hx hb k => lv_dup hx hb hd (by rw [xi_cat]; exact hc) k
    · cases h
  · cases h
theorem xi_dup2_ok (hM : xi_ml[n]? = some M) (hd : decode M.2.1 pc = .ok (.dup2, 1)) (h : xi_dup2 pc L st w = some B) : xi_To Y d n (pc, L, st, w) B := by
  unfold xi_dup2 at h
  split at h
  · split at h
    · next hc =>
      cases h
      exact xi_row hM fun ls hl p l e R s m args below meth c H locs cells slots Q hx hb k => lv_dup2_11 hx hb hd (by rw [xi_cat]; exact hc.1) (by rw [xi_cat]; exact hc.2) k
    · cases h
  · cases h
theorem xi_pop_ok (hM : xi_ml[n]? = some M) (hd : decode M.2.1 pc = .ok (.pop, 1)) (h : xi_pop pc L st w = some B) : xi_To Y d n (pc, L, st, w) B := by
  unfold xi_pop at h
  split at h
  · split at h
    · next hc =>
      cases h
      exact xi_row hM fun ls hl p l e R s m args below meth c H locs cells slots Q hx hb k => lv_pop hx hb hd (by rw [xi_cat]; exact hc) k
    · cases h
  · cases h
theorem xi_go1_ok (hM : xi_ml[n]? = some M) {st2 : List Value} {off : Int} (hrow : ∀ (ls : Array Slot) (tgt : Nat), (pc : Int) + off = (tgt : Int) → xi_Row M pc tgt ls (st2.map (xi_v Y)) (st.map (xi_v Y))) (h : xi_go1 off pc L st w = some B) : xi_To Y d n (pc, L, st2, w) B := by
  unfold xi_go1 at h
  split at h
  · next hp =>
    cases h
    exact xi_row hM fun ls hl => hrow ls _ (Int.toNat_of_nonneg hp).symm
  · cases h
theorem xi_if1_ok (hM : xi_ml[n]? = some M) {t : Int32 → Bool} {off : Int} (hrow : ∀ (ls : Array Slot) (rest : List Value) (x : Int32) (tgt : Nat), (pc : Int) + off = (tgt : Int) → (t x = true → xi_Row M pc tgt ls (.int x :: rest) rest) ∧ (t x = false → xi_Row M pc (pc + 3) ls (.int x :: rest) rest)) (h : xi_if1 t off pc L st w = some B) : xi_To Y d n (pc, L, st, w) B := by
  unfold xi_if1 at h
  split at h
  · next x r =>
    split at h
    · next hp =>
      cases h
      cases ht : t x
      · rw [if_neg (by simp)]
        exact xi_row hM fun ls hl => (hrow ls _ x _ (Int.toNat_of_nonneg hp).symm).2 ht
      · rw [if_pos rfl]
        exact xi_row hM fun ls hl => (hrow ls _ x _ (Int.toNat_of_nonneg hp).symm).1 ht
    · cases h
  · cases h
theorem xi_if2_ok (hM : xi_ml[n]? = some M) {t : Int32 → Int32 → Bool} {off : Int} (hrow : ∀ (ls : Array Slot) (rest : List Value) (x y : Int32) (tgt : Nat), (pc : Int) + off = (tgt : Int) → (t x y = true → xi_Row M pc tgt ls (.int y :: .int x :: rest) rest) ∧ (t x y = false → xi_Row M pc (pc + 3) ls (.int y :: .int x :: rest) rest)) (h : xi_if2 t off pc L st w = some B) : xi_To Y d n (pc, L, st, w) B := by
  unfold xi_if2 at h
  split at h
  · next y x r =>
    split at h
    · next hp =>
      cases h
      cases ht : t x y
      · rw [if_neg (by simp)]
        exact xi_row hM fun ls hl => (hrow ls _ x y _ (Int.toNat_of_nonneg hp).symm).2 ht
      · rw [if_pos rfl]
        exact xi_row hM fun ls hl => (hrow ls _ x y _ (Int.toNat_of_nonneg hp).symm).1 ht
    · cases h
  · cases h
theorem xi_tab_ok (hM : xi_ml[n]? = some M) {dd lo hi : Int} {offs : Array Int} {len : Nat} (hd : decode M.2.1 pc = .ok (.tableswitch dd lo hi offs, len)) (h : xi_tab dd lo hi offs pc L st w = some B) : xi_To Y d n (pc, L, st, w) B := by
  unfold xi_tab at h
  split at h
  · next x r =>
    split at h
    · next ho => exact xi_go1_ok hM (fun ls tgt ht p l e R s m args below meth c H locs cells slots Q hx hb k => lv_tableOut hx hb hd ho ht k) h
    · next ho =>
      split at h
      · next o hq => exact xi_go1_ok hM (fun ls tgt ht p l e R s m args below meth c H locs cells slots Q hx hb k => lv_tableIn hx hb hd (fun z => ho (Or.inl z)) (fun z => ho (Or.inr z)) hq ht k) h
      · cases h
  · cases h
theorem xi_lok_ok (hM : xi_ml[n]? = some M) {dd : Int} {ps : Array (Int × Int)} {len : Nat} (hd : decode M.2.1 pc = .ok (.lookupswitch dd ps, len)) (h : xi_lok dd ps pc L st w = some B) : xi_To Y d n (pc, L, st, w) B := by
  unfold xi_lok at h
  split at h
  · next x r =>
    split at h
    · next ho => exact xi_go1_ok hM (fun ls tgt ht p l e R s m args below meth c H locs cells slots Q hx hb k => lv_lookup hx hb hd ho rfl ht k) h
    · cases h
  · cases h
theorem xi_gst_ok (hM : xi_ml[n]? = some M) {x : Nat} (hd : decode M.2.1 pc = .ok (.getstatic x, 3)) (h : xi_gst (xi_isZ M x) pc L st w = some B) : xi_To Y d n (pc, L, st, w) B := by
  unfold xi_gst at h
  split at h
  · next hz =>
    cases h
    refine xi_To.same fun p l e R s m args below meth c Q hF H locs cells slots ls hH hS hl kk => ?_
    obtain ⟨M', hM', hx, hb, -, hown, -, hts, hG, -⟩ := hF
    cases hM.symm.trans hM'
    obtain ⟨host, hq⟩ := xi_isZ_spec hM hz
    exact va_getsN hx hb hG.2.2.2.1 hS hown (va_Nw.use rfl (hG.2.2.1 _ hq)) (fun _ h => h) hd (kk ls hl)
  · cases h
theorem xi_iald_ok (hM : xi_ml[n]? = some M) {Z S : List Int32} (eZ : Z = Y.2.2.2.2.2.1) (eS : S = Y.2.2.2.2.2.2.1) (hd : decode M.2.1 pc = .ok (.iaload, 1)) (h : xi_iald Z S pc L st w = some B) : xi_To Y d n (pc, L, st, w) B := by
  subst eZ; subst eS
  unfold xi_iald at h
  split at h
  · next j a r =>
    split at h
    · next f hf =>
      split at h
      · cases h
      · next hin =>
        cases h
        refine xi_To.same fun p l e R s m args below meth c Q hF H locs cells slots ls hH hS hl kk => ?_
        obtain ⟨M', hM', hx, hb, -, -, -, -, hG, -⟩ := hF
        cases hM.symm.trans hM'
        have k := kk ls hl
        unfold xi_ia at hf
        split at hf
        · cases hf
          exact va_ti hx hb hG.2.2.2.2.1 hS hin rfl hd k
        · cases hf
          exact va_sld hx hb hG.2.2.2.2.2.1 (Nat.lt_of_lt_of_le hG.2.2.2.2.2.2.1 hG.2.2.2.2.2.2.2.1) (fun z => absurd z (Nat.not_le.mpr hG.2.2.2.2.2.2.1)) hS hin hd k
        · next k0 =>
          split at hf
          · next f0 hw =>
            cases hf
            exact va_iald (a := Y.2.2.1 + k0) (cA := Y.2.1 0) (n := f.length) (f := fun i => f.getD i 0) hx hb hG.1 (hH.one hw) 0 0 rfl rfl hin hd k
          · cases hf
    · cases h
  · cases h
theorem xi_zald_ok (hM : xi_ml[n]? = some M) (hd : decode M.2.1 pc = .ok (.baload, 1)) (h : xi_zald pc L st w = some B) : xi_To Y d n (pc, L, st, w) B := by
  unfold xi_zald at h
  split at h
  · next j a r =>
    split at h
    · next f hf =>
      split at h
      · cases h
      · next hin =>
        cases h
        refine xi_To.same fun p l e R s m args below meth c Q hF H locs cells slots ls hH hS hl kk => ?_
        obtain ⟨M', hM', hx, hb, -, -, -, -, hG, -⟩ := hF
        cases hM.symm.trans hM'
        obtain ⟨k0, rfl, hw⟩ := xi_cell_some hf
        exact va_zald (a := Y.2.2.1 + k0) (cA := Y.2.1 1) (n := f.length) (f := fun i => f.getD i 0) hx hb hG.1 (hH.one hw) 0 1 rfl rfl hin hd (kk ls hl)
    · cases h
  · cases h
theorem xi_lald_ok (hM : xi_ml[n]? = some M) (hd : decode M.2.1 pc = .ok (.laload, 1)) (h : xi_lald pc L st w = some B) : xi_To Y d n (pc, L, st, w) B := by
  unfold xi_lald at h
  split at h
  · next j a r =>
    split at h
    · next f hf =>
      split at h
      · cases h
      · next hin =>
        cases h
        refine xi_To.same fun p l e R s m args below meth c Q hF H locs cells slots ls hH hS hl kk => ?_
        obtain ⟨M', hM', hx, hb, -, -, -, -, hG, -⟩ := hF
        cases hM.symm.trans hM'
        obtain ⟨k0, rfl, hw⟩ := xi_cell_some hf
        exact va_lald (a := Y.2.2.1 + k0) (cA := Y.2.1 2) (n := f.length) (f := fun i => f.getD i 0) hx hb hG.1 (hH.one hw) 0 2 rfl rfl hin hd (kk ls hl)
    · cases h
  · cases h
theorem xi_alen_ok (hM : xi_ml[n]? = some M) {Z S : List Int32} (eZ : Z = Y.2.2.2.2.2.1) (eS : S = Y.2.2.2.2.2.2.1) (hd : decode M.2.1 pc = .ok (.arraylength, 1)) (h : xi_alen Z S pc L st w = some B) : xi_To Y d n (pc, L, st, w) B := by
  subst eZ; subst eS
  unfold xi_alen at h
  split at h
  · next a r =>
    split at h
    · next f hf =>
      cases h
      refine xi_To.same fun p l e R s m args below meth c Q hF H locs cells slots ls hH hS hl kk => ?_
      obtain ⟨M', hM', hx, hb, -, -, -, -, hG, -⟩ := hF
      cases hM.symm.trans hM'
      have k := kk ls hl
      unfold xi_ia at hf
      split at hf
      · cases hf
        exact va_tlen hx hb hG.2.2.2.2.1 hS rfl hd k
      · cases hf
        exact va_slen hx hb hG.2.2.2.2.2.1 (Nat.lt_of_lt_of_le hG.2.2.2.2.2.2.1 hG.2.2.2.2.2.2.2.1) (fun z => absurd z (Nat.not_le.mpr hG.2.2.2.2.2.2.1)) hS hd k
      · next k0 =>
        split at hf
        · next f0 hw =>
          cases hf
          exact va_alen (a := Y.2.2.1 + k0) (cA := Y.2.1 0) (x := (f.length, .inl (fun i => f.getD i 0))) (ty := .int) hx hb hG.1 (hH.one hw) 0 0 rfl rfl rfl hd k
        · cases hf
    · cases h
  · cases h
end XS
