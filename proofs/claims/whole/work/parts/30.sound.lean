/-! The interpreter is sound: what it comes to, the machine comes to. -/
theorem xi_cat (Y : xi_Y) (v : Value) : (xi_v Y v).category = v.category := by cases v <;> rfl
theorem xi_cats (Y : xi_Y) (st : List Value) : ((st.map (xi_v Y)).map fun v => v.category).sum = (st.map fun v => v.category).sum := by
  rw [List.map_map]
  congr 1
  exact List.map_congr_left fun v _ => xi_cat Y v
def xi_A (Y : xi_Y) : Nat → Prop := fun q => Y.2.2.1 ≤ q
def xi_tys (Y : xi_Y) : List (ClassId × FieldType) := [(Y.2.1 0, .int), (Y.2.1 1, .boolean), (Y.2.1 2, .long)]
def xi_Hs (Y : xi_Y) (w : xi_W) (H : Heap) : Prop := H.size = Y.2.2.1 + w.length ∧ ∀ (k : Nat) (x : xi_E), w[k]? = some x → va_at Y.1 xi_cl (Y.2.2.1 + k, xi_c Y x) H
theorem xi_cell_some {w : xi_W} {a : Nat} {x : xi_E} (h : xi_cell w a = some x) : ∃ k, a = k + 2 ∧ w[k]? = some x := by
  unfold xi_cell at h
  split at h
  · exact ⟨_, rfl, h⟩
  · cases h
theorem xi_Hs.one {Y : xi_Y} {w : xi_W} {H : Heap} {k : Nat} {x : xi_E} (hH : xi_Hs Y w H) (h : w[k]? = some x) : va_P Y.1 xi_cl [(Y.2.2.1 + k, xi_c Y x)] H := by
  intro i q hq
  cases i with
  | zero =>
    simp only [List.getElem?_cons_zero, Option.some.injEq] at hq
    subst hq
    exact hH.2 k x h
  | succ i => simp at hq
theorem xi_Hs.upd {Y : xi_Y} {w : xi_W} {H H1 : Heap} {k : Nat} {x y : xi_E} (hH : xi_Hs Y w H) (h : w[k]? = some x) (z : H1.size = H.size) (oq : ∀ q : Nat, q ≠ Y.2.2.1 + k → H1[q]? = H[q]?) (hn : va_at Y.1 xi_cl (Y.2.2.1 + k, xi_c Y y) H1) : xi_Hs Y (w.set k y) H1 := by
  have hl := (List.getElem?_eq_some_iff.mp h).1
  refine ⟨by rw [z, hH.1, List.length_set], fun j u hj => ?_⟩
  by_cases hjk : j = k
  · subst hjk
    rw [List.getElem?_set_self hl] at hj
    cases hj
    exact hn
  · rw [List.getElem?_set_ne (Ne.symm hjk)] at hj
    exact (hH.2 j u hj).kept (oq _ (by show Y.2.2.1 + j ≠ Y.2.2.1 + k; omega))
theorem xi_Hs.push {Y : xi_Y} {w : xi_W} {H H1 : Heap} {x : xi_E} (hH : xi_Hs Y w H) (z : H1.size = H.size + 1) (oq : ∀ q : Nat, q < H.size → H1[q]? = H[q]?) (hn : va_at Y.1 xi_cl (Y.2.2.1 + w.length, xi_c Y x) H1) : xi_Hs Y (w ++ [x]) H1 := by
  refine ⟨by rw [z, hH.1, List.length_append]; rfl, fun j u hj => ?_⟩
  by_cases hl : j < w.length
  · rw [List.getElem?_append_left hl] at hj
    exact (hH.2 j u hj).kept (oq _ (by show Y.2.2.1 + j < H.size; rw [hH.1]; omega))
  · rw [List.getElem?_append_right (by omega)] at hj
    have hz : j - w.length < 1 := (List.getElem?_eq_some_iff.mp hj).1
    have hj0 : j = w.length := by omega
    subst hj0
    rw [Nat.sub_self] at hj
    cases hj
    exact hn
-- static facts of a state
def xi_G (Y : xi_Y) (U : State) : Prop :=
  va_K Y.1 xi_cl (xi_tys Y) U ∧ (∀ q ∈ xi_nm, va_Nw (.methodLinkNest q.1 q.2.1 q.2.2.1 q.2.2.2) U) ∧ (∀ q ∈ xi_nf, va_Nw (.fieldLinkNest q.1 q.2.1 q.2.2.1 q.2.2.2.1 q.2.2.2.2.1 q.2.2.2.2.2) U) ∧
  va_Z xi_ZC xi_Zn "[I" (.ref Y.2.2.2.1) (xi_A Y) U U.heap ∧ va_T .int Y.2.2.2.1 Y.2.2.2.2.2.1.length (fun j => .int (Y.2.2.2.2.2.1.getD j 0)) (xi_A Y) U U.heap ∧
  va_X Y.2.2.2.2.1 Y.2.2.2.2.2.2.1.length (fun j => Y.2.2.2.2.2.2.1.getD j 0) U U.heap ∧ Y.2.2.2.2.1 < Y.2.2.1 ∧ Y.2.2.1 ≤ U.heap.size ∧ xe_G Y.2.2.1 U
theorem xi_G.moved {Y : xi_Y} {s U : State} {locs : List Loc} (h : xi_G Y s) (hS : va_S (xi_A Y) s.heap U.heap locs) (hW : s.WarmedH U.vm) : xi_G Y U := by
  obtain ⟨h1, h2, h3, h4, h5, h6, h7, h8, h9⟩ := h
  refine ⟨va_K.moved hW.alike h1, fun q hq => va_Nw.warmM hW (h2 q hq), fun q hq => va_Nw.warmF hW (h3 q hq), (va_Z.moved hW.alike h4).kept hS.2.1, (va_T.moved hW.alike h5).kept hS.2.1, (va_X.moved hW.alike h6).kept ?_, h7, Nat.le_trans h8 hS.1, h9.moved hW (fun a ha hb => hS.2.1 a ha (Nat.not_le.mpr hb))⟩
  exact hS.2.1 _ (Nat.lt_of_lt_of_le h7 h8) (fun z => absurd z (Nat.not_le.mpr h7))
theorem xi_G.same {Y : xi_Y} {s U : State} (h : xi_G Y s) (hv : s.vm = U.vm) (hh : U.heap = s.heap) : xi_G Y U := by
  have hA : s.vm.Alike U.vm := by rw [hv]; exact Vm.Alike.refl _
  obtain ⟨h1, h2, h3, h4, h5, h6, h7, h8, h9⟩ := h
  refine ⟨va_K.moved hA h1, fun q hq => va_Nw.same rfl hv (h2 q hq), fun q hq => va_Nw.same rfl hv (h3 q hq), ?_, ?_, ?_, h7, by rw [hh]; exact h8, h9.same hv hh⟩
  · rw [hh]; exact va_Z.moved hA h4
  · rw [hh]; exact va_T.moved hA h5
  · rw [hh]; exact va_X.moved hA h6
-- locals
def xi_lv (Y : xi_Y) (L : xi_L) (ls : Array Slot) : Prop := ls.size = L.length ∧ lv_wf ls ∧ ∀ (k : Nat) (v : Value), L[k]? = some (some v) → ls[k]? = some (.val (xi_v Y v)) ∧ v.category = 1
def xi_prs (Y : xi_Y) (L : xi_L) : List (Nat × Value) := (List.range L.length).filterMap fun k => match L[k]? with
  | some (some v) => some (k, xi_v Y v)
  | _ => none
theorem xi_prs_mem {Y : xi_Y} {L : xi_L} {k : Nat} {v : Value} (h : L[k]? = some (some v)) : (k, xi_v Y v) ∈ xi_prs Y L :=
  List.mem_filterMap.mpr ⟨k, List.mem_range.mpr (List.getElem?_eq_some_iff.mp h).1, by simp only [h]⟩
theorem xi_lv.has {Y : xi_Y} {L : xi_L} {ls : Array Slot} (h : xi_lv Y L ls) : lv_has ls L.length (xi_prs Y L) := by
  refine ⟨h.1, h.2.1, fun q hq => ?_⟩
  obtain ⟨k, -, hk⟩ := List.mem_filterMap.mp hq
  split at hk
  · next v hv =>
    cases hk
    exact (h.2.2 k v hv).1
  · cases hk
theorem xi_lv.store {Y : xi_Y} {L : xi_L} {ls ls' : Array Slot} {k : Nat} {v : Value} (h : xi_lv Y L ls) (hk : k < L.length) (hc : v.category = 1)
    (h' : lv_has ls' L.length ((k, xi_v Y v) :: (xi_prs Y L).filter (fun q => !(q.1 == k) && !(q.1 + 1 == k && q.2.category == 2)))) : xi_lv Y (L.set k (some v)) ls' := by
  obtain ⟨h1, h2, h3⟩ := h'
  refine ⟨by rw [h1, List.length_set], h2, fun j u hj => ?_⟩
  by_cases hjk : j = k
  · subst hjk
    rw [List.getElem?_set_self hk] at hj
    cases hj
    exact ⟨h3 _ List.mem_cons_self, hc⟩
  · rw [List.getElem?_set_ne (Ne.symm hjk)] at hj
    have hcu := (h.2.2 j u hj).2
    exact ⟨h3 (j, xi_v Y u) (List.mem_cons_of_mem _ (List.mem_filter.mpr ⟨xi_prs_mem hj, by simp [hjk, xi_cat, hcu]⟩)), hcu⟩
theorem xi_lv.at {Y : xi_Y} {L : xi_L} {ls : Array Slot} {k : Nat} {v : Value} (h : xi_lv Y L ls) (hk : xi_ld L k = some v) : L[k]? = some (some v) := by
  unfold xi_ld at hk
  split at hk
  · next u hu => cases hk; exact hu
  · cases hk
-- a frame's facts
def xi_Fr (Y : xi_Y) (d n : Nat) (p : Program) (l : Launch) (R : Room) (s : State) (m : MethodId) (args : Array Value) (meth : Method) (c : Code) : Prop :=
  ∃ M : xi_M, xi_ml[n]? = some M ∧ p.tables.exec = Jvm.exec ∧ c.code = M.2.1 ∧ c.maxLocals = M.2.2.1 ∧ s.vm.findClass M.1.cls = some m.cls ∧ meth.name = M.1.name ∧ (∀ w ∈ xi_W0, w.before args s = true) ∧ xi_G Y s ∧ d + 1 ≤ R.frames ∧ (d + 1) * xi_K ≤ R.locals ∧ l = Y.2.2.2.2.2.2.2
-- from one state to another
def xi_To (Y : xi_Y) (d n : Nat) (A B : xi_S) : Prop :=
  A.2.2.2.length ≤ B.2.2.2.length ∧ xi_sl A.2.2.2 ≤ xi_sl B.2.2.2 ∧
  ∀ (p : Program) (l : Launch) (e : Env) (R : Room) (s : State) (m : MethodId) (args : Array Value) (below : List Frame) (meth : Method) (c : Code) (Q : State → Prop),
    xi_Fr Y d n p l R s m args meth c →
    ∀ (H : Heap) (locs : List Loc) (cells slots cells' slots' : Nat) (ls : Array Slot),
      xi_Hs Y A.2.2.2 H → va_S (xi_A Y) s.heap H locs → xi_lv Y A.2.1 ls →
      cells' + A.2.2.2.length = cells + B.2.2.2.length → slots' + xi_sl A.2.2.2 = slots + xi_sl B.2.2.2 → cells' ≤ R.cells → slots' ≤ R.slots →
      (∀ (H' : Heap) (locs' : List Loc) (ls' : Array Slot), xi_Hs Y B.2.2.2 H' → va_S (xi_A Y) s.heap H' locs' → xi_lv Y B.2.1 ls' → W p l e R s m args below meth c H' locs' cells' slots' Q (F0 m B.1 ls' (B.2.2.1.map (xi_v Y)))) →
      W p l e R s m args below meth c H locs cells slots Q (F0 m A.1 ls (A.2.2.1.map (xi_v Y)))
theorem xi_To.rf (Y : xi_Y) (d n : Nat) (A : xi_S) : xi_To Y d n A A := by
  refine ⟨Nat.le_refl _, Nat.le_refl _, fun p l e R s m args below meth c Q hF H locs cells slots cells' slots' ls hH hS hl hc hs h1 h2 kk => ?_⟩
  have e1 : cells' = cells := by omega
  have e2 : slots' = slots := by omega
  subst e1; subst e2
  exact kk H locs ls hH hS hl
theorem xi_To.trans {Y : xi_Y} {d n : Nat} {A B C : xi_S} (h1 : xi_To Y d n A B) (h2 : xi_To Y d n B C) : xi_To Y d n A C := by
  obtain ⟨a1, a2, a3⟩ := h1
  obtain ⟨b1, b2, b3⟩ := h2
  refine ⟨Nat.le_trans a1 b1, Nat.le_trans a2 b2, fun p l e R s m args below meth c Q hF H locs cells slots cells' slots' ls hH hS hl hc hs h1 h2 kk => ?_⟩
  refine a3 p l e R s m args below meth c Q hF H locs cells slots (cells + (B.2.2.2.length - A.2.2.2.length)) (slots + (xi_sl B.2.2.2 - xi_sl A.2.2.2)) ls hH hS hl (by omega) (by omega) (by omega) (by omega) fun H' locs' ls' hH' hS' hl' => ?_
  exact b3 p l e R s m args below meth c Q hF H' locs' _ _ cells' slots' ls' hH' hS' hl' (by omega) (by omega) h1 h2 kk
theorem xi_To.same {Y : xi_Y} {d n pc pc' : Nat} {L L' : xi_L} {st st' : List Value} {w : xi_W}
    (k : ∀ (p : Program) (l : Launch) (e : Env) (R : Room) (s : State) (m : MethodId) (args : Array Value) (below : List Frame) (meth : Method) (c : Code) (Q : State → Prop), xi_Fr Y d n p l R s m args meth c →
      ∀ (H : Heap) (locs : List Loc) (cells slots : Nat) (ls : Array Slot), xi_Hs Y w H → va_S (xi_A Y) s.heap H locs → xi_lv Y L ls →
      (∀ ls' : Array Slot, xi_lv Y L' ls' → W p l e R s m args below meth c H locs cells slots Q (F0 m pc' ls' (st'.map (xi_v Y)))) → W p l e R s m args below meth c H locs cells slots Q (F0 m pc ls (st.map (xi_v Y)))) : xi_To Y d n (pc, L, st, w) (pc', L', st', w) := by
  refine ⟨Nat.le_refl _, Nat.le_refl _, fun p l e R s m args below meth c Q hF H locs cells slots cells' slots' ls hH hS hl hc hs h1 h2 kk => ?_⟩
  dsimp only at hc hs hH hl kk ⊢
  have e1 : cells' = cells := by omega
  have e2 : slots' = slots := by omega
  subst e1; subst e2
  exact k p l e R s m args below meth c Q hF H locs _ _ ls hH hS hl fun ls' hl' => kk H locs ls' hH hS hl'
