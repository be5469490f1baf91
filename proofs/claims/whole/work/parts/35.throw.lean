/-! A method that throws: Code.has answers false, RootLoom.instruction makes an IndexOutOfBoundsException and throws it. -/
def xe_exc (ci : Nat) : xi_E := .inr (ci, List.replicate 6 .null)
theorem xe_has {Y : xi_Y} {w : xi_W} {cd : Nat} {fs : List Value} {st cnt i : Int32} (hw : w[cd]? = some (.inr (2, fs))) (h0 : fs[0]? = some (.int st)) (h1 : fs[1]? = some (.int cnt)) (hno : st = 0 ∨ i < 0 ∨ cnt ≤ i) (l : Launch) :
    Met l xm_43.1 (xi_cw xm_43) rm0 (xi_Pc Y [.ref (cd + 2), .int i] w) (QcRead 0) 0 0 (fun _ => False) := by
  refine va_MetF (cc := xm_43.2.1) (maxL := 2) (ret := some .boolean) (by decide +kernel) rfl ?_
  intro p e s m args below meth c s₁ B hml hv
  obtain ⟨rfl, hH, hG⟩ := hv
  have hx := B.exec
  have hb := B.bytes
  have hr := B.returns
  have hlocks := B.notSynchronized
  have hts0 := atoms_spec (ws := xi_cw xm_43) B.pre
  have hts : ∀ w ∈ xi_W0, w.before (([.ref (cd + 2), .int i] : List Value).map (xi_v Y)).toArray s = true := fun w hw => hts0 w (List.mem_cons_of_mem _ hw)
  have hown : s.vm.findClass "RootLoom$Code" = some m.cls := findClass_of_methodNamed B.named
  have hM : xi_ml[43]? = some xm_43 := rfl
  have dc : ∀ {pc : Nat} {j : Instr} {len : Nat}, xi_it 43 pc = some (j, len) → decode xm_43.2.1 pc = .ok (j, len) := fun h => xi_hit 43 xm_43 _ _ _ hM h
  rw [lg_entry_eq]
  have hlv : xi_lv Y (xi_ent xm_43 [.ref (cd + 2), .int i]) (lg_sl (([.ref (cd + 2), .int i] : List Value).map (xi_v Y)) ++ List.replicate (2 - (lg_sl (([.ref (cd + 2), .int i] : List Value).map (xi_v Y))).length) Slot.unset).toArray := xi_lv_ent (Y := Y) (M := xm_43) (as := [.ref (cd + 2), .int i]) (by simp [Value.category]) (Nat.le_refl 2)
  generalize (lg_sl (([.ref (cd + 2), .int i] : List Value).map (xi_v Y)) ++ List.replicate (2 - (lg_sl (([.ref (cd + 2), .int i] : List Value).map (xi_v Y))).length) Slot.unset).toArray = ls at hlv ⊢
  have l0 : ls[0]? = some (.val (.ref (Y.2.2.1 + cd))) := (hlv.2.2 0 _ rfl).1
  have l1 : ls[1]? = some (.val (.int i)) := (hlv.2.2 1 _ rfl).1
  have fin : W p l e (headSpec (xi_cw xm_43) rm0).room s m (([.ref (cd + 2), .int i] : List Value).map (xi_v Y)).toArray below meth c s.heap [] 0 0 (MQ below (QcRead 0) (([.ref (cd + 2), .int i] : List Value).map (xi_v Y)).toArray s 0 0 (fun _ => False)) (F0 m 23 ls []) := by
    refine lv_iconst hx hb (dc (pc := 23) rfl) rfl ?_
    exact W.zret hx hb hr (by decide) (fun t ht hW => ⟨rfl, ht⟩) (fun _ h => absurd h List.not_mem_nil) (dc (pc := 24) rfl)
  obtain ⟨⟨C, T, N⟩, hr0, hk0, hlk0⟩ := xi_fd_spec (x := 9) (ci := 2) (k := 0) hM rfl
  obtain ⟨⟨C', T', N'⟩, hr1, hk1, hlk1⟩ := xi_fd_spec (x := 15) (ci := 2) (k := 1) hM rfl
  refine lv_aload_n hx hb (dc (pc := 0) rfl) rfl l0 ?_
  refine va_get (a := Y.2.2.1 + cd) hx hb hts (xi_W0_cl hr0) hown hG.1 (hH.one hw) 0 rfl hr0 0 hk0 (hts _ hlk0) (fun _ h => h) (v := .int st) (by rw [List.getElem?_map, h0]; rfl) (dc (pc := 1) rfl) ?_
  refine lv_if_eq hx hb (dc (pc := 4) rfl) (tgt := 23) (by decide) (fun _ => fin) (fun hs => ?_)
  refine lv_iload_n hx hb (dc (pc := 7) rfl) rfl l1 ?_
  refine lv_if_lt hx hb (dc (pc := 8) rfl) (tgt := 23) (by decide) (fun _ => fin) (fun hi => ?_)
  refine lv_iload_n hx hb (dc (pc := 11) rfl) rfl l1 ?_
  refine lv_aload_n hx hb (dc (pc := 12) rfl) rfl l0 ?_
  refine va_get (a := Y.2.2.1 + cd) hx hb hts (xi_W0_cl hr1) hown hG.1 (hH.one hw) 0 rfl hr1 1 hk1 (hts _ hlk1) (fun _ h => h) (v := .int cnt) (by rw [List.getElem?_map, h1]; rfl) (dc (pc := 13) rfl) ?_
  refine lv_icmp_ge hx hb (dc (pc := 16) rfl) (tgt := 23) (by decide) (fun _ => fin) (fun hge => ?_)
  rcases hno with h | h | h
  · exact absurd h hs
  · exact absurd h hi
  · exact absurd h hge
def xe_QT (Y : xi_Y) (w : xi_W) (ci : Nat) : Array Value → State → Outcome → State → Prop := fun _ st o t => o = .threw (Y.2.2.1 + w.length) ∧ xi_Hs Y (w ++ [xe_exc ci]) t.heap ∧ (∀ q : Nat, q < st.heap.size → t.heap[q]? = st.heap[q]?) ∧ st.WarmedH t.vm ∧ st.sameButNew ({ t with vm := st.vm } : State) [] 1 6
def xe_rm : Room := { frames := 6, cells := 1, slots := 6, locals := 81 }
def xe_bad (X : String) : List Cond := [.declares ⟨"java/lang/RuntimeException", "<init>", "()V"⟩, .declares ⟨"java/lang/Exception", "<init>", "()V"⟩, .declares ⟨"java/lang/Throwable", "<init>", "()V"⟩, .castable X X, .laysStatic "java/lang/Throwable" "UNASSIGNED_STACK" "[Ljava/lang/StackTraceElement;", .laysStatic "java/lang/Throwable" "SUPPRESSED_SENTINEL" "Ljava/util/List;", .isRef (.static "java/lang/Throwable" "UNASSIGNED_STACK" "[Ljava/lang/StackTraceElement;"), .isRef (.static "java/lang/Throwable" "SUPPRESSED_SENTINEL" "Ljava/util/List;")]
theorem xe_split_I : ∀ a ∈ xe_at 82 xe_I, goodWord a = true ∨ a ∈ xe_bad xe_I := by decide +kernel
theorem xe_words {b : Nat} {s : State} {args : Array Value} (hts : ∀ w ∈ xi_W0, w.before args s = true) (hG : xe_G b s) : ∀ a ∈ xe_at 82 xe_I, a.before args s = true := by
  intro a ha
  rcases xe_split_I a ha with h | h
  · exact hts a (List.mem_append_right _ (List.mem_append_right _ (List.mem_append_right _ (List.mem_append_right _ (List.mem_append_left _ (List.mem_filter.mpr ⟨List.mem_append_left _ ha, h⟩))))))
  · simp only [xe_bad, List.mem_cons, List.not_mem_nil, or_false] at h
    rcases h with rfl | rfl | rfl | rfl | rfl | rfl | rfl | rfl
    · exact va_Nw.use rfl (hG.1 _ (List.mem_of_getElem? (i := 0) rfl))
    · exact va_Nw.use rfl (hG.1 _ (List.mem_of_getElem? (i := 1) rfl))
    · exact va_Nw.use rfl (hG.1 _ (List.mem_of_getElem? (i := 2) rfl))
    · exact va_Nw.use rfl (hG.2.1 (xe_I, xe_I) (List.mem_of_getElem? (i := 0) rfl))
    · exact hG.2.2.1.lays
    · exact hG.2.2.2.1.lays
    · exact hG.2.2.1.ref
    · exact hG.2.2.2.1.ref
theorem xe_wx (k : Nat) {w : Cond} (h : ([.classLink "RootLoom" 80 "java/lang/IndexOutOfBoundsException", .initialized "java/lang/IndexOutOfBoundsException", .classLink "RootLoom" 83 "java/lang/IllegalArgumentException", .initialized "java/lang/IllegalArgumentException", .classLink "RootLoomLaw" 13 "java/lang/IndexOutOfBoundsException", .classLink "RootLoomLaw" 15 "java/lang/IllegalArgumentException", xh_c, .static xh_y, .methodLink "RootLoomLaw" 51 xh_y, .initialized "RootLoomLaw"] : List Cond)[k]? = some w) : w ∈ xi_W0 :=
  List.mem_append_right _ (List.mem_append_right _ (List.mem_append_right _ (List.mem_append_right _ (List.mem_append_right _ (List.mem_of_getElem? h)))))
-- nothing written, one cell made: the old cells are as they were
theorem xe_old {s t : State} {n k : Nat} (h : s.sameButNew t [] n k) : ∀ q : Nat, q < s.heap.size → t.heap[q]? = s.heap[q]? := by
  intro q hq
  have h1 : s.heap[q]? = some s.heap[q] := Array.getElem?_eq_getElem hq
  obtain ⟨c', h2, h3, h4, h5⟩ := h.2.2.2.2.2 q _ h1
  rw [h2, h1]
  congr 1
  rw [h3]
  have h6 : c'.slots = s.heap[q].slots := by
    apply Array.ext_getElem?
    intro i
    exact h5 i List.not_mem_nil
  rw [h6]
theorem xe_ins {Y : xi_Y} {w : xi_W} {x cd : Nat} {fa fs : List Value} {st cnt i wh : Int32} (hwa : w[x]? = some (.inr (0, fa))) (ha1 : fa[1]? = some (.ref (cd + 2))) (hw : w[cd]? = some (.inr (2, fs))) (h0 : fs[0]? = some (.int st)) (h1 : fs[1]? = some (.int cnt)) (hno : st = 0 ∨ i < 0 ∨ cnt ≤ i) (hfl : Y.2.2.2.2.2.2.2.flags = pinnedFlags ++ [noTraceFlag]) :
    MetFree Y.2.2.2.2.2.2.2 xm_17.1 (headSpec (xi_cw xm_17) xe_rm) (xi_Pc Y [.ref (x + 2), .int i, .int wh] w) (fun _ _ _ _ _ => True) (xe_QT Y w 8) := by
  refine MetFree.of_bodySF (code := xm_17.2.1) (maxLocals := 3) (ret := some .int) (by decide +kernel) ?_ ?_
  · intro args s m h hn
    obtain ⟨meth, c, g1, g2, g3, g4, g5, g6, -, -⟩ := Cond.code_spec hn (atoms_spec (ws := xi_cw xm_17) h _ List.mem_cons_self)
    exact ⟨meth, c, g1, g2, g3, g4, g5, g6⟩
  · intro p e s m args below meth c s₁ B hml hv _
    have hh0 : s₁.heap = s.heap := by rw [B.state]; rfl
    obtain ⟨rfl, hH, hG⟩ := hv
    have hx := B.exec
    have hb := B.bytes
    have hlocks := B.notSynchronized
    have hts0 := atoms_spec (ws := xi_cw xm_17) B.pre
    have hts : ∀ w ∈ xi_W0, w.before (([.ref (x + 2), .int i, .int wh] : List Value).map (xi_v Y)).toArray s = true := fun w hw => hts0 w (List.mem_cons_of_mem _ hw)
    have hown : s.vm.findClass "RootLoom" = some m.cls := findClass_of_methodNamed B.named
    have hM : xi_ml[17]? = some xm_17 := rfl
    have hM2 : xi_ml[43]? = some xm_43 := rfl
    have dc : ∀ {pc : Nat} {j : Instr} {len : Nat}, xi_it 17 pc = some (j, len) → decode xm_17.2.1 pc = .ok (j, len) := fun h => xi_hit 17 xm_17 _ _ _ hM h
    have hno2 : c.exceptionTable.isEmpty = true := B.noHandlers (hts0 _ List.mem_cons_self)
    have hout : ∀ (pc : Nat), ∀ y ∈ c.exceptionTable.toList, covers y pc = false := by
      intro pc y hy
      have h9 : c.exceptionTable = #[] := by simpa using hno2
      rw [h9] at hy
      exact absurd hy List.not_mem_nil
    have key : W p Y.2.2.2.2.2.2.2 e (headSpec (xi_cw xm_17) xe_rm).room s m (([.ref (x + 2), .int i, .int wh] : List Value).map (xi_v Y)).toArray below meth c s.heap [] 0 0 (fun t => ∃ o, t.status = .running ∧ Ended t below o ∧ xe_QT Y w 8 (([.ref (x + 2), .int i, .int wh] : List Value).map (xi_v Y)).toArray s o t) (entryFrame m (([.ref (x + 2), .int i, .int wh] : List Value).map (xi_v Y)).toArray 3) := by
      rw [lg_entry_eq]
      have hlv : xi_lv Y (xi_ent xm_17 [.ref (x + 2), .int i, .int wh]) (lg_sl (([.ref (x + 2), .int i, .int wh] : List Value).map (xi_v Y)) ++ List.replicate (3 - (lg_sl (([.ref (x + 2), .int i, .int wh] : List Value).map (xi_v Y))).length) Slot.unset).toArray := xi_lv_ent (Y := Y) (M := xm_17) (as := [.ref (x + 2), .int i, .int wh]) (by simp [Value.category]) (Nat.le_refl 3)
      generalize (lg_sl (([.ref (x + 2), .int i, .int wh] : List Value).map (xi_v Y)) ++ List.replicate (3 - (lg_sl (([.ref (x + 2), .int i, .int wh] : List Value).map (xi_v Y))).length) Slot.unset).toArray = ls at hlv ⊢
      have l0 : ls[0]? = some (.val (.ref (Y.2.2.1 + x))) := (hlv.2.2 0 _ rfl).1
      have l1 : ls[1]? = some (.val (.int i)) := (hlv.2.2 1 _ rfl).1
      have hls : ls.size = 3 := hlv.1
      obtain ⟨⟨C, T, N⟩, hr0, hk0, hlk0⟩ := xi_fd_spec (x := 19) (ci := 0) (k := 1) hM rfl
      refine lv_aload_n hx hb (dc (pc := 0) rfl) rfl l0 ?_
      refine va_get (a := Y.2.2.1 + x) hx hb hts (xi_W0_cl hr0) hown hG.1 (hH.one hwa) 0 rfl hr0 1 hk0 (hts _ hlk0) (fun _ h => h) (v := .ref (Y.2.2.1 + cd)) (by rw [List.getElem?_map, ha1]; rfl) (dc (pc := 1) rfl) ?_
      refine lv_iload_n hx hb (dc (pc := 4) rfl) rfl l1 ?_
      have hkw : ∀ w ∈ xi_kw xm_43, w.before (([.ref (x + 2), .int i, .int wh] : List Value).map (xi_v Y)).toArray s = true := fun w hw => hts _ (xi_W0_m hM2 _ hw)
      have hlink := hts _ (xi_W0_lk (x := 76) (q := (3, 43, 0)) hM rfl (.methodLink "RootLoom" 76 xm_43.1) (List.mem_singleton.mpr rfl))
      have hrec := va_recv (a := Y.2.2.1 + cd) hG.1 (hH.one hw) (ci := 2) (q0 := 0) (fs := fs.map (xi_v Y)) (q := ("RootLoom$Code", xc_TC, 11)) rfl rfl
      refine W.callR (r := 0) (W.runV (C := "RootLoom$Code") (index := 76) (b := Y.2.2.1 + cd) (As := [.int i]) (rest := []) (nL := 3) ⟨hx, hb, hml, hown, hts⟩ (xe_has (Y := Y) hw h0 h1 hno _) ⟨callB_of 1 hts (xi_good (xi_W0_m hM2 _ List.mem_cons_self)) rfl rfl rfl (hkw _ (List.mem_of_getElem? (i := 1) rfl)) hlink (by decide +kernel) (by decide), hkw _ (List.mem_of_getElem? (i := 2) rfl), hkw _ (List.mem_of_getElem? (i := 3) rfl)⟩ ⟨xi_blind Y _ w, hrec, fun U hU hW => ⟨rfl, by rw [hU]; exact hH, hG.moved (locs := []) (by rw [hU]; exact va_S.rf) hW⟩⟩ rfl rfl hls rfl (lv_room (Nat.zero_le _)) (dc (pc := 5) rfl) ⟨Nat.zero_le _, Nat.zero_le _⟩) ?_
      refine W.eq (g2 := F0 m 8 ls [.int 0]) rfl ?_
      refine lv_if_ne hx hb (dc (pc := 8) rfl) (tgt := 19) (by decide) (fun h => absurd rfl h) (fun _ => ?_)
      refine W.newc (C := xe_I) (n := 6) hx hb hown (hts _ (xe_wx 0 rfl)) (xe_words hts hG.2.2.2.2.2.2.2.2 _ (by decide +kernel)) (hts _ (xe_wx 1 rfl)) rfl (dc (pc := 11) rfl) (by decide) (by decide) (fun cC kC f1 f2 f3 f4 => ?_)
      refine W.eq (g2 := F0 m 14 ls [.ref s.heap.size]) rfl ?_
      refine lv_dup hx hb (dc (pc := 14) rfl) rfl ?_
      intro T hT X
      obtain ⟨U, hst, hrun, hend, hWU, hsame, ce, hce, hoc⟩ := X.ctorThrow0 hx (Launch.traces_off hfl X.admits) (own := "RootLoom") (cls := xe_I) (names := xe_names) (ic := 82) hown (by decide +kernel) (by decide +kernel) (xe_words hts hG.2.2.2.2.2.2.2.2) (fun _ h => absurd h List.not_mem_nil) f1 f2 (a := s.heap.size) (by rw [hT]; simp) (Nat.le_refl _) (g := F0 m 15 ls [.ref s.heap.size, .ref s.heap.size]) rfl (by rw [hml]; exact hls) rfl rfl (rest := []) rfl (by rw [hb]; exact dc (pc := 15) rfl) (by rw [hb]; exact dc (pc := 18) rfl) (hout _) (by decide) (by simp [F0, JFrame.monitorRoom, Value.category]; decide)
      have hbase : s.heap.size = Y.2.2.1 + w.length := hH.1
      have hold := xe_old hsame
      refine ⟨U, hst, .threw s.heap.size, hrun, hend, by rw [hbase], ⟨?_, fun k y hk => ?_⟩, hold, hWU, hsame⟩
      · have h8 : s.heap.size < U.heap.size := (Array.getElem?_eq_some_iff.mp hce).1
        have h9 : U.heap.size ≤ s.heap.size + 1 := hsame.2.2.1
        rw [List.length_append, List.length_singleton]
        omega
      · by_cases hl : k < w.length
        · rw [List.getElem?_append_left hl] at hk
          exact (hH.2 k y hk).kept (hold _ (by show Y.2.2.1 + k < s.heap.size; omega))
        · rw [List.getElem?_append_right (by omega)] at hk
          have hz : k - w.length < 1 := (List.getElem?_eq_some_iff.mp hk).1
          have hk0 : k = w.length := by omega
          subst hk0
          rw [Nat.sub_self] at hk
          cases hk
          refine ⟨(xe_I, xc_TE, 0), rfl, ce, by rw [← hbase]; exact hce, ?_, hoc.vm, fun j hj => absurd hj (Nat.not_lt_zero j)⟩
          exact Option.some.inj (hoc.cls.symm.trans (hG.1.1 8 (xe_I, xc_TE, 0) rfl).2.1)
    obtain ⟨t, a1, o, b1, b2, b3⟩ := key s₁ hh0 (Stand.of_body B)
    exact ⟨t, o, a1, b1, b2, b3⟩
