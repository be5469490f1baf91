/-! The law's helper: it calls RootLoom.instruction, catches what it throws, and answers 1. -/
-- a throw is caught by the first entry of the method's own table, whose class may not have been resolved yet
theorem xe_find {Q : Handler → Pre} {E : CtlPost} {e : Env} {d : Bool} {acts : List Action} {s : State} {f : JFrame} {a : Addr} {x : ExceptionTableEntry} {t : List ExceptionTableEntry} {c : ClassId} {cell : Cell} (hx : covers x f.pc = true) (h0 : x.catchType ≠ 0)
    (hl : s.vm.ClassLinks e.platform f.method.cls x.catchType c) (hcell : s.heap[a]? = some cell) (hobj : ∀ k, cell.vm ≠ .statics k) (hk : ∃ k, s.vm.classes[cell.cls]? = some k) (hc : ∃ k, s.vm.classes[c]? = some k) (hfit : s.vm.assignable cell.cls c = true) :
    wp (findHandler.go f a (x :: t)) Q E e d acts s ↔ Q (.found x.handlerPc) d acts (s.setVm (s.vm.noted f.method.cls x.catchType (.cls c))) := by
  simp only [covers] at hx
  obtain ⟨ha, ht⟩ := (resolveClass_links e.toSetting hl).op (op := VmOp.resolveClass f.method.cls x.catchType) rfl
  have hal : s.vm.Alike (s.vm.noted f.method.cls x.catchType (.cls c)) := (Vm.Alike.refl s.vm).noted _ _ _
  obtain ⟨k1, hk1⟩ := hk
  obtain ⟨k2, hk2⟩ := hc
  obtain ⟨k1', hk1', -⟩ := hal.2.2 _ _ hk1
  obtain ⟨k2', hk2', -⟩ := hal.2.2 _ _ hk2
  have hfit' : (s.vm.noted f.method.cls x.catchType (.cls c)).assignable cell.cls c = true := by rw [hal.assignable]; exact hfit
  simp [findHandler.go, hx, h0, ha, ht, hcell, hobj, hk1', hk2', hfit', VmOp.dirties, VmOp.acts]
theorem xe_caught {tb : Tables} {e : Env} {T target : State} {g : JFrame} {c : Code} {below : List Frame} {a : Addr} (h : At T g.method c below) {meth : Method} (hm : T.vm.method? g.method = some meth) (hc : meth.code = some c) {x : ExceptionTableEntry} {rest : List ExceptionTableEntry} (hsplit : c.exceptionTable.toList = x :: rest)
    (hx : covers x g.pc = true) (h0 : x.catchType ≠ 0) {cT : ClassId} {cell : Cell} (hl : T.vm.ClassLinks e.platform g.method.cls x.catchType cT) (hcell : T.heap[a]? = some cell) (hobj : ∀ k, cell.vm ≠ .statics k) (hk : ∃ k, T.vm.classes[cell.cls]? = some k) (hcl : ∃ k, T.vm.classes[cT]? = some k) (hfit : T.vm.assignable cell.cls cT = true)
    (hrest : Steps tb e below ((T.setVm (T.vm.noted g.method.cls x.catchType (.cls cT))).setTop { g with pc := x.handlerPc, stack := [.ref a] }) target) : Steps tb e below ((T.setTop g).pushFrame (.throwing a)) target := by
  obtain ⟨g₀, hg⟩ := Option.isSome_iff_exists.mp h.top
  obtain ⟨r, hr⟩ := State.topJava?_eq_some.mp hg
  obtain ⟨hgo, hw⟩ := h.throwing a
  have hf : ∀ (Q : Handler → Pre) (E : CtlPost) (d : Bool) (acts : List Action), wp (findHandler g a) Q E e d acts ((T.setTop g).pushFrame (.throwing a)) ↔ Q (.found x.handlerPc) d acts (((T.setTop g).pushFrame (.throwing a)).setVm (T.vm.noted g.method.cls x.catchType (.cls cT))) := by
    intro Q E d acts
    rw [W.findHandler_eq (s := (T.setTop g).pushFrame (.throwing a)) (meth := meth) (code := c) hm hc, hsplit]
    exact xe_find (s := (T.setTop g).pushFrame (.throwing a)) hx h0 hl hcell hobj hk hcl hfit
  have hstep : (stepThrowing e ((T.setTop g).pushFrame (.throwing a)) a (.java g :: T.frames.tail)).1 = (((T.setTop g).pushFrame (.throwing a)).setVm (T.vm.noted g.method.cls x.catchType (.cls cT))).setFrames (.java { g with pc := x.handlerPc, stack := [.ref a] } :: T.frames.tail) := by
    simp only [stepThrowing, searchFrame, vmDo]
    generalize hres : Sem.go _ e false [] ((T.setTop g).pushFrame (.throwing a)) = res
    obtain ⟨as, rfl, ha⟩ := Sem.eq_ok_of hres (a := Handler.found x.handlerPc) (s' := ((T.setTop g).pushFrame (.throwing a)).setVm (T.vm.noted g.method.cls x.catchType (.cls cT))) (acts' := []) (by simp [hf _ _ _ _])
    rfl
  refine Steps.head hgo hw ?_
  rw [stepThread_throwing (frames_entered h.top _), hstep]
  have hr' : (T.setVm (T.vm.noted g.method.cls x.catchType (.cls cT))).frames = .java g₀ :: r := hr
  rw [State.setTop_of_frames _ hr'] at hrest
  have e1 : ∀ (F G : List Frame) (vm' : Vm) (u : State), ((u.setFrames F).setVm vm').setFrames G = (u.setVm vm').setFrames G := by
    intro F G vm' u
    have h1 : (u.setFrames F).setVm vm' = (u.setVm vm').setFrames F := rfl
    rw [h1, State.setFrames_setFrames]
  rw [hr, List.tail_cons, State.pushFrame, e1, State.setTop_of_frames _ hr, e1]
  exact hrest
def xh_rm : Room := { frames := 7, cells := 1, slots := 6, locals := 103 }
theorem xh_d0 : decode method_3_code 0 = .ok (.aload_n 3, 1) := by decide +kernel
theorem xh_d1 : decode method_3_code 1 = .ok (.iconst 0, 1) := by decide +kernel
theorem xh_d2 : decode method_3_code 2 = .ok (.aload_n 0, 1) := by decide +kernel
theorem xh_d3 : decode method_3_code 3 = .ok (.iload_n 1, 1) := by decide +kernel
theorem xh_d4 : decode method_3_code 4 = .ok (.iload_n 2, 1) := by decide +kernel
theorem xh_d5 : decode method_3_code 5 = .ok (.invokevirtual 7, 3) := by decide +kernel
theorem xh_d13 : decode method_3_code 13 = .ok (.astore 4, 2) := by decide +kernel
theorem xh_d15 : decode method_3_code 15 = .ok (.iconst 1, 1) := by decide +kernel
theorem xh_d16 : decode method_3_code 16 = .ok (.ireturn, 1) := by decide +kernel
theorem xh_met {Y : xi_Y} {w : xi_W} {x cd o : Nat} {fa fs : List Value} {st cnt i wh : Int32} (hwa : w[x]? = some (.inr (0, fa))) (ha1 : fa[1]? = some (.ref (cd + 2))) (hw : w[cd]? = some (.inr (2, fs))) (h0 : fs[0]? = some (.int st)) (h1 : fs[1]? = some (.int cnt)) (hno : st = 0 ∨ i < 0 ∨ cnt ≤ i) (hfl : Y.2.2.2.2.2.2.2.flags = pinnedFlags ++ [noTraceFlag]) :
    Met Y.2.2.2.2.2.2.2 xh_y (xh_c :: xi_W0) xh_rm (xi_Pc Y [.ref (x + 2), .int i, .int wh, .ref o] w) (xi_Qc Y (some (.int 1)) (w ++ [xe_exc 8])) 1 6 (xi_A Y) := by
  refine va_MetW (cc := method_3_code) (maxL := 5) (ret := some .int) (hh := [(0, 10, 13, 13), (0, 10, 17, 15)]) (by decide +kernel) rfl ?_
  intro p e s m args below meth c s₁ B hml hv
  obtain ⟨rfl, hH, hG⟩ := hv
  have hx := B.exec
  have hb := B.bytes
  have hr := B.returns
  have hlocks := B.notSynchronized
  have hts0 := atoms_spec (ws := xh_c :: xi_W0) B.pre
  generalize har : (([.ref (x + 2), .int i, .int wh, .ref o] : List Value).map (xi_v Y)).toArray = args at hts0 ⊢
  have hts : ∀ w ∈ xi_W0, w.before args s = true := fun w hw => hts0 w (List.mem_cons_of_mem _ hw)
  have hown : s.vm.findClass "RootLoomLaw" = some m.cls := findClass_of_methodNamed B.named
  have hM2 : xi_ml[17]? = some xm_17 := rfl
  have hkw : ∀ w ∈ xi_kw xm_17, w.before args s = true := fun w hw => hts _ (xi_W0_m hM2 _ hw)
  rw [← har, lg_entry_eq, har]
  have hlv : xi_lv Y (xi_ent (xh_y, method_3_code, 5, some .int, 1, 4, 99, 0) [.ref (x + 2), .int i, .int wh, .ref o]) (lg_sl (([.ref (x + 2), .int i, .int wh, .ref o] : List Value).map (xi_v Y)) ++ List.replicate (5 - (lg_sl (([.ref (x + 2), .int i, .int wh, .ref o] : List Value).map (xi_v Y))).length) Slot.unset).toArray := xi_lv_ent (Y := Y) (M := (xh_y, method_3_code, 5, some .int, 1, 4, 99, 0)) (as := [.ref (x + 2), .int i, .int wh, .ref o]) (by simp [Value.category]) (by show 4 ≤ 5; decide)
  generalize (lg_sl (([.ref (x + 2), .int i, .int wh, .ref o] : List Value).map (xi_v Y)) ++ List.replicate (5 - (lg_sl (([.ref (x + 2), .int i, .int wh, .ref o] : List Value).map (xi_v Y))).length) Slot.unset).toArray = ls at hlv ⊢
  have l0 : ls[0]? = some (.val (.ref (Y.2.2.1 + x))) := (hlv.2.2 0 _ rfl).1
  have l1 : ls[1]? = some (.val (.int i)) := (hlv.2.2 1 _ rfl).1
  have l2 : ls[2]? = some (.val (.int wh)) := (hlv.2.2 2 _ rfl).1
  have l3 : ls[3]? = some (.val (.ref (xi_ad Y o))) := (hlv.2.2 3 _ rfl).1
  have hls : ls.size = 5 := hlv.1
  refine lv_aload_n hx hb xh_d0 rfl l3 ?_
  refine lv_iconst hx hb xh_d1 rfl ?_
  refine lv_aload_n hx hb xh_d2 rfl l0 ?_
  refine lv_iload_n hx hb xh_d3 rfl l1 ?_
  refine lv_iload_n hx hb xh_d4 rfl l2 ?_
  intro T hT X
  -- the call
  have hlink := hts _ (xi_W0_lk (n := 0) (M := xm_0) (x := 7) (q := (3, 17, 0)) rfl rfl (.methodLink "RootLoomLaw" 7 xm_17.1) (List.mem_singleton.mpr rfl))
  obtain ⟨mk, methM, hnamed, hmethM, hstM, habM⟩ := Cond.instanceMethod_spec (hkw _ (List.mem_of_getElem? (i := 2) rfl))
  have hcodeW := hkw (.code xm_17.1 xm_17.2.1 3 (some .int)) (List.mem_of_getElem? (i := 0) rfl)
  obtain ⟨methM', cM, hmethM', hcM, -, hlM, -, -, -, hsigM⟩ := Cond.code_spec hnamed hcodeW
  cases hmethM.symm.trans hmethM'
  obtain ⟨cellB, hcB, hoB, hclB⟩ := va_recv (a := Y.2.2.1 + x) hG.1 (hH.one hwa) (ci := 0) (q0 := 0) (fs := fa.map (xi_v Y)) (q := ("RootLoom", xc_TA, 4)) rfl rfl
  obtain ⟨c2, r2, m2, q1, q2, q3, q4, kP, hkP, hkPi⟩ := Cond.selects_spec (hkw (.selects "RootLoom" xm_17.1 xm_17.1) (List.mem_of_getElem? (i := 3) rfl))
  cases hclB.symm.trans q1
  have hnM : xm_17.1.cls ≠ "java/lang/invoke/MethodHandle" ∧ xm_17.1.cls ≠ "java/lang/invoke/VarHandle" := by decide +kernel
  cases (State.methodFound?_of_named hnamed hnM).symm.trans q2
  cases hnamed.symm.trans q3
  have hselP : selectMethod e.platform s.vm cellB.cls mk = .method mk := by rw [Launch.admits_selectMethod X.admits]; exact q4
  have hlen : ∀ sig, parseMethodDescriptor xm_17.1.desc = some sig → ([.int i, .int wh] : List Value).length = sig.parameters.length := by
    intro sig h
    have h9 : (parseMethodDescriptor xm_17.1.desc).map (fun d => d.parameters.length) = some 2 := by decide +kernel
    rw [h] at h9
    exact (Option.some.inj h9).symm
  obtain ⟨vm₁, X₁, hstep₁⟩ := X.invokevirtual hx hown hlink hnamed hmethM hstM hkP hkPi hnM (a := Y.2.2.1 + x) (cell := cellB) (by rw [hT]; exact hcB)
    (fun z h => by rw [h] at hoB; cases hoB) hselP hmethM habM hkP hkPi (g := F0 m 5 ls [.int wh, .int i, .ref (Y.2.2.1 + x), .int (Int32.ofInt 0), .ref (xi_ad Y o)]) rfl (argsL := [.int i, .int wh]) (rest := [.int (Int32.ofInt 0), .ref (xi_ad Y o)]) (hlen _ hsigM) rfl (by rw [hb]; exact xh_d5)
  -- the callee throws
  have hn₁ := X₁.named hnamed
  have hW₁ := X₁.warmed
  have hmM₁ : (T.setVm vm₁).vm.method? mk = some methM := by
    have h9 : vm₁.method? mk = s.vm.method? mk := hW₁.alike.method? mk
    show vm₁.method? mk = _
    rw [h9]; exact hmethM
  obtain ⟨kY, hkY, -⟩ := className_of_methodNamed hn₁
  have hini : (Cond.initialized "RootLoom").before #[] (T.setVm vm₁) = true := word_at (U := T.setVm vm₁) hW₁ (Or.inl rfl) (hkw (.initialized "RootLoom") (List.mem_of_getElem? (i := 1) rfl))
  have hinitY : kY.init = .initialized := Cond.initialized_spec (findClass_of_methodNamed hn₁) hkY hini
  have hat : At (T.setVm vm₁) m c below := X₁.here
  have hpre : (headSpec (xi_cw xm_17) xe_rm).pre.before ([.ref (Y.2.2.1 + x), .int i, .int wh] : List Value).toArray (T.setVm vm₁) = true := by
    refine atoms_intro (ws := xi_cw xm_17) fun w' hw' => ?_
    have hg := xi_good (Mj := xm_17) (xi_W0_m hM2 _ List.mem_cons_self) w' hw'
    exact word_at (U := T.setVm vm₁) hW₁ hg.2 (hts _ hg.1)
  have happ := Spec.appliesLoose_calling (S := headSpec (xi_cw xm_17) xe_rm) (e := e) (g := F0 m 5 ls [.int (Int32.ofInt 0), .ref (xi_ad Y o)]) hat (by rw [hb]; exact xh_d5) hn₁ hkY hinitY
    (X₁.room_calling (g := F0 m 5 ls [.int (Int32.ofInt 0), .ref (xi_ad Y o)]) (R' := xe_rm) (by rw [hml]; exact hls) hmM₁ hcM (by decide) (by rw [hlM]; simp [F0, JFrame.monitorRoom, Value.category]; decide) (by decide) (by decide)) hpre
  have hP : xi_Pc Y [.ref (x + 2), .int i, .int wh] w ([.ref (Y.2.2.1 + x), .int i, .int wh] : List Value).toArray ((T.setVm vm₁).calling (F0 m 5 ls [.int (Int32.ofInt 0), .ref (xi_ad Y o)]) mk ([.ref (Y.2.2.1 + x), .int i, .int wh] : List Value).toArray) := by
    refine xi_blind Y _ w _ _ _ _ ⟨rfl, ?_, ?_⟩
    · show xi_Hs Y w T.heap
      rw [hT]; exact hH
    · exact hG.moved (U := T.setVm vm₁) (locs := []) (by show va_S (xi_A Y) s.heap T.heap []; rw [hT]; exact va_S.rf) hW₁
  obtain ⟨mid, hmid⟩ := hat.above
  have hfr : ((T.setVm vm₁).setTop (F0 m 5 ls [.int (Int32.ofInt 0), .ref (xi_ad Y o)])).frames = (.java (F0 m 5 ls [.int (Int32.ofInt 0), .ref (xi_ad Y o)]) :: mid) ++ below := by
    rw [State.frames_setTop' _ hat.top, hmid]; rfl
  obtain ⟨oc, s₂, hsteps, -, hend, hq⟩ := Steps.callFree (xe_ins (Y := Y) (wh := wh) hwa ha1 hw h0 h1 hno hfl) p X₁.admits X₁.cas X₁.clock (acts := []) hfr happ hP trivial
  obtain ⟨hoc, hHs, hold, hWs, hsame⟩ := hq
  subst hoc
  rw [State.frames_setTop' _ hat.top, X₁.tail] at hend
  obtain ⟨T', X', hWT, hsT, hs₂⟩ := X₁.outOfThrown (g := F0 m 5 ls [.int (Int32.ofInt 0), .ref (xi_ad Y o)]) rfl (mk := mk) (a := ([.ref (Y.2.2.1 + x), .int i, .int wh] : List Value).toArray) hend hWs hsame
  have hheap : T'.heap = s₂.heap := by rw [hs₂]; exact (Stand.throwing_heap T' _ _).symm
  -- caught
  obtain ⟨m9, meth9, c9, hn9, hm9, hc9, -, -, htab, -⟩ := Cond.codeWith_spec (hts0 xh_c List.mem_cons_self)
  cases B.named.symm.trans hn9
  cases B.method.symm.trans hm9
  cases X.code.symm.trans hc9
  obtain ⟨x1, x2, hx12, hx1, hx2⟩ : ∃ x1 x2, c.exceptionTable.toList = [x1, x2] ∧ (x1.startPc, x1.endPc, x1.handlerPc, x1.catchType) = (0, 10, 13, 13) ∧ (x2.startPc, x2.endPc, x2.handlerPc, x2.catchType) = (0, 10, 17, 15) := by
    revert htab
    generalize c.exceptionTable.toList = tl
    intro htab
    match tl, htab with
    | [a, b], h =>
      simp only [List.map_cons, List.map_nil, List.cons.injEq, and_true] at h
      exact ⟨a, b, rfl, h.1, h.2⟩
    | [], h => simp at h
    | [_], h => simp at h
    | _ :: _ :: _ :: _, h => simp at h
  simp only [Prod.mk.injEq] at hx1
  obtain ⟨y1, y2, y3, y4⟩ := hx1
  have hpl : e.platform.magicAccessors = ({} : Platform).magicAccessors := by rw [X.admits.platform]
  obtain ⟨cT, hcT, hcl⟩ := Cond.classLink_spec hown (hts (.classLink "RootLoomLaw" 13 xe_I) (xe_wx 4 rfl)) e.platform hpl
  obtain ⟨dk, _, _, kt, hdk, _, _, _, _, hkt, _, hopen⟩ := hcl.here
  have hWf : s.WarmedH (T'.vm.noted m.cls 13 (.cls cT)) := X'.warmed.noted hdk hopen (State.rightAt_cls hcl)
  obtain ⟨kt', hkt', -⟩ := X'.warmed.alike.2.2 _ _ hkt
  obtain ⟨rE, hrE, ce, hce1, hce2, hce3, -⟩ := hHs.2 w.length (xe_exc 8) (by rw [List.getElem?_append_right (Nat.le_refl _), Nat.sub_self]; rfl)
  have hKe := (hG.1.1 8 (xe_I, xc_TE, 0) rfl).2.1
  have hceT : ce.cls = cT := by rw [hce2]; exact Option.some.inj (hKe.symm.trans hcT)
  obtain ⟨c3, c4, hc3, hc4, hasg⟩ := Cond.castable_spec (va_Nw.use (A := args) rfl (hG.2.2.2.2.2.2.2.2.2.1 (xe_I, xe_I) (List.mem_of_getElem? (i := 0) rfl)))
  cases hc3.symm.trans hcT
  cases hc4.symm.trans hcT
  have hfit : T'.vm.assignable ce.cls cT = true := by rw [hceT, X'.warmed.alike.assignable]; exact hasg
  have X9 := X'.noted hWf
  -- what follows
  have hgo : W p Y.2.2.2.2.2.2.2 e (headSpec (xh_c :: xi_W0) xh_rm).room s m args below meth c s₂.heap [] 1 6 (MQ below (xi_Qc Y (some (.int 1)) (w ++ [xe_exc 8])) args s 1 6 (xi_A Y)) (F0 m 13 ls [.ref (Y.2.2.1 + w.length)]) := by
    refine lv_astore hx hb xh_d13 (lv := []) ⟨hls, hlv.2.1, fun _ h => absurd h List.not_mem_nil⟩ (by decide) rfl fun ls' hl' => ?_
    refine lv_iconst hx hb xh_d15 rfl ?_
    refine W.iret hx hb hr (fun t ht hW => ⟨rfl, by rw [ht]; exact hHs, ?_, fun q h8 h9 => ?_⟩) (fun _ h => absurd h List.not_mem_nil) xh_d16
    · rw [ht, hHs.1, hH.1, List.length_append]; omega
    · rw [ht]
      have h7 := hold q (by show q < T.heap.size; rw [hT]; exact h8)
      rw [h7]
      show T.heap[q]? = s.heap[q]?
      rw [hT]
  obtain ⟨t9, a9, b9⟩ := hgo (T'.setVm (T'.vm.noted m.cls 13 (.cls cT))) hheap X9
  refine ⟨t9, ?_, b9⟩
  refine hstep₁ _ fun acts => ?_
  rw [doInvoke_state]
  refine hsteps.trans ?_
  rw [hs₂]
  refine xe_caught (x := x1) (rest := [x2]) X'.here X'.method' X'.code hx12 (by simp [covers, y1, y2]) (by rw [y4]; decide) (cT := cT) (cell := ce) (by rw [y4]; exact X'.warmed.classLinks hcl) (by rw [hheap]; exact hce1) (fun k h => by rw [hce3] at h; cases h) (Vm.classAt_of_assignable hfit ⟨kt', hkt'⟩) ⟨kt', hkt'⟩ hfit ?_
  rw [y3, y4]
  exact a9
