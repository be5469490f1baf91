/-! The law calls its helper. -/
theorem xh_To {Y : xi_Y} {d : Nat} (hd7 : 7 ≤ d) {w : xi_W} {L : xi_L} (hL7 : L.length = 7) {x cd o : Nat} {fa fs : List Value} {st cnt i wh : Int32} (hwa : w[x]? = some (.inr (0, fa))) (ha1 : fa[1]? = some (.ref (cd + 2))) (hw : w[cd]? = some (.inr (2, fs))) (h0 : fs[0]? = some (.int st)) (h1 : fs[1]? = some (.int cnt)) (hno : st = 0 ∨ i < 0 ∨ cnt ≤ i) (hfl : Y.2.2.2.2.2.2.2.flags = pinnedFlags ++ [noTraceFlag])
    {r : List Value} (hr : (r.map fun v => v.category).sum ≤ 8) : xi_To Y d 0 (392, L, .ref o :: .int wh :: .int i :: .ref (x + 2) :: r, w) (395, L, .int 1 :: r, w ++ [xe_exc 8]) := by
  refine ⟨by show w.length ≤ (w ++ [xe_exc 8]).length; rw [List.length_append]; exact Nat.le_add_right _ _, by show xi_sl w ≤ xi_sl (w ++ [xe_exc 8]); rw [xi_sl_app]; exact Nat.le_add_right _ _, fun p l e R s m args below meth c Q hF H locs cells slots cells' slots' ls hH hS hlv hc hs r1 r2 kk => ?_⟩
  dsimp only at hc hs hH hlv kk ⊢
  obtain ⟨M', hM', hx, hb, hml, hown, hname, hts, hG, hf, hlo, hle⟩ := hF
  cases (show xi_ml[0]? = some xm_0 from rfl).symm.trans hM'
  subst hle
  rw [List.length_append, List.length_singleton] at hc
  rw [xi_sl_app, show xi_sc (xe_exc 8) = 6 from rfl] at hs
  have e1 : cells' = cells + 1 := by omega
  have e2 : slots' = slots + 6 := by omega
  subst e1; subst e2
  have hwc : xh_c ∈ xi_W0 := xe_wx 6 rfl
  have hws : ∀ w ∈ xh_c :: xi_W0, ∀ (a' : Array Value) (U : State), s.WarmedH U.vm → w.before a' U = true := by
    intro w' hw' a' U hW
    have hm : w' ∈ xi_W0 := by
      rcases List.mem_cons.mp hw' with rfl | h
      · exact hwc
      · exact h
    exact word_at hW (xi_okW w' hm) (hts w' hm)
  have hini : Cond.initialized "RootLoomLaw" ∈ xi_W0 := xe_wx 9 rfl
  have hMet := xh_met (Y := Y) (o := o) (wh := wh) hwa ha1 hw h0 h1 hno hfl
  have hK27 : (d + 1) * xi_K = (d + 1) * 27 := rfl
  have hK : Back Y.2.2.2.2.2.2.2 R p e below s args xh_y 3 8 (PreOf R 1 6 (xi_Pc Y [.ref (x + 2), .int i, .int wh, .ref o] w)) (PostOf (xi_Qc Y (some (.int 1)) (w ++ [xe_exc 8])) 1 6 (xi_A Y)) :=
    va_backW (hh := [(0, 10, 13, 13), (0, 10, 17, 15)]) (bytes := method_3_code) (maxL := 5) (ret := some .int) hMet (xi_blind Y _ w) rfl rfl (by show 7 + 1 ≤ R.frames; omega) (by show 8 + (5 + 11) + 103 ≤ R.locals; omega) hws List.mem_cons_self (fun a' U hW => hws _ (List.mem_cons_of_mem _ hini) a' U hW)
  have hdec : decode c.code 392 = .ok (.invokestatic 51, 3) := by rw [hb]; exact xi_hit 0 xm_0 392 _ _ rfl rfl
  have hsize : ls.size = c.maxLocals := by rw [hml]; exact hlv.1.trans hL7
  have hroom : 2 * (F0 m 392 ls (r.map (xi_v Y))).monitorRoom + ((r.map (xi_v Y)).map fun v => v.category).sum ≤ 8 := lv_room (by rw [xi_cats]; exact hr)
  refine xi_back (Y := Y) (o := some (.int 1)) (w' := w ++ [xe_exc 8]) (rest := r.map (xi_v Y)) (mc := 1) (ms := 6) (a := ([.ref (Y.2.2.1 + x), .int i, .int wh, .ref (xi_ad Y o)] : List Value).toArray) ?_ hS (fun H' locs' a b => kk H' locs' ls a b hlv)
  intro T hT X
  obtain ⟨mk, methM, cM, hnamed, hmethM, hcM, -, -, -, -, -, hsigM⟩ := Cond.codeWith_spec (hts xh_c hwc)
  have hstatic : methM.isStatic = true := Cond.static_spec hnamed hmethM (hts (.static xh_y) (xe_wx 7 rfl))
  obtain ⟨kP, hkP, -⟩ := className_of_methodNamed hnamed
  have hinitP : kP.init = .initialized := Cond.initialized_spec (findClass_of_methodNamed hnamed) hkP (hts _ hini)
  have hlen : ∀ sig, parseMethodDescriptor xh_y.desc = some sig → ([.ref (Y.2.2.1 + x), .int i, .int wh, .ref (xi_ad Y o)] : List Value).length = sig.parameters.length := by
    intro sig h
    have h9 : (parseMethodDescriptor xh_y.desc).map (fun d => d.parameters.length) = some 4 := by decide +kernel
    rw [h] at h9
    exact (Option.some.inj h9).symm
  obtain ⟨vm₁, X₁, hstep₁⟩ := X.invokestatic hx hown (hts (.methodLink "RootLoomLaw" 51 xh_y) (xe_wx 8 rfl)) hnamed hmethM hstatic hkP hinitP (by decide +kernel) (g := F0 m 392 ls ((Value.ref o :: .int wh :: .int i :: .ref (x + 2) :: r).map (xi_v Y))) rfl (argsL := [.ref (Y.2.2.1 + x), .int i, .int wh, .ref (xi_ad Y o)]) (rest := r.map (xi_v Y)) (hlen _ hsigM) rfl hdec
  obtain ⟨v, ⟨U', l2, c2, s2⟩, X', ⟨g', mk', t, Lc, e1, e2, hq, q1, hLc, q2, q3⟩, hsteps⟩ := hK m meth c ⟨T.setVm vm₁, locs, cells, slots⟩ (F0 m 392 ls (r.map (xi_v Y))) (.invokestatic 51) mk ([.ref (Y.2.2.1 + x), .int i, .int wh, .ref (xi_ad Y o)] : List Value).toArray X₁ rfl hsize hdec hroom (X₁.named hnamed)
    ⟨r1, r2, rfl, by show xi_Hs Y w T.heap; rw [hT]; exact hH, hG.moved (U := T.setVm vm₁) (locs := locs) (by show va_S (xi_A Y) s.heap T.heap locs; rw [hT]; exact hS) X₁.warmed⟩
  dsimp only [Pt.U, Pt.locs, Pt.cells, Pt.slots] at X' e1 e2 q1 q2 q3 hsteps
  subst q1; subst q2; subst q3
  exact ⟨v, _, t, U', Lc, hT, X', hLc, e1, e2, hq, fun target h => hstep₁ _ fun acts => by rw [doInvoke_state]; exact hsteps.trans h⟩
