/-! The law calls its helper: an answer. -/
theorem xh_To0 {Y : xi_Y} {d : Nat} {w : xi_W} {L : xi_L} (hL7 : L.length = 7) {x o : Nat} {fa : List Value} {f : List Int64} {i wh v : Int32} (hwa : w[x]? = some (.inr (0, fa))) (hwo : w[o]? = some (.inl (2, .inr f))) (hf0 : 0 < f.length) (hC : xi_C Y d 17 [.ref (x + 2), .int i, .int wh] w (some (.int v)) w)
    {r : List Value} (hr : (r.map fun v => v.category).sum ≤ 8) : xi_To Y (d + 2) 0 (392, L, .ref (o + 2) :: .int wh :: .int i :: .ref (x + 2) :: r, w) (395, L, .int 0 :: r, w.set o (.inl (2, .inr (f.set 0 v.toInt64)))) := by
  have hsl := xi_sl_set (y := .inl (2, .inr (f.set 0 v.toInt64))) hwo (by show (f.set _ _).length = f.length; rw [List.length_set])
  refine ⟨by show w.length ≤ (w.set _ _).length; rw [List.length_set]; exact Nat.le_refl _, by show xi_sl w ≤ xi_sl (w.set _ _); rw [hsl]; exact Nat.le_refl _, fun p l e R s m args below meth c Q hF H locs cells slots cells' slots' ls hH hS hlv hc hs r1 r2 kk => ?_⟩
  dsimp only at hc hs hH hlv kk ⊢
  obtain ⟨M', hM', hx, hb, hml, hown, hname, hts, hG, hf, hlo, hle⟩ := hF
  cases (show xi_ml[0]? = some xm_0 from rfl).symm.trans hM'
  subst hle
  rw [List.length_set] at hc
  rw [hsl] at hs
  have e1 : cells' = cells := by omega
  have e2 : slots' = slots := by omega
  subst e1; subst e2
  have hwc : xh_c ∈ xi_W0 := xe_wx 6 rfl
  have hws : ∀ w ∈ xh_c :: xi_W0, ∀ (a' : Array Value) (U : State), s.WarmedH U.vm → w.before a' U = true := by
    intro w' hw' a' U hW
    have hm : w' ∈ xi_W0 := by
      rcases List.mem_cons.mp hw' with rfl | h
      · exact hwc
      · exact h
    exact word_at hW (xi_okW w' hm) (hts w' hm)
  have hini : Cond.initialized "RootLoomLaw" ∈ xi_W0 := xe_wx 9 rfl
  have hMet := xh_met0 (Y := Y) hwa hwo hf0 hC
  have hK27 : xi_K = 27 := rfl
  rw [hK27] at hlo
  have hK : Back Y.2.2.2.2.2.2.2 R p e below s args xh_y 3 8 (PreOf R 0 0 (xi_Pc Y [.ref (x + 2), .int i, .int wh, .ref (o + 2)] w)) (PostOf (xi_Qc Y (some (.int 0)) (w.set o (.inl (2, .inr (f.set 0 v.toInt64))))) 0 0 (xi_A Y)) :=
    va_backW (hh := [(0, 10, 13, 13), (0, 10, 17, 15)]) (bytes := method_3_code) (maxL := 5) (ret := some .int) hMet (xi_blind Y _ w) rfl rfl (by show d + 2 + 1 ≤ R.frames; omega) (by show 8 + (5 + 11) + (d + 2) * xi_K ≤ R.locals; rw [hK27]; omega) hws List.mem_cons_self (fun a' U hW => hws _ (List.mem_cons_of_mem _ hini) a' U hW)
  have hdec : decode c.code 392 = .ok (.invokestatic 51, 3) := by rw [hb]; exact xi_hit 0 xm_0 392 _ _ rfl rfl
  have hsize : ls.size = c.maxLocals := by rw [hml]; exact hlv.1.trans hL7
  have hroom : 2 * (F0 m 392 ls (r.map (xi_v Y))).monitorRoom + ((r.map (xi_v Y)).map fun v => v.category).sum ≤ 8 := lv_room (by rw [xi_cats]; exact hr)
  refine xi_back (Y := Y) (o := some (.int 0)) (w' := w.set o (.inl (2, .inr (f.set 0 v.toInt64)))) (rest := r.map (xi_v Y)) (mc := 0) (ms := 0) (a := ([.ref (Y.2.2.1 + x), .int i, .int wh, .ref (Y.2.2.1 + o)] : List Value).toArray) ?_ hS (fun H' locs' a b => kk H' locs' ls a b hlv)
  intro T hT X
  obtain ⟨mk, methM, cM, hnamed, hmethM, hcM, -, -, -, -, -, hsigM⟩ := Cond.codeWith_spec (hts xh_c hwc)
  have hstatic : methM.isStatic = true := Cond.static_spec hnamed hmethM (hts (.static xh_y) (xe_wx 7 rfl))
  obtain ⟨kP, hkP, -⟩ := className_of_methodNamed hnamed
  have hinitP : kP.init = .initialized := Cond.initialized_spec (findClass_of_methodNamed hnamed) hkP (hts _ hini)
  have hlen : ∀ sig, parseMethodDescriptor xh_y.desc = some sig → ([.ref (Y.2.2.1 + x), .int i, .int wh, .ref (Y.2.2.1 + o)] : List Value).length = sig.parameters.length := by
    intro sig h
    have h9 : (parseMethodDescriptor xh_y.desc).map (fun d => d.parameters.length) = some 4 := by decide +kernel
    rw [h] at h9
    exact (Option.some.inj h9).symm
  obtain ⟨vm₁, X₁, hstep₁⟩ := X.invokestatic hx hown (hts (.methodLink "RootLoomLaw" 51 xh_y) (xe_wx 8 rfl)) hnamed hmethM hstatic hkP hinitP (by decide +kernel) (g := F0 m 392 ls ((Value.ref (o + 2) :: .int wh :: .int i :: .ref (x + 2) :: r).map (xi_v Y))) rfl (argsL := [.ref (Y.2.2.1 + x), .int i, .int wh, .ref (Y.2.2.1 + o)]) (rest := r.map (xi_v Y)) (hlen _ hsigM) rfl hdec
  obtain ⟨v', ⟨U', l2, c2, s2⟩, X', ⟨g', mk', t, Lc, e1, e2, hq, q1, hLc, q2, q3⟩, hsteps⟩ := hK m meth c ⟨T.setVm vm₁, locs, cells', slots'⟩ (F0 m 392 ls (r.map (xi_v Y))) (.invokestatic 51) mk ([.ref (Y.2.2.1 + x), .int i, .int wh, .ref (Y.2.2.1 + o)] : List Value).toArray X₁ rfl hsize hdec hroom (X₁.named hnamed)
    ⟨r1, r2, rfl, by show xi_Hs Y w T.heap; rw [hT]; exact hH, hG.moved (U := T.setVm vm₁) (locs := locs) (by show va_S (xi_A Y) s.heap T.heap locs; rw [hT]; exact hS) X₁.warmed⟩
  dsimp only [Pt.U, Pt.locs, Pt.cells, Pt.slots] at X' e1 e2 q1 q2 q3 hsteps
  subst q1; subst q2; subst q3
  exact ⟨v', _, t, U', Lc, hT, X', hLc, e1, e2, hq, fun target h => hstep₁ _ fun acts => by rw [doInvoke_state]; exact hsteps.trans h⟩
