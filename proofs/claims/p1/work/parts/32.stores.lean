/-! Steps that write or make cells. -/
theorem xi_lset {f : List Int64} {i j : Nat} (x : Int64) (hc : i < f.length) : (f.set i x).getD j 0 = if j = i then x else f.getD j 0 := by
  by_cases hjc : j = i
  · subst hjc
    simp [List.getD_eq_getElem?_getD, hc]
  · have hcj : i ≠ j := fun q => hjc q.symm
    simp [List.getD_eq_getElem?_getD, List.getElem?_set, hjc, hcj]
theorem xi_arr_i (cA : ClassId) {f : List Int32} {i : Nat} (x : Int32) (h : i < f.length) : (arrV cA f.length (fun j => .int (f.getD j 0))).setSlot i (.int x) = arrV cA (f.set i x).length (fun j => .int ((f.set i x).getD j 0)) := by
  rw [arrV_store, List.length_set]
  congr 1
  funext j
  rw [set_getD x h]
  unfold updV
  by_cases hj : j = i
  · rw [if_pos hj, if_pos hj]
  · rw [if_neg hj, if_neg hj]
theorem xi_arr_l (cA : ClassId) {f : List Int64} {i : Nat} (x : Int64) (h : i < f.length) : (arrV cA f.length (fun j => .long (f.getD j 0))).setSlot i (.long x) = arrV cA (f.set i x).length (fun j => .long ((f.set i x).getD j 0)) := by
  rw [arrV_store, List.length_set]
  congr 1
  funext j
  rw [xi_lset x h]
  unfold updV
  by_cases hj : j = i
  · rw [if_pos hj, if_pos hj]
  · rw [if_neg hj, if_neg hj]
theorem xi_zero_i (cA : ClassId) (N : Nat) : arrV cA (List.replicate N (0 : Int32)).length (fun j => .int ((List.replicate N (0 : Int32)).getD j 0)) = arrV cA N (fun _ => .int 0) := by
  rw [List.length_replicate]
  congr 1
  funext j
  congr 1
  rw [List.getD_eq_getElem?_getD, List.getElem?_replicate]
  split <;> rfl
theorem xi_zero_l (cA : ClassId) (N : Nat) : arrV cA (List.replicate N (0 : Int64)).length (fun j => .long ((List.replicate N (0 : Int64)).getD j 0)) = arrV cA N (fun _ => .long 0) := by
  rw [List.length_replicate]
  congr 1
  funext j
  congr 1
  rw [List.getD_eq_getElem?_getD, List.getElem?_replicate]
  split <;> rfl
-- slots of a world
theorem xi_sl_set {w : xi_W} {k : Nat} {x y : xi_E} (h : w[k]? = some x) (e : xi_sc y = xi_sc x) : xi_sl (w.set k y) = xi_sl w := by
  unfold xi_sl
  rw [List.map_set]
  have hl := (List.getElem?_eq_some_iff.mp h).1
  have h2 : (w.map xi_sc)[k]? = some (xi_sc y) := by rw [List.getElem?_map, h, e]; rfl
  congr 1
  apply List.ext_getElem?
  intro j
  by_cases hj : j = k
  · subst hj
    rw [List.getElem?_set_self (by rw [List.length_map]; exact hl), h2]
  · rw [List.getElem?_set_ne (Ne.symm hj)]
theorem xi_sl_app (w : xi_W) (x : xi_E) : xi_sl (w ++ [x]) = xi_sl w + xi_sc x := by
  unfold xi_sl
  rw [List.map_append, List.sum_append]
  simp
theorem xi_fok_spec {ty : FieldType} {v : Value} (h : xi_fok ty v = true) : narrow ty v = v ∧ fits ty v = true := by
  unfold xi_fok at h
  split at h
  · exact ⟨rfl, rfl⟩
  · next x =>
    simp only [Bool.or_eq_true, decide_eq_true_eq] at h
    rcases h with rfl | rfl
    · exact ⟨by decide, by decide⟩
    · exact ⟨by decide, by decide⟩
  · exact ⟨rfl, rfl⟩
  · exact ⟨rfl, rfl⟩
  · exact ⟨rfl, rfl⟩
  · cases h
theorem xi_nar (Y : xi_Y) {ty : FieldType} {v : Value} (h : narrow ty v = v) : narrow ty (xi_v Y v) = xi_v Y v := by
  cases v with
  | ref a => cases ty <;> rfl
  | _ => exact h
theorem xi_fit (Y : xi_Y) (ty : FieldType) (v : Value) : fits ty (xi_v Y v) = fits ty v := by
  cases v <;> cases ty <;> rfl
section XT
variable {Y : xi_Y} {d n : Nat} {M : xi_M} {pc pc' : Nat} {L : xi_L} {st st' : List Value} {w : xi_W} {B : xi_S}
-- a step that writes one cell
theorem xi_To.wr {k0 : Nat} {x y : xi_E} (hw : w[k0]? = some x) (hsc : xi_sc y = xi_sc x)
    (k : ∀ (p : Program) (l : Launch) (e : Env) (R : Room) (s : State) (m : MethodId) (args : Array Value) (below : List Frame) (meth : Method) (c : Code) (Q : State → Prop), xi_Fr Y d n p l R s m args meth c →
      ∀ (H : Heap) (locs : List Loc) (cells slots : Nat) (ls : Array Slot), xi_Hs Y w H → va_S (xi_A Y) s.heap H locs → xi_lv Y L ls →
      (∀ (H1 : Heap) (i : Nat), H1.size = H.size → (∀ q : Nat, q ≠ Y.2.2.1 + k0 → H1[q]? = H[q]?) → va_at Y.1 xi_cl (Y.2.2.1 + k0, xi_c Y y) H1 → W p l e R s m args below meth c H1 (locs ++ [⟨Y.2.2.1 + k0, i⟩]) cells slots Q (F0 m pc' ls (st'.map (xi_v Y)))) →
      W p l e R s m args below meth c H locs cells slots Q (F0 m pc ls (st.map (xi_v Y)))) : xi_To Y d n (pc, L, st, w) (pc', L, st', w.set k0 y) := by
  have hsl := xi_sl_set hw hsc
  refine ⟨?_, ?_, fun p l e R s m args below meth c Q hF H locs cells slots cells' slots' ls hH hS hl hc hs h1 h2 kk => ?_⟩
  · show w.length ≤ (w.set k0 y).length
    rw [List.length_set]; exact Nat.le_refl _
  · show xi_sl w ≤ xi_sl (w.set k0 y)
    rw [hsl]; exact Nat.le_refl _
  · dsimp only at hc hs hH hl kk ⊢
    rw [List.length_set] at hc
    rw [hsl] at hs
    have e1 : cells' = cells := by omega
    have e2 : slots' = slots := by omega
    subst e1; subst e2
    exact k p l e R s m args below meth c Q hF H locs _ _ ls hH hS hl fun H1 i z oq hn => kk H1 _ ls (hH.upd hw z oq hn) (hS.put z oq (show Y.2.2.1 ≤ Y.2.2.1 + k0 from Nat.le_add_right _ _)) hl
-- a step that makes one cell
theorem xi_To.mk {x : xi_E}
    (k : ∀ (p : Program) (l : Launch) (e : Env) (R : Room) (s : State) (m : MethodId) (args : Array Value) (below : List Frame) (meth : Method) (c : Code) (Q : State → Prop), xi_Fr Y d n p l R s m args meth c →
      ∀ (H : Heap) (locs : List Loc) (cells slots : Nat) (ls : Array Slot), xi_Hs Y w H → va_S (xi_A Y) s.heap H locs → xi_lv Y L ls → cells + 1 ≤ R.cells → slots + xi_sc x ≤ R.slots →
      (∀ H1 : Heap, H1.size = Y.2.2.1 + w.length + 1 → (∀ q : Nat, q < Y.2.2.1 + w.length → H1[q]? = H[q]?) → va_at Y.1 xi_cl (Y.2.2.1 + w.length, xi_c Y x) H1 → W p l e R s m args below meth c H1 locs (cells + 1) (slots + xi_sc x) Q (F0 m pc' ls (st'.map (xi_v Y)))) →
      W p l e R s m args below meth c H locs cells slots Q (F0 m pc ls (st.map (xi_v Y)))) : xi_To Y d n (pc, L, st, w) (pc', L, st', w ++ [x]) := by
  have hsl := xi_sl_app w x
  refine ⟨?_, ?_, fun p l e R s m args below meth c Q hF H locs cells slots cells' slots' ls hH hS hl hc hs h1 h2 kk => ?_⟩
  · show w.length ≤ (w ++ [x]).length
    rw [List.length_append]; exact Nat.le_add_right _ _
  · show xi_sl w ≤ xi_sl (w ++ [x])
    rw [hsl]; exact Nat.le_add_right _ _
  · dsimp only at hc hs hH hl kk ⊢
    rw [List.length_append, List.length_singleton] at hc
    rw [hsl] at hs
    have e1 : cells' = cells + 1 := by omega
    have e2 : slots' = slots + xi_sc x := by omega
    subst e1; subst e2
    refine k p l e R s m args below meth c Q hF H locs _ _ ls hH hS hl h1 h2 fun H1 z oq hn => kk H1 _ ls (hH.push (by rw [z, hH.1]) (fun q hq => oq q (by rw [← hH.1]; exact hq)) hn) ?_ hl
    exact ⟨Nat.le_trans hS.1 (by rw [z, hH.1]; omega), fun q h1 h2 => (oq q (by rw [← hH.1]; exact Nat.lt_of_lt_of_le h1 hS.1)).trans (hS.2.1 q h1 h2), hS.2.2⟩
theorem xi_iast_ok (hM : xi_ml[n]? = some M) (hd : decode M.2.1 pc = .ok (.iastore, 1)) (h : xi_iast pc L st w = some B) : xi_To Y d n (pc, L, st, w) B := by
  unfold xi_iast at h
  split at h
  · next x j a r =>
    split at h
    · next f hf =>
      split at h
      · cases h
      · next hin =>
        cases h
        obtain ⟨k0, rfl, hw⟩ := xi_cell_some hf
        have hlt : j.toNatClampNeg < f.length := Nat.not_le.mp fun q => hin (Or.inr q)
        refine xi_To.wr (k0 := k0) hw (by show (f.set _ _).length = f.length; rw [List.length_set]) fun p l e R s m args below meth c Q hF H locs cells slots ls hH hS hl kk => ?_
        obtain ⟨M', hM', hx, hb, -, -, -, -, hG, -⟩ := hF
        cases hM.symm.trans hM'
        refine W.iast hx hb (hH.2 k0 _ hw) ((hG.1.2 0 _ rfl).1 f.length (fun j => .int (f.getD j 0))) (fun q => by cases q) (by show ¬ (j < 0 ∨ (arrV _ _ _).slots.size ≤ _); rw [arrV_size]; exact hin) rfl rfl hd fun H1 e1 z oq => ?_
        refine kk H1 _ z oq ?_
        show H1[(Y.2.2.1 + k0 : Nat)]? = some (vp_cell (Y.2.1 0) ((f.set j.toNatClampNeg x).length, .inl (fun i => (f.set j.toNatClampNeg x).getD i 0)))
        rw [vp_cell_i]
        rw [← xi_arr_i _ _ hlt]
        exact e1
    · cases h
  · cases h
theorem xi_zast_ok (hM : xi_ml[n]? = some M) (hd : decode M.2.1 pc = .ok (.bastore, 1)) (h : xi_zast pc L st w = some B) : xi_To Y d n (pc, L, st, w) B := by
  unfold xi_zast at h
  split at h
  · next x j a r =>
    split at h
    · next f hf =>
      split at h
      · cases h
      · next hin =>
        cases h
        obtain ⟨k0, rfl, hw⟩ := xi_cell_some hf
        have hlt : j.toNatClampNeg < f.length := Nat.not_le.mp fun q => hin (Or.inr q)
        refine xi_To.wr (k0 := k0) hw (by show (f.set _ _).length = f.length; rw [List.length_set]) fun p l e R s m args below meth c Q hF H locs cells slots ls hH hS hl kk => ?_
        obtain ⟨M', hM', hx, hb, -, -, -, -, hG, -⟩ := hF
        cases hM.symm.trans hM'
        refine W.zast hx hb (hH.2 k0 _ hw) ((hG.1.2 1 _ rfl).1 f.length (fun j => .int (f.getD j 0))) (fun q => by cases q) (by show ¬ (j < 0 ∨ (arrV _ _ _).slots.size ≤ _); rw [arrV_size]; exact hin) rfl rfl hd fun H1 e1 z oq => ?_
        refine kk H1 _ z oq ?_
        show H1[(Y.2.2.1 + k0 : Nat)]? = some (vp_cell (Y.2.1 1) ((f.set j.toNatClampNeg (vp_nar .boolean x)).length, .inl (fun i => (f.set j.toNatClampNeg (vp_nar .boolean x)).getD i 0)))
        rw [vp_cell_i]
        rw [← xi_arr_i _ _ hlt]
        exact e1
    · cases h
  · cases h
theorem xi_last_ok (hM : xi_ml[n]? = some M) (hd : decode M.2.1 pc = .ok (.lastore, 1)) (h : xi_last pc L st w = some B) : xi_To Y d n (pc, L, st, w) B := by
  unfold xi_last at h
  split at h
  · next x j a r =>
    split at h
    · next f hf =>
      split at h
      · cases h
      · next hin =>
        cases h
        obtain ⟨k0, rfl, hw⟩ := xi_cell_some hf
        have hlt : j.toNatClampNeg < f.length := Nat.not_le.mp fun q => hin (Or.inr q)
        refine xi_To.wr (k0 := k0) hw (by show (f.set _ _).length = f.length; rw [List.length_set]) fun p l e R s m args below meth c Q hF H locs cells slots ls hH hS hl kk => ?_
        obtain ⟨M', hM', hx, hb, -, -, -, -, hG, -⟩ := hF
        cases hM.symm.trans hM'
        refine W.last hx hb (hH.2 k0 _ hw) ((hG.1.2 2 _ rfl).1 f.length (fun j => .long (f.getD j 0))) (fun q => by cases q) (by show ¬ (j < 0 ∨ (arrV _ _ _).slots.size ≤ _); rw [arrV_size]; exact hin) rfl rfl hd fun H1 e1 z oq => ?_
        refine kk H1 _ z oq ?_
        show H1[(Y.2.2.1 + k0 : Nat)]? = some (vp_cell (Y.2.1 2) ((f.set j.toNatClampNeg x).length, .inr (.inl (fun i => (f.set j.toNatClampNeg x).getD i 0))))
        rw [vp_cell_l]
        rw [← xi_arr_l _ _ hlt]
        exact e1
    · cases h
  · cases h
theorem xi_get_ok (hM : xi_ml[n]? = some M) {x : Nat} (hd : decode M.2.1 pc = .ok (.getfield x, 3)) (h : xi_get (xi_fd M x) pc L st w = some B) : xi_To Y d n (pc, L, st, w) B := by
  unfold xi_get at h
  split at h
  · next ci k hq =>
    split at h
    · next a r =>
      split at h
      · next cj fs hf =>
        split at h
        · next hcj =>
          split at h
          · next v hv =>
            cases h
            subst hcj
            obtain ⟨k0, rfl, hw⟩ := xi_cell_some hf
            refine xi_To.same fun p l e R s m args below meth c Q hF H locs cells slots ls hH hS hl kk => ?_
            obtain ⟨M', hM', hx, hb, -, hown, -, hts, hG, -⟩ := hF
            cases hM.symm.trans hM'
            obtain ⟨⟨C, T, N⟩, hr, hkN, hlink⟩ := xi_fd_spec hM hq
            exact va_get (a := Y.2.2.1 + k0) hx hb hts (xi_W0_cl hr) hown hG.1 (hH.one hw) 0 rfl hr k hkN (hts _ hlink) (fun _ h => h) (by rw [List.getElem?_map, hv]; rfl) hd (kk ls hl)
          · cases h
        · cases h
      · cases h
    · cases h
  · cases h
theorem xi_set_ok (hM : xi_ml[n]? = some M) {x : Nat} (hd : decode M.2.1 pc = .ok (.putfield x, 3)) (h : xi_set (xi_fd M x) (xi_fty (xi_fd M x)) (xi_okf M (xi_fd M x)) pc L st w = some B) : xi_To Y d n (pc, L, st, w) B := by
  cases hq : xi_fd M x with
  | none => rw [hq] at h; cases h
  | some q =>
    obtain ⟨ci, k⟩ := q
    rw [hq] at h
    unfold xi_set at h
    dsimp only at h
    split at h
    · next v a r =>
      split at h
      · next cj fs hf =>
        split at h
        · next hg =>
          cases h
          obtain ⟨hcj, hkl, hok, hfk⟩ := hg
          obtain ⟨hn, hfit⟩ := xi_fok_spec hfk
          subst hcj
          obtain ⟨k0, rfl, hw⟩ := xi_cell_some hf
          refine xi_To.wr (k0 := k0) hw (by show (fs.set _ _).length = fs.length; rw [List.length_set]) fun p l e R s m args below meth c Q hF H locs cells slots ls hH hS hl kk => ?_
          obtain ⟨M', hM', hx, hb, -, hown, hname, hts, hG, -⟩ := hF
          cases hM.symm.trans hM'
          obtain ⟨⟨C, T, N⟩, hr, hkN, hlink⟩ := xi_fd_spec hM hq
          dsimp only at hkN hlink
          obtain ⟨hty, hnm, hdc⟩ := xi_okC cj _ hr
          dsimp only at hty hnm hdc
          have hin := xi_W0_cl hr
          dsimp only at hin
          have hap := va_apart (own := M.1.cls) hts hin (xi_tt cj) hty hnm hG.1 hr
          obtain ⟨r', g1, cell, q1, q2, q3, q4⟩ := hH.2 k0 _ hw
          have hr' : r' = (C, T, N) := Option.some.inj (g1.symm.trans hr)
          subst hr'
          obtain ⟨hSl, hfc, kC, hkC, hkind⟩ := hG.1.1 cj _ hr
          obtain ⟨cf, kf, fi, f, hi, hsl⟩ := hSl k hkN
          have hst := (u_facts hfc hkC (u_lays hts hin hkN) hi).1
          have hn' := xi_nar Y hn
          have hfit' := (xi_fit Y (xi_tt cj k) v).trans hfit
          have hlay := hts _ (hin _ (u_in_lay hkN))
          unfold u_lay at hlay
          have fin : ∀ (H' : Heap), H'[Y.2.2.1 + k0]? = some (cell.setSlot f.slot (xi_v Y v)) → va_at Y.1 xi_cl (Y.2.2.1 + k0, xi_c Y (.inr (cj, fs.set k v))) H' := by
            intro H' e1
            rw [hsl] at e1
            refine ⟨_, hr, t_OB.to (V := updV (vp_V (fs.map (xi_v Y))) k (xi_v Y v)) ⟨_, e1, q2, q3, t_set q4 hap hkN (xi_v Y v)⟩ (fun j _ => ?_)⟩
            rw [vp_updV_set (by rw [List.length_map]; exact hkl), List.map_set]
          cases hfl : (T k).2.2.2 with
          | false =>
            rw [if_neg (by rw [hfl]; decide)] at hlay
            have h6 := u_store hfc hkC hkind hlay hi (hty k hkN) hn' hfit'
            exact W.putK hx hb (f := f) ⟨hown, hts _ hlink, ⟨_, _, _, hi⟩, hst⟩ (by rw [q2]; exact h6) q1 q3 (by rw [hsl]; exact k2_hasslot (q4 k hkN)) rfl rfl hd fun H' e1 e2 e3 => kk H' _ e2 e3 (fin H' e1)
          | true =>
            rw [if_pos hfl] at hlay
            have hok2 : (M.2.2.2.2.1 == 2 && M.2.2.2.2.2.2.1 == cj) = true := by
              have h9 : xi_fin cj k = true := by unfold xi_fin; rw [hr]; exact hfl
              unfold xi_okf at hok
              dsimp only at hok
              rw [h9] at hok
              simpa using hok
            simp only [Bool.and_eq_true, beq_iff_eq] at hok2
            obtain ⟨hkd, hci⟩ := hok2
            obtain ⟨-, -, -, -, -, m6, m7, -⟩ := xi_okM M (List.mem_of_getElem? hM)
            have hini := (m6 hkd).1
            obtain ⟨r9, hr9, hc9⟩ := m7 (by rw [hkd]; decide) (by rw [hkd]; decide)
            rw [hci, hr] at hr9
            cases hr9
            have hcf : m.cls = cf := by
              obtain ⟨_, _, c', _, _, _, -, -, hf', -, -, -, hown2, -⟩ := Cond.laysFinal_spec hlay
              have e1 : c' = cf := by have := hi.symm.trans hf'; simp at this; exact this.1.symm
              rw [hdc k hkN] at hown2
              rw [← hc9] at hown
              rw [← e1]; exact Option.some.inj (hown.symm.trans hown2)
            have h6 := u_fits hfc hkC hkind (Or.inr hlay) hi (hty k hkN) hn' hfit'
            exact W.putFinK hx hb hown (hts _ hlink) hi hst hcf (hname.trans hini) (by rw [q2]; exact h6) q1 q3 (by rw [hsl]; exact k2_hasslot (q4 k hkN)) rfl rfl hd fun H' e1 e2 e3 => kk H' _ e2 e3 (fin H' e1)
        · cases h
      · cases h
    · cases h
theorem xi_new_ok (hM : xi_ml[n]? = some M) {x : Nat} (hd : decode M.2.1 pc = .ok (.new x, 3)) (h : xi_new (xi_nw M x) xi_dfl pc L st w = some B) : xi_To Y d n (pc, L, st, w) B := by
  unfold xi_new at h
  split at h
  · next ci hq =>
    cases h
    obtain ⟨⟨C, T, N⟩, hr, w1, w2, w3⟩ := xi_nw_spec hM hq
    dsimp only at w1 w2 w3
    have hdf : xi_dfl ci = (List.range N).map (fun k => defaultValue (xi_tt ci k)) := by unfold xi_dfl; rw [hr]
    have hsc : xi_sc (.inr (ci, xi_dfl ci)) = N := by show (xi_dfl ci).length = N; rw [hdf, List.length_map, List.length_range]
    refine xi_To.mk fun p l e R s m args below meth c Q hF H locs cells slots ls hH hS hl hc hs kk => ?_
    obtain ⟨M', hM', hx, hb, -, hown, -, hts, hG, -⟩ := hF
    cases hM.symm.trans hM'
    rw [hsc] at hs kk
    have hKn := hG.1.1 ci _ hr
    refine W.newcK hx hb hown (hts _ w1) (hts _ w2) (hts _ w3) rfl hd hc hs hKn.2.1 hH.1 fun H1 kC hkC e1 z1 o1 => ?_
    obtain ⟨hty, -⟩ := xi_okC ci _ hr
    refine kk H1 z1 o1 ⟨_, hr, (u_born (xi_tt ci) hts (xi_W0_cl hr) hKn hkC e1 hty).to fun j hj => ?_⟩
    show _ = vp_V ((xi_dfl ci).map (xi_v Y)) j
    rw [hdf]
    have hj' : j < N := hj
    simp only [vp_V, List.map_map, List.getD_eq_getElem?_getD, List.getElem?_map, List.getElem?_range hj', Option.map_some, Option.getD_some, Function.comp]
    cases xi_tt ci j <;> rfl
  · cases h
theorem xi_newa_ok (hM : xi_ml[n]? = some M) {t : ArrayType} (hd : decode M.2.1 pc = .ok (.newarray t, 2)) (h : xi_newa t pc L st w = some B) : xi_To Y d n (pc, L, st, w) B := by
  unfold xi_newa at h
  split at h
  · next z r =>
    split at h
    · cases h
    · next hz =>
      have hz1 : ¬ z < 0 := fun q => hz (Or.inl q)
      have hz2 : z.toNatClampNeg ≤ 100000 := Nat.not_lt.mp fun q => hz (Or.inr q)
      split at h
      · cases h
        refine xi_To.mk fun p l e R s m args below meth c Q hF H locs cells slots ls hH hS hl hc hs kk => ?_
        obtain ⟨M', hM', hx, hb, -, hown, -, hts, hG, -⟩ := hF
        cases hM.symm.trans hM'
        have hsc : xi_sc (.inl (0, .inl (List.replicate z.toNatClampNeg 0))) = z.toNatClampNeg := List.length_replicate
        rw [hsc] at hs kk
        refine va_newaK (atype := .int) hx hb (hts _ xi_W0_i) rfl hd rfl hz1 rfl (by show z.toNatClampNeg * 4 ≤ 536870912; omega) hc hs hH.1 fun H1 cA e1 z1 o1 hAr hNm => ?_
        have hcA : cA = Y.2.1 0 := Option.some.inj (hNm.symm.trans (hG.1.2 0 _ rfl).2)
        subst hcA
        refine kk H1 z1 o1 ?_
        show H1[(Y.2.2.1 + w.length : Nat)]? = some (vp_cell (Y.2.1 0) ((List.replicate z.toNatClampNeg (0 : Int32)).length, .inl (fun i => (List.replicate z.toNatClampNeg (0 : Int32)).getD i 0)))
        rw [vp_cell_i]
        rw [xi_zero_i]
        exact e1
      · cases h
        refine xi_To.mk fun p l e R s m args below meth c Q hF H locs cells slots ls hH hS hl hc hs kk => ?_
        obtain ⟨M', hM', hx, hb, -, hown, -, hts, hG, -⟩ := hF
        cases hM.symm.trans hM'
        have hsc : xi_sc (.inl (1, .inl (List.replicate z.toNatClampNeg 0))) = z.toNatClampNeg := List.length_replicate
        rw [hsc] at hs kk
        refine va_newaK (atype := .boolean) hx hb (hts _ xi_W0_z) rfl hd rfl hz1 rfl (by show z.toNatClampNeg * 1 ≤ 536870912; omega) hc hs hH.1 fun H1 cA e1 z1 o1 hAr hNm => ?_
        have hcA : cA = Y.2.1 1 := Option.some.inj (hNm.symm.trans (hG.1.2 1 _ rfl).2)
        subst hcA
        refine kk H1 z1 o1 ?_
        show H1[(Y.2.2.1 + w.length : Nat)]? = some (vp_cell (Y.2.1 1) ((List.replicate z.toNatClampNeg (0 : Int32)).length, .inl (fun i => (List.replicate z.toNatClampNeg (0 : Int32)).getD i 0)))
        rw [vp_cell_i]
        rw [xi_zero_i]
        exact e1
      · cases h
        refine xi_To.mk fun p l e R s m args below meth c Q hF H locs cells slots ls hH hS hl hc hs kk => ?_
        obtain ⟨M', hM', hx, hb, -, hown, -, hts, hG, -⟩ := hF
        cases hM.symm.trans hM'
        have hsc : xi_sc (.inl (2, .inr (List.replicate z.toNatClampNeg 0))) = z.toNatClampNeg := List.length_replicate
        rw [hsc] at hs kk
        refine va_newaK (atype := .long) hx hb (hts _ xi_W0_l) rfl hd rfl hz1 rfl (by show z.toNatClampNeg * 8 ≤ 536870912; omega) hc hs hH.1 fun H1 cA e1 z1 o1 hAr hNm => ?_
        have hcA : cA = Y.2.1 2 := Option.some.inj (hNm.symm.trans (hG.1.2 2 _ rfl).2)
        subst hcA
        refine kk H1 z1 o1 ?_
        show H1[(Y.2.2.1 + w.length : Nat)]? = some (vp_cell (Y.2.1 2) ((List.replicate z.toNatClampNeg (0 : Int64)).length, .inr (.inl (fun i => (List.replicate z.toNatClampNeg (0 : Int64)).getD i 0))))
        rw [vp_cell_l]
        rw [xi_zero_l]
        exact e1
      · cases h
  · cases h
theorem xi_oin_ok (hM : xi_ml[n]? = some M) {x : Nat} (hd : decode M.2.1 pc = .ok (.invokespecial x, 3)) (h : xi_oin (xi_ob M x && L.length == M.2.2.1) pc L st w = some B) : xi_To Y d n (pc, L, st, w) B := by
  unfold xi_oin at h
  split at h
  · next a r =>
    split at h
    · next hg =>
      cases h
      obtain ⟨hg1, hg2⟩ := hg
      simp only [Bool.and_eq_true, beq_iff_eq] at hg1
      obtain ⟨ho, hlen⟩ := hg1
      have w1 := xi_ob_spec hM ho
      refine xi_To.same fun p l e R s m args below meth c Q hF H locs cells slots ls hH hS hl kk => ?_
      obtain ⟨M', hM', hx, hb, hml, hown, -, hts, hG, hf, hlo, -⟩ := hF
      cases hM.symm.trans hM'
      have hr := lv_room (m := m) (pc := pc) (ls := ls) (rest := (Value.ref a :: r).map (xi_v Y)) (st := r.map (xi_v Y)) (by rw [xi_cats]; exact hg2)
      have hK : xi_K ≤ (d + 1) * xi_K := Nat.le_mul_of_pos_left _ (Nat.succ_pos d)
      exact W.objInit hx hb hown (hts _ w1) (hts _ xi_W0_oi) (hts _ xi_W0_oc) rfl (by show ls.size = _; rw [hml, hl.1, hlen]) rfl hd (by omega) (by have := xi_K_ok; omega) (kk ls hl)
    · cases h
  · cases h
end XT
