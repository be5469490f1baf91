/-! The helper, where RootLoom.instruction answers: its answer goes into the out array; it answers 0. -/
theorem xh_d8 : decode method_3_code 8 = .ok (.i2l, 1) := by decide +kernel
theorem xh_d9 : decode method_3_code 9 = .ok (.lastore, 1) := by decide +kernel
theorem xh_d10 : decode method_3_code 10 = .ok (.goto 11, 3) := by decide +kernel
theorem xh_d21 : decode method_3_code 21 = .ok (.iconst 0, 1) := by decide +kernel
theorem xh_d22 : decode method_3_code 22 = .ok (.ireturn, 1) := by decide +kernel
def xh_rm0 (d : Nat) : Room := { frames := d + 2, cells := 0, slots := 0, locals := (d + 2) * xi_K }
theorem xh_met0 {Y : xi_Y} {d : Nat} {w : xi_W} {x o : Nat} {fa : List Value} {f : List Int64} {i wh v : Int32} (hwa : w[x]? = some (.inr (0, fa))) (hwo : w[o]? = some (.inl (2, .inr f))) (hf0 : 0 < f.length) (hC : xi_C Y d 17 [.ref (x + 2), .int i, .int wh] w (some (.int v)) w) :
    Met Y.2.2.2.2.2.2.2 xh_y (xh_c :: xi_W0) (xh_rm0 d) (xi_Pc Y [.ref (x + 2), .int i, .int wh, .ref (o + 2)] w) (xi_Qc Y (some (.int 0)) (w.set o (.inl (2, .inr (f.set 0 v.toInt64))))) 0 0 (xi_A Y) := by
  refine va_MetW (cc := method_3_code) (maxL := 5) (ret := some .int) (hh := [(0, 10, 13, 13), (0, 10, 17, 15)]) (by decide +kernel) rfl ?_
  intro p e s m args below meth c s₁ B hml hv
  obtain ⟨rfl, hH, hG⟩ := hv
  have hx := B.exec
  have hb := B.bytes
  have hr := B.returns
  have hlocks := B.notSynchronized
  have hts0 := atoms_spec (ws := xh_c :: xi_W0) B.pre
  generalize har : (([.ref (x + 2), .int i, .int wh, .ref (o + 2)] : List Value).map (xi_v Y)).toArray = args at hts0 ⊢
  have hts : ∀ w ∈ xi_W0, w.before args s = true := fun w hw => hts0 w (List.mem_cons_of_mem _ hw)
  have hown : s.vm.findClass "RootLoomLaw" = some m.cls := findClass_of_methodNamed B.named
  have hM2 : xi_ml[17]? = some xm_17 := rfl
  have hkw : ∀ w ∈ xi_kw xm_17, w.before args s = true := fun w hw => hts _ (xi_W0_m hM2 _ hw)
  rw [← har, lg_entry_eq, har]
  have hlv : xi_lv Y (xi_ent (xh_y, method_3_code, 5, some .int, 1, 4, 99, 0) [.ref (x + 2), .int i, .int wh, .ref (o + 2)]) (lg_sl (([.ref (x + 2), .int i, .int wh, .ref (o + 2)] : List Value).map (xi_v Y)) ++ List.replicate (5 - (lg_sl (([.ref (x + 2), .int i, .int wh, .ref (o + 2)] : List Value).map (xi_v Y))).length) Slot.unset).toArray := xi_lv_ent (Y := Y) (M := (xh_y, method_3_code, 5, some .int, 1, 4, 99, 0)) (as := [.ref (x + 2), .int i, .int wh, .ref (o + 2)]) (by simp [Value.category]) (by show 4 ≤ 5; decide)
  generalize (lg_sl (([.ref (x + 2), .int i, .int wh, .ref (o + 2)] : List Value).map (xi_v Y)) ++ List.replicate (5 - (lg_sl (([.ref (x + 2), .int i, .int wh, .ref (o + 2)] : List Value).map (xi_v Y))).length) Slot.unset).toArray = ls at hlv ⊢
  have l0 : ls[0]? = some (.val (.ref (Y.2.2.1 + x))) := (hlv.2.2 0 _ rfl).1
  have l1 : ls[1]? = some (.val (.int i)) := (hlv.2.2 1 _ rfl).1
  have l2 : ls[2]? = some (.val (.int wh)) := (hlv.2.2 2 _ rfl).1
  have l3 : ls[3]? = some (.val (.ref (Y.2.2.1 + o))) := (hlv.2.2 3 _ rfl).1
  have hls : ls.size = 5 := hlv.1
  refine lv_aload_n hx hb xh_d0 rfl l3 ?_
  refine lv_iconst hx hb xh_d1 rfl ?_
  refine lv_aload_n hx hb xh_d2 rfl l0 ?_
  refine lv_iload_n hx hb xh_d3 rfl l1 ?_
  refine lv_iload_n hx hb xh_d4 rfl l2 ?_
  have hlink := hts _ (xi_W0_lk (n := 0) (M := xm_0) (x := 7) (q := (3, 17, 0)) rfl rfl (.methodLink "RootLoomLaw" 7 xm_17.1) (List.mem_singleton.mpr rfl))
  have hrec := va_recv (a := Y.2.2.1 + x) hG.1 (hH.one hwa) (ci := 0) (q0 := 0) (fs := fa.map (xi_v Y)) (q := ("RootLoom", xc_TA, 4)) rfl rfl
  have hMet := hC.2.2 xm_17 hM2
  rw [Nat.sub_self, Nat.sub_self] at hMet
  have hK27 : xi_K = 27 := rfl
  refine xi_back (Y := Y) (o := some (.int v)) (w' := w) (rest := [.int (Int32.ofInt 0), .ref (Y.2.2.1 + o)]) (mc := 0) (ms := 0) (va_runV (C := "RootLoom") (index := 7) (b := Y.2.2.1 + x) (As := [.int i, .int wh]) (rest := [.int (Int32.ofInt 0), .ref (Y.2.2.1 + o)]) (nL := 5) ⟨hx, hb, hml, hown, hts⟩ hMet ⟨callB_of 2 hts (xi_good (xi_W0_m hM2 _ List.mem_cons_self)) rfl rfl rfl (hkw _ (List.mem_of_getElem? (i := 1) rfl)) hlink (by decide +kernel) ⟨Nat.le_refl _, by show 8 + (3 + 11) + (d + 1) * xi_K ≤ (d + 2) * xi_K; rw [hK27]; omega⟩, hkw _ (List.mem_of_getElem? (i := 2) rfl), hkw _ (List.mem_of_getElem? (i := 3) rfl)⟩ ⟨xi_blind Y _ w, hrec, fun U hU hW => ⟨rfl, by rw [hU]; exact hH, hG.moved (locs := []) (by rw [hU]; exact va_S.rf) hW⟩⟩ rfl rfl hls rfl (lv_room (Nat.le_of_ble_eq_true rfl)) xh_d5 ⟨Nat.le_refl _, Nat.le_refl _⟩) va_S.rf (fun H' locs' hH' hS' => ?_)
  refine W.eq (g2 := F0 m 8 ls [.int v, .int (Int32.ofInt 0), .ref (Y.2.2.1 + o)]) rfl ?_
  refine lv_i2l hx hb xh_d8 rfl ?_
  refine W.last (a := Y.2.2.1 + o) (j := Int32.ofInt 0) (x := v.toInt64) hx hb (hH'.2 o _ hwo) ((hG.1.2 2 _ rfl).1 f.length (fun j => .long (f.getD j 0))) (fun q => by cases q) (by show ¬ (Int32.ofInt 0 < 0 ∨ (arrV _ _ _).slots.size ≤ _); rw [arrV_size]; show ¬ (Int32.ofInt 0 < 0 ∨ f.length ≤ 0); rintro (h | h); exact absurd h (by decide); omega) rfl rfl xh_d9 (fun H1 e1 z oq => ?_)
  have hn : va_at Y.1 xi_cl (Y.2.2.1 + o, xi_c Y (.inl (2, .inr (f.set 0 v.toInt64)))) H1 := by
    show H1[(Y.2.2.1 + o : Nat)]? = some (vp_cell (Y.2.1 2) ((f.set 0 v.toInt64).length, .inr (.inl (fun i => (f.set 0 v.toInt64).getD i 0))))
    rw [vp_cell_l, ← xi_arr_l _ _ hf0]
    exact e1
  have hH2 := hH'.upd hwo z oq hn
  have hS2 := hS'.put (k := 0) z oq (show xi_A Y (Y.2.2.1 + o) from Nat.le_add_right _ _)
  refine W.eq (g2 := F0 m 10 ls []) rfl ?_
  refine lv_goto hx hb xh_d10 (tgt := 21) (by decide) ?_
  refine lv_iconst hx hb xh_d21 rfl ?_
  exact W.iret hx hb hr (fun t ht hW => ⟨rfl, by rw [ht]; exact hH2, hS2.F ht⟩) hS2.2.2 xh_d22
