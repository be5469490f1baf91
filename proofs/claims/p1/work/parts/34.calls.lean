/-! Calls: a callee's contract out of its way to its return; a caller's step out of the contract. -/
def xi_rm (d mc ms : Nat) : Room := { frames := d + 1, cells := mc, slots := ms, locals := (d + 1) * xi_K }
def xi_Pc (Y : xi_Y) (as : List Value) (w : xi_W) : Array Value → State → Prop := fun a U => a = (as.map (xi_v Y)).toArray ∧ xi_Hs Y w U.heap ∧ xi_G Y U
def xi_Qc (Y : xi_Y) (o : Option Value) (w' : xi_W) : Array Value → State → Outcome → State → Prop := fun _ st oc t => oc = .returned (o.map (xi_v Y)) ∧ xi_Hs Y w' t.heap ∧ va_F (xi_A Y) st t
def xi_cw (M : xi_M) : List Cond := .code M.1 M.2.1 M.2.2.1 M.2.2.2.1 :: xi_W0
-- method j, called with as in the world w, answers o and leaves w'
def xi_C (Y : xi_Y) (d j : Nat) (as : List Value) (w : xi_W) (o : Option Value) (w' : xi_W) : Prop :=
  w.length ≤ w'.length ∧ xi_sl w ≤ xi_sl w' ∧ ∀ M : xi_M, xi_ml[j]? = some M →
    Met Y.2.2.2.2.2.2.2 M.1 (xi_cw M) (xi_rm d (w'.length - w.length) (xi_sl w' - xi_sl w)) (xi_Pc Y as w) (xi_Qc Y o w') (w'.length - w.length) (xi_sl w' - xi_sl w) (xi_A Y)
theorem xi_blind (Y : xi_Y) (as : List Value) (w : xi_W) : FrameBlind (xi_Pc Y as w) := fun a U g mk q => ⟨q.1, q.2.1, q.2.2.same rfl rfl⟩
theorem xi_lsl {Y : xi_Y} : ∀ {as : List Value}, (∀ v ∈ as, v.category = 1) → (lg_sl (as.map (xi_v Y))).length = as.length
  | [], _ => rfl
  | v :: as, h => by
    have h1 : (xi_v Y v).category = 1 := by rw [xi_cat]; exact h v List.mem_cons_self
    have ih := xi_lsl (Y := Y) (as := as) fun u hu => h u (List.mem_cons_of_mem _ hu)
    unfold lg_sl at ih ⊢
    rw [List.map_cons, List.flatMap_cons, List.length_append, ih, if_neg (by rw [h1]; decide), List.length_cons]
    simp [Nat.add_comm]
theorem xi_largs {Y : xi_Y} : ∀ {as : List Value} {i k : Nat} {v : Value}, (∀ v ∈ as, v.category = 1) → as[k]? = some v → (i + k, xi_v Y v) ∈ lv_args i (as.map (xi_v Y))
  | [], _, _, _, _, h => by simp at h
  | u :: as, i, 0, v, _, h => by
    simp only [List.getElem?_cons_zero, Option.some.injEq] at h
    subst h
    exact List.mem_cons_self
  | u :: as, i, k + 1, v, hc, h => by
    rw [List.getElem?_cons_succ] at h
    have h1 : (xi_v Y u).category = 1 := by rw [xi_cat]; exact hc u List.mem_cons_self
    have ih := xi_largs (Y := Y) (i := i + 1) (fun z hz => hc z (List.mem_cons_of_mem _ hz)) h
    rw [List.map_cons]
    unfold lv_args
    rw [if_neg (by rw [h1]; decide)]
    refine List.mem_cons_of_mem _ ?_
    rw [show i + (k + 1) = i + 1 + k by omega]
    exact ih
theorem xi_lv_ent {Y : xi_Y} {M : xi_M} {as : List Value} (hc : ∀ v ∈ as, v.category = 1) (hl : as.length ≤ M.2.2.1) : xi_lv Y (xi_ent M as) ((lg_sl (as.map (xi_v Y)) ++ List.replicate (M.2.2.1 - (lg_sl (as.map (xi_v Y))).length) Slot.unset).toArray) := by
  have h := lv_entry (as.map (xi_v Y)) (n := M.2.2.1) (by rw [xi_lsl hc]; exact hl)
  refine ⟨h.1.trans ?_, h.2.1, fun k v hk => ?_⟩
  · unfold xi_ent
    rw [List.length_append, List.length_map, List.length_replicate]
    omega
  · unfold xi_ent at hk
    by_cases hk2 : k < (as.map some).length
    · rw [List.getElem?_append_left hk2, List.getElem?_map] at hk
      cases ha : as[k]? with
      | none => rw [ha] at hk; cases hk
      | some u =>
        rw [ha] at hk
        cases hk
        have h3 := h.2.2 _ (xi_largs (Y := Y) (i := 0) hc ha)
        rw [Nat.zero_add] at h3
        exact ⟨h3, hc v (List.mem_of_getElem? ha)⟩
    · rw [List.getElem?_append_right (by omega), List.getElem?_replicate] at hk
      split at hk <;> cases hk
theorem xi_C.of {it : Nat → Nat → Option (Instr × Nat)} (hit : ∀ n M pc i len, xi_ml[n]? = some M → it n pc = some (i, len) → decode M.2.1 pc = .ok (i, len)) {Y : xi_Y} {d j : Nat} {M : xi_M} (hM : xi_ml[j]? = some M) {as : List Value} {w w' : xi_W} {o : Option Value} {T : xi_S}
    (h : xi_To Y d j (0, xi_ent M as, [], w) T) (he : xi_end it j M T = some (o, w')) (hc : ∀ v ∈ as, v.category = 1) (hl : as.length ≤ M.2.2.1) : xi_C Y d j as w o w' := by
  obtain ⟨pc, L, st, w2⟩ := T
  unfold xi_end at he
  dsimp only at he
  split at he
  · cases he
  · next i hi =>
    split at he
    · cases he
    · next o2 ho =>
      cases he
      obtain ⟨h1, h2, h3⟩ := h
      dsimp only at h1 h2
      refine ⟨h1, h2, fun M' hM' => ?_⟩
      cases hM.symm.trans hM'
      obtain ⟨m1, -⟩ := xi_okM M (List.mem_of_getElem? hM)
      refine va_MetF (cc := M.2.1) (maxL := M.2.2.1) (ret := M.2.2.2.1) m1 rfl ?_
      intro p e s m args below meth c s₁ B hml hv
      obtain ⟨rfl, hH, hG⟩ := hv
      have hts := atoms_spec (ws := xi_cw M) B.pre
      have hF : xi_Fr Y d j p Y.2.2.2.2.2.2.2 (xi_rm d (w'.length - w.length) (xi_sl w' - xi_sl w)) s m (as.map (xi_v Y)).toArray meth c :=
        ⟨M, hM, B.exec, B.bytes, hml, findClass_of_methodNamed B.named, (name_of_methodNamed B.named B.method).1, fun w hw => hts w (List.mem_cons_of_mem _ hw), hG, Nat.le_refl _, Nat.le_refl _, rfl⟩
      rw [lg_entry_eq]
      have hlv := xi_lv_ent (Y := Y) (M := M) hc hl
      generalize (lg_sl (as.map (xi_v Y)) ++ List.replicate (M.2.2.1 - (lg_sl (as.map (xi_v Y))).length) Slot.unset).toArray = ls at hlv ⊢
      refine h3 p Y.2.2.2.2.2.2.2 e (xi_rm d (w'.length - w.length) (xi_sl w' - xi_sl w)) s m _ below meth c _ hF s.heap [] 0 0 (w'.length - w.length) (xi_sl w' - xi_sl w) ls hH va_S.rf hlv (by dsimp only; omega) (by dsimp only; omega) (Nat.le_refl _) (Nat.le_refl _) fun H' locs' ls' hH' hS' hl' => ?_
      dsimp only at hH' hl' ⊢
      have hlocks := B.notSynchronized
      have hr := B.returns
      have hd : ∃ len, decode M.2.1 pc = .ok (i, len) ∧ (xi_sw i = true ∨ xi_len i = len) := by
        unfold xi_at at hi
        split at hi
        · next i3 len hi3 =>
          split at hi
          · next hlen => cases hi; exact ⟨len, hit j M pc _ len hM hi3, hlen⟩
          · cases hi
        · cases hi
      obtain ⟨len, hd, hlen⟩ := hd
      unfold xi_ret at ho
      split at ho
      · rcases hlen with hlen | rfl
        · cases hlen
        dsimp only at ho
        split at ho
        · next v =>
          split at ho
          · next hret =>
            cases ho
            rw [hret] at hr
            exact W.iret B.exec B.bytes hr (fun t ht hW => ⟨rfl, by rw [ht]; exact hH', hS'.F ht⟩) hS'.2.2 hd
          · next hret =>
            split at ho
            · next hn =>
              cases ho
              rw [hret] at hr
              exact W.zret B.exec B.bytes hr (xi_fok_spec hn).1 (fun t ht hW => ⟨rfl, by rw [ht]; exact hH', hS'.F ht⟩) hS'.2.2 hd
            · cases ho
          · cases ho
        · cases ho
      · rcases hlen with hlen | rfl
        · cases hlen
        dsimp only at ho
        split at ho
        · split at ho
          · next hret =>
            cases ho
            rw [hret] at hr
            exact W.vret B.exec B.bytes hr (fun t ht hW => ⟨rfl, by rw [ht]; exact hH', hS'.F ht⟩) hS'.2.2 hd
          · cases ho
        · cases ho
      · cases ho
section XB
variable {p : Program} {l : Launch} {e : Env} {R : Room} {s : State} {m : MethodId} {args : Array Value} {below : List Frame} {meth : Method} {c : Code} {H : Heap} {locs : List Loc} {cells slots mc ms : Nat} {Q : State → Prop}
theorem xi_back {Y : xi_Y} {o : Option Value} {w' : xi_W} {pc : Nat} {ls : Array Slot} {st0 rest : List Value} {a : Array Value}
    (hr : va_Run p l e R s m args below meth c H locs cells slots mc ms (F0 m pc ls st0) rest (xi_Qc Y o w' a) (xi_A Y)) (hS : va_S (xi_A Y) s.heap H locs)
    (kk : ∀ (H' : Heap) (locs' : List Loc), xi_Hs Y w' H' → va_S (xi_A Y) s.heap H' locs' → W p l e R s m args below meth c H' locs' (cells + mc) (slots + ms) Q (F0 m (pc + 3) ls ((o.map (xi_v Y)).toList ++ rest))) : W p l e R s m args below meth c H locs cells slots Q (F0 m pc ls st0) := by
  intro T hT X
  obtain ⟨v, st₀, t, T', Lc, h0, X', hL, e1, e2, ⟨hv, hH', hz, hk⟩, st⟩ := hr T hT X
  cases hv
  rw [h0] at hz hk
  obtain ⟨t2, a1, b1⟩ := kk T'.heap (locs ++ Lc) (by rw [e1]; exact hH') ⟨Nat.le_trans hS.1 (by rw [e1]; exact hz), fun q h1 h2 => by rw [e1, hk q (Nat.lt_of_lt_of_le h1 hS.1) h2]; exact hS.2.1 q h1 h2, fun q hq => by
      rcases List.mem_append.mp hq with h | h
      · exact hS.2.2 q h
      · exact hL q h⟩ T' rfl X'
  exact ⟨t2, st t2 a1, b1⟩
end XB
theorem xi_good {Mj : xi_M} (h : Cond.code Mj.1 Mj.2.1 Mj.2.2.1 Mj.2.2.2.1 ∈ xi_W0) : GoodIn xi_W0 (xi_cw Mj) := by
  intro w hw
  rcases List.mem_cons.mp hw with rfl | hw
  · exact ⟨h, xi_okW _ h⟩
  · exact ⟨hw, xi_okW w hw⟩
theorem xi_inv_spec {M Mj : xi_M} {i : Instr} {A : xi_S} {j : Nat} {as r : List Value} (h : xi_inv M i A = some (j, Mj, as, r)) : ∃ x z, xi_kd i = some (x, Mj.2.2.2.2.1) ∧ xi_lk M x = some (3, j, z) ∧ xi_ml[j]? = some Mj ∧ A.2.1.length = M.2.2.1 ∧ A.2.2.1 = as.reverse ++ r ∧ as.length = xi_np Mj ∧ as.length ≤ Mj.2.2.1 ∧ (r.map fun v => v.category).sum ≤ 8 ∧ (∀ v ∈ as, v.category = 1) ∧ xi_rcv Mj as A.2.2.2 = true := by
  unfold xi_inv at h
  split at h
  · next x kd hk =>
    split at h
    · next j' z hl =>
      split at h
      · next Mj' hj =>
        split at h
        · next hg =>
          cases h
          obtain ⟨g1, g2, g3, g4, g5, g6, g7⟩ := hg
          have hlen : (A.2.2.1.take (xi_np Mj)).length = xi_np Mj := by rw [List.length_take]; omega
          refine ⟨x, z, by rw [g1]; exact hk, hl, hj, g2, ?_, ?_, ?_, g5, ?_, g7⟩
          · rw [List.reverse_reverse, List.take_append_drop]
          · rw [List.length_reverse, hlen]
          · rw [List.length_reverse, hlen]; exact g4
          · intro v hv
            have h9 := List.all_eq_true.mp g6 v (List.mem_reverse.mp hv)
            simpa using h9
        · cases h
      · cases h
    · cases h
  · cases h
theorem xi_inv_link {n x j z : Nat} {M Mj : xi_M} (hM : xi_ml[n]? = some M) (hl : xi_lk M x = some (3, j, z)) (hj : xi_ml[j]? = some Mj) : Cond.methodLink M.1.cls x Mj.1 ∈ xi_W0 ∨ ∃ host, (M.1.cls, x, Mj.1, host) ∈ xi_nm := by
  cases z with
  | zero =>
    left
    refine xi_W0_lk hM hl _ ?_
    simp [xi_lw, hj]
  | succ z =>
    right
    refine ⟨xi_host (z + 1), ?_⟩
    obtain ⟨r, hr, he, hm⟩ := xi_lk_mem hM hl
    refine List.mem_flatMap.mpr ⟨r, hr, List.mem_flatMap.mpr ⟨_, hm, ?_⟩⟩
    simp [xi_nml, hj, he]
theorem xi_rcv0_spec {M : xi_M} {as : List Value} {w : xi_W} (h : xi_rcv0 M as w = true) : ∃ (k0 : Nat) (as' fs : List Value), as = .ref (k0 + 2) :: as' ∧ w[k0]? = some (.inr (M.2.2.2.2.2.2.1, fs)) := by
  unfold xi_rcv0 at h
  split at h
  · next a r =>
    split at h
    · next cj fs hc =>
      obtain ⟨k0, rfl, hw⟩ := xi_cell_some hc
      have hcj : cj = M.2.2.2.2.2.2.1 := by simpa using h
      subst hcj
      exact ⟨k0, r, fs, rfl, hw⟩
    · cases h
  · cases h
theorem xi_rcv2_spec {as : List Value} (h : xi_rcv2 as = true) : ∃ (a : Nat) (as' : List Value), as = .ref a :: as' := by
  unfold xi_rcv2 at h
  split at h
  · exact ⟨_, _, rfl⟩
  · cases h
theorem xi_call {Y : xi_Y} {d n j : Nat} {M Mj : xi_M} (hM : xi_ml[n]? = some M) {i : Instr} {len : Nat} {A : xi_S} {as r : List Value} (hd : decode M.2.1 A.1 = .ok (i, len)) (hlen : xi_sw i = true ∨ xi_len i = len) (hi : xi_inv M i A = some (j, Mj, as, r)) {o : Option Value} {w' : xi_W} (hC : xi_C Y d j as A.2.2.2 o w') :
    xi_To Y (d + 1) n A (A.1 + 3, A.2.1, o.toList ++ r, w') := by
  obtain ⟨x, z, hk, hl, hj, hL, hst, hal, ham, hcr, hca, hrc⟩ := xi_inv_spec hi
  obtain ⟨pc, L, st, w⟩ := A
  dsimp only at hd hL hst hrc hC ⊢
  subst hst
  obtain ⟨c1, c2, c3⟩ := hC
  refine ⟨c1, c2, fun p l e R s m args below meth c Q hF H locs cells slots cells' slots' ls hH hS hlv hc hs h1 h2 kk => ?_⟩
  dsimp only at hc hs hH hlv kk ⊢
  obtain ⟨M', hM', hx, hb, hml, hown, hname, hts, hG, hf, hlo, hle⟩ := hF
  subst hle
  cases hM.symm.trans hM'
  have hMet := c3 Mj hj
  obtain ⟨m1, m2, m3, m4, m5, m6, m7, -⟩ := xi_okM Mj (List.mem_of_getElem? hj)
  have hw0 := xi_W0_m hj
  have hR : (xi_rm d (w'.length - w.length) (xi_sl w' - xi_sl w)).frames + 1 ≤ R.frames ∧ 8 + (Mj.2.2.1 + 11) + (xi_rm d (w'.length - w.length) (xi_sl w' - xi_sl w)).locals ≤ R.locals := by
    refine ⟨hf, ?_⟩
    show 8 + (Mj.2.2.1 + 11) + (d + 1) * xi_K ≤ R.locals
    have h9 : (d + 1 + 1) * xi_K = (d + 1) * xi_K + xi_K := Nat.succ_mul _ _
    omega
  have e1 : cells' = cells + (w'.length - w.length) := by omega
  have e2 : slots' = slots + (xi_sl w' - xi_sl w) := by omega
  subst e1; subst e2
  have hkk : ∀ (H' : Heap) (locs' : List Loc), xi_Hs Y w' H' → va_S (xi_A Y) s.heap H' locs' → W p Y.2.2.2.2.2.2.2 e R s m args below meth c H' locs' (cells + (w'.length - w.length)) (slots + (xi_sl w' - xi_sl w)) Q (F0 m (pc + 3) ls ((o.map (xi_v Y)).toList ++ r.map (xi_v Y))) := fun H' locs' a b => by
    have q := kk H' locs' ls a b hlv
    cases o <;> exact q
  have hroom : 2 * (F0 m pc ls ((as.reverse ++ r).map (xi_v Y))).monitorRoom + ((r.map (xi_v Y)).map fun v => v.category).sum ≤ 8 := lv_room (by rw [xi_cats]; exact hcr)
  have hpre : ∀ U : State, U.heap = H → s.WarmedH U.vm → xi_Pc Y as w (as.map (xi_v Y)).toArray U := fun U hU hW => ⟨rfl, by rw [hU]; exact hH, hG.moved (locs := locs) (by rw [hU]; exact hS) hW⟩
  have hsize : ls.size = M.2.2.1 := hlv.1.trans hL
  have hlink := xi_inv_link hM hl hj
  unfold xi_kd at hk
  split at hk
  · next x' =>
    simp only [Option.some.injEq, Prod.mk.injEq] at hk
    obtain ⟨rfl, hk0⟩ := hk
    rcases hlen with hlen | rfl
    · cases hlen
    have hkw : xi_kw Mj = [.code Mj.1 Mj.2.1 Mj.2.2.1 Mj.2.2.2.1, .initialized Mj.1.cls, .instanceMethod Mj.1, .selects Mj.1.cls Mj.1 Mj.1] := by unfold xi_kw; rw [← hk0]; rfl
    have hwk : ∀ w ∈ xi_kw Mj, w.before args s = true := fun w hw => hts _ (hw0 _ hw)
    have hG' := xi_good (hw0 (.code Mj.1 Mj.2.1 Mj.2.2.1 Mj.2.2.2.1) (by rw [hkw]; exact List.mem_cons_self))
    rw [hkw] at hwk
    have hini := hwk (.initialized Mj.1.cls) (by simp)
    have hins := hwk (.instanceMethod Mj.1) (by simp)
    have hsel := hwk (.selects Mj.1.cls Mj.1 Mj.1) (by simp)
    have hrc : xi_rcv0 Mj as w = true := by
      unfold xi_rcv at hrc
      rw [← hk0] at hrc
      exact hrc
    obtain ⟨k0, as', fs, rfl, hw⟩ := xi_rcv0_spec hrc
    obtain ⟨rr, hr1, hr2⟩ := m7 (by rw [← hk0]; decide) (by rw [← hk0]; decide)
    have hrec := va_recv (a := Y.2.2.1 + k0) hG.1 (hH.one hw) hr1 (q0 := 0) (fs := fs.map (xi_v Y)) rfl
    rw [hr2] at hrec
    have hn : (as'.map (xi_v Y)).length = Mj.2.2.2.2.2.1 := by
      rw [List.length_map]
      have h8 : xi_np Mj = Mj.2.2.2.2.2.1 + 1 := by unfold xi_np; rw [if_neg (by rw [← hk0]; decide)]
      rw [h8, List.length_cons] at hal
      omega
    have hstack : ((Value.ref (k0 + 2) :: as').reverse ++ r).map (xi_v Y) = (as'.map (xi_v Y)).reverse ++ .ref (Y.2.2.1 + k0) :: r.map (xi_v Y) := by
      rw [List.reverse_cons, List.append_assoc, List.map_append, List.map_append, List.map_reverse]; rfl
    rcases hlink with hlink | ⟨host, hlink⟩
    · exact xi_back (va_runV (C := Mj.1.cls) (As := as'.map (xi_v Y)) (rest := r.map (xi_v Y)) ⟨hx, hb, hml, hown, hts⟩ hMet ⟨callB_of Mj.2.2.2.2.2.1 hts hG' rfl rfl rfl hini (hts _ hlink) ⟨m2, m3, m4⟩ hR, hins, hsel⟩ ⟨xi_blind Y _ w, hrec, hpre⟩ rfl hn hsize hstack hroom hd ⟨h1, h2⟩) hS hkk
    · exact xi_back (va_runVN (C := Mj.1.cls) (As := as'.map (xi_v Y)) (rest := r.map (xi_v Y)) ⟨hx, hb, hml, hown, hts⟩ hMet ⟨va_cnB Mj.2.2.2.2.2.1 hts hG' rfl rfl rfl (hG.2.1 _ hlink) hini ⟨m2, m3, m4⟩ hR, hins, hsel⟩ ⟨xi_blind Y _ w, hrec, hpre⟩ rfl hn hsize hstack hroom hd ⟨h1, h2⟩) hS hkk
  · next x' =>
    simp only [Option.some.injEq, Prod.mk.injEq] at hk
    obtain ⟨rfl, hk0⟩ := hk
    rcases hlen with hlen | rfl
    · cases hlen
    have hkw : xi_kw Mj = [.code Mj.1 Mj.2.1 Mj.2.2.1 Mj.2.2.2.1, .initialized Mj.1.cls, .static Mj.1] := by unfold xi_kw; rw [← hk0]; rfl
    have hwk : ∀ w ∈ xi_kw Mj, w.before args s = true := fun w hw => hts _ (hw0 _ hw)
    have hG' := xi_good (hw0 (.code Mj.1 Mj.2.1 Mj.2.2.1 Mj.2.2.2.1) (by rw [hkw]; exact List.mem_cons_self))
    rw [hkw] at hwk
    have hini := hwk (.initialized Mj.1.cls) (by simp)
    have hsta := hwk (.static Mj.1) (by simp)
    have hn : (as.map (xi_v Y)).length = Mj.2.2.2.2.2.1 := by
      rw [List.length_map]
      have h8 : xi_np Mj = Mj.2.2.2.2.2.1 := by unfold xi_np; rw [if_pos hk0.symm]
      rw [hal, h8]
    have hstack : (as.reverse ++ r).map (xi_v Y) = (as.map (xi_v Y)).reverse ++ r.map (xi_v Y) := by
      rw [List.map_append, List.map_reverse]
    rcases hlink with hlink | ⟨host, hlink⟩
    · exact xi_back (va_runS (As := as.map (xi_v Y)) (rest := r.map (xi_v Y)) ⟨hx, hb, hml, hown, hts⟩ hMet ⟨callB_of Mj.2.2.2.2.2.1 hts hG' rfl rfl rfl hini (hts _ hlink) ⟨m2, m3, m4⟩ hR, hsta⟩ ⟨xi_blind Y as w, hpre⟩ rfl hn hsize hstack hroom hd ⟨h1, h2⟩) hS hkk
    · exact xi_back (va_runSN (As := as.map (xi_v Y)) (rest := r.map (xi_v Y)) ⟨hx, hb, hml, hown, hts⟩ hMet ⟨va_cnB Mj.2.2.2.2.2.1 hts hG' rfl rfl rfl (hG.2.1 _ hlink) hini ⟨m2, m3, m4⟩ hR, hsta, trivial⟩ ⟨xi_blind Y as w, hpre⟩ rfl hn hsize hstack hroom hd ⟨h1, h2⟩) hS hkk
  · next x' =>
    simp only [Option.some.injEq, Prod.mk.injEq] at hk
    obtain ⟨rfl, hk0⟩ := hk
    rcases hlen with hlen | rfl
    · cases hlen
    have hkw : xi_kw Mj = [.code Mj.1 Mj.2.1 Mj.2.2.1 Mj.2.2.2.1, .initialized Mj.1.cls, .instanceMethod Mj.1] := by unfold xi_kw; rw [← hk0]; rfl
    have hwk : ∀ w ∈ xi_kw Mj, w.before args s = true := fun w hw => hts _ (hw0 _ hw)
    have hG' := xi_good (hw0 (.code Mj.1 Mj.2.1 Mj.2.2.1 Mj.2.2.2.1) (by rw [hkw]; exact List.mem_cons_self))
    rw [hkw] at hwk
    have hini := hwk (.initialized Mj.1.cls) (by simp)
    have hins := hwk (.instanceMethod Mj.1) (by simp)
    obtain ⟨hnm, hret⟩ := m6 hk0.symm
    have hMet : Met Y.2.2.2.2.2.2.2 Mj.1 (.code Mj.1 Mj.2.1 Mj.2.2.1 none :: xi_W0) (xi_rm d (w'.length - w.length) (xi_sl w' - xi_sl w)) (xi_Pc Y as w) (xi_Qc Y o w') (w'.length - w.length) (xi_sl w' - xi_sl w) (xi_A Y) := by
      rw [← hret]; exact hMet
    have hG' : GoodIn xi_W0 (.code Mj.1 Mj.2.1 Mj.2.2.1 none :: xi_W0) := by rw [← hret]; exact hG'
    have hrc : xi_rcv2 as = true := by
      unfold xi_rcv at hrc
      rw [← hk0] at hrc
      exact hrc
    obtain ⟨a, as', rfl⟩ := xi_rcv2_spec hrc
    have hn : (as'.map (xi_v Y)).length = Mj.2.2.2.2.2.1 := by
      rw [List.length_map]
      have h8 : xi_np Mj = Mj.2.2.2.2.2.1 + 1 := by unfold xi_np; rw [if_neg (by rw [← hk0]; decide)]
      rw [h8, List.length_cons] at hal
      omega
    have hstack : ((Value.ref a :: as').reverse ++ r).map (xi_v Y) = (as'.map (xi_v Y)).reverse ++ .ref (xi_ad Y a) :: r.map (xi_v Y) := by
      rw [List.reverse_cons, List.append_assoc, List.map_append, List.map_append, List.map_reverse]; rfl
    rcases hlink with hlink | ⟨host, hlink⟩
    · exact xi_back (va_runI (As := as'.map (xi_v Y)) (rest := r.map (xi_v Y)) ⟨hx, hb, hml, hown, hts⟩ hMet ⟨callB_of Mj.2.2.2.2.2.1 hts hG' rfl rfl rfl hini (hts _ hlink) ⟨m2, m3, m4⟩ hR, hnm, hins⟩ ⟨xi_blind Y _ w, hpre⟩ rfl hn hsize hstack hroom hd ⟨h1, h2⟩) hS hkk
    · exact xi_back (va_runIN (As := as'.map (xi_v Y)) (rest := r.map (xi_v Y)) ⟨hx, hb, hml, hown, hts⟩ hMet ⟨va_cnB Mj.2.2.2.2.2.1 hts hG' rfl rfl rfl (hG.2.1 _ hlink) hini ⟨m2, m3, m4⟩ hR, hnm, hins⟩ ⟨xi_blind Y _ w, hpre⟩ rfl hn hsize hstack hroom hd ⟨h1, h2⟩) hS hkk
  · cases hk
-- the interpreter is sound
theorem xi_go_ok {it : Nat → Nat → Option (Instr × Nat)} (hit : ∀ n M pc i len, xi_ml[n]? = some M → it n pc = some (i, len) → decode M.2.1 pc = .ok (i, len)) (Y : xi_Y) : ∀ (f d n : Nat) (A : xi_S), xi_To Y d n A (xi_go it Y.2.2.2.2.2.1 Y.2.2.2.2.2.2.1 f d n A) := by
  intro f
  induction f with
  | zero => intro d n A; exact xi_To.rf Y d n A
  | succ f ih =>
    intro d n A
    unfold xi_go
    split
    · exact xi_To.rf Y d n A
    · next M hM =>
      split
      · exact xi_To.rf Y d n A
      · next i hi =>
        have hd : ∃ len, decode M.2.1 A.1 = .ok (i, len) ∧ (xi_sw i = true ∨ xi_len i = len) := by
          unfold xi_at at hi
          split at hi
          · next i3 len hi3 =>
            split at hi
            · next hlen => cases hi; exact ⟨len, hit n M A.1 _ len hM hi3, hlen⟩
            · cases hi
          · cases hi
        obtain ⟨len, hd, hlen⟩ := hd
        split
        · next B hB => exact (xi_stp_ok hM hd hlen hB).trans (ih d n B)
        · split
          · exact xi_To.rf Y _ n A
          · next d' =>
            split
            · exact xi_To.rf Y _ n A
            · next j Mj as r hinv =>
              split
              · exact xi_To.rf Y _ n A
              · next o w' he =>
                obtain ⟨x, z, hk, hl, hj, hL, hst, hal, ham, hcr, hca, hrc⟩ := xi_inv_spec hinv
                exact (xi_call hM hd hlen hinv (xi_C.of hit hj (ih d' j _) he hca ham)).trans (ih (d' + 1) n _)
