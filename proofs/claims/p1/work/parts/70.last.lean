/-! One call: the law's body, from its entry to its end. -/
theorem sy_slots_ok (ρ : Nat → Int32) (w : sy_W) : xi_sl (w.map (sy_e ρ)) = sy_slots w := by
  unfold xi_sl sy_slots
  rw [List.map_map]
  congr 1
  refine List.map_congr_left fun x _ => ?_
  show xi_sc (sy_e ρ x) = _
  match x with
  | .inl (t, vs) =>
    unfold sy_e
    dsimp only
    split
    · exact List.length_map ..
    · exact List.length_map ..
  | .inr (ci, fs) => exact List.length_map ..
theorem p1_rng (x : Int32) : -2147483648 ≤ x.toInt ∧ x.toInt ≤ 2147483647 := by
  have h1 := Int32.le_toInt x
  have h2 := Int32.toInt_lt x
  omega
theorem p1_and (x : Int32) : 0 ≤ (x &&& 15).toInt ∧ (x &&& 15).toInt ≤ 15 := by
  have h1 : (x &&& 15).toBitVec.toNat ≤ 15 := by
    show (x.toBitVec &&& (15 : Int32).toBitVec).toNat ≤ 15
    rw [BitVec.toNat_and]
    exact Nat.and_le_right
  have h2 : (x &&& 15).toInt = ((x &&& 15).toBitVec.toNat : Int) := BitVec.toInt_eq_toNat_of_lt (by omega)
  omega
def p1_ρ (xs : Nat → Int32) : Nat → Int32 := fun k => if k = 6 then xs 0 &&& 15 else xs k
theorem p1_in (ρ : Nat → Int32) : sy_in p1_bx ρ := by
  intro k q hq
  unfold p1_bx at hq
  rw [List.getElem?_replicate] at hq
  split at hq
  · cases hq
    exact p1_rng _
  · cases hq
theorem p1_inb {ρ : Nat → Int32} {v : Int} (h : (ρ 6).toInt = v) : sy_in (p1_b v) ρ := by
  intro k q hq
  unfold p1_b at hq
  by_cases hk : k < 6
  · rw [List.getElem?_append_left (by simpa [p1_bx] using hk)] at hq
    exact p1_in ρ k q hq
  · rw [List.getElem?_append_right (by simpa [p1_bx] using Nat.le_of_not_lt hk)] at hq
    have hz : k - p1_bx.length < 1 := (List.getElem?_eq_some_iff.mp hq).1
    have hl : p1_bx.length = 6 := rfl
    have hk6 : k = 6 := by omega
    subst hk6
    cases hq
    exact ⟨by rw [h]; exact Int.le_refl _, by rw [h]; exact Int.le_refl _⟩
theorem p1_inq {ρ : Nat → Int32} {v : Int} {q r : Int × Int} (h : (ρ 6).toInt = v) (h1 : q.1 ≤ (ρ 1).toInt ∧ (ρ 1).toInt ≤ q.2) (h2 : r.1 ≤ (ρ 2).toInt ∧ (ρ 2).toInt ≤ r.2) : sy_in (p1_bq q r v) ρ := by
  intro k z hz
  match k, hz with
  | 0, rfl => exact p1_rng _
  | 1, rfl => exact h1
  | 2, rfl => exact h2
  | 3, rfl => exact p1_rng _
  | 4, rfl => exact p1_rng _
  | 5, rfl => exact p1_rng _
  | 6, rfl => exact ⟨by rw [h]; exact Int.le_refl _, by rw [h]; exact Int.le_refl _⟩
  | _ + 7, h => exact nomatch h
theorem p1_inz {ρ : Nat → Int32} {v : Int} {q1 q2 q3 q4 q5 : Int × Int} (h : (ρ 6).toInt = v) (h1 : q1.1 ≤ (ρ 1).toInt ∧ (ρ 1).toInt ≤ q1.2) (h2 : q2.1 ≤ (ρ 2).toInt ∧ (ρ 2).toInt ≤ q2.2) (h3 : q3.1 ≤ (ρ 3).toInt ∧ (ρ 3).toInt ≤ q3.2) (h4 : q4.1 ≤ (ρ 4).toInt ∧ (ρ 4).toInt ≤ q4.2) (h5 : q5.1 ≤ (ρ 5).toInt ∧ (ρ 5).toInt ≤ q5.2) : sy_in (p1_bz q1 q2 q3 q4 q5 v) ρ := by
  intro k z hz
  match k, hz with
  | 0, rfl => exact p1_rng _
  | 1, rfl => exact h1
  | 2, rfl => exact h2
  | 3, rfl => exact h3
  | 4, rfl => exact h4
  | 5, rfl => exact h5
  | 6, rfl => exact ⟨by rw [h]; exact Int.le_refl _, by rw [h]; exact Int.le_refl _⟩
  | _ + 7, h => exact nomatch h
theorem p1_SS {L : Nat} (hL : L ≤ 6) (xs : Nat → Int32) : (p1_S L).map (sy_i (p1_ρ xs)) = (List.range L).map xs := by
  unfold p1_S
  rw [List.map_map]
  refine List.map_congr_left fun k hk => ?_
  have h1 := List.mem_range.mp hk
  show (if k = 6 then xs 0 &&& 15 else xs k) = xs k
  rw [if_neg (by omega)]
def R_law : String := "RootLoomLaw"
def lw_P (b : Addr) (xs : List Int32) (args : Array Value) (s : State) : Prop := args = #[.ref b] ∧ s.IntsAt b xs ∧ xs.length ≤ 6 ∧ (Jvm.Cond.and given_1 narrow_1).before args s = true
def lw_Q (_ : Array Value) (s : State) (o : Outcome) (t : State) : Prop := o = .returned (some (.int 1)) ∧ Framed s o t [] 87 14088
def lw_Z (below : List Frame) (a : Array Value) (s : State) : State → Prop := fun t => ∃ o, t.status = .running ∧ Ended t below o ∧ lw_Q a s o t
/-- the law's own end, with 1 on the stack, nothing written that was there before, its room as the claim has it -/
theorem lw_ret {p : Program} {l : Launch} {e : Env} {s : State} {m : MethodId} {below : List Frame} {meth : Method} {c : Code} {b : Nat} (hx : p.tables.exec = Jvm.exec) (hb : c.code = code) (hr : meth.sig.returnType = ret) (hlocks : meth.locks = false) {pc : Nat} {H : Heap} {ls : Array Slot} (hdg : decode code pc = .ok (.ireturn, 1)) : W p l e room_1 s m #[Value.ref b] below meth c H [] 87 14088 (lw_Z below #[Value.ref b] s) (F0 m pc ls [.int 1]) := by
  intro T hT X
  obtain ⟨fs, hret, hrun, hended, hW, hframe⟩ := X.leave (v := some (.int 1)) (hlocks := hlocks) (fun h => by rw [hr] at h; cases h)
  have hmeth' : T.vm.method? m = some meth := X.method'
  refine ⟨T.setFrames fs, ?_, .returned (some (.int 1)), hrun, hended, rfl, ⟨_, rfl⟩, hW, hframe⟩
  jvm_step X.here [X.here.top, hx, hb, hdg, hmeth', hr, ret, narrow_b1]
  (try refine ⟨rfl, ?_⟩); (try refine ⟨rfl, ?_⟩)
  first | (intro acts; rw [hret _ acts rfl rfl rfl]) | rw [hret _ _ rfl rfl rfl]
  exact Steps.refl _
/-- what holds at the law's entry -/
def lw_At (p : Program) (s : State) (m : MethodId) (meth : Method) (c : Code) (b L : Nat) (xs : Nat → Int32) : Prop :=
  p.tables.exec = Jvm.exec ∧ c.code = code ∧ meth.sig.returnType = ret ∧ c.maxLocals = 7 ∧ s.vm.findClass R_law = some m.cls ∧ (∀ w ∈ lw_tbl, w.before #[Value.ref b] s = true) ∧ va_X b L xs s s.heap ∧ b < s.heap.size ∧ meth.locks = false ∧ (Jvm.Cond.and given_1 narrow_1).before #[Value.ref b] s = true ∧ meth.name = "law"
/-- an end at its return with 1 -/
theorem p1_fin {p : Program} {e : Env} {s : State} {m : MethodId} {below : List Frame} {meth : Method} {c : Code} {l : Launch} {b : Nat} {Y : xi_Y} {ρ : Nat → Int32} {A : sy_S} (hx : p.tables.exec = Jvm.exec) (hb : c.code = code) (hr : meth.sig.returnType = ret) (hlocks : meth.locks = false) (hF : xi_Fr Y 9 0 p l room_1 s m #[Value.ref b] meth c) (hbase : Y.2.2.1 = s.heap.size) {ls : Array Slot} (hlv : xi_lv Y (sy_s ρ p1_A0).2.1 ls)
    (hTo : xi_To Y 9 0 (sy_s ρ p1_A0) (sy_s ρ A)) (hg : p1_good A = true) : W p l e room_1 s m #[Value.ref b] below meth c s.heap [] 0 0 (lw_Z below #[Value.ref b] s) (F0 m 0 ls []) := by
  unfold p1_good at hg
  simp only [Bool.and_eq_true, decide_eq_true_eq] at hg
  obtain ⟨g1, g2, g3, g4⟩ := hg
  have hsl := sy_slots_ok ρ A.2.2.2
  have hH0 : xi_Hs Y (sy_s ρ p1_A0).2.2.2 s.heap := ⟨hbase.symm, fun k x h => by cases h⟩
  refine hTo.2.2 p l e room_1 s m #[Value.ref b] below meth c (lw_Z below #[Value.ref b] s) hF s.heap [] 0 0 A.2.2.2.length (sy_slots A.2.2.2) ls hH0 va_S.rf hlv ?_ ?_ ?_ ?_ fun H' locs' ls' hH' hS' hl' => ?_
  · show A.2.2.2.length + 0 = 0 + (A.2.2.2.map (sy_e ρ)).length
    rw [List.length_map]; omega
  · show sy_slots A.2.2.2 + 0 = 0 + xi_sl (A.2.2.2.map (sy_e ρ))
    rw [hsl]; omega
  · show A.2.2.2.length ≤ 87
    omega
  · show sy_slots A.2.2.2 ≤ 14088
    omega
  · have hd : decode code A.1 = .ok (.ireturn, 1) := by
      cases hi0 : xt_ia 0 A.1 with
      | none => rw [hi0] at g1; cases g1
      | some i =>
        have hi := xt_ia_ok _ _ _ hi0
        rw [hi0] at g1
        have hii : i = .ireturn := by
          split at g1
          · next h => exact Option.some.inj h
          · cases g1
        subst hii
        unfold xi_at at hi
        split at hi
        · next i3 len hi3 =>
          split at hi
          · next hlen =>
            cases hi
            rcases hlen with hlen | hlen
            · cases hlen
            · subst hlen
              exact xt_hit 0 xm_0 A.1 _ _ rfl hi3
          · cases hi
        · cases hi
    have hst : (sy_s ρ A).2.2.1.map (xi_v Y) = [.int 1] := by
      show (A.2.2.1.map (sy_v ρ)).map (xi_v Y) = [.int 1]
      rw [g2]
      rfl
    rw [hst]
    refine va_forget (fun q hq => by rw [← hbase]; exact hS'.2.2 q hq) ?_
    refine W.widen (k := 87) (n := 14088) (by omega) (by omega) ?_
    exact lw_ret hx hb hr hlocks hd
theorem p1_go {Y : xi_Y} {ρ : Nat → Int32} {n : Nat} (hZ : Y.2.2.2.2.2.1 = xs_Z) (hS : Y.2.2.2.2.2.2.1 = (p1_S n).map (sy_i ρ)) {f : Nat} {bx : sy_B} (hb : sy_in bx ρ) {A : sy_S} {ok : sy_S → Bool} (h : (sy_go xt_mt xt_ia xs_Z (p1_S n) f 9 0 bx A).all (fun T => ok T.2) = true) : ∃ B, ok B = true ∧ xi_To Y 9 0 (sy_s ρ A) (sy_s ρ B) := by
  obtain ⟨T, hT, -, hTo⟩ := sy_go_ok xt_mt_ok xt_hit xt_ia_ok hZ hS f 9 0 bx A hb
  exact ⟨T.2, List.all_eq_true.mp h T hT, hTo⟩
theorem p1_help {Y : xi_Y} {ρ : Nat → Int32} (hfl : Y.2.2.2.2.2.2.2.flags = pinnedFlags ++ [noTraceFlag]) : xi_To Y 9 0 (sy_s ρ p1_A6) (sy_s ρ p1_A7) := by
  have h := xh_To (Y := Y) (d := 9) (by decide) (w := p1_w.map (sy_e ρ)) (L := sy_L ρ p1_L) rfl (x := 0) (cd := 12) (o := 84) (fa := [.ref 3, .ref 14, .ref 22, .ref 31]) (fs := [.int 0, .int 0, .int 0, .int 0, .ref 15, .ref 16, .ref 17, .ref 18, .ref 19, .ref 20, .ref 21]) (st := 0) (cnt := 0) (i := ρ 1) (wh := ρ 2) rfl rfl rfl rfl rfl (Or.inl rfl) hfl (r := []) (Nat.zero_le _)
  have e1 : sy_s ρ p1_A7 = (395, sy_L ρ p1_L, [.int 1], p1_w.map (sy_e ρ) ++ [xe_exc 8]) := by
    unfold sy_s p1_A7
    dsimp only
    rw [List.map_append]
    rfl
  rw [e1]
  exact h
theorem whole_start {p : Program} {e : Env} {s : State} {m : MethodId} {below : List Frame} {meth : Method} {c : Code} (l : Launch) (hfl : l.flags = flags0) {b L : Nat} {xs : Nat → Int32} (hL : L ≤ 6) (C0 : lw_At p s m meth c b L xs) : W p l e room_1 s m #[Value.ref b] below meth c s.heap [] 0 0 (lw_Z below #[Value.ref b] s) (entryFrame m ([Value.ref b] : List Value).toArray 7) := by
  obtain ⟨hx, hb, hr, hml, hown, hts, hX, hbl, hlocks, hg, hname⟩ := C0
  obtain ⟨Y, hG, hbase, hS1, hZ, hSS, hYl⟩ := xs_start l hts hX hbl hg
  have hF : xi_Fr Y 9 0 p l room_1 s m #[Value.ref b] meth c := ⟨xm_0, rfl, hx, hb, hml, hown, hname, fun w hw => hts w (xs_W0 w hw), hG, by decide, by decide, hYl.symm⟩
  have hflY : Y.2.2.2.2.2.2.2.flags = pinnedFlags ++ [noTraceFlag] := by rw [hYl]; exact hfl
  have hS : Y.2.2.2.2.2.2.1 = (p1_S L).map (sy_i (p1_ρ xs)) := by rw [hSS, p1_SS hL]
  rw [lg_entry_eq]
  have hv1 : xi_v Y (.ref 1) = .ref b := by show Value.ref Y.2.2.2.2.1 = _; rw [hS1]
  have hlv : xi_lv Y (xi_ent (x, code, 7, ret, 3, 1, 99, 0) [.ref 1]) (lg_sl (([.ref 1] : List Value).map (xi_v Y)) ++ List.replicate (7 - (lg_sl (([.ref 1] : List Value).map (xi_v Y))).length) Slot.unset).toArray := xi_lv_ent (Y := Y) (M := (x, code, 7, ret, 3, 1, 99, 0)) (as := [.ref 1]) (by simp [Value.category]) (by show 1 ≤ 7; decide)
  rw [List.map_singleton, hv1] at hlv
  generalize (lg_sl ([Value.ref b] : List Value) ++ List.replicate (7 - (lg_sl ([Value.ref b] : List Value)).length) Slot.unset).toArray = ls at hlv ⊢
  have hlv : xi_lv Y (sy_s (p1_ρ xs) p1_A0).2.1 ls := hlv
  by_cases h6 : L = 6
  · subst h6
    obtain ⟨B1, k1, t1⟩ := p1_go hZ hS (p1_in (p1_ρ xs)) (ok := fun A => sy_same A p1_A1) p1_r1
    cases sy_same_ok k1
    have t2 : xi_To Y 9 0 (sy_s (p1_ρ xs) p1_A1) (sy_s (p1_ρ xs) p1_A2) := xi_stp_ok (M := xm_0) (i := .iand) (len := 1) rfl (xi_hit 0 xm_0 39 _ _ rfl rfl) (Or.inr rfl) rfl
    have t12 := t1.trans t2
    obtain ⟨v, hv⟩ : ∃ v, v = ((p1_ρ xs) 6).toInt := ⟨_, rfl⟩
    have hv1 : 0 ≤ v ∧ v ≤ 15 := by rw [hv]; exact p1_and (xs 0)
    have fin : ∀ {k : Int}, v = k → (sy_go xt_mt xt_ia xs_Z (p1_S 6) 3000 9 0 (p1_b k) p1_A2).all (fun T => p1_good T.2) = true → W p l e room_1 s m #[Value.ref b] below meth c s.heap [] 0 0 (lw_Z below #[Value.ref b] s) (F0 m 0 ls []) := by
      intro k hk hgo
      obtain ⟨B, k2, t3⟩ := p1_go hZ hS (p1_inb (hv.symm.trans hk)) hgo
      exact p1_fin hx hb hr hlocks hF hbase hlv (t12.trans t3) k2
    have fin2 : ∀ {k : Int} {q r : Int × Int}, v = k → (q.1 ≤ ((p1_ρ xs) 1).toInt ∧ ((p1_ρ xs) 1).toInt ≤ q.2) → (r.1 ≤ ((p1_ρ xs) 2).toInt ∧ ((p1_ρ xs) 2).toInt ≤ r.2) → (sy_go xt_mt xt_ia xs_Z (p1_S 6) 3000 9 0 (p1_bq q r k) p1_A2).all (fun T => p1_good T.2) = true → W p l e room_1 s m #[Value.ref b] below meth c s.heap [] 0 0 (lw_Z below #[Value.ref b] s) (F0 m 0 ls []) := by
      intro k q r hk hq hr2 hgo
      obtain ⟨B, k2, t3⟩ := p1_go hZ hS (p1_inq (hv.symm.trans hk) hq hr2) hgo
      exact p1_fin hx hb hr hlocks hF hbase hlv (t12.trans t3) k2
    have fin5 : ∀ {q1 q2 q3 q4 q5 : Int × Int}, v = 1 → (q1.1 ≤ ((p1_ρ xs) 1).toInt ∧ ((p1_ρ xs) 1).toInt ≤ q1.2) → (q2.1 ≤ ((p1_ρ xs) 2).toInt ∧ ((p1_ρ xs) 2).toInt ≤ q2.2) → (q3.1 ≤ ((p1_ρ xs) 3).toInt ∧ ((p1_ρ xs) 3).toInt ≤ q3.2) → (q4.1 ≤ ((p1_ρ xs) 4).toInt ∧ ((p1_ρ xs) 4).toInt ≤ q4.2) → (q5.1 ≤ ((p1_ρ xs) 5).toInt ∧ ((p1_ρ xs) 5).toInt ≤ q5.2) → (sy_go xt_mt xt_ia xs_Z (p1_S 6) 3000 9 0 (p1_bz q1 q2 q3 q4 q5 1) p1_A2).all (fun T => p1_good T.2) = true → W p l e room_1 s m #[Value.ref b] below meth c s.heap [] 0 0 (lw_Z below #[Value.ref b] s) (F0 m 0 ls []) := by
      intro q1 q2 q3 q4 q5 hk g1 g2 g3 g4 g5 hgo
      obtain ⟨B, k2, t3⟩ := p1_go hZ hS (p1_inz (hv.symm.trans hk) g1 g2 g3 g4 g5) hgo
      exact p1_fin hx hb hr hlocks hF hbase hlv (t12.trans t3) k2
    have z1 := p1_rng ((p1_ρ xs) 1)
    have z3 := p1_rng ((p1_ρ xs) 3)
    have z4 := p1_rng ((p1_ρ xs) 4)
    have z5 := p1_rng ((p1_ρ xs) 5)
    have z2 := p1_rng ((p1_ρ xs) 2)
    by_cases hv6 : v = 6
    · obtain ⟨B, k2, t3⟩ := p1_go hZ hS (p1_inb (hv.symm.trans hv6)) (ok := fun A => sy_same A p1_A6) p1_c6
      cases sy_same_ok k2
      obtain ⟨B2, k3, t4⟩ := p1_go hZ hS (p1_inb (hv.symm.trans hv6)) p1_c6b
      exact p1_fin hx hb hr hlocks hF hbase hlv (((t12.trans t3).trans (p1_help hflY)).trans t4) k3
    · have hc : v = 0 ∨ v = 1 ∨ v = 2 ∨ v = 3 ∨ v = 4 ∨ v = 5 ∨ v = 7 ∨ v = 8 ∨ v = 9 ∨ v = 10 ∨ v = 11 ∨ v = 12 ∨ v = 13 ∨ v = 14 ∨ v = 15 := by omega
      rcases hc with h | h | h | h | h | h | h | h | h | h | h | h | h | h | h
      · exact fin h p1_c0
      · have h1 : ((p1_ρ xs) 1).toInt ≤ -1 ∨ 8 ≤ ((p1_ρ xs) 1).toInt ∨ ((0 ≤ ((p1_ρ xs) 1).toInt ∧ ((p1_ρ xs) 1).toInt ≤ 7) ∧ (((p1_ρ xs) 2).toInt ≤ -1 ∨ 4 ≤ ((p1_ρ xs) 2).toInt ∨ ((p1_ρ xs) 2).toInt = 0 ∨ ((p1_ρ xs) 2).toInt = 1 ∨ ((p1_ρ xs) 2).toInt = 2 ∨ ((p1_ρ xs) 2).toInt = 3)) := by omega
        rcases h1 with h1 | h1 | ⟨h1, h2 | h2 | h2 | h2 | h2 | h2⟩
        · exact fin2 h ⟨z1.1, h1⟩ z2 p1_c1_0
        · exact fin2 h ⟨h1, z1.2⟩ z2 p1_c1_1
        · exact fin2 h h1 ⟨z2.1, h2⟩ p1_c1_2
        · exact fin2 h h1 ⟨h2, z2.2⟩ p1_c1_3
        · exact fin2 h h1 ⟨Int.le_of_eq h2.symm, Int.le_of_eq h2⟩ p1_c1_4
        · exact fin2 h h1 ⟨Int.le_of_eq h2.symm, Int.le_of_eq h2⟩ p1_c1_5
        · have h3 : ((p1_ρ xs) 3).toInt ≤ -1 ∨ 8 ≤ ((p1_ρ xs) 3).toInt ∨ ((0 ≤ ((p1_ρ xs) 3).toInt ∧ ((p1_ρ xs) 3).toInt ≤ 7) ∧ (((p1_ρ xs) 4).toInt ≤ -1 ∨ 8 ≤ ((p1_ρ xs) 4).toInt ∨ (0 ≤ ((p1_ρ xs) 4).toInt ∧ ((p1_ρ xs) 4).toInt ≤ 7))) := by omega
          rcases h3 with h3 | h3 | ⟨h3, h4 | h4 | h4⟩
          · exact fin5 h h1 ⟨Int.le_of_eq h2.symm, Int.le_of_eq h2⟩ ⟨z3.1, h3⟩ z4 z5 p1_z0
          · exact fin5 h h1 ⟨Int.le_of_eq h2.symm, Int.le_of_eq h2⟩ ⟨h3, z3.2⟩ z4 z5 p1_z1
          · exact fin5 h h1 ⟨Int.le_of_eq h2.symm, Int.le_of_eq h2⟩ h3 ⟨z4.1, h4⟩ z5 p1_z2
          · exact fin5 h h1 ⟨Int.le_of_eq h2.symm, Int.le_of_eq h2⟩ h3 ⟨h4, z4.2⟩ z5 p1_z3
          · exact fin5 h h1 ⟨Int.le_of_eq h2.symm, Int.le_of_eq h2⟩ h3 h4 z5 p1_z4
        · have h3 : ((p1_ρ xs) 3).toInt ≤ -1 ∨ 8 ≤ ((p1_ρ xs) 3).toInt ∨ ((0 ≤ ((p1_ρ xs) 3).toInt ∧ ((p1_ρ xs) 3).toInt ≤ 7) ∧ (((p1_ρ xs) 4).toInt ≤ -1 ∨ 8 ≤ ((p1_ρ xs) 4).toInt ∨ ((0 ≤ ((p1_ρ xs) 4).toInt ∧ ((p1_ρ xs) 4).toInt ≤ 7) ∧ (((p1_ρ xs) 5).toInt ≤ -1 ∨ 8 ≤ ((p1_ρ xs) 5).toInt ∨ (0 ≤ ((p1_ρ xs) 5).toInt ∧ ((p1_ρ xs) 5).toInt ≤ 7))))) := by omega
          rcases h3 with h3 | h3 | ⟨h3, h4 | h4 | ⟨h4, h5 | h5 | h5⟩⟩
          · exact fin5 h h1 ⟨Int.le_of_eq h2.symm, Int.le_of_eq h2⟩ ⟨z3.1, h3⟩ z4 z5 p1_z5
          · exact fin5 h h1 ⟨Int.le_of_eq h2.symm, Int.le_of_eq h2⟩ ⟨h3, z3.2⟩ z4 z5 p1_z6
          · exact fin5 h h1 ⟨Int.le_of_eq h2.symm, Int.le_of_eq h2⟩ h3 ⟨z4.1, h4⟩ z5 p1_z7
          · exact fin5 h h1 ⟨Int.le_of_eq h2.symm, Int.le_of_eq h2⟩ h3 ⟨h4, z4.2⟩ z5 p1_z8
          · exact fin5 h h1 ⟨Int.le_of_eq h2.symm, Int.le_of_eq h2⟩ h3 h4 ⟨z5.1, h5⟩ p1_z9
          · exact fin5 h h1 ⟨Int.le_of_eq h2.symm, Int.le_of_eq h2⟩ h3 h4 ⟨h5, z5.2⟩ p1_z10
          · exact fin5 h h1 ⟨Int.le_of_eq h2.symm, Int.le_of_eq h2⟩ h3 h4 h5 p1_z11
      · have h1 : ((p1_ρ xs) 1).toInt ≤ -1 ∨ 18 ≤ ((p1_ρ xs) 1).toInt ∨ ((p1_ρ xs) 1).toInt = 0 ∨ ((p1_ρ xs) 1).toInt = 1 ∨ ((p1_ρ xs) 1).toInt = 2 ∨ ((p1_ρ xs) 1).toInt = 3 ∨ ((p1_ρ xs) 1).toInt = 4 ∨ ((p1_ρ xs) 1).toInt = 5 ∨ ((p1_ρ xs) 1).toInt = 6 ∨ ((p1_ρ xs) 1).toInt = 7 ∨ ((p1_ρ xs) 1).toInt = 8 ∨ ((p1_ρ xs) 1).toInt = 9 ∨ ((p1_ρ xs) 1).toInt = 10 ∨ ((p1_ρ xs) 1).toInt = 11 ∨ ((p1_ρ xs) 1).toInt = 12 ∨ ((p1_ρ xs) 1).toInt = 13 ∨ ((p1_ρ xs) 1).toInt = 14 ∨ ((p1_ρ xs) 1).toInt = 15 ∨ ((p1_ρ xs) 1).toInt = 16 ∨ ((p1_ρ xs) 1).toInt = 17 := by omega
        rcases h1 with h1 | h1 | h1 | h1 | h1 | h1 | h1 | h1 | h1 | h1 | h1 | h1 | h1 | h1 | h1 | h1 | h1 | h1 | h1 | h1
        · exact fin2 h ⟨z1.1, h1⟩ z2 p1_c2_0
        · exact fin2 h ⟨h1, z1.2⟩ z2 p1_c2_1
        · exact fin2 h ⟨Int.le_of_eq h1.symm, Int.le_of_eq h1⟩ z2 p1_c2_2
        · exact fin2 h ⟨Int.le_of_eq h1.symm, Int.le_of_eq h1⟩ z2 p1_c2_3
        · exact fin2 h ⟨Int.le_of_eq h1.symm, Int.le_of_eq h1⟩ z2 p1_c2_4
        · exact fin2 h ⟨Int.le_of_eq h1.symm, Int.le_of_eq h1⟩ z2 p1_c2_5
        · exact fin2 h ⟨Int.le_of_eq h1.symm, Int.le_of_eq h1⟩ z2 p1_c2_6
        · exact fin2 h ⟨Int.le_of_eq h1.symm, Int.le_of_eq h1⟩ z2 p1_c2_7
        · exact fin2 h ⟨Int.le_of_eq h1.symm, Int.le_of_eq h1⟩ z2 p1_c2_8
        · exact fin2 h ⟨Int.le_of_eq h1.symm, Int.le_of_eq h1⟩ z2 p1_c2_9
        · exact fin2 h ⟨Int.le_of_eq h1.symm, Int.le_of_eq h1⟩ z2 p1_c2_10
        · exact fin2 h ⟨Int.le_of_eq h1.symm, Int.le_of_eq h1⟩ z2 p1_c2_11
        · exact fin2 h ⟨Int.le_of_eq h1.symm, Int.le_of_eq h1⟩ z2 p1_c2_12
        · exact fin2 h ⟨Int.le_of_eq h1.symm, Int.le_of_eq h1⟩ z2 p1_c2_13
        · exact fin2 h ⟨Int.le_of_eq h1.symm, Int.le_of_eq h1⟩ z2 p1_c2_14
        · exact fin2 h ⟨Int.le_of_eq h1.symm, Int.le_of_eq h1⟩ z2 p1_c2_15
        · exact fin2 h ⟨Int.le_of_eq h1.symm, Int.le_of_eq h1⟩ z2 p1_c2_16
        · exact fin2 h ⟨Int.le_of_eq h1.symm, Int.le_of_eq h1⟩ z2 p1_c2_17
        · exact fin2 h ⟨Int.le_of_eq h1.symm, Int.le_of_eq h1⟩ z2 p1_c2_18
        · exact fin2 h ⟨Int.le_of_eq h1.symm, Int.le_of_eq h1⟩ z2 p1_c2_19
      · exact fin h p1_c3
      · exact fin h p1_c4
      · exact fin h p1_c5
      · exact fin h p1_c7
      · exact fin h p1_c8
      · exact fin h p1_c9
      · exact fin h p1_c10
      · exact fin h p1_c11
      · exact fin h p1_c12
      · exact fin h p1_c13
      · exact fin h p1_c14
      · exact fin h p1_c15
  · obtain ⟨B, k2, t3⟩ := p1_go hZ hS (p1_in (p1_ρ xs)) (p1_r0 L (by omega))
    exact p1_fin hx hb hr hlocks hF hbase hlv t3 k2
set_option maxHeartbeats 4000000 in
theorem lw_walk (l : Launch) (hfl : l.flags = flags0) (b : Addr) (xs : List Int32) : MetFree l x (headSpec (Jvm.Cond.code x code maxLocals ret :: tables_1) room_1) (lw_P b xs) (fun _ _ _ _ _ => True) lw_Q := by
  refine MetFree.of_bodyS (code := code) (maxLocals := maxLocals) (ret := ret) (by decide) ?_ ?_
  · intro args s m h hn
    obtain ⟨meth, c, h1, h2, h3, h4, h5, h6, -, -⟩ := Cond.code_spec hn (atoms_spec (ws := Jvm.Cond.code x code maxLocals ret :: tables_1) h _ List.mem_cons_self)
    exact ⟨meth, c, h1, h2, h3, h4, h5, h6⟩
  · intro p e s m args below meth c s₁ B hml0 hP _
    obtain ⟨rfl, hx, hbd, hgv⟩ := hP
    obtain ⟨scr, harrAt, hlist, hof, hsmall⟩ := hx
    obtain ⟨hcb, hkn, -, -⟩ := State.arrayAt?_spec harrAt
    have hown : s.vm.findClass R_law = some m.cls := findClass_of_methodNamed B.named
    have hts0 : ∀ c ∈ (Jvm.Cond.code x code maxLocals ret :: tables_1), c.before #[Value.ref b] s = true := atoms_spec (ws := Jvm.Cond.code x code maxLocals ret :: tables_1) B.pre
    have hts : ∀ w ∈ lw_tbl, w.before #[Value.ref b] s = true := k2_hts_sels lw_privs (fun w hw => hts0 w (List.mem_cons_of_mem _ hw)) lw_privs_ok
    have hml : c.maxLocals = 7 := B.maxLocals_eq (hts0 _ List.mem_cons_self)
    have X₀ : Stand p l e room_1 s m #[Value.ref b] below meth c s₁ [] 0 0 := Stand.of_body B
    have hh0 : s₁.heap = s.heap := by rw [B.state]; rfl
    have hsz : scr.slots.size = xs.length := by rw [← Array.length_toList, hlist, List.length_map]
    have hval : ∀ j : Nat, j < xs.length → scr.slots[j]? = some (.int (xs.getD j 0)) := fun j hj => by
      rw [← Array.getElem?_toList, hlist]
      simp [hj]
    have hbl : b < s.heap.size := (Array.getElem?_eq_some_iff.mp hcb).1
    have hX : va_X b xs.length (fun j => xs.getD j 0) s s.heap := ⟨scr, hcb, hof, hkn, hsz, hval⟩
    have K : W p l e room_1 s m #[Value.ref b] below meth c s₁.heap [] 0 0 (lw_Z below #[Value.ref b] s) (entryFrame m ([Value.ref b] : List Value).toArray 7) := by
      rw [hh0]
      exact whole_start l hfl hbd ⟨B.exec, B.bytes, B.returns, hml, hown, hts, hX, hbl, B.notSynchronized, hgv, (name_of_methodNamed B.named B.method).1⟩
    obtain ⟨t, a1, o, b1, b2, b3⟩ := K s₁ rfl X₀
    exact ⟨t, o, a1, b1, b2, b3⟩
theorem lw_pre_spec {args : Array Value} {s : State} (h : (Jvm.Cond.and given_1 narrow_1).before args s = true) (hr : rest_1_c.before args s = true) : ∃ (b : Addr) (xs : List Int32), lw_P b xs args s := by
  have hs := flat_of_before _ h
  have hq := flat_of_before _ hr
  have hc : (Cond.count 1).before args s = true := hs _ (by decide +kernel)
  have harr : (Cond.arrayOf (.arg 0) .int).before args s = true := hs _ (by decide +kernel)
  have hle : (Cond.le (.length (.arg 0)) (.int 6)).before args s = true := hs _ (by decide +kernel)
  have hlen : (Cond.isInt (.length (.arg 0))).before args s = true := hq _ (by decide +kernel)
  have hall : (Cond.all (.arg 0) (.isInt (.elem (.arg 0) (.index 0)))).before args s = true := hq _ (by decide +kernel)
  obtain ⟨b, xs, hb, hx⟩ := State.ints_of_pre rfl harr hlen hall
  have hsm : xs.length < 2 ^ 31 := hx.choose_spec.2.2.2
  have hev : (Term.length (.arg 0)).eval args s none [] s = some (.int xs.length.toInt32) := hx.length_eval hb
  have hv := Cond.le_ints hev (show (Term.int 6).eval args s none [] s = some (.int 6) from rfl)
  have hd : xs.length.toInt32 ≤ 6 := by
    simpa [Cond.before, Cond.holds, hv] using hle
  have hN : xs.length ≤ 6 := (Int32.ofNat_le_ofNat hsm (by decide)).mp (show Int32.ofNat xs.length ≤ Int32.ofNat 6 from hd)
  exact ⟨b, xs, Cond.one_arg hc (show args[0]? = some (.ref b) from hb), hx, hN, h⟩
theorem lw_comes (l : Launch) (hfl : l.flags = flags0) : Comes l x (Jvm.Cond.code x code maxLocals ret :: tables_1) room_1 (fun tb e args s => Calls_1 tb e args s ∧ rest_1 tb e args s ∧ Pre_1 tb e args s)
    (fun _ _ args s o t => lw_Q args s o t) := by
  intro p e ha hc hk s m args below hf hfit hheap happ hpre
  obtain ⟨b, xs, hP⟩ := lw_pre_spec hpre.2.2 hpre.2.1
  obtain ⟨k, o, h1, h2, h3, hQ⟩ := lw_walk l hfl b xs p e ha hc hk s m args below hf ((Spec.applies_iff_loose hf).mp happ).1 hP trivial
  exact ⟨k, o, h1, h2, h3, hQ⟩
theorem lw_frame {s t : State} {o : Outcome} {args : Array Value} (h : Framed s o t [] 87 14088) :
    Framed s o t (fieldLocs frame_1_writes args s ++ arrayLocs frame_1_arrays args s ++ staticLocs frame_1_statics s) 87 14088 := h
theorem lw_limb (L : Cond) (hL : ∀ (args : Array Value) (s t : State), L.after args s (.returned (some (.int 1))) t = true) :
    ArmFor flags0 classFile x code maxLocals ret World_1 tables_1 room_1 Calls_1 rest_1 Pre_1
      (fun tb e a s o t => postC L tb e a s o t ∧ Framed s o t (fieldLocs frame_1_writes a s ++ arrayLocs frame_1_arrays a s ++ staticLocs frame_1_statics s) 87 14088) := by
  intro l hfl _ _ p e ha hc hk s m args below hf hfit hheap happ hpre
  obtain ⟨k, o, h1, h2, h3, rfl, hF⟩ := lw_comes l hfl p e ha hc hk s m args below hf hfit hheap happ hpre
  exact ⟨k, _, h1, h2, h3, hL args s _, lw_frame hF⟩
theorem i_vc : Claimed_1_1 ∧ Claimed_1_2 := ⟨lw_limb limb_1_1 (fun args s t => by simp [limb_1_1, Cond.after, Cond.holds, Cond.value]), lw_limb limb_1_2 (fun args s t => Cond.after_iff.mpr (by
  first | (rw [show limb_1_2 = Cond.eq .result (.int 1) from rfl, Cond.eq_ints (x := 1) (y := 1) rfl rfl]; simp; done) | (simp [limb_1_2, Cond.value, Term.eval]; done)))⟩
